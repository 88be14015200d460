set_option maxRecDepth 20000 in
set_option maxHeartbeats 3000000 in
theorem l_yardsWet {G : Ctx} {M : Mem} (hX : XO M) {a : Nat} {cd : CD} (hRc : mR M 47 0 = a) (hC : CA M a) (hD : CC (mI M) a cd) (hW : WFc cd) (n : Nat) (hn : cd 2 = n) {p : Int} (p0 : 0 ≤ p ∧ p ≤ 100) : ∀ (k r : Nat) (s st sum : Int) (b : Nat → Bool) (z : Option MV), r + k = n → BS s n b ∧ (0 ≤ st ∧ st ≤ 1000000) ∧ (0 ≤ sum ∧ sum + 9000000 * k ≤ 90000000) → EV G m_X11_yardsWet 1 0 0 (rI M (rnS cd n p k b st sum)) 18 [some (vR 21), some (vI p), some (vI s), some (vI st), some (vI sum), some (vI (r : Int)), z] [] M := by
  intro k
  induction k with
  | zero =>
    intro r s st sum b z hr hi
    obtain rfl : r = n := by omega
    have hpn := hW.pn
    refine E_iload dX11_yardsWet_18 rfl ?_
    refine E_aload_n dX11_yardsWet_20 rfl ?_
    refine g_X11_48 rfl dX11_yardsWet_21 hX.o hX.wash ?_
    refine g_X11_168 rfl dX11_yardsWet_24 hX.w0.o hRc ?_
    refine g_X11_172 rfl dX11_yardsWet_27 hC.o (hD.pnc.trans hn) ?_
    refine E_icmp_ge (tgt := 97) dX11_yardsWet_30 (by decide) (fun h30 => ?_) (fun h30 => ?_)
    · refine E_iload dX11_yardsWet_97 rfl ?_
      refine E_iret dX11_yardsWet_99 rfl ?_
      exact ⟨rfl, rfl⟩
    · exfalso; omega
  | succ k ih =>
    intro r s st sum b z hr hi
    have hpn := hW.pn
    have hr := nx_r cd b n
    have hnm : nm1 (nx cd b n) = if nx cd b n = -1000000 then -1 else nx cd b n := rfl
    refine E_iload dX11_yardsWet_18 rfl ?_
    refine E_aload_n dX11_yardsWet_20 rfl ?_
    refine g_X11_48 rfl dX11_yardsWet_21 hX.o hX.wash ?_
    refine g_X11_168 rfl dX11_yardsWet_24 hX.w0.o hRc ?_
    refine g_X11_172 rfl dX11_yardsWet_27 hC.o (hD.pnc.trans hn) ?_
    refine E_icmp_ge (tgt := 97) dX11_yardsWet_30 (by decide) (fun h30 => ?_) (fun h30 => ?_)
    · exfalso; omega
    · refine E_aload_n dX11_yardsWet_33 rfl ?_
      refine E_iload_n dX11_yardsWet_34 rfl ?_
      refine i_X11_264 rfl dX11_yardsWet_35 (by exact hX.o) (c_takenNext hX hRc hC hD hW n hn hi.1) (by omega) (Nat.le_of_ble_eq_true rfl) rfl rfl ?_
      rintro _ _ ⟨rfl, rfl⟩
      try dsimp only [pu]
      refine E_istore dX11_yardsWet_38 rfl (by decide) ?_
      try dsimp only [List.set]
      refine E_iload dX11_yardsWet_40 rfl ?_
      refine E_if_ge (tgt := 48) dX11_yardsWet_42 (by decide) (fun h42 => ?_) (fun h42 => ?_)
      · have hne : nx cd b n ≠ -1000000 := by omega
        have hnn : nm1 (nx cd b n) = nx cd b n := by omega
        have hy := hW.ya (p := nx cd b n) (by omega) (by omega)
        have hyb := rain_b hy hi.2.1
        have hs2 := rain_s p0 hi.2.1
        refine E_iload dX11_yardsWet_48 rfl ?_
        refine E_aload_n dX11_yardsWet_50 rfl ?_
        refine g_X11_48 rfl dX11_yardsWet_51 hX.o hX.wash ?_
        refine g_X11_168 rfl dX11_yardsWet_54 hX.w0.o hRc ?_
        refine g_X11_209 rfl dX11_yardsWet_57 hC.o hC.yards ?_
        refine E_iload dX11_yardsWet_60 rfl ?_
        refine E_iald dX11_yardsWet_62 hC.s_yards (by omega) (by omega) (show mI M (a + 13) (nm1 (nx cd b n)) = cd (87 + 6 * nx cd b n) by rw [hnn]; exact hD.yards (by omega) (by omega)) ?_
        refine c_X11_375 rfl dX11_yardsWet_63 ?_
        refine E_iload_n dX11_yardsWet_66 rfl ?_
        refine E_isub dX11_yardsWet_67 (by omega) (by omega) ?_
        refine E_imul dX11_yardsWet_68 (by omega) (by omega) ?_
        refine E_iadd dX11_yardsWet_69 (by omega) (by omega) ?_
        refine E_istore dX11_yardsWet_70 rfl (by decide) ?_
        try dsimp only [List.set]
        refine E_iload_n dX11_yardsWet_72 rfl ?_
        refine E_bipush dX11_yardsWet_73 (by decide) ?_
        refine E_iload_n dX11_yardsWet_75 rfl ?_
        refine E_isub dX11_yardsWet_76 (by omega) (by omega) ?_
        refine E_imul dX11_yardsWet_77 (by omega) (by omega) ?_
        refine E_bipush dX11_yardsWet_78 (by decide) ?_
        refine E_idiv dX11_yardsWet_80 (by omega) (by omega) (by omega) ?_
        refine E_istore_n dX11_yardsWet_81 rfl (by decide) ?_
        try dsimp only [List.set]
        refine E_iload_n dX11_yardsWet_82 rfl ?_
        refine E_iconst dX11_yardsWet_83 (by decide) ?_
        refine E_iload dX11_yardsWet_84 rfl ?_
        refine E_ishl dX11_yardsWet_86 ?_
        refine E_iconst dX11_yardsWet_87 (by decide) ?_
        refine E_ixor dX11_yardsWet_88 ?_
        refine E_iand dX11_yardsWet_89 ?_
        refine E_istore_n dX11_yardsWet_90 rfl (by decide) ?_
        try dsimp only [List.set]
        refine E_iinc dX11_yardsWet_91 rfl (by omega) (by omega) (by decide) rfl (by decide) ?_
        try dsimp only [List.set]
        refine E_goto (tgt := 18) dX11_yardsWet_94 (by decide) ?_
        refine EV.lq (by simp only [hnn]; rfl) (EV.post (fun x M' hq => by simp only [rnS]; rw [if_neg hne]; exact hq) (ih (r + 1) (bAnd s (bXor (bShl 1 (nx cd b n)) (-1))) (Int.tdiv (st * (100 - p)) 100) (sum + cd (87 + 6 * nx cd b n) * (1000000 - st)) (wo b (nx cd b n)) (some (vI (nm1 (nx cd b n)))) (by omega) ⟨?_, hs2.2, by omega, by omega⟩))
        obtain ⟨j, hj⟩ := Int.eq_ofNat_of_zero_le (show 0 ≤ nx cd b n by omega)
        rw [hj]; exact hi.1.clear (k := j) (by omega) (by omega)
      · refine E_goto (tgt := 97) dX11_yardsWet_45 (by decide) ?_
        refine E_iload dX11_yardsWet_97 rfl ?_
        refine E_iret dX11_yardsWet_99 rfl ?_
        exact ⟨by simp only [rnS]; rw [if_pos (by omega)], rfl⟩
set_option maxRecDepth 20000 in
set_option maxHeartbeats 3000000 in
theorem c_yardsWet {G : Ctx} {M : Mem} (hX : XO M) {a : Nat} {cd : CD} (hRc : mR M 47 0 = a) (hC : CA M a) (hD : CC (mI M) a cd) (hW : WFc cd) (n : Nat) (hn : cd 2 = n) {p : Int} (p0 : 0 ≤ p ∧ p ≤ 100) (hV : HV cd (cHu cd)) (hH : HC (mI M) 47 cd (cHu cd)) : CT G m_X11_yardsWet 2 0 0 [vR 21, vI p] M (rI M (rnS cd n p n (hg_ cd) 1000000 0)) := by
  refine CT.of k_X11_yardsWet 5 (ls := [some (vR 21), some (vI p), none, none, none, none, none]) rfl (Nat.le_of_ble_eq_true rfl) ?_
  have hpn := hW.pn
  refine E_aload_n dX11_yardsWet_0 rfl ?_
  refine g_X11_48 rfl dX11_yardsWet_1 hX.o hX.wash ?_
  refine i_X11_186 rfl dX11_yardsWet_4 (by exact hX.w0.o) (c_hungBits (by exact hX.w0) hRc hC hD hW hV hH n hn) (by omega) (Nat.le_of_ble_eq_true rfl) rfl rfl ?_
  rintro _ _ ⟨rfl, rfl⟩
  try dsimp only [pu]
  refine E_istore_n dX11_yardsWet_7 rfl (by decide) ?_
  try dsimp only [List.set]
  refine c_X11_375 rfl dX11_yardsWet_8 ?_
  refine E_istore_n dX11_yardsWet_11 rfl (by decide) ?_
  try dsimp only [List.set]
  refine E_iconst dX11_yardsWet_12 (by decide) ?_
  refine E_istore dX11_yardsWet_13 rfl (by decide) ?_
  try dsimp only [List.set]
  refine E_iconst dX11_yardsWet_15 (by decide) ?_
  refine E_istore dX11_yardsWet_16 rfl (by decide) ?_
  try dsimp only [List.set]
  exact EV.deep (d := 1) (by omega) (l_yardsWet hX hRc hC hD hW n hn p0 n 0 _ _ _ (hg_ cd) _ (by omega) ⟨fHu_bs _ n (by omega), by omega, by omega⟩)
set_option maxRecDepth 20000 in
set_option maxHeartbeats 3000000 in
theorem x_rain {G : Ctx} {M : Mem} {A : AS} {B : Int} (hI : CI M A) (hG : GA A B) (hB : B ≤ 900000) {p w : Int} (n : Nat) (hn : A 4 2 = n) : CT G m_X11_rain 3 0 0 [vR 21, vI p, vI w] M (xM M (s_rain A p w n) (A)) := by
  refine CT.of k_X11_rain 1 (ls := [some (vR 21), some (vI p), some (vI w), none]) rfl (Nat.le_of_ble_eq_true rfl) ?_
  obtain ⟨hX, hN, hR, hT, hK, hS, hW0, hW1, hW2⟩ := id hI
  obtain ⟨a, hRc, hC, ha, haN, hD, hH, hE, hSn, hg, hZ⟩ := hW0
  have hW := hG.w.c
  have hpn := hW.pn
  have hl8 := hW.ln
  have hr8 := hW.rn
  have hgg := hG.w.g
  have hth := hG.th
  have hV := hG.w.hv
  refine E_aload_n dX11_rain_0 rfl ?_
  refine i_X11_158 rfl dX11_rain_1 (by exact hX.o) (c_noCourt hX hRc hC hD) (by omega) (Nat.le_of_ble_eq_true rfl) rfl rfl ?_
  rintro _ _ ⟨rfl, rfl⟩
  try dsimp only [pu]
  refine E_if_eq (tgt := 10) dX11_rain_4 (by decide) (fun h4 => ?_) (fun h4 => ?_)
  · simp only [tB0, ne_eq, Bool.not_eq_false, Bool.not_eq_true, decide_eq_true_eq, decide_eq_false_iff_not, Classical.not_not] at h4
    refine E_iload_n dX11_rain_10 rfl ?_
    refine E_iconst dX11_rain_11 (by decide) ?_
    refine E_bipush dX11_rain_12 (by decide) ?_
    refine i_X11_68 rfl dX11_rain_14 c_isIn (by omega) (Nat.le_of_ble_eq_true rfl) rfl rfl ?_
    rintro _ _ ⟨rfl, rfl⟩
    try dsimp only [pu]
    refine E_if_eq (tgt := 29) dX11_rain_17 (by decide) (fun h17 => ?_) (fun h17 => ?_)
    · simp only [tB0, ne_eq, Bool.not_eq_false, Bool.not_eq_true, decide_eq_true_eq, decide_eq_false_iff_not, Classical.not_not] at h17
      refine c_X11_72 rfl dX11_rain_29 ?_
      refine E_iret dX11_rain_31 rfl ?_
      refine ⟨?_, ?_, (FX.rfl' M)⟩
      · congr 2; unfold s_rain; rw [if_neg (by omega), if_neg (by omega)]; try rfl
      · exact hI
    · simp only [tB0, ne_eq, Bool.not_eq_false, Bool.not_eq_true, decide_eq_true_eq, decide_eq_false_iff_not, Classical.not_not] at h17
      refine E_iload_n dX11_rain_20 rfl ?_
      refine E_iconst dX11_rain_21 (by decide) ?_
      refine E_iconst dX11_rain_22 (by decide) ?_
      refine i_X11_68 rfl dX11_rain_23 c_isIn (by omega) (Nat.le_of_ble_eq_true rfl) rfl rfl ?_
      rintro _ _ ⟨rfl, rfl⟩
      try dsimp only [pu]
      refine E_if_ne (tgt := 32) dX11_rain_26 (by decide) (fun h26 => ?_) (fun h26 => ?_)
      · simp only [tB0, ne_eq, Bool.not_eq_false, Bool.not_eq_true, decide_eq_true_eq, decide_eq_false_iff_not, Classical.not_not] at h26
        refine E_iload_n dX11_rain_32 rfl ?_
        refine E_if_ne (tgt := 42) dX11_rain_33 (by decide) (fun h33 => ?_) (fun h33 => ?_)
        · refine E_aload_n dX11_rain_42 rfl ?_
          refine E_aload_n dX11_rain_43 rfl ?_
          refine g_X11_48 rfl dX11_rain_44 hX.o hX.wash ?_
          refine i_X11_186 rfl dX11_rain_47 (by exact hX.w0.o) (c_hungBits (by exact hX.w0) hRc hC hD hW hV hH n hn) (by omega) (Nat.le_of_ble_eq_true rfl) rfl rfl ?_
          rintro _ _ ⟨rfl, rfl⟩
          try dsimp only [pu]
          refine i_X11_264 rfl dX11_rain_50 (by exact hX.o) (c_takenNext hX hRc hC hD hW n hn (b := hg_ (A 4)) (fHu_bs _ n (by omega))) (by omega) (Nat.le_of_ble_eq_true rfl) rfl rfl ?_
          rintro _ _ ⟨rfl, rfl⟩
          try dsimp only [pu]
          refine E_istore_n dX11_rain_53 rfl (by decide) ?_
          try dsimp only [List.set]
          have hr := nx_r (A 4) (hg_ (A 4)) n
          have hnm : nm1 (nx (A 4) (hg_ (A 4)) n) = if nx (A 4) (hg_ (A 4)) n = -1000000 then -1 else nx (A 4) (hg_ (A 4)) n := rfl
          refine E_iload_n dX11_rain_54 rfl ?_
          refine E_if_ge (tgt := 63) dX11_rain_55 (by decide) (fun h55 => ?_) (fun h55 => ?_)
          · refine E_iload_n dX11_rain_63 rfl ?_
            refine E_iret dX11_rain_64 rfl ?_
            refine ⟨?_, hI, FX.rfl' M⟩
            congr 2; unfold s_rain; rw [if_neg (by omega), if_pos (by omega), if_pos (by omega)]; omega
          · refine c_X11_201 rfl dX11_rain_58 ?_
            refine E_goto (tgt := 64) dX11_rain_60 (by decide) ?_
            refine E_iret dX11_rain_64 rfl ?_
            refine ⟨?_, hI, FX.rfl' M⟩
            congr 2; unfold s_rain; rw [if_neg (by omega), if_pos (by omega), if_pos (by omega)]; omega
        · refine E_aload_n dX11_rain_36 rfl ?_
          refine E_iload_n dX11_rain_37 rfl ?_
          refine i_X11_261 rfl dX11_rain_38 (by exact hX.o) (c_yardsWet hX hRc hC hD hW n hn (by omega) hV hH) (by omega) (Nat.le_of_ble_eq_true rfl) rfl rfl ?_
          rintro _ _ ⟨rfl, rfl⟩
          try dsimp only [pu]
          refine E_iret dX11_rain_41 rfl ?_
          refine ⟨?_, ?_, (FX.rfl' M)⟩
          · congr 2; unfold s_rain; rw [if_neg (by omega), if_pos (by omega), if_neg (by omega)]; try rfl
          · exact hI
      · simp only [tB0, ne_eq, Bool.not_eq_false, Bool.not_eq_true, decide_eq_true_eq, decide_eq_false_iff_not, Classical.not_not] at h26
        refine c_X11_72 rfl dX11_rain_29 ?_
        refine E_iret dX11_rain_31 rfl ?_
        refine ⟨?_, ?_, (FX.rfl' M)⟩
        · congr 2; unfold s_rain; rw [if_neg (by omega), if_neg (by omega)]; try rfl
        · exact hI
  · simp only [tB0, ne_eq, Bool.not_eq_false, Bool.not_eq_true, decide_eq_true_eq, decide_eq_false_iff_not, Classical.not_not] at h4
    refine c_X11_154 rfl dX11_rain_7 ?_
    refine E_iret dX11_rain_9 rfl ?_
    refine ⟨?_, ?_, (FX.rfl' M)⟩
    · congr 2; unfold s_rain; rw [if_pos (by omega)]; try rfl
    · exact hI
