/-! ===== 40: whose, count, images ===== -/
set_option maxRecDepth 20000 in
set_option maxHeartbeats 3000000 in
theorem c_hangsAbove {G : Ctx} {M : Mem} (hX : XO M) {a : Nat} {cd : CD} (hRc : mR M 47 0 = a) (hC : CA M a) (hD : CC (mI M) a cd) (hW : WFc cd) {hu : Int → Int} (hV : HV cd hu) (hH : HC (mI M) 47 cd hu) {p fl co : Int} (p0 : 0 ≤ p) (p1 : p < cd 2) : CT G m_X11_hangsAbove 1 0 0 [vR 21, vI p, vI fl, vI co] M (rI M (tB (decide (hu p ≠ -1000000 ∧ cd (29 + 3 * hu p) = co ∧ fl < cd (28 + 3 * hu p))))) := by
  refine CT.of k_X11_hangsAbove 1 (ls := [some (vR 21), some (vI p), some (vI fl), some (vI co), none]) rfl (Nat.le_of_ble_eq_true rfl) ?_
  have hpn := hW.pn
  have hl8 := hW.ln
  have hv := hV p p0 p1
  have hnm : nm1 (hu p) = if hu p = -1000000 then -1 else hu p := rfl
  refine E_aload_n dX11_hangsAbove_0 rfl ?_
  refine g_X11_48 rfl dX11_hangsAbove_1 hX.o hX.wash ?_
  refine E_iload_n dX11_hangsAbove_4 rfl ?_
  refine i_X11_151 rfl dX11_hangsAbove_5 (by exact hX.w0.o) (c_isHung (by exact hX.w0) hW hV hH (by omega) (by omega)) (by omega) (Nat.le_of_ble_eq_true rfl) rfl rfl ?_
  rintro _ _ ⟨rfl, rfl⟩
  try dsimp only [pu]
  refine E_if_ne (tgt := 13) dX11_hangsAbove_8 (by decide) (fun h8 => ?_) (fun h8 => ?_)
  · simp only [tB0, ne_eq, Bool.not_eq_false, Bool.not_eq_true, decide_eq_true_eq, decide_eq_false_iff_not, Classical.not_not] at h8
    have hnn : nm1 (hu p) = hu p := by omega
    refine E_aload_n dX11_hangsAbove_13 rfl ?_
    refine g_X11_48 rfl dX11_hangsAbove_14 hX.o hX.wash ?_
    refine g_X11_198 rfl dX11_hangsAbove_17 hX.w0.o hX.w0.where ?_
    refine E_iload_n dX11_hangsAbove_20 rfl ?_
    refine E_iald dX11_hangsAbove_21 hX.w0.s_where (by omega) (by omega) ((hH _ (by omega) (by omega)).trans hnn) ?_
    refine E_istore dX11_hangsAbove_22 rfl (by decide) ?_
    try dsimp only [List.set]
    refine E_aload_n dX11_hangsAbove_24 rfl ?_
    refine g_X11_48 rfl dX11_hangsAbove_25 hX.o hX.wash ?_
    refine g_X11_168 rfl dX11_hangsAbove_28 hX.w0.o hRc ?_
    refine g_X11_215 rfl dX11_hangsAbove_31 hC.o hC.columns ?_
    refine E_iload dX11_hangsAbove_34 rfl ?_
    refine E_iald dX11_hangsAbove_36 hC.s_columns (by omega) (by omega) (hD.columns (by omega) (by omega)) ?_
    refine E_iload_n dX11_hangsAbove_37 rfl ?_
    refine E_icmp_ne (tgt := 62) dX11_hangsAbove_38 (by decide) (fun h38 => ?_) (fun h38 => ?_)
    · refine E_iconst dX11_hangsAbove_62 (by decide) ?_
      refine E_zret dX11_hangsAbove_63 rfl (by decide) ?_
      refine ⟨?_, rfl⟩
      congr 2; first | (rw [decide_eq_true (by omega)]; rfl) | (rw [decide_eq_false (by omega)]; rfl)
    · refine E_aload_n dX11_hangsAbove_41 rfl ?_
      refine g_X11_48 rfl dX11_hangsAbove_42 hX.o hX.wash ?_
      refine g_X11_168 rfl dX11_hangsAbove_45 hX.w0.o hRc ?_
      refine g_X11_212 rfl dX11_hangsAbove_48 hC.o hC.floors ?_
      refine E_iload dX11_hangsAbove_51 rfl ?_
      refine E_iald dX11_hangsAbove_53 hC.s_floors (by omega) (by omega) (hD.floors (by omega) (by omega)) ?_
      refine E_iload_n dX11_hangsAbove_54 rfl ?_
      refine E_icmp_le (tgt := 62) dX11_hangsAbove_55 (by decide) (fun h55 => ?_) (fun h55 => ?_)
      · refine E_iconst dX11_hangsAbove_62 (by decide) ?_
        refine E_zret dX11_hangsAbove_63 rfl (by decide) ?_
        refine ⟨?_, rfl⟩
        congr 2; first | (rw [decide_eq_true (by omega)]; rfl) | (rw [decide_eq_false (by omega)]; rfl)
      · refine E_iconst dX11_hangsAbove_58 (by decide) ?_
        refine E_goto (tgt := 63) dX11_hangsAbove_59 (by decide) ?_
        refine E_zret dX11_hangsAbove_63 rfl (by decide) ?_
        refine ⟨?_, rfl⟩
        congr 2; first | (rw [decide_eq_true (by omega)]; rfl) | (rw [decide_eq_false (by omega)]; rfl)
  · simp only [tB0, ne_eq, Bool.not_eq_false, Bool.not_eq_true, decide_eq_true_eq, decide_eq_false_iff_not, Classical.not_not] at h8
    refine E_iconst dX11_hangsAbove_11 (by decide) ?_
    refine E_zret dX11_hangsAbove_12 rfl (by decide) ?_
    refine ⟨?_, rfl⟩
    congr 2; first | (rw [decide_eq_true (by omega)]; rfl) | (rw [decide_eq_false (by omega)]; rfl)
set_option maxRecDepth 20000 in
set_option maxHeartbeats 3000000 in
theorem l_xwhose {G : Ctx} {M : Mem} (hX : XO M) {a : Nat} {cd : CD} (hRc : mR M 47 0 = a) (hC : CA M a) (hD : CC (mI M) a cd) (hW : WFc cd) (hV : HV cd (cHu cd)) (hH : HC (mI M) 47 cd (cHu cd)) {fl co : Int} (n : Nat) (hn : cd 2 = n) : ∀ (k r : Nat) , r + k = n → EV G m_X11_whose 2 0 0 (rI M (fBits (fWh cd fl co) n)) 37 [some (vR 21), some (vI fl), some (vI co), some (vI (fBits (fWh cd fl co) r)), some (vI (r : Int))] [] M := by
  intro k
  induction k with
  | zero =>
    intro r  hr
    obtain rfl : r = n := by omega
    have hpn := hW.pn
    refine E_iload dX11_whose_37 rfl ?_
    refine E_aload_n dX11_whose_39 rfl ?_
    refine g_X11_48 rfl dX11_whose_40 hX.o hX.wash ?_
    refine g_X11_168 rfl dX11_whose_43 hX.w0.o hRc ?_
    refine g_X11_172 rfl dX11_whose_46 hC.o (hD.pnc.trans hn) ?_
    refine E_icmp_ge (tgt := 93) dX11_whose_49 (by decide) (fun h49 => ?_) (fun h49 => ?_)
    · refine E_iload_n dX11_whose_93 rfl ?_
      refine E_iret dX11_whose_94 rfl ?_
      exact ⟨rfl, rfl⟩
    · exfalso; omega
  | succ k ih =>
    intro r  hr
    have hpn := hW.pn
    refine E_iload dX11_whose_37 rfl ?_
    refine E_aload_n dX11_whose_39 rfl ?_
    refine g_X11_48 rfl dX11_whose_40 hX.o hX.wash ?_
    refine g_X11_168 rfl dX11_whose_43 hX.w0.o hRc ?_
    refine g_X11_172 rfl dX11_whose_46 hC.o (hD.pnc.trans hn) ?_
    refine E_icmp_ge (tgt := 93) dX11_whose_49 (by decide) (fun h49 => ?_) (fun h49 => ?_)
    · exfalso; omega
    · refine E_aload_n dX11_whose_52 rfl ?_
      refine g_X11_48 rfl dX11_whose_53 hX.o hX.wash ?_
      refine g_X11_168 rfl dX11_whose_56 hX.w0.o hRc ?_
      refine g_X11_209 rfl dX11_whose_59 hC.o hC.yards ?_
      refine E_iload dX11_whose_62 rfl ?_
      refine E_iald dX11_whose_64 hC.s_yards (by omega) (by omega) (hD.yards (by omega) (by omega)) ?_
      refine E_iconst dX11_whose_65 (by decide) ?_
      refine E_icmp_gt (tgt := 87) dX11_whose_66 (by decide) (fun h66 => ?_) (fun h66 => ?_)
      · refine E_iinc dX11_whose_87 rfl (by omega) (by omega) (by decide) rfl (by decide) ?_
        try dsimp only [List.set]
        refine E_goto (tgt := 37) dX11_whose_90 (by decide) ?_
        exact EV.lq (by simp only [fBits]; rw [if_neg (by unfold fWh; simp only [decide_eq_true_eq]; omega)]; rfl) (ih (r + 1) (by omega))
      · refine E_aload_n dX11_whose_69 rfl ?_
        refine E_iload dX11_whose_70 rfl ?_
        refine E_iload_n dX11_whose_72 rfl ?_
        refine E_iload_n dX11_whose_73 rfl ?_
        refine i_X11_243 rfl dX11_whose_74 (by exact hX.o) (c_hangsAbove hX hRc hC hD hW hV hH (by omega) (by omega)) (by omega) (Nat.le_of_ble_eq_true rfl) rfl rfl ?_
        rintro _ _ ⟨rfl, rfl⟩
        try dsimp only [pu]
        refine E_if_eq (tgt := 87) dX11_whose_77 (by decide) (fun h77 => ?_) (fun h77 => ?_)
        · simp only [tB0, ne_eq, Bool.not_eq_false, Bool.not_eq_true, decide_eq_true_eq, decide_eq_false_iff_not, Classical.not_not] at h77
          refine E_iinc dX11_whose_87 rfl (by omega) (by omega) (by decide) rfl (by decide) ?_
          try dsimp only [List.set]
          refine E_goto (tgt := 37) dX11_whose_90 (by decide) ?_
          exact EV.lq (by simp only [fBits]; rw [if_neg (by unfold fWh; simp only [decide_eq_true_eq]; omega)]; rfl) (ih (r + 1) (by omega))
        · simp only [tB0, ne_eq, Bool.not_eq_false, Bool.not_eq_true, decide_eq_true_eq, decide_eq_false_iff_not, Classical.not_not] at h77
          refine E_iload_n dX11_whose_80 rfl ?_
          refine E_iconst dX11_whose_81 (by decide) ?_
          refine E_iload dX11_whose_82 rfl ?_
          refine E_ishl dX11_whose_84 ?_
          refine E_ior dX11_whose_85 ?_
          refine E_istore_n dX11_whose_86 rfl (by decide) ?_
          try dsimp only [List.set]
          refine E_iinc dX11_whose_87 rfl (by omega) (by omega) (by decide) rfl (by decide) ?_
          try dsimp only [List.set]
          refine E_goto (tgt := 37) dX11_whose_90 (by decide) ?_
          exact EV.lq (by simp only [fBits]; rw [if_pos (by unfold fWh; simp only [decide_eq_true_eq]; omega)]; rfl) (ih (r + 1) (by omega))
set_option maxRecDepth 20000 in
set_option maxHeartbeats 3000000 in
theorem x_whose {G : Ctx} {M : Mem} {A : AS} {B : Int} (hI : CI M A) (hG : GA A B) (hB : B ≤ 900000) {fl co : Int} (n : Nat) (hn : A 4 2 = n) : CT G m_X11_whose 2 0 0 [vR 21, vI fl, vI co] M (xM M (s_whose A fl co n) (A)) := by
  refine CT.of k_X11_whose 2 (ls := [some (vR 21), some (vI fl), some (vI co), none, none]) rfl (Nat.le_of_ble_eq_true rfl) ?_
  obtain ⟨hX, hN, hR, hT, hK, hS, hW0, hW1, hW2⟩ := id hI
  obtain ⟨a, hRc, hC, ha, haN, hD, hH, hE, hSn, hg, hZ⟩ := hW0
  have hW := hG.w.c
  have hpn := hW.pn
  have hl8 := hW.ln
  have hr8 := hW.rn
  have hgg := hG.w.g
  have hth := hG.th
  have hV := hG.w.hv
  refine E_aload_n dX11_whose_0 rfl ?_
  refine i_X11_158 rfl dX11_whose_1 (by exact hX.o) (c_noCourt hX hRc hC hD) (by omega) (Nat.le_of_ble_eq_true rfl) rfl rfl ?_
  rintro _ _ ⟨rfl, rfl⟩
  try dsimp only [pu]
  refine E_if_eq (tgt := 10) dX11_whose_4 (by decide) (fun h4 => ?_) (fun h4 => ?_)
  · simp only [tB0, ne_eq, Bool.not_eq_false, Bool.not_eq_true, decide_eq_true_eq, decide_eq_false_iff_not, Classical.not_not] at h4
    refine E_iload_n dX11_whose_10 rfl ?_
    refine E_iconst dX11_whose_11 (by decide) ?_
    refine E_bipush dX11_whose_12 (by decide) ?_
    refine i_X11_68 rfl dX11_whose_14 c_isIn (by omega) (Nat.le_of_ble_eq_true rfl) rfl rfl ?_
    rintro _ _ ⟨rfl, rfl⟩
    try dsimp only [pu]
    refine E_if_eq (tgt := 29) dX11_whose_17 (by decide) (fun h17 => ?_) (fun h17 => ?_)
    · simp only [tB0, ne_eq, Bool.not_eq_false, Bool.not_eq_true, decide_eq_true_eq, decide_eq_false_iff_not, Classical.not_not] at h17
      refine c_X11_72 rfl dX11_whose_29 ?_
      refine E_iret dX11_whose_31 rfl ?_
      refine ⟨?_, ?_, (FX.rfl' M)⟩
      · congr 2; unfold s_whose; rw [if_neg (by omega), if_neg (by omega)]; try rfl
      · exact hI
    · simp only [tB0, ne_eq, Bool.not_eq_false, Bool.not_eq_true, decide_eq_true_eq, decide_eq_false_iff_not, Classical.not_not] at h17
      refine E_iload_n dX11_whose_20 rfl ?_
      refine E_iconst dX11_whose_21 (by decide) ?_
      refine E_iconst dX11_whose_22 (by decide) ?_
      refine i_X11_68 rfl dX11_whose_23 c_isIn (by omega) (Nat.le_of_ble_eq_true rfl) rfl rfl ?_
      rintro _ _ ⟨rfl, rfl⟩
      try dsimp only [pu]
      refine E_if_ne (tgt := 32) dX11_whose_26 (by decide) (fun h26 => ?_) (fun h26 => ?_)
      · simp only [tB0, ne_eq, Bool.not_eq_false, Bool.not_eq_true, decide_eq_true_eq, decide_eq_false_iff_not, Classical.not_not] at h26
        refine E_iconst dX11_whose_32 (by decide) ?_
        refine E_istore_n dX11_whose_33 rfl (by decide) ?_
        try dsimp only [List.set]
        refine E_iconst dX11_whose_34 (by decide) ?_
        refine E_istore dX11_whose_35 rfl (by decide) ?_
        try dsimp only [List.set]
        refine EV.post (fun x M' hq => ?_) (l_xwhose hX hRc hC hD hW hV hH n hn n 0 (by omega))
        obtain ⟨rfl, rfl⟩ := hq
        refine ⟨?_, hI, FX.rfl' M⟩
        congr 2; unfold s_whose; rw [if_neg (by omega), if_pos (by omega)]
      · simp only [tB0, ne_eq, Bool.not_eq_false, Bool.not_eq_true, decide_eq_true_eq, decide_eq_false_iff_not, Classical.not_not] at h26
        refine c_X11_72 rfl dX11_whose_29 ?_
        refine E_iret dX11_whose_31 rfl ?_
        refine ⟨?_, ?_, (FX.rfl' M)⟩
        · congr 2; unfold s_whose; rw [if_neg (by omega), if_neg (by omega)]; try rfl
        · exact hI
  · simp only [tB0, ne_eq, Bool.not_eq_false, Bool.not_eq_true, decide_eq_true_eq, decide_eq_false_iff_not, Classical.not_not] at h4
    refine c_X11_154 rfl dX11_whose_7 ?_
    refine E_iret dX11_whose_9 rfl ?_
    refine ⟨?_, ?_, (FX.rfl' M)⟩
    · congr 2; unfold s_whose; rw [if_pos (by omega)]; try rfl
    · exact hI
set_option maxRecDepth 20000 in
set_option maxHeartbeats 3000000 in
theorem l_rwhose {G : Ctx} {M : Mem} {m : Nat} {cd : CD} (hO : MO M m) (hQ : MC (mI M) m cd) (hW : WFc cd) (hV : HV cd (cHu cd)) {fl co : Int} (n : Nat) (hn : cd 2 = n) : ∀ (k r : Nat) (z5 z6 : Option MV), r + k = n → EV G m_X12_whose 2 0 0 (rI M (fBits (fWh cd fl co) n)) 47 [some (vR m), some (vI fl), some (vI co), some (vI (fBits (fWh cd fl co) r)), some (vI (r : Int)), z5, z6] [] M := by
  intro k
  induction k with
  | zero =>
    intro r z5 z6 hr
    obtain rfl : r = n := by omega
    have hpn := hW.pn
    refine E_iload dX12_whose_47 rfl ?_
    refine E_aload_n dX12_whose_49 rfl ?_
    refine g_X12_19 rfl dX12_whose_50 hO.o hO.court ?_
    refine E_iconst dX12_whose_53 (by decide) ?_
    refine E_iald dX12_whose_54 hO.s_court (by omega) (by omega) (hQ.at (j := 2) (by omega) (by omega) (by omega)) ?_
    refine E_icmp_ge (tgt := 142) dX12_whose_55 (by decide) (fun h55 => ?_) (fun h55 => ?_)
    · refine E_iload_n dX12_whose_142 rfl ?_
      refine E_iret dX12_whose_143 rfl ?_
      exact ⟨rfl, rfl⟩
    · exfalso; omega
  | succ k ih =>
    intro r z5 z6 hr
    have hpn := hW.pn
    have hl8 := hW.ln
    have hfr := fBits_ran (fWh cd fl co) r
    have hv : cd (88 + 6 * r) = -1000000 ∨ (0 ≤ cd (88 + 6 * r) ∧ cd (88 + 6 * r) < cd 0) := hV r (by omega) (by omega)
    refine E_iload dX12_whose_47 rfl ?_
    refine E_aload_n dX12_whose_49 rfl ?_
    refine g_X12_19 rfl dX12_whose_50 hO.o hO.court ?_
    refine E_iconst dX12_whose_53 (by decide) ?_
    refine E_iald dX12_whose_54 hO.s_court (by omega) (by omega) (hQ.at (j := 2) (by omega) (by omega) (by omega)) ?_
    refine E_icmp_ge (tgt := 142) dX12_whose_55 (by decide) (fun h55 => ?_) (fun h55 => ?_)
    · exfalso; omega
    · refine E_aload_n dX12_whose_58 rfl ?_
      refine E_iload dX12_whose_59 rfl ?_
      refine E_iconst dX12_whose_61 (by decide) ?_
      refine i_X12_202 rfl dX12_whose_62 (by exact hO.o) (c_of hO hQ (j := 88 + 6 * ↑r) (by omega) (by omega) (by omega)) (by omega) (Nat.le_of_ble_eq_true rfl) rfl rfl ?_
      rintro _ _ ⟨rfl, rfl⟩
      try dsimp only [pu]
      refine E_istore dX12_whose_65 rfl (by decide) ?_
      try dsimp only [List.set]
      refine E_iload dX12_whose_67 rfl ?_
      refine c_X12_89 rfl dX12_whose_69 ?_
      refine E_icmp_eq (tgt := 117) dX12_whose_71 (by decide) (fun h71 => ?_) (fun h71 => ?_)
      · refine E_iconst dX12_whose_117 (by decide) ?_
        refine E_istore dX12_whose_118 rfl (by decide) ?_
        try dsimp only [List.set]
        refine E_iload_n dX12_whose_120 rfl ?_
        refine E_iload dX12_whose_121 rfl ?_
        refine E_if_eq (tgt := 133) dX12_whose_123 (by decide) (fun h123 => ?_) (fun h123 => ?_)
        · refine E_iconst dX12_whose_133 (by decide) ?_
          refine E_ior dX12_whose_134 ?_
          refine E_istore_n dX12_whose_135 rfl (by decide) ?_
          try dsimp only [List.set]
          refine E_iinc dX12_whose_136 rfl (by omega) (by omega) (by decide) rfl (by decide) ?_
          try dsimp only [List.set]
          refine E_goto (tgt := 47) dX12_whose_139 (by decide) ?_
          exact EV.lq (by simp only [fBits]; rw [if_neg (by unfold fWh cHu; simp only [decide_eq_true_eq]; omega), bOr_0 hfr.1 hfr.2]; rfl) (ih (r + 1) _ _ (by omega))
        · exfalso; omega
      · refine E_aload_n dX12_whose_74 rfl ?_
        refine E_iload dX12_whose_75 rfl ?_
        refine i_X12_196 rfl dX12_whose_77 (by exact hO.o) (c_floor hO hQ (by omega)) (by omega) (Nat.le_of_ble_eq_true rfl) rfl rfl ?_
        rintro _ _ ⟨rfl, rfl⟩
        try dsimp only [pu]
        refine E_iload_n dX12_whose_80 rfl ?_
        refine E_icmp_le (tgt := 117) dX12_whose_81 (by decide) (fun h81 => ?_) (fun h81 => ?_)
        · refine E_iconst dX12_whose_117 (by decide) ?_
          refine E_istore dX12_whose_118 rfl (by decide) ?_
          try dsimp only [List.set]
          refine E_iload_n dX12_whose_120 rfl ?_
          refine E_iload dX12_whose_121 rfl ?_
          refine E_if_eq (tgt := 133) dX12_whose_123 (by decide) (fun h123 => ?_) (fun h123 => ?_)
          · refine E_iconst dX12_whose_133 (by decide) ?_
            refine E_ior dX12_whose_134 ?_
            refine E_istore_n dX12_whose_135 rfl (by decide) ?_
            try dsimp only [List.set]
            refine E_iinc dX12_whose_136 rfl (by omega) (by omega) (by decide) rfl (by decide) ?_
            try dsimp only [List.set]
            refine E_goto (tgt := 47) dX12_whose_139 (by decide) ?_
            exact EV.lq (by simp only [fBits]; rw [if_neg (by unfold fWh cHu; simp only [decide_eq_true_eq]; omega), bOr_0 hfr.1 hfr.2]; rfl) (ih (r + 1) _ _ (by omega))
          · exfalso; omega
        · refine E_aload_n dX12_whose_84 rfl ?_
          refine g_X12_19 rfl dX12_whose_85 hO.o hO.court ?_
          refine E_bipush dX12_whose_88 (by decide) ?_
          refine E_iconst dX12_whose_90 (by decide) ?_
          refine E_iload dX12_whose_91 rfl ?_
          refine E_imul dX12_whose_93 (by omega) (by omega) ?_
          refine E_iadd dX12_whose_94 (by omega) (by omega) ?_
          refine E_iconst dX12_whose_95 (by decide) ?_
          refine E_iadd dX12_whose_96 (by omega) (by omega) ?_
          refine E_iald dX12_whose_97 hO.s_court (by omega) (by omega) (hQ.at (j := 29 + 3 * cd (88 + 6 * ↑r)) (by omega) (by omega) (by omega)) ?_
          refine E_iload_n dX12_whose_98 rfl ?_
          refine E_icmp_ne (tgt := 117) dX12_whose_99 (by decide) (fun h99 => ?_) (fun h99 => ?_)
          · refine E_iconst dX12_whose_117 (by decide) ?_
            refine E_istore dX12_whose_118 rfl (by decide) ?_
            try dsimp only [List.set]
            refine E_iload_n dX12_whose_120 rfl ?_
            refine E_iload dX12_whose_121 rfl ?_
            refine E_if_eq (tgt := 133) dX12_whose_123 (by decide) (fun h123 => ?_) (fun h123 => ?_)
            · refine E_iconst dX12_whose_133 (by decide) ?_
              refine E_ior dX12_whose_134 ?_
              refine E_istore_n dX12_whose_135 rfl (by decide) ?_
              try dsimp only [List.set]
              refine E_iinc dX12_whose_136 rfl (by omega) (by omega) (by decide) rfl (by decide) ?_
              try dsimp only [List.set]
              refine E_goto (tgt := 47) dX12_whose_139 (by decide) ?_
              exact EV.lq (by simp only [fBits]; rw [if_neg (by unfold fWh cHu; simp only [decide_eq_true_eq]; omega), bOr_0 hfr.1 hfr.2]; rfl) (ih (r + 1) _ _ (by omega))
            · exfalso; omega
          · refine E_aload_n dX12_whose_102 rfl ?_
            refine E_iload dX12_whose_103 rfl ?_
            refine E_iconst dX12_whose_105 (by decide) ?_
            refine i_X12_202 rfl dX12_whose_106 (by exact hO.o) (c_of hO hQ (j := 87 + 6 * ↑r) (by omega) (by omega) (by omega)) (by omega) (Nat.le_of_ble_eq_true rfl) rfl rfl ?_
            rintro _ _ ⟨rfl, rfl⟩
            try dsimp only [pu]
            refine E_iconst dX12_whose_109 (by decide) ?_
            refine E_icmp_gt (tgt := 117) dX12_whose_110 (by decide) (fun h110 => ?_) (fun h110 => ?_)
            · refine E_iconst dX12_whose_117 (by decide) ?_
              refine E_istore dX12_whose_118 rfl (by decide) ?_
              try dsimp only [List.set]
              refine E_iload_n dX12_whose_120 rfl ?_
              refine E_iload dX12_whose_121 rfl ?_
              refine E_if_eq (tgt := 133) dX12_whose_123 (by decide) (fun h123 => ?_) (fun h123 => ?_)
              · refine E_iconst dX12_whose_133 (by decide) ?_
                refine E_ior dX12_whose_134 ?_
                refine E_istore_n dX12_whose_135 rfl (by decide) ?_
                try dsimp only [List.set]
                refine E_iinc dX12_whose_136 rfl (by omega) (by omega) (by decide) rfl (by decide) ?_
                try dsimp only [List.set]
                refine E_goto (tgt := 47) dX12_whose_139 (by decide) ?_
                exact EV.lq (by simp only [fBits]; rw [if_neg (by unfold fWh cHu; simp only [decide_eq_true_eq]; omega), bOr_0 hfr.1 hfr.2]; rfl) (ih (r + 1) _ _ (by omega))
              · exfalso; omega
            · refine E_iconst dX12_whose_113 (by decide) ?_
              refine E_goto (tgt := 118) dX12_whose_114 (by decide) ?_
              refine E_istore dX12_whose_118 rfl (by decide) ?_
              try dsimp only [List.set]
              refine E_iload_n dX12_whose_120 rfl ?_
              refine E_iload dX12_whose_121 rfl ?_
              refine E_if_eq (tgt := 133) dX12_whose_123 (by decide) (fun h123 => ?_) (fun h123 => ?_)
              · exfalso; omega
              · refine E_iconst dX12_whose_126 (by decide) ?_
                refine E_iload dX12_whose_127 rfl ?_
                refine E_ishl dX12_whose_129 ?_
                refine E_goto (tgt := 134) dX12_whose_130 (by decide) ?_
                refine E_ior dX12_whose_134 ?_
                refine E_istore_n dX12_whose_135 rfl (by decide) ?_
                try dsimp only [List.set]
                refine E_iinc dX12_whose_136 rfl (by omega) (by omega) (by decide) rfl (by decide) ?_
                try dsimp only [List.set]
                refine E_goto (tgt := 47) dX12_whose_139 (by decide) ?_
                exact EV.lq (by simp only [fBits]; rw [if_pos (by unfold fWh cHu; simp only [decide_eq_true_eq]; omega)]; rfl) (ih (r + 1) _ _ (by omega))
set_option maxRecDepth 20000 in
set_option maxHeartbeats 3000000 in
theorem r_whose {G : Ctx} {M : Mem} {m : Nat} {A : AS} {B : Int} (hO : MO M m) (hV : MA (mI M) m A) (hG : GA A B) (hB : B ≤ 900000) {fl co : Int} (n : Nat) (hn : A 4 2 = n) : CT G m_X12_whose 2 0 0 [vR m, vI fl, vI co] M (rM M m (s_whose A fl co n) A) := by
  refine CT.of k_X12_whose 4 (ls := [some (vR m), some (vI fl), some (vI co), none, none, none, none]) rfl (Nat.le_of_ble_eq_true rfl) ?_
  refine E_aload_n dX12_whose_0 rfl ?_
  refine E_iconst dX12_whose_1 (by decide) ?_
  refine p_X12_53 rfl dX12_whose_2 hO.o ?_
  obtain ⟨M1, e1, hO, hV, hF⟩ := thr hO hV
  refine EV.mq rfl e1.symm ?_
  clear e1
  have hQ := hV.mc
  have hW := hG.w.c
  have hpn := hW.pn
  have hl8 := hW.ln
  have hr8 := hW.rn
  have hgg := hG.w.g
  have hth := hG.th
  refine E_aload_n dX12_whose_5 rfl ?_
  refine g_X12_192 rfl dX12_whose_6 hO.o (hV.2 7 (by unfold SJ; omega)) ?_
  refine E_if_ne (tgt := 15) dX12_whose_9 (by decide) (fun h9 => ?_) (fun h9 => ?_)
  · refine E_iload_n dX12_whose_15 rfl ?_
    refine E_i2l dX12_whose_16 ?_
    refine E_lconst (x := 0) dX12_whose_17 (by decide) ?_
    refine c_X12_263 rfl dX12_whose_18 ?_
    refine i_X12_63 rfl dX12_whose_21 c_in (by omega) (Nat.le_of_ble_eq_true rfl) rfl rfl ?_
    rintro _ _ ⟨rfl, rfl⟩
    try dsimp only [pu]
    refine E_if_eq (tgt := 39) dX12_whose_24 (by decide) (fun h24 => ?_) (fun h24 => ?_)
    · simp only [tB0, ne_eq, Bool.not_eq_false, Bool.not_eq_true, decide_eq_true_eq, decide_eq_false_iff_not, Classical.not_not] at h24
      refine c_X12_73 rfl dX12_whose_39 ?_
      refine E_iret dX12_whose_41 rfl ?_
      refine ⟨?_, hF, hV⟩
      congr 2; unfold s_whose; rw [if_neg (by omega), if_neg (by omega)]
    · simp only [tB0, ne_eq, Bool.not_eq_false, Bool.not_eq_true, decide_eq_true_eq, decide_eq_false_iff_not, Classical.not_not] at h24
      refine E_iload_n dX12_whose_27 rfl ?_
      refine E_i2l dX12_whose_28 ?_
      refine E_lconst (x := 0) dX12_whose_29 (by decide) ?_
      refine c_X12_265 rfl dX12_whose_30 ?_
      refine i_X12_63 rfl dX12_whose_33 c_in (by omega) (Nat.le_of_ble_eq_true rfl) rfl rfl ?_
      rintro _ _ ⟨rfl, rfl⟩
      try dsimp only [pu]
      refine E_if_ne (tgt := 42) dX12_whose_36 (by decide) (fun h36 => ?_) (fun h36 => ?_)
      · simp only [tB0, ne_eq, Bool.not_eq_false, Bool.not_eq_true, decide_eq_true_eq, decide_eq_false_iff_not, Classical.not_not] at h36
        refine E_iconst dX12_whose_42 (by decide) ?_
        refine E_istore_n dX12_whose_43 rfl (by decide) ?_
        try dsimp only [List.set]
        refine E_iconst dX12_whose_44 (by decide) ?_
        refine E_istore dX12_whose_45 rfl (by decide) ?_
        try dsimp only [List.set]
        refine EV.post (fun x M' hq => ?_) (l_rwhose hO hQ hW hG.w.hv n hn n 0 _ _ (by omega))
        obtain ⟨rfl, rfl⟩ := hq
        refine ⟨?_, hF, hV⟩
        congr 2; unfold s_whose; rw [if_neg (by omega), if_pos (by omega)]
      · simp only [tB0, ne_eq, Bool.not_eq_false, Bool.not_eq_true, decide_eq_true_eq, decide_eq_false_iff_not, Classical.not_not] at h36
        refine c_X12_73 rfl dX12_whose_39 ?_
        refine E_iret dX12_whose_41 rfl ?_
        refine ⟨?_, hF, hV⟩
        congr 2; unfold s_whose; rw [if_neg (by omega), if_neg (by omega)]
  · refine c_X12_208 rfl dX12_whose_12 ?_
    refine E_iret dX12_whose_14 rfl ?_
    refine ⟨?_, hF, hV⟩
    congr 2; unfold s_whose; rw [if_pos (by omega)]
