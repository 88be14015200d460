/-! ===== 40: whose, count, images ===== -/
set_option maxRecDepth 20000 in
set_option maxHeartbeats 3000000 in
theorem c_hangsAbove {G : Ctx} {M : Mem} (hX : XO M) {a : Nat} {cd : CD} (hRc : mR M 47 0 = a) (hC : CA M a) (hD : CC (mI M) a cd) (hW : WFc cd) {hu : Int → Int} (hV : HV cd hu) (hH : HC (mI M) 47 cd hu) {p fl co : Int} (p0 : 0 ≤ p) (p1 : p < cd 2) : CT G m_X11_hangsAbove 1 0 0 [vR 21, vI p, vI fl, vI co] M (rI M (tB (decide (hu p ≠ -1000000 ∧ cd (29 + 3 * hu p) = co ∧ fl < cd (28 + 3 * hu p))))) := by
  refine CT.of k_X11_hangsAbove 1 (ls := [some (vR 21), some (vI p), some (vI fl), some (vI co), none]) rfl (Nat.le_of_ble_eq_true rfl) ?_
  have hpn := hW.pn
  have hl8 := hW.ln
  have hv := hV p p0 p1
  have hnm : nm1 (hu p) = if hu p = -1000000 then -1 else hu p := rfl
  refine E_aload_n dX11_hangsAbove_0 rfl ?_
  refine g_X11_48 rfl dX11_hangsAbove_1 hX.o hX.wash ?_
  refine E_iload_n dX11_hangsAbove_4 rfl ?_
  refine i_X11_151 rfl dX11_hangsAbove_5 (by exact hX.w0.o) (c_isHung (by exact hX.w0) hW hV hH (by omega) (by omega)) (by omega) (Nat.le_of_ble_eq_true rfl) rfl rfl ?_
  rintro _ _ ⟨rfl, rfl⟩
  try dsimp only [pu]
  refine E_if_ne (tgt := 13) dX11_hangsAbove_8 (by decide) (fun h8 => ?_) (fun h8 => ?_)
  · simp only [tB0, ne_eq, Bool.not_eq_false, Bool.not_eq_true, decide_eq_true_eq, decide_eq_false_iff_not, Classical.not_not] at h8
    have hnn : nm1 (hu p) = hu p := by omega
    refine E_aload_n dX11_hangsAbove_13 rfl ?_
    refine g_X11_48 rfl dX11_hangsAbove_14 hX.o hX.wash ?_
    refine g_X11_198 rfl dX11_hangsAbove_17 hX.w0.o hX.w0.where ?_
    refine E_iload_n dX11_hangsAbove_20 rfl ?_
    refine E_iald dX11_hangsAbove_21 hX.w0.s_where (by omega) (by omega) ((hH _ (by omega) (by omega)).trans hnn) ?_
    refine E_istore dX11_hangsAbove_22 rfl (by decide) ?_
    try dsimp only [List.set]
    refine E_aload_n dX11_hangsAbove_24 rfl ?_
    refine g_X11_48 rfl dX11_hangsAbove_25 hX.o hX.wash ?_
    refine g_X11_168 rfl dX11_hangsAbove_28 hX.w0.o hRc ?_
    refine g_X11_215 rfl dX11_hangsAbove_31 hC.o hC.columns ?_
    refine E_iload dX11_hangsAbove_34 rfl ?_
    refine E_iald dX11_hangsAbove_36 hC.s_columns (by omega) (by omega) (hD.columns (by omega) (by omega)) ?_
    refine E_iload_n dX11_hangsAbove_37 rfl ?_
    refine E_icmp_ne (tgt := 62) dX11_hangsAbove_38 (by decide) (fun h38 => ?_) (fun h38 => ?_)
    · refine E_iconst dX11_hangsAbove_62 (by decide) ?_
      refine E_zret dX11_hangsAbove_63 rfl (by decide) ?_
      refine ⟨?_, rfl⟩
      congr 2; first | (rw [decide_eq_true (by omega)]; rfl) | (rw [decide_eq_false (by omega)]; rfl)
    · refine E_aload_n dX11_hangsAbove_41 rfl ?_
      refine g_X11_48 rfl dX11_hangsAbove_42 hX.o hX.wash ?_
      refine g_X11_168 rfl dX11_hangsAbove_45 hX.w0.o hRc ?_
      refine g_X11_212 rfl dX11_hangsAbove_48 hC.o hC.floors ?_
      refine E_iload dX11_hangsAbove_51 rfl ?_
      refine E_iald dX11_hangsAbove_53 hC.s_floors (by omega) (by omega) (hD.floors (by omega) (by omega)) ?_
      refine E_iload_n dX11_hangsAbove_54 rfl ?_
      refine E_icmp_le (tgt := 62) dX11_hangsAbove_55 (by decide) (fun h55 => ?_) (fun h55 => ?_)
      · refine E_iconst dX11_hangsAbove_62 (by decide) ?_
        refine E_zret dX11_hangsAbove_63 rfl (by decide) ?_
        refine ⟨?_, rfl⟩
        congr 2; first | (rw [decide_eq_true (by omega)]; rfl) | (rw [decide_eq_false (by omega)]; rfl)
      · refine E_iconst dX11_hangsAbove_58 (by decide) ?_
        refine E_goto (tgt := 63) dX11_hangsAbove_59 (by decide) ?_
        refine E_zret dX11_hangsAbove_63 rfl (by decide) ?_
        refine ⟨?_, rfl⟩
        congr 2; first | (rw [decide_eq_true (by omega)]; rfl) | (rw [decide_eq_false (by omega)]; rfl)
  · simp only [tB0, ne_eq, Bool.not_eq_false, Bool.not_eq_true, decide_eq_true_eq, decide_eq_false_iff_not, Classical.not_not] at h8
    refine E_iconst dX11_hangsAbove_11 (by decide) ?_
    refine E_zret dX11_hangsAbove_12 rfl (by decide) ?_
    refine ⟨?_, rfl⟩
    congr 2; first | (rw [decide_eq_true (by omega)]; rfl) | (rw [decide_eq_false (by omega)]; rfl)
set_option maxRecDepth 20000 in
set_option maxHeartbeats 3000000 in
theorem l_xwhose {G : Ctx} {M : Mem} (hX : XO M) {a : Nat} {cd : CD} (hRc : mR M 47 0 = a) (hC : CA M a) (hD : CC (mI M) a cd) (hW : WFc cd) (hV : HV cd (cHu cd)) (hH : HC (mI M) 47 cd (cHu cd)) {fl co : Int} (n : Nat) (hn : cd 2 = n) : ∀ (k r : Nat) , r + k = n → EV G m_X11_whose 2 0 0 (rI M (fBits (fWh cd fl co) n)) 37 [some (vR 21), some (vI fl), some (vI co), some (vI (fBits (fWh cd fl co) r)), some (vI (r : Int))] [] M := by
  intro k
  induction k with
  | zero =>
    intro r  hr
    obtain rfl : r = n := by omega
    have hpn := hW.pn
    refine E_iload dX11_whose_37 rfl ?_
    refine E_aload_n dX11_whose_39 rfl ?_
    refine g_X11_48 rfl dX11_whose_40 hX.o hX.wash ?_
    refine g_X11_168 rfl dX11_whose_43 hX.w0.o hRc ?_
    refine g_X11_172 rfl dX11_whose_46 hC.o (hD.pnc.trans hn) ?_
    refine E_icmp_ge (tgt := 93) dX11_whose_49 (by decide) (fun h49 => ?_) (fun h49 => ?_)
    · refine E_iload_n dX11_whose_93 rfl ?_
      refine E_iret dX11_whose_94 rfl ?_
      exact ⟨rfl, rfl⟩
    · exfalso; omega
  | succ k ih =>
    intro r  hr
    have hpn := hW.pn
    refine E_iload dX11_whose_37 rfl ?_
    refine E_aload_n dX11_whose_39 rfl ?_
    refine g_X11_48 rfl dX11_whose_40 hX.o hX.wash ?_
    refine g_X11_168 rfl dX11_whose_43 hX.w0.o hRc ?_
    refine g_X11_172 rfl dX11_whose_46 hC.o (hD.pnc.trans hn) ?_
    refine E_icmp_ge (tgt := 93) dX11_whose_49 (by decide) (fun h49 => ?_) (fun h49 => ?_)
    · exfalso; omega
    · refine E_aload_n dX11_whose_52 rfl ?_
      refine g_X11_48 rfl dX11_whose_53 hX.o hX.wash ?_
      refine g_X11_168 rfl dX11_whose_56 hX.w0.o hRc ?_
      refine g_X11_209 rfl dX11_whose_59 hC.o hC.yards ?_
      refine E_iload dX11_whose_62 rfl ?_
      refine E_iald dX11_whose_64 hC.s_yards (by omega) (by omega) (hD.yards (by omega) (by omega)) ?_
      refine E_iconst dX11_whose_65 (by decide) ?_
      refine E_icmp_gt (tgt := 87) dX11_whose_66 (by decide) (fun h66 => ?_) (fun h66 => ?_)
      · refine E_iinc dX11_whose_87 rfl (by omega) (by omega) (by decide) rfl (by decide) ?_
        try dsimp only [List.set]
        refine E_goto (tgt := 37) dX11_whose_90 (by decide) ?_
        exact EV.lq (by simp only [fBits]; rw [if_neg (by unfold fWh; simp only [decide_eq_true_eq]; omega)]; rfl) (ih (r + 1) (by omega))
      · refine E_aload_n dX11_whose_69 rfl ?_
        refine E_iload dX11_whose_70 rfl ?_
        refine E_iload_n dX11_whose_72 rfl ?_
        refine E_iload_n dX11_whose_73 rfl ?_
        refine i_X11_243 rfl dX11_whose_74 (by exact hX.o) (c_hangsAbove hX hRc hC hD hW hV hH (by omega) (by omega)) (by omega) (Nat.le_of_ble_eq_true rfl) rfl rfl ?_
        rintro _ _ ⟨rfl, rfl⟩
        try dsimp only [pu]
        refine E_if_eq (tgt := 87) dX11_whose_77 (by decide) (fun h77 => ?_) (fun h77 => ?_)
        · simp only [tB0, ne_eq, Bool.not_eq_false, Bool.not_eq_true, decide_eq_true_eq, decide_eq_false_iff_not, Classical.not_not] at h77
          refine E_iinc dX11_whose_87 rfl (by omega) (by omega) (by decide) rfl (by decide) ?_
          try dsimp only [List.set]
          refine E_goto (tgt := 37) dX11_whose_90 (by decide) ?_
          exact EV.lq (by simp only [fBits]; rw [if_neg (by unfold fWh; simp only [decide_eq_true_eq]; omega)]; rfl) (ih (r + 1) (by omega))
        · simp only [tB0, ne_eq, Bool.not_eq_false, Bool.not_eq_true, decide_eq_true_eq, decide_eq_false_iff_not, Classical.not_not] at h77
          refine E_iload_n dX11_whose_80 rfl ?_
          refine E_iconst dX11_whose_81 (by decide) ?_
          refine E_iload dX11_whose_82 rfl ?_
          refine E_ishl dX11_whose_84 ?_
          refine E_ior dX11_whose_85 ?_
          refine E_istore_n dX11_whose_86 rfl (by decide) ?_
          try dsimp only [List.set]
          refine E_iinc dX11_whose_87 rfl (by omega) (by omega) (by decide) rfl (by decide) ?_
          try dsimp only [List.set]
          refine E_goto (tgt := 37) dX11_whose_90 (by decide) ?_
          exact EV.lq (by simp only [fBits]; rw [if_pos (by unfold fWh; simp only [decide_eq_true_eq]; omega)]; rfl) (ih (r + 1) (by omega))
set_option maxRecDepth 20000 in
set_option maxHeartbeats 3000000 in
theorem x_whose {G : Ctx} {M : Mem} {A : AS} {B : Int} (hI : CI M A) (hG : GA A B) (hB : B ≤ 900000) {fl co : Int} (n : Nat) (hn : A 4 2 = n) : CT G m_X11_whose 2 0 0 [vR 21, vI fl, vI co] M (xM M (s_whose A fl co n) (A)) := by
  refine CT.of k_X11_whose 2 (ls := [some (vR 21), some (vI fl), some (vI co), none, none]) rfl (Nat.le_of_ble_eq_true rfl) ?_
  obtain ⟨hX, hN, hR, hT, hK, hS, hW0, hW1, hW2⟩ := id hI
  obtain ⟨a, hRc, hC, ha, haN, hD, hH, hE, hSn, hg, hZ⟩ := hW0
  have hW := hG.w.c
  have hpn := hW.pn
  have hl8 := hW.ln
  have hr8 := hW.rn
  have hgg := hG.w.g
  have hth := hG.th
  have hV := hG.w.hv
  refine E_aload_n dX11_whose_0 rfl ?_
  refine i_X11_158 rfl dX11_whose_1 (by exact hX.o) (c_noCourt hX hRc hC hD) (by omega) (Nat.le_of_ble_eq_true rfl) rfl rfl ?_
  rintro _ _ ⟨rfl, rfl⟩
  try dsimp only [pu]
  refine E_if_eq (tgt := 10) dX11_whose_4 (by decide) (fun h4 => ?_) (fun h4 => ?_)
  · simp only [tB0, ne_eq, Bool.not_eq_false, Bool.not_eq_true, decide_eq_true_eq, decide_eq_false_iff_not, Classical.not_not] at h4
    refine E_iload_n dX11_whose_10 rfl ?_
    refine E_iconst dX11_whose_11 (by decide) ?_
    refine E_bipush dX11_whose_12 (by decide) ?_
    refine i_X11_68 rfl dX11_whose_14 c_isIn (by omega) (Nat.le_of_ble_eq_true rfl) rfl rfl ?_
    rintro _ _ ⟨rfl, rfl⟩
    try dsimp only [pu]
    refine E_if_eq (tgt := 29) dX11_whose_17 (by decide) (fun h17 => ?_) (fun h17 => ?_)
    · simp only [tB0, ne_eq, Bool.not_eq_false, Bool.not_eq_true, decide_eq_true_eq, decide_eq_false_iff_not, Classical.not_not] at h17
      refine c_X11_72 rfl dX11_whose_29 ?_
      refine E_iret dX11_whose_31 rfl ?_
      refine ⟨?_, ?_, (FX.rfl' M)⟩
      · congr 2; unfold s_whose; rw [if_neg (by omega), if_neg (by omega)]; try rfl
      · exact hI
    · simp only [tB0, ne_eq, Bool.not_eq_false, Bool.not_eq_true, decide_eq_true_eq, decide_eq_false_iff_not, Classical.not_not] at h17
      refine E_iload_n dX11_whose_20 rfl ?_
      refine E_iconst dX11_whose_21 (by decide) ?_
      refine E_iconst dX11_whose_22 (by decide) ?_
      refine i_X11_68 rfl dX11_whose_23 c_isIn (by omega) (Nat.le_of_ble_eq_true rfl) rfl rfl ?_
      rintro _ _ ⟨rfl, rfl⟩
      try dsimp only [pu]
      refine E_if_ne (tgt := 32) dX11_whose_26 (by decide) (fun h26 => ?_) (fun h26 => ?_)
      · simp only [tB0, ne_eq, Bool.not_eq_false, Bool.not_eq_true, decide_eq_true_eq, decide_eq_false_iff_not, Classical.not_not] at h26
        refine E_iconst dX11_whose_32 (by decide) ?_
        refine E_istore_n dX11_whose_33 rfl (by decide) ?_
        try dsimp only [List.set]
        refine E_iconst dX11_whose_34 (by decide) ?_
        refine E_istore dX11_whose_35 rfl (by decide) ?_
        try dsimp only [List.set]
        refine EV.post (fun x M' hq => ?_) (l_xwhose hX hRc hC hD hW hV hH n hn n 0 (by omega))
        obtain ⟨rfl, rfl⟩ := hq
        refine ⟨?_, hI, FX.rfl' M⟩
        congr 2; unfold s_whose; rw [if_neg (by omega), if_pos (by omega)]
      · simp only [tB0, ne_eq, Bool.not_eq_false, Bool.not_eq_true, decide_eq_true_eq, decide_eq_false_iff_not, Classical.not_not] at h26
        refine c_X11_72 rfl dX11_whose_29 ?_
        refine E_iret dX11_whose_31 rfl ?_
        refine ⟨?_, ?_, (FX.rfl' M)⟩
        · congr 2; unfold s_whose; rw [if_neg (by omega), if_neg (by omega)]; try rfl
        · exact hI
  · simp only [tB0, ne_eq, Bool.not_eq_false, Bool.not_eq_true, decide_eq_true_eq, decide_eq_false_iff_not, Classical.not_not] at h4
    refine c_X11_154 rfl dX11_whose_7 ?_
    refine E_iret dX11_whose_9 rfl ?_
    refine ⟨?_, ?_, (FX.rfl' M)⟩
    · congr 2; unfold s_whose; rw [if_pos (by omega)]; try rfl
    · exact hI
set_option maxRecDepth 20000 in
set_option maxHeartbeats 3000000 in
theorem l_rwhose {G : Ctx} {M : Mem} {m : Nat} {cd : CD} (hO : MO M m) (hQ : MC (mI M) m cd) (hW : WFc cd) (hV : HV cd (cHu cd)) {fl co : Int} (n : Nat) (hn : cd 2 = n) : ∀ (k r : Nat) (z5 z6 : Option MV), r + k = n → EV G m_X12_whose 2 0 0 (rI M (fBits (fWh cd fl co) n)) 47 [some (vR m), some (vI fl), some (vI co), some (vI (fBits (fWh cd fl co) r)), some (vI (r : Int)), z5, z6] [] M := by
  intro k
  induction k with
  | zero =>
    intro r z5 z6 hr
    obtain rfl : r = n := by omega
    have hpn := hW.pn
    refine E_iload dX12_whose_47 rfl ?_
    refine E_aload_n dX12_whose_49 rfl ?_
    refine g_X12_19 rfl dX12_whose_50 hO.o hO.court ?_
    refine E_iconst dX12_whose_53 (by decide) ?_
    refine E_iald dX12_whose_54 hO.s_court (by omega) (by omega) (hQ.at (j := 2) (by omega) (by omega) (by omega)) ?_
    refine E_icmp_ge (tgt := 142) dX12_whose_55 (by decide) (fun h55 => ?_) (fun h55 => ?_)
    · refine E_iload_n dX12_whose_142 rfl ?_
      refine E_iret dX12_whose_143 rfl ?_
      exact ⟨rfl, rfl⟩
    · exfalso; omega
  | succ k ih =>
    intro r z5 z6 hr
    have hpn := hW.pn
    have hl8 := hW.ln
    have hfr := fBits_ran (fWh cd fl co) r
    have hv : cd (88 + 6 * r) = -1000000 ∨ (0 ≤ cd (88 + 6 * r) ∧ cd (88 + 6 * r) < cd 0) := hV r (by omega) (by omega)
    refine E_iload dX12_whose_47 rfl ?_
    refine E_aload_n dX12_whose_49 rfl ?_
    refine g_X12_19 rfl dX12_whose_50 hO.o hO.court ?_
    refine E_iconst dX12_whose_53 (by decide) ?_
    refine E_iald dX12_whose_54 hO.s_court (by omega) (by omega) (hQ.at (j := 2) (by omega) (by omega) (by omega)) ?_
    refine E_icmp_ge (tgt := 142) dX12_whose_55 (by decide) (fun h55 => ?_) (fun h55 => ?_)
    · exfalso; omega
    · refine E_aload_n dX12_whose_58 rfl ?_
      refine E_iload dX12_whose_59 rfl ?_
      refine E_iconst dX12_whose_61 (by decide) ?_
      refine i_X12_202 rfl dX12_whose_62 (by exact hO.o) (c_of hO hQ (j := 88 + 6 * ↑r) (by omega) (by omega) (by omega)) (by omega) (Nat.le_of_ble_eq_true rfl) rfl rfl ?_
      rintro _ _ ⟨rfl, rfl⟩
      try dsimp only [pu]
      refine E_istore dX12_whose_65 rfl (by decide) ?_
      try dsimp only [List.set]
      refine E_iload dX12_whose_67 rfl ?_
      refine c_X12_89 rfl dX12_whose_69 ?_
      refine E_icmp_eq (tgt := 117) dX12_whose_71 (by decide) (fun h71 => ?_) (fun h71 => ?_)
      · refine E_iconst dX12_whose_117 (by decide) ?_
        refine E_istore dX12_whose_118 rfl (by decide) ?_
        try dsimp only [List.set]
        refine E_iload_n dX12_whose_120 rfl ?_
        refine E_iload dX12_whose_121 rfl ?_
        refine E_if_eq (tgt := 133) dX12_whose_123 (by decide) (fun h123 => ?_) (fun h123 => ?_)
        · refine E_iconst dX12_whose_133 (by decide) ?_
          refine E_ior dX12_whose_134 ?_
          refine E_istore_n dX12_whose_135 rfl (by decide) ?_
          try dsimp only [List.set]
          refine E_iinc dX12_whose_136 rfl (by omega) (by omega) (by decide) rfl (by decide) ?_
          try dsimp only [List.set]
          refine E_goto (tgt := 47) dX12_whose_139 (by decide) ?_
          exact EV.lq (by simp only [fBits]; rw [if_neg (by unfold fWh cHu; simp only [decide_eq_true_eq]; omega), bOr_0 hfr.1 hfr.2]; rfl) (ih (r + 1) _ _ (by omega))
        · exfalso; omega
      · refine E_aload_n dX12_whose_74 rfl ?_
        refine E_iload dX12_whose_75 rfl ?_
        refine i_X12_196 rfl dX12_whose_77 (by exact hO.o) (c_floor hO hQ (by omega)) (by omega) (Nat.le_of_ble_eq_true rfl) rfl rfl ?_
        rintro _ _ ⟨rfl, rfl⟩
        try dsimp only [pu]
        refine E_iload_n dX12_whose_80 rfl ?_
        refine E_icmp_le (tgt := 117) dX12_whose_81 (by decide) (fun h81 => ?_) (fun h81 => ?_)
        · refine E_iconst dX12_whose_117 (by decide) ?_
          refine E_istore dX12_whose_118 rfl (by decide) ?_
          try dsimp only [List.set]
          refine E_iload_n dX12_whose_120 rfl ?_
          refine E_iload dX12_whose_121 rfl ?_
          refine E_if_eq (tgt := 133) dX12_whose_123 (by decide) (fun h123 => ?_) (fun h123 => ?_)
          · refine E_iconst dX12_whose_133 (by decide) ?_
            refine E_ior dX12_whose_134 ?_
            refine E_istore_n dX12_whose_135 rfl (by decide) ?_
            try dsimp only [List.set]
            refine E_iinc dX12_whose_136 rfl (by omega) (by omega) (by decide) rfl (by decide) ?_
            try dsimp only [List.set]
            refine E_goto (tgt := 47) dX12_whose_139 (by decide) ?_
            exact EV.lq (by simp only [fBits]; rw [if_neg (by unfold fWh cHu; simp only [decide_eq_true_eq]; omega), bOr_0 hfr.1 hfr.2]; rfl) (ih (r + 1) _ _ (by omega))
          · exfalso; omega
        · refine E_aload_n dX12_whose_84 rfl ?_
          refine g_X12_19 rfl dX12_whose_85 hO.o hO.court ?_
          refine E_bipush dX12_whose_88 (by decide) ?_
          refine E_iconst dX12_whose_90 (by decide) ?_
          refine E_iload dX12_whose_91 rfl ?_
          refine E_imul dX12_whose_93 (by omega) (by omega) ?_
          refine E_iadd dX12_whose_94 (by omega) (by omega) ?_
          refine E_iconst dX12_whose_95 (by decide) ?_
          refine E_iadd dX12_whose_96 (by omega) (by omega) ?_
          refine E_iald dX12_whose_97 hO.s_court (by omega) (by omega) (hQ.at (j := 29 + 3 * cd (88 + 6 * ↑r)) (by omega) (by omega) (by omega)) ?_
          refine E_iload_n dX12_whose_98 rfl ?_
          refine E_icmp_ne (tgt := 117) dX12_whose_99 (by decide) (fun h99 => ?_) (fun h99 => ?_)
          · refine E_iconst dX12_whose_117 (by decide) ?_
            refine E_istore dX12_whose_118 rfl (by decide) ?_
            try dsimp only [List.set]
            refine E_iload_n dX12_whose_120 rfl ?_
            refine E_iload dX12_whose_121 rfl ?_
            refine E_if_eq (tgt := 133) dX12_whose_123 (by decide) (fun h123 => ?_) (fun h123 => ?_)
            · refine E_iconst dX12_whose_133 (by decide) ?_
              refine E_ior dX12_whose_134 ?_
              refine E_istore_n dX12_whose_135 rfl (by decide) ?_
              try dsimp only [List.set]
              refine E_iinc dX12_whose_136 rfl (by omega) (by omega) (by decide) rfl (by decide) ?_
              try dsimp only [List.set]
              refine E_goto (tgt := 47) dX12_whose_139 (by decide) ?_
              exact EV.lq (by simp only [fBits]; rw [if_neg (by unfold fWh cHu; simp only [decide_eq_true_eq]; omega), bOr_0 hfr.1 hfr.2]; rfl) (ih (r + 1) _ _ (by omega))
            · exfalso; omega
          · refine E_aload_n dX12_whose_102 rfl ?_
            refine E_iload dX12_whose_103 rfl ?_
            refine E_iconst dX12_whose_105 (by decide) ?_
            refine i_X12_202 rfl dX12_whose_106 (by exact hO.o) (c_of hO hQ (j := 87 + 6 * ↑r) (by omega) (by omega) (by omega)) (by omega) (Nat.le_of_ble_eq_true rfl) rfl rfl ?_
            rintro _ _ ⟨rfl, rfl⟩
            try dsimp only [pu]
            refine E_iconst dX12_whose_109 (by decide) ?_
            refine E_icmp_gt (tgt := 117) dX12_whose_110 (by decide) (fun h110 => ?_) (fun h110 => ?_)
            · refine E_iconst dX12_whose_117 (by decide) ?_
              refine E_istore dX12_whose_118 rfl (by decide) ?_
              try dsimp only [List.set]
              refine E_iload_n dX12_whose_120 rfl ?_
              refine E_iload dX12_whose_121 rfl ?_
              refine E_if_eq (tgt := 133) dX12_whose_123 (by decide) (fun h123 => ?_) (fun h123 => ?_)
              · refine E_iconst dX12_whose_133 (by decide) ?_
                refine E_ior dX12_whose_134 ?_
                refine E_istore_n dX12_whose_135 rfl (by decide) ?_
                try dsimp only [List.set]
                refine E_iinc dX12_whose_136 rfl (by omega) (by omega) (by decide) rfl (by decide) ?_
                try dsimp only [List.set]
                refine E_goto (tgt := 47) dX12_whose_139 (by decide) ?_
                exact EV.lq (by simp only [fBits]; rw [if_neg (by unfold fWh cHu; simp only [decide_eq_true_eq]; omega), bOr_0 hfr.1 hfr.2]; rfl) (ih (r + 1) _ _ (by omega))
              · exfalso; omega
            · refine E_iconst dX12_whose_113 (by decide) ?_
              refine E_goto (tgt := 118) dX12_whose_114 (by decide) ?_
              refine E_istore dX12_whose_118 rfl (by decide) ?_
              try dsimp only [List.set]
              refine E_iload_n dX12_whose_120 rfl ?_
              refine E_iload dX12_whose_121 rfl ?_
              refine E_if_eq (tgt := 133) dX12_whose_123 (by decide) (fun h123 => ?_) (fun h123 => ?_)
              · exfalso; omega
              · refine E_iconst dX12_whose_126 (by decide) ?_
                refine E_iload dX12_whose_127 rfl ?_
                refine E_ishl dX12_whose_129 ?_
                refine E_goto (tgt := 134) dX12_whose_130 (by decide) ?_
                refine E_ior dX12_whose_134 ?_
                refine E_istore_n dX12_whose_135 rfl (by decide) ?_
                try dsimp only [List.set]
                refine E_iinc dX12_whose_136 rfl (by omega) (by omega) (by decide) rfl (by decide) ?_
                try dsimp only [List.set]
                refine E_goto (tgt := 47) dX12_whose_139 (by decide) ?_
                exact EV.lq (by simp only [fBits]; rw [if_pos (by unfold fWh cHu; simp only [decide_eq_true_eq]; omega)]; rfl) (ih (r + 1) _ _ (by omega))
set_option maxRecDepth 20000 in
set_option maxHeartbeats 3000000 in
theorem r_whose {G : Ctx} {M : Mem} {m : Nat} {A : AS} {B : Int} (hO : MO M m) (hV : MA (mI M) m A) (hG : GA A B) (hB : B ≤ 900000) {fl co : Int} (n : Nat) (hn : A 4 2 = n) : CT G m_X12_whose 2 0 0 [vR m, vI fl, vI co] M (rM M m (s_whose A fl co n) A) := by
  refine CT.of k_X12_whose 4 (ls := [some (vR m), some (vI fl), some (vI co), none, none, none, none]) rfl (Nat.le_of_ble_eq_true rfl) ?_
  refine E_aload_n dX12_whose_0 rfl ?_
  refine E_iconst dX12_whose_1 (by decide) ?_
  refine p_X12_53 rfl dX12_whose_2 hO.o ?_
  obtain ⟨M1, e1, hO, hV, hF⟩ := thr hO hV
  refine EV.mq rfl e1.symm ?_
  clear e1
  have hQ := hV.mc
  have hW := hG.w.c
  have hpn := hW.pn
  have hl8 := hW.ln
  have hr8 := hW.rn
  have hgg := hG.w.g
  have hth := hG.th
  refine E_aload_n dX12_whose_5 rfl ?_
  refine g_X12_192 rfl dX12_whose_6 hO.o (hV.2 7 (by unfold SJ; omega)) ?_
  refine E_if_ne (tgt := 15) dX12_whose_9 (by decide) (fun h9 => ?_) (fun h9 => ?_)
  · refine E_iload_n dX12_whose_15 rfl ?_
    refine E_i2l dX12_whose_16 ?_
    refine E_lconst (x := 0) dX12_whose_17 (by decide) ?_
    refine c_X12_263 rfl dX12_whose_18 ?_
    refine i_X12_63 rfl dX12_whose_21 c_in (by omega) (Nat.le_of_ble_eq_true rfl) rfl rfl ?_
    rintro _ _ ⟨rfl, rfl⟩
    try dsimp only [pu]
    refine E_if_eq (tgt := 39) dX12_whose_24 (by decide) (fun h24 => ?_) (fun h24 => ?_)
    · simp only [tB0, ne_eq, Bool.not_eq_false, Bool.not_eq_true, decide_eq_true_eq, decide_eq_false_iff_not, Classical.not_not] at h24
      refine c_X12_73 rfl dX12_whose_39 ?_
      refine E_iret dX12_whose_41 rfl ?_
      refine ⟨?_, hF, hV⟩
      congr 2; unfold s_whose; rw [if_neg (by omega), if_neg (by omega)]
    · simp only [tB0, ne_eq, Bool.not_eq_false, Bool.not_eq_true, decide_eq_true_eq, decide_eq_false_iff_not, Classical.not_not] at h24
      refine E_iload_n dX12_whose_27 rfl ?_
      refine E_i2l dX12_whose_28 ?_
      refine E_lconst (x := 0) dX12_whose_29 (by decide) ?_
      refine c_X12_265 rfl dX12_whose_30 ?_
      refine i_X12_63 rfl dX12_whose_33 c_in (by omega) (Nat.le_of_ble_eq_true rfl) rfl rfl ?_
      rintro _ _ ⟨rfl, rfl⟩
      try dsimp only [pu]
      refine E_if_ne (tgt := 42) dX12_whose_36 (by decide) (fun h36 => ?_) (fun h36 => ?_)
      · simp only [tB0, ne_eq, Bool.not_eq_false, Bool.not_eq_true, decide_eq_true_eq, decide_eq_false_iff_not, Classical.not_not] at h36
        refine E_iconst dX12_whose_42 (by decide) ?_
        refine E_istore_n dX12_whose_43 rfl (by decide) ?_
        try dsimp only [List.set]
        refine E_iconst dX12_whose_44 (by decide) ?_
        refine E_istore dX12_whose_45 rfl (by decide) ?_
        try dsimp only [List.set]
        refine EV.post (fun x M' hq => ?_) (l_rwhose hO hQ hW hG.w.hv n hn n 0 _ _ (by omega))
        obtain ⟨rfl, rfl⟩ := hq
        refine ⟨?_, hF, hV⟩
        congr 2; unfold s_whose; rw [if_neg (by omega), if_pos (by omega)]
      · simp only [tB0, ne_eq, Bool.not_eq_false, Bool.not_eq_true, decide_eq_true_eq, decide_eq_false_iff_not, Classical.not_not] at h36
        refine c_X12_73 rfl dX12_whose_39 ?_
        refine E_iret dX12_whose_41 rfl ?_
        refine ⟨?_, hF, hV⟩
        congr 2; unfold s_whose; rw [if_neg (by omega), if_neg (by omega)]
  · refine c_X12_208 rfl dX12_whose_12 ?_
    refine E_iret dX12_whose_14 rfl ?_
    refine ⟨?_, hF, hV⟩
    congr 2; unfold s_whose; rw [if_pos (by omega)]
set_option maxRecDepth 20000 in
set_option maxHeartbeats 3000000 in
theorem l_rc0 {G : Ctx} {M : Mem} {m : Nat} (hO : MO M m) {w : Int} {f : Int → Int} (hf : ∀ j, mI M (m + 1) j = f j) : ∀ (k r : Nat) , r + k = 8 → EV G m_X12_count 1 0 0 (rI M (cnt (fun r => decide (0 ≤ f r)) 8)) 58 [some (vR m), some (vI w), some (vI (cnt (fun r => decide (0 ≤ f r)) r)), some (vI (r : Int))] [] M := by
  intro k
  induction k with
  | zero =>
    intro r  hr
    obtain rfl : r = 8 := by omega
    refine E_iload_n dX12_count_58 rfl ?_
    refine E_bipush dX12_count_59 (by decide) ?_
    refine E_icmp_ge (tgt := 87) dX12_count_61 (by decide) (fun h61 => ?_) (fun h61 => ?_)
    · refine E_iload_n dX12_count_87 rfl ?_
      refine E_iret dX12_count_88 rfl ?_
      exact ⟨rfl, rfl⟩
    · exfalso; omega
  | succ k ih =>
    intro r  hr
    have hc := cnt_b (fun r => decide (0 ≤ f r)) r
    refine E_iload_n dX12_count_58 rfl ?_
    refine E_bipush dX12_count_59 (by decide) ?_
    refine E_icmp_ge (tgt := 87) dX12_count_61 (by decide) (fun h61 => ?_) (fun h61 => ?_)
    · exfalso; omega
    · refine E_iload_n dX12_count_64 rfl ?_
      refine E_aload_n dX12_count_65 rfl ?_
      refine g_X12_7 rfl dX12_count_66 hO.o hO.lane ?_
      refine E_iload_n dX12_count_69 rfl ?_
      refine E_iald dX12_count_70 hO.s_lane (by omega) (by omega) (hf _) ?_
      refine E_if_lt (tgt := 78) dX12_count_71 (by decide) (fun h71 => ?_) (fun h71 => ?_)
      · refine E_iconst dX12_count_78 (by decide) ?_
        refine E_iadd dX12_count_79 (by omega) (by omega) ?_
        refine E_istore_n dX12_count_80 rfl (by decide) ?_
        try dsimp only [List.set]
        refine E_iinc dX12_count_81 rfl (by omega) (by omega) (by decide) rfl (by decide) ?_
        try dsimp only [List.set]
        refine E_goto (tgt := 58) dX12_count_84 (by decide) ?_
        exact EV.lq (by simp only [cnt]; rw [decide_eq_false (by omega)]; rfl) (ih (r + 1) (by omega))
      · refine E_iconst dX12_count_74 (by decide) ?_
        refine E_goto (tgt := 79) dX12_count_75 (by decide) ?_
        refine E_iadd dX12_count_79 (by omega) (by omega) ?_
        refine E_istore_n dX12_count_80 rfl (by decide) ?_
        try dsimp only [List.set]
        refine E_iinc dX12_count_81 rfl (by omega) (by omega) (by decide) rfl (by decide) ?_
        try dsimp only [List.set]
        refine E_goto (tgt := 58) dX12_count_84 (by decide) ?_
        exact EV.lq (by simp only [cnt]; rw [decide_eq_true (by omega)]; rfl) (ih (r + 1) (by omega))
set_option maxRecDepth 20000 in
set_option maxHeartbeats 3000000 in
theorem l_rc4 {G : Ctx} {M : Mem} {m : Nat} {cd : CD} (hO : MO M m) (hQ : MC (mI M) m cd) (hW : WFc cd) {w : Int} (n : Nat) (hn : cd 2 = n) : ∀ (k r : Nat) , r + k = n → EV G m_X12_count 1 0 0 (rI M (cnt (fun p => decide (cHu cd p ≠ -1000000)) n)) 100 [some (vR m), some (vI w), some (vI (cnt (fun p => decide (cHu cd p ≠ -1000000)) r)), some (vI (r : Int))] [] M := by
  intro k
  induction k with
  | zero =>
    intro r  hr
    obtain rfl : r = n := by omega
    have hpn := hW.pn
    refine E_iload_n dX12_count_100 rfl ?_
    refine E_aload_n dX12_count_101 rfl ?_
    refine g_X12_19 rfl dX12_count_102 hO.o hO.court ?_
    refine E_iconst dX12_count_105 (by decide) ?_
    refine E_iald dX12_count_106 hO.s_court (by omega) (by omega) (hQ.at (j := 2) (by omega) (by omega) (by omega)) ?_
    refine E_icmp_ge (tgt := 135) dX12_count_107 (by decide) (fun h107 => ?_) (fun h107 => ?_)
    · refine E_iload_n dX12_count_135 rfl ?_
      refine E_iret dX12_count_136 rfl ?_
      exact ⟨rfl, rfl⟩
    · exfalso; omega
  | succ k ih =>
    intro r  hr
    have hpn := hW.pn
    have hc := cnt_b (fun p => decide (cHu cd p ≠ -1000000)) r
    refine E_iload_n dX12_count_100 rfl ?_
    refine E_aload_n dX12_count_101 rfl ?_
    refine g_X12_19 rfl dX12_count_102 hO.o hO.court ?_
    refine E_iconst dX12_count_105 (by decide) ?_
    refine E_iald dX12_count_106 hO.s_court (by omega) (by omega) (hQ.at (j := 2) (by omega) (by omega) (by omega)) ?_
    refine E_icmp_ge (tgt := 135) dX12_count_107 (by decide) (fun h107 => ?_) (fun h107 => ?_)
    · exfalso; omega
    · refine E_iload_n dX12_count_110 rfl ?_
      refine E_aload_n dX12_count_111 rfl ?_
      refine E_iload_n dX12_count_112 rfl ?_
      refine E_iconst dX12_count_113 (by decide) ?_
      refine i_X12_202 rfl dX12_count_114 (by exact hO.o) (c_of hO hQ (j := 88 + 6 * ↑r) (by omega) (by omega) (by omega)) (by omega) (Nat.le_of_ble_eq_true rfl) rfl rfl ?_
      rintro _ _ ⟨rfl, rfl⟩
      try dsimp only [pu]
      refine c_X12_89 rfl dX12_count_117 ?_
      refine E_icmp_eq (tgt := 126) dX12_count_119 (by decide) (fun h119 => ?_) (fun h119 => ?_)
      · refine E_iconst dX12_count_126 (by decide) ?_
        refine E_iadd dX12_count_127 (by omega) (by omega) ?_
        refine E_istore_n dX12_count_128 rfl (by decide) ?_
        try dsimp only [List.set]
        refine E_iinc dX12_count_129 rfl (by omega) (by omega) (by decide) rfl (by decide) ?_
        try dsimp only [List.set]
        refine E_goto (tgt := 100) dX12_count_132 (by decide) ?_
        exact EV.lq (by simp only [cnt]; rw [decide_eq_false (by unfold cHu; omega)]; rfl) (ih (r + 1) (by omega))
      · refine E_iconst dX12_count_122 (by decide) ?_
        refine E_goto (tgt := 127) dX12_count_123 (by decide) ?_
        refine E_iadd dX12_count_127 (by omega) (by omega) ?_
        refine E_istore_n dX12_count_128 rfl (by decide) ?_
        try dsimp only [List.set]
        refine E_iinc dX12_count_129 rfl (by omega) (by omega) (by decide) rfl (by decide) ?_
        try dsimp only [List.set]
        refine E_goto (tgt := 100) dX12_count_132 (by decide) ?_
        exact EV.lq (by simp only [cnt]; rw [decide_eq_true (by unfold cHu; omega)]; rfl) (ih (r + 1) (by omega))
theorem sSt_b {sn : Int → Int} : ∀ n : Nat, (∀ p : Int, 0 ≤ p → p < n → sn p = 0 ∨ sn p = 1) → 0 ≤ sSt sn n ∧ sSt sn n ≤ n
  | 0, _ => by simp [sSt]
  | n + 1, h => by
    have ih := sSt_b n (fun p p0 p1 => h p p0 (by omega))
    have h0 := h n (by omega) (by omega)
    simp only [sSt]; omega
theorem sSt_f {sn : Int → Int} : ∀ n : Nat, (∀ p : Int, 0 ≤ p → p < n → sn p = 0 ∨ sn p = 1) → fSt sn n = sSt sn n
  | 0, _ => rfl
  | n + 1, h => by
    have ih := sSt_f n (fun p p0 p1 => h p p0 (by omega))
    have h0 := h n (by omega) (by omega)
    simp only [sSt, fSt, ih]; split <;> omega
set_option maxRecDepth 20000 in
set_option maxHeartbeats 3000000 in
theorem l_rc5 {G : Ctx} {M : Mem} {m : Nat} {cd : CD} (hO : MO M m) (hQ : MC (mI M) m cd) (hW : WFc cd) {w : Int} (n : Nat) (hn : cd 2 = n) (hs : ∀ p : Int, 0 ≤ p → p < n → cSn cd p = 0 ∨ cSn cd p = 1) : ∀ (k r : Nat) , r + k = n → EV G m_X12_count 1 0 0 (rI M (sSt (cSn cd) n)) 139 [some (vR m), some (vI w), some (vI (sSt (cSn cd) r)), some (vI (r : Int))] [] M := by
  intro k
  induction k with
  | zero =>
    intro r  hr
    obtain rfl : r = n := by omega
    have hpn := hW.pn
    refine E_iload_n dX12_count_139 rfl ?_
    refine E_aload_n dX12_count_140 rfl ?_
    refine g_X12_19 rfl dX12_count_141 hO.o hO.court ?_
    refine E_iconst dX12_count_144 (by decide) ?_
    refine E_iald dX12_count_145 hO.s_court (by omega) (by omega) (hQ.at (j := 2) (by omega) (by omega) (by omega)) ?_
    refine E_icmp_ge (tgt := 164) dX12_count_146 (by decide) (fun h146 => ?_) (fun h146 => ?_)
    · refine E_iload_n dX12_count_164 rfl ?_
      refine E_iret dX12_count_165 rfl ?_
      exact ⟨rfl, rfl⟩
    · exfalso; omega
  | succ k ih =>
    intro r  hr
    have hpn := hW.pn
    have hc := sSt_b (sn := cSn cd) r (fun p p0 p1 => hs p p0 (by omega))
    have hz : cd (89 + 6 * r) = 0 ∨ cd (89 + 6 * r) = 1 := hs r (by omega) (by omega)
    refine E_iload_n dX12_count_139 rfl ?_
    refine E_aload_n dX12_count_140 rfl ?_
    refine g_X12_19 rfl dX12_count_141 hO.o hO.court ?_
    refine E_iconst dX12_count_144 (by decide) ?_
    refine E_iald dX12_count_145 hO.s_court (by omega) (by omega) (hQ.at (j := 2) (by omega) (by omega) (by omega)) ?_
    refine E_icmp_ge (tgt := 164) dX12_count_146 (by decide) (fun h146 => ?_) (fun h146 => ?_)
    · exfalso; omega
    · refine E_iload_n dX12_count_149 rfl ?_
      refine E_aload_n dX12_count_150 rfl ?_
      refine E_iload_n dX12_count_151 rfl ?_
      refine E_iconst dX12_count_152 (by decide) ?_
      refine i_X12_202 rfl dX12_count_153 (by exact hO.o) (c_of hO hQ (j := 89 + 6 * ↑r) (by omega) (by omega) (by omega)) (by omega) (Nat.le_of_ble_eq_true rfl) rfl rfl ?_
      rintro _ _ ⟨rfl, rfl⟩
      try dsimp only [pu]
      refine E_iadd dX12_count_156 (by omega) (by omega) ?_
      refine E_istore_n dX12_count_157 rfl (by decide) ?_
      try dsimp only [List.set]
      refine E_iinc dX12_count_158 rfl (by omega) (by omega) (by decide) rfl (by decide) ?_
      try dsimp only [List.set]
      refine E_goto (tgt := 139) dX12_count_161 (by decide) ?_
      exact EV.lq rfl (ih (r + 1) (by omega))
set_option maxRecDepth 20000 in
set_option maxHeartbeats 3000000 in
theorem r_count {G : Ctx} {M : Mem} {m : Nat} {A : AS} {B : Int} (hO : MO M m) (hV : MA (mI M) m A) (hG : GA A B) (hB : B ≤ 900000) {w : Int} (n : Nat) (hn : A 4 2 = n) : CT G m_X12_count 1 0 0 [vR m, vI w] M (rM M m (s_count A w n) A) := by
  refine CT.of k_X12_count 2 (ls := [some (vR m), some (vI w), none, none]) rfl (Nat.le_of_ble_eq_true rfl) ?_
  refine E_aload_n dX12_count_0 rfl ?_
  refine E_iconst dX12_count_1 (by decide) ?_
  refine p_X12_53 rfl dX12_count_2 hO.o ?_
  obtain ⟨M1, e1, hO, hV, hF⟩ := thr hO hV
  refine EV.mq rfl e1.symm ?_
  clear e1
  have hQ := hV.mc
  have hW := hG.w.c
  have hpn := hW.pn
  have hl8 := hW.ln
  have hr8 := hW.rn
  have hgg := hG.w.g
  have hth := hG.th
  refine E_iconst dX12_count_5 (by decide) ?_
  refine E_istore_n dX12_count_6 rfl (by decide) ?_
  try dsimp only [List.set]
  refine E_iload_n dX12_count_7 rfl ?_
  by_cases q8_0 : w = 0
  · refine E_tabIn (off := 48) (tgt := 56) dX12_count_8 (by omega) (by omega) (by rw [q8_0]; rfl) (by decide) ?_
    refine E_iconst dX12_count_56 (by decide) ?_
    refine E_istore_n dX12_count_57 rfl (by decide) ?_
    try dsimp only [List.set]
    refine EV.post (fun x M' hq => ?_) (l_rc0 hO (fun j => hV.1 1 j (by unfold SA; omega)) 8 0 (by omega))
    obtain ⟨rfl, rfl⟩ := hq
    refine ⟨?_, hF, hV⟩
    congr 2; unfold s_count; rw [if_pos (by omega), if_pos (by omega)]
  by_cases q8_1 : w = 1
  · refine E_tabIn (off := 81) (tgt := 89) dX12_count_8 (by omega) (by omega) (by rw [q8_1]; rfl) (by decide) ?_
    refine E_aload_n dX12_count_89 rfl ?_
    refine g_X12_19 rfl dX12_count_90 hO.o hO.court ?_
    refine E_iload_n dX12_count_93 rfl ?_
    refine E_iconst dX12_count_94 (by decide) ?_
    refine E_isub dX12_count_95 (by omega) (by omega) ?_
    refine E_iald dX12_count_96 hO.s_court (by omega) (by omega) (hQ.at (j := w - 1) (by omega) (by omega) (by omega)) ?_
    refine E_iret dX12_count_97 rfl ?_
    refine ⟨?_, hF, hV⟩
    congr 2; unfold s_count; rw [if_pos (by omega), if_neg (by omega), if_pos (by omega)]
  by_cases q8_2 : w = 2
  · refine E_tabIn (off := 81) (tgt := 89) dX12_count_8 (by omega) (by omega) (by rw [q8_2]; rfl) (by decide) ?_
    refine E_aload_n dX12_count_89 rfl ?_
    refine g_X12_19 rfl dX12_count_90 hO.o hO.court ?_
    refine E_iload_n dX12_count_93 rfl ?_
    refine E_iconst dX12_count_94 (by decide) ?_
    refine E_isub dX12_count_95 (by omega) (by omega) ?_
    refine E_iald dX12_count_96 hO.s_court (by omega) (by omega) (hQ.at (j := w - 1) (by omega) (by omega) (by omega)) ?_
    refine E_iret dX12_count_97 rfl ?_
    refine ⟨?_, hF, hV⟩
    congr 2; unfold s_count; rw [if_pos (by omega), if_neg (by omega), if_pos (by omega)]
  by_cases q8_3 : w = 3
  · refine E_tabIn (off := 81) (tgt := 89) dX12_count_8 (by omega) (by omega) (by rw [q8_3]; rfl) (by decide) ?_
    refine E_aload_n dX12_count_89 rfl ?_
    refine g_X12_19 rfl dX12_count_90 hO.o hO.court ?_
    refine E_iload_n dX12_count_93 rfl ?_
    refine E_iconst dX12_count_94 (by decide) ?_
    refine E_isub dX12_count_95 (by omega) (by omega) ?_
    refine E_iald dX12_count_96 hO.s_court (by omega) (by omega) (hQ.at (j := w - 1) (by omega) (by omega) (by omega)) ?_
    refine E_iret dX12_count_97 rfl ?_
    refine ⟨?_, hF, hV⟩
    congr 2; unfold s_count; rw [if_pos (by omega), if_neg (by omega), if_pos (by omega)]
  by_cases q8_4 : w = 4
  · refine E_tabIn (off := 90) (tgt := 98) dX12_count_8 (by omega) (by omega) (by rw [q8_4]; rfl) (by decide) ?_
    refine E_iconst dX12_count_98 (by decide) ?_
    refine E_istore_n dX12_count_99 rfl (by decide) ?_
    try dsimp only [List.set]
    refine EV.post (fun x M' hq => ?_) (l_rc4 hO hQ hW n hn n 0 (by omega))
    obtain ⟨rfl, rfl⟩ := hq
    refine ⟨?_, hF, hV⟩
    congr 2; unfold s_count; rw [if_pos (by omega), if_neg (by omega), if_neg (by omega), if_pos (by omega)]
  by_cases q8_5 : w = 5
  · refine E_tabIn (off := 129) (tgt := 137) dX12_count_8 (by omega) (by omega) (by rw [q8_5]; rfl) (by decide) ?_
    refine E_iconst dX12_count_137 (by decide) ?_
    refine E_istore_n dX12_count_138 rfl (by decide) ?_
    try dsimp only [List.set]
    refine EV.post (fun x M' hq => ?_) (l_rc5 hO hQ hW n hn (fun p p0 p1 => hG.w.sn p p0 (by omega)) n 0 (by omega))
    obtain ⟨rfl, rfl⟩ := hq
    refine ⟨?_, hF, hV⟩
    congr 2; unfold s_count; rw [if_pos (by omega), if_neg (by omega), if_neg (by omega), if_neg (by omega), if_pos (by omega)]
  by_cases q8_6 : w = 6
  · refine E_tabIn (off := 158) (tgt := 166) dX12_count_8 (by omega) (by omega) (by rw [q8_6]; rfl) (by decide) ?_
    refine E_aload_n dX12_count_166 rfl ?_
    refine g_X12_19 rfl dX12_count_167 hO.o hO.court ?_
    refine E_iconst dX12_count_170 (by decide) ?_
    refine E_iald dX12_count_171 hO.s_court (by omega) (by omega) (hQ.at (j := 3) (by omega) (by omega) (by omega)) ?_
    refine E_iret dX12_count_172 rfl ?_
    refine ⟨?_, hF, hV⟩
    congr 2; unfold s_count; rw [if_pos (by omega), if_neg (by omega), if_neg (by omega), if_neg (by omega), if_neg (by omega), if_pos (by omega)]
  by_cases q8_7 : w = 7
  · refine E_tabIn (off := 165) (tgt := 173) dX12_count_8 (by omega) (by omega) (by rw [q8_7]; rfl) (by decide) ?_
    refine E_aload_n dX12_count_173 rfl ?_
    refine g_X12_80 rfl dX12_count_174 hO.o (hV.2 9 (by unfold SJ; omega)) ?_
    refine E_iret dX12_count_177 rfl ?_
    refine ⟨?_, hF, hV⟩
    congr 2; unfold s_count; rw [if_pos (by omega), if_neg (by omega), if_neg (by omega), if_neg (by omega), if_neg (by omega), if_neg (by omega)]
  refine E_tabOut (tgt := 178) dX12_count_8 (by omega) (by decide) ?_
  refine c_X12_73 rfl dX12_count_178 ?_
  refine E_iret dX12_count_180 rfl ?_
  refine ⟨?_, hF, hV⟩
  congr 2; unfold s_count; rw [if_neg (by omega)]
def bc1 (x : Int) : Int := x - bAnd (bUshr x 1) 1431655765
def bc2 (x : Int) : Int := bAnd x 858993459 + bAnd (bUshr x 2) 858993459
def bc3 (x : Int) : Int := bAnd (x + bUshr x 4) 252645135
def bc4 (x : Int) : Int := x + bUshr x 8
def bc5 (x : Int) : Int := x + bUshr x 16
def bcR (x : Int) : Bool := decide (-100000 ≤ x ∧ x ≤ 100000)
def bcA (x : Int) : Bool := bcR (bc1 x) && bcR (bAnd (bc1 x) 858993459) && bcR (bAnd (bUshr (bc1 x) 2) 858993459) && bcR (bc2 (bc1 x)) && bcR (bc2 (bc1 x) + bUshr (bc2 (bc1 x)) 4) && bcR (bc4 (bc3 (bc2 (bc1 x)))) && bcR (bc5 (bc4 (bc3 (bc2 (bc1 x)))))
theorem bcA_ok : ∀ x : Nat, x < 1024 → bcA x = true ∧ bAnd (bc5 (bc4 (bc3 (bc2 (bc1 x))))) 63 = cnt (fun p => Nat.testBit x p) 10 := by decide +kernel
theorem bcR_of {x : Int} (h : bcR x = true) : -100000 ≤ x ∧ x ≤ 100000 := of_decide_eq_true h
theorem cnt_lt (b : Nat → Bool) (n : Nat) : ∀ k : Nat, cnt (fun p => decide (p < n) && b p) (n + k) = cnt b n := by
  have h : ∀ m, m ≤ n → cnt (fun p => decide (p < n) && b p) m = cnt b m := by
    intro m
    induction m with
    | zero => intro _; rfl
    | succ m ih => intro hm; simp only [cnt]; rw [ih (by omega), decide_eq_true (by omega), Bool.true_and]
  intro k
  induction k with
  | zero => exact h n (Nat.le_refl n)
  | succ k ih =>
    show cnt _ (n + k) + _ = _
    rw [ih, decide_eq_false (by omega), Bool.false_and]
    show _ + 0 = _
    omega
theorem fHu_bs (hu : Int → Int) : ∀ n : Nat, n ≤ 10 → BS (fHu hu n) n (fun p => decide (hu p ≠ -1000000))
  | 0, _ => BS.nil _
  | n + 1, h => by
    have ih := fHu_bs hu n (by omega)
    simp only [fHu]
    by_cases hz : hu n ≠ -1000000
    · rw [if_pos hz]; exact ih.add (by omega) (decide_eq_true hz)
    · rw [if_neg hz]; exact ih.skip (decide_eq_false hz)
theorem bits_cnt {s : Int} {n : Nat} {b : Nat → Bool} (h : BS s n b) (hn : n ≤ 10) : ∃ x : Nat, s = x ∧ x < 1024 ∧ cnt (fun p => Nat.testBit x p) 10 = cnt b n := by
  obtain ⟨x, rfl, hx, ht⟩ := h
  refine ⟨x, rfl, ?_, ?_⟩
  · have : x < 2 ^ 10 := Nat.lt_pow_two_of_testBit x (fun i hi => by rw [ht i, decide_eq_false (by omega), Bool.false_and])
    exact this
  · rw [show (fun p => Nat.testBit x p) = (fun p => decide (p < n) && b p) from funext ht]
    have e : (10 : Nat) = n + (10 - n) := by omega
    rw [e]; exact cnt_lt b n (10 - n)
set_option maxRecDepth 20000 in
set_option maxHeartbeats 3000000 in
theorem c_bitCount {G : Ctx} {M : Mem} {s : Int} {n : Nat} {b : Nat → Bool} (h : BS s n b) (hn : n ≤ 10) : CT G m_J6_bitCount_0f7a4 0 0 0 [vI s] M (rI M (cnt b n)) := by
  refine CT.of k_J6_bitCount_0f7a4 0 (ls := [some (vI s)]) rfl (Nat.le_of_ble_eq_true rfl) ?_
  obtain ⟨x, rfl, hx, hc⟩ := bits_cnt h hn
  obtain ⟨h1, h2⟩ := bcA_ok x hx
  unfold bcA at h1
  simp only [Bool.and_eq_true] at h1
  obtain ⟨⟨⟨⟨⟨⟨a1, a2⟩, a3⟩, a4⟩, a5⟩, a6⟩, a7⟩ := h1
  have a1 := bcR_of a1
  have a2 := bcR_of a2
  have a3 := bcR_of a3
  have a4 := bcR_of a4
  have a5 := bcR_of a5
  have a6 := bcR_of a6
  have a7 := bcR_of a7
  unfold bc5 at a7 h2
  unfold bc4 at a6 a7 h2
  unfold bc3 at a6 a7 h2
  unfold bc2 at a4 a5 a6 a7 h2
  unfold bc1 at a1 a2 a3 a4 a5 a6 a7 h2
  refine E_iload_n dJ6_bitCount_0f7a4_0 rfl ?_
  refine E_iload_n dJ6_bitCount_0f7a4_1 rfl ?_
  refine E_iconst dJ6_bitCount_0f7a4_2 (by decide) ?_
  refine E_iushr dJ6_bitCount_0f7a4_3 ?_
  refine c_J6_265 rfl dJ6_bitCount_0f7a4_4 ?_
  refine E_iand dJ6_bitCount_0f7a4_7 ?_
  refine E_isub dJ6_bitCount_0f7a4_8 (by omega) (by omega) ?_
  refine E_istore_n dJ6_bitCount_0f7a4_9 rfl (by decide) ?_
  try dsimp only [List.set]
  refine E_iload_n dJ6_bitCount_0f7a4_10 rfl ?_
  refine c_J6_266 rfl dJ6_bitCount_0f7a4_11 ?_
  refine E_iand dJ6_bitCount_0f7a4_14 ?_
  refine E_iload_n dJ6_bitCount_0f7a4_15 rfl ?_
  refine E_iconst dJ6_bitCount_0f7a4_16 (by decide) ?_
  refine E_iushr dJ6_bitCount_0f7a4_17 ?_
  refine c_J6_266 rfl dJ6_bitCount_0f7a4_18 ?_
  refine E_iand dJ6_bitCount_0f7a4_21 ?_
  refine E_iadd dJ6_bitCount_0f7a4_22 (by omega) (by omega) ?_
  refine E_istore_n dJ6_bitCount_0f7a4_23 rfl (by decide) ?_
  try dsimp only [List.set]
  refine E_iload_n dJ6_bitCount_0f7a4_24 rfl ?_
  refine E_iload_n dJ6_bitCount_0f7a4_25 rfl ?_
  refine E_iconst dJ6_bitCount_0f7a4_26 (by decide) ?_
  refine E_iushr dJ6_bitCount_0f7a4_27 ?_
  refine E_iadd dJ6_bitCount_0f7a4_28 (by omega) (by omega) ?_
  refine c_J6_267 rfl dJ6_bitCount_0f7a4_29 ?_
  refine E_iand dJ6_bitCount_0f7a4_32 ?_
  refine E_istore_n dJ6_bitCount_0f7a4_33 rfl (by decide) ?_
  try dsimp only [List.set]
  refine E_iload_n dJ6_bitCount_0f7a4_34 rfl ?_
  refine E_iload_n dJ6_bitCount_0f7a4_35 rfl ?_
  refine E_bipush dJ6_bitCount_0f7a4_36 (by decide) ?_
  refine E_iushr dJ6_bitCount_0f7a4_38 ?_
  refine E_iadd dJ6_bitCount_0f7a4_39 (by omega) (by omega) ?_
  refine E_istore_n dJ6_bitCount_0f7a4_40 rfl (by decide) ?_
  try dsimp only [List.set]
  refine E_iload_n dJ6_bitCount_0f7a4_41 rfl ?_
  refine E_iload_n dJ6_bitCount_0f7a4_42 rfl ?_
  refine E_bipush dJ6_bitCount_0f7a4_43 (by decide) ?_
  refine E_iushr dJ6_bitCount_0f7a4_45 ?_
  refine E_iadd dJ6_bitCount_0f7a4_46 (by omega) (by omega) ?_
  refine E_istore_n dJ6_bitCount_0f7a4_47 rfl (by decide) ?_
  try dsimp only [List.set]
  refine E_iload_n dJ6_bitCount_0f7a4_48 rfl ?_
  refine E_bipush dJ6_bitCount_0f7a4_49 (by decide) ?_
  refine E_iand dJ6_bitCount_0f7a4_51 ?_
  refine E_iret dJ6_bitCount_0f7a4_52 rfl ?_
  exact ⟨by rw [← hc, ← h2], rfl⟩
set_option maxRecDepth 20000 in
set_option maxHeartbeats 3000000 in
theorem x_count {G : Ctx} {M : Mem} {A : AS} {B : Int} (hI : CI M A) (hG : GA A B) (hB : B ≤ 900000) {w : Int} (n : Nat) (hn : A 4 2 = n) : CT G m_X11_count 2 0 0 [vR 21, vI w] M (xM M (s_count A w n) (A)) := by
  refine CT.of k_X11_count 0 (ls := [some (vR 21), some (vI w)]) rfl (Nat.le_of_ble_eq_true rfl) ?_
  obtain ⟨hX, hN, hR, hT, hK, hS, hW0, hW1, hW2⟩ := id hI
  obtain ⟨a, hRc, hC, ha, haN, hD, hH, hE, hSn, hg, hZ⟩ := hW0
  have hW := hG.w.c
  have hpn := hW.pn
  have hl8 := hW.ln
  have hr8 := hW.rn
  have hgg := hG.w.g
  have hth := hG.th
  have hV := hG.w.hv
  refine E_iload_n dX11_count_0 rfl ?_
  by_cases q1_0 : w = 0
  · refine E_tabIn (off := 47) (tgt := 48) dX11_count_1 (by omega) (by omega) (by rw [q1_0]; rfl) (by decide) ?_
    refine E_aload_n dX11_count_48 rfl ?_
    refine g_X11_10 rfl dX11_count_49 hX.o hX.rows ?_
    refine i_X11_302 rfl dX11_count_52 (by exact hX.rp.o) (c_howMany (by exact hX.rp) (fun k k0 k1 => (hR k k0 k1).1) (fun k k0 k1 => (hG.ln k0 k1).1)) (by omega) (Nat.le_of_ble_eq_true rfl) rfl rfl ?_
    rintro _ _ ⟨rfl, rfl⟩
    try dsimp only [pu]
    refine E_iret dX11_count_55 rfl ?_
    refine ⟨?_, ?_, (FX.rfl' M)⟩
    · congr 2; unfold s_count; rw [if_pos (by omega), if_pos (by omega)]; try rfl
    · exact hI
  by_cases q1_1 : w = 1
  · refine E_tabIn (off := 55) (tgt := 56) dX11_count_1 (by omega) (by omega) (by rw [q1_1]; rfl) (by decide) ?_
    refine E_aload_n dX11_count_56 rfl ?_
    refine g_X11_48 rfl dX11_count_57 hX.o hX.wash ?_
    refine g_X11_168 rfl dX11_count_60 hX.w0.o hRc ?_
    refine g_X11_131 rfl dX11_count_63 hC.o hD.lnc ?_
    refine E_iret dX11_count_66 rfl ?_
    refine ⟨?_, hI, FX.rfl' M⟩
    congr 2; unfold s_count; rw [if_pos (by omega), if_neg (by omega), if_pos (by omega), q1_1]; rfl
  by_cases q1_2 : w = 2
  · refine E_tabIn (off := 66) (tgt := 67) dX11_count_1 (by omega) (by omega) (by rw [q1_2]; rfl) (by decide) ?_
    refine E_aload_n dX11_count_67 rfl ?_
    refine g_X11_48 rfl dX11_count_68 hX.o hX.wash ?_
    refine g_X11_168 rfl dX11_count_71 hX.w0.o hRc ?_
    refine g_X11_305 rfl dX11_count_74 hC.o hD.rnc ?_
    refine E_iret dX11_count_77 rfl ?_
    refine ⟨?_, hI, FX.rfl' M⟩
    congr 2; unfold s_count; rw [if_pos (by omega), if_neg (by omega), if_pos (by omega), q1_2]; rfl
  by_cases q1_3 : w = 3
  · refine E_tabIn (off := 77) (tgt := 78) dX11_count_1 (by omega) (by omega) (by rw [q1_3]; rfl) (by decide) ?_
    refine E_aload_n dX11_count_78 rfl ?_
    refine g_X11_48 rfl dX11_count_79 hX.o hX.wash ?_
    refine g_X11_168 rfl dX11_count_82 hX.w0.o hRc ?_
    refine g_X11_172 rfl dX11_count_85 hC.o hD.pnc ?_
    refine E_iret dX11_count_88 rfl ?_
    refine ⟨?_, hI, FX.rfl' M⟩
    congr 2; unfold s_count; rw [if_pos (by omega), if_neg (by omega), if_pos (by omega), q1_3]; rfl
  by_cases q1_4 : w = 4
  · refine E_tabIn (off := 88) (tgt := 89) dX11_count_1 (by omega) (by omega) (by rw [q1_4]; rfl) (by decide) ?_
    refine E_aload_n dX11_count_89 rfl ?_
    refine g_X11_48 rfl dX11_count_90 hX.o hX.wash ?_
    refine i_X11_186 rfl dX11_count_93 (by exact hX.w0.o) (c_hungBits (by exact hX.w0) hRc hC hD hW hV hH n hn) (by omega) (Nat.le_of_ble_eq_true rfl) rfl rfl ?_
    rintro _ _ ⟨rfl, rfl⟩
    try dsimp only [pu]
    refine i_X11_190 rfl dX11_count_96 (c_bitCount (fHu_bs (cHu (A 4)) n (by omega)) (by omega)) (by omega) (Nat.le_of_ble_eq_true rfl) rfl rfl ?_
    rintro _ _ ⟨rfl, rfl⟩
    try dsimp only [pu]
    refine E_iret dX11_count_99 rfl ?_
    refine ⟨?_, ?_, (FX.rfl' M)⟩
    · congr 2; unfold s_count; rw [if_pos (by omega), if_neg (by omega), if_neg (by omega), if_pos (by omega)]; try rfl
    · exact hI
  by_cases q1_5 : w = 5
  · refine E_tabIn (off := 99) (tgt := 100) dX11_count_1 (by omega) (by omega) (by rw [q1_5]; rfl) (by decide) ?_
    refine E_aload_n dX11_count_100 rfl ?_
    refine g_X11_48 rfl dX11_count_101 hX.o hX.wash ?_
    refine i_X11_308 rfl dX11_count_104 (by exact hX.w0.o) (c_howManyStained (by exact hX.w0) hRc hC hD hW hSn n hn) (by omega) (Nat.le_of_ble_eq_true rfl) rfl rfl ?_
    rintro _ _ ⟨rfl, rfl⟩
    try dsimp only [pu]
    refine E_iret dX11_count_107 rfl ?_
    refine ⟨?_, hI, FX.rfl' M⟩
    congr 2; unfold s_count; rw [if_pos (by omega), if_neg (by omega), if_neg (by omega), if_neg (by omega), if_pos (by omega)]; exact sSt_f n (fun p p0 p1 => hG.w.sn p p0 (by omega))
  by_cases q1_6 : w = 6
  · refine E_tabIn (off := 107) (tgt := 108) dX11_count_1 (by omega) (by omega) (by rw [q1_6]; rfl) (by decide) ?_
    refine E_aload_n dX11_count_108 rfl ?_
    refine g_X11_48 rfl dX11_count_109 hX.o hX.wash ?_
    refine g_X11_165 rfl dX11_count_112 hX.w0.o hg ?_
    refine E_iret dX11_count_115 rfl ?_
    refine ⟨?_, ?_, (FX.rfl' M)⟩
    · congr 2; unfold s_count; rw [if_pos (by omega), if_neg (by omega), if_neg (by omega), if_neg (by omega), if_neg (by omega), if_pos (by omega)]; try rfl
    · exact hI
  by_cases q1_7 : w = 7
  · refine E_tabIn (off := 115) (tgt := 116) dX11_count_1 (by omega) (by omega) (by rw [q1_7]; rfl) (by decide) ?_
    refine E_aload_n dX11_count_116 rfl ?_
    refine g_X11_19 rfl dX11_count_117 hX.o hX.reader ?_
    refine g_X11_311 rfl dX11_count_120 hX.rq.o hT.1 ?_
    refine E_iret dX11_count_123 rfl ?_
    refine ⟨?_, ?_, (FX.rfl' M)⟩
    · congr 2; unfold s_count; rw [if_pos (by omega), if_neg (by omega), if_neg (by omega), if_neg (by omega), if_neg (by omega), if_neg (by omega)]; try rfl
    · exact hI
  refine E_tabOut (tgt := 124) dX11_count_1 (by omega) (by decide) ?_
  refine c_X11_72 rfl dX11_count_124 ?_
  refine E_iret dX11_count_126 rfl ?_
  refine ⟨?_, ?_, (FX.rfl' M)⟩
  · congr 2; unfold s_count; rw [if_neg (by omega)]; try rfl
  · exact hI
theorem CI.im {M : Mem} {A : AS} {B k : Int} {w c : Nat} {I : AS} (hI : CI M A) (hG : GA A B) (hk : (k = 0 ∧ w = 53) ∨ (k = 1 ∧ w = 59)) (hc : mR M 47 0 = c) (hb : BI M w 47 10 I) : CI (mK M w c I) (up2 (mov A 13 4 0 (144 * k) 144) 12 k 1) := by
  obtain ⟨y1, y2, y3, y4, y5, y6⟩ := hI.kq (c := c) (w := w) (by omega) hb.2.2
  obtain ⟨x1, x2, x3, x4, x5, x6, x7, x8, x9⟩ := hI
  have hW := hG.w.c
  have hpn := hW.pn
  have e : ∀ q j, q ≠ 12 → q ≠ 13 → up2 (mov A 13 4 0 (144 * k) 144) 12 k 1 q j = A q j := fun q j q1 q2 => (up2_ne _ _ (by omega)).trans (mov_ne _ (by omega))
  have ei : ∀ j : Int, 0 ≤ j → j < 144 → up2 (mov A 13 4 0 (144 * k) 144) 12 k 1 13 (144 * k + j) = A 4 j := fun j j0 j1 => by
    rw [up2_ne _ _ (by omega)]; unfold mov; rw [if_pos ⟨rfl, by omega, by omega⟩]; congr 1; omega
  have eo : ∀ (l j : Int), (l = 0 ∨ l = 1) → l ≠ k → 0 ≤ j → j < 144 → up2 (mov A 13 4 0 (144 * k) 144) 12 k 1 13 (144 * l + j) = A 13 (144 * l + j) := fun l j l0 l1 j0 j1 => (up2_ne _ _ (by omega)).trans (mov_ne _ (by omega))
  refine ⟨y1, y2, y3.cg (fun _ => rfl) (fun _ => rfl) (fun _ => rfl) (fun j => e _ _ (by omega) (by omega)) (fun j => e _ _ (by omega) (by omega)) (fun j => e _ _ (by omega) (by omega)), y4.cg rfl (fun _ => rfl) (e _ _ (by omega) (by omega)) (fun j => e _ _ (by omega) (by omega)), y5.cg rfl (fun _ => rfl) (e _ _ (by omega) (by omega)) (fun j => e _ _ (by omega) (by omega)), y6.cg rfl rfl (e _ _ (by omega) (by omega)) (e _ _ (by omega) (by omega)), ?_, ?_, ?_⟩
  · exact (x7.k (by omega) (by omega) hb.2.2).eqv hW (fun j _ _ => e _ _ (by omega) (by omega))
  · rcases hk with ⟨rfl, rfl⟩ | ⟨rfl, rfl⟩
    · exact (x7.become hc (by omega) (by omega) hb).eqv hW (fun j j0 j1 => ei j j0 j1)
    · exact (x8.k (by omega) (by omega) hb.2.2).eqv (hG.im (Or.inl rfl)).1.c (fun j j0 j1 => eo 0 j (by omega) (by omega) j0 j1)
  · rcases hk with ⟨rfl, rfl⟩ | ⟨rfl, rfl⟩
    · exact (x9.k (by omega) (by omega) hb.2.2).eqv (hG.im (Or.inr rfl)).1.c (fun j j0 j1 => eo 1 j (by omega) (by omega) j0 j1)
    · exact (x7.become hc (by omega) (by omega) hb).eqv hW (fun j j0 j1 => ei j j0 j1)
theorem CI.re {M : Mem} {A : AS} {B k : Int} {w c : Nat} {I : AS} (hI : CI M A) (hG : GA A B) (hk : (k = 0 ∧ w = 53) ∨ (k = 1 ∧ w = 59)) (hc : mR M w 0 = c) (hb : BI M 47 w 10 I) : CI (mK M 47 c I) (mov A 4 13 (144 * k) 0 144) := by
  obtain ⟨y1, y2, y3, y4, y5, y6⟩ := hI.kq (c := c) (w := 47) (by omega) hb.2.2
  obtain ⟨x1, x2, x3, x4, x5, x6, x7, x8, x9⟩ := hI
  have e : ∀ q j, q ≠ 4 → mov A 4 13 (144 * k) 0 144 q j = A q j := fun q j q1 => mov_ne _ (by omega)
  have ei : ∀ j : Int, 0 ≤ j → j < 144 → mov A 4 13 (144 * k) 0 144 4 j = A 13 (144 * k + j) := fun j j0 j1 => by
    unfold mov; rw [if_pos ⟨rfl, by omega, by omega⟩]; congr 1; omega
  have hk' : k = 0 ∨ k = 1 := by omega
  have hW := (hG.im hk').1.c
  have hpn : img A k 2 ≤ 10 := hW.pn.2
  have hwr : WR M w (img A k) := by
    rcases hk with ⟨rfl, rfl⟩ | ⟨rfl, rfl⟩
    · exact x8
    · exact x9
  refine ⟨y1, y2, y3.cg (fun _ => rfl) (fun _ => rfl) (fun _ => rfl) (fun j => e _ _ (by omega)) (fun j => e _ _ (by omega)) (fun j => e _ _ (by omega)), y4.cg rfl (fun _ => rfl) (e _ _ (by omega)) (fun j => e _ _ (by omega)), y5.cg rfl (fun _ => rfl) (e _ _ (by omega)) (fun j => e _ _ (by omega)), y6.cg rfl rfl (e _ _ (by omega)) (e _ _ (by omega)), ?_, ?_, ?_⟩
  · exact (hwr.become hc hpn (by omega) hb).eqv hW (fun j j0 j1 => ei j j0 j1)
  · exact (x8.k (by omega) (by omega) hb.2.2).eqv (hG.im (Or.inl rfl)).1.c (fun j _ _ => e _ _ (by omega))
  · exact (x9.k (by omega) (by omega) hb.2.2).eqv (hG.im (Or.inr rfl)).1.c (fun j _ _ => e _ _ (by omega))
set_option maxRecDepth 20000 in
set_option maxHeartbeats 3000000 in
theorem c_imageOf0 {G : Ctx} {M : Mem} (hX : XO M) : CT G m_X11_imageOf 0 0 0 [vR 21, vI 0] M (fun r M' => r = some (vR 53) ∧ M' = M) := by
  refine CT.of k_X11_imageOf 0 (ls := [some (vR 21), some (vI 0)]) rfl (Nat.le_of_ble_eq_true rfl) ?_
  refine E_iload_n dX11_imageOf_0 rfl ?_
  refine E_if_ne (tgt := 11) dX11_imageOf_1 (by decide) (fun h1 => ?_) (fun h1 => ?_)
  · exfalso; omega
  · refine E_aload_n dX11_imageOf_4 rfl ?_
    refine g_X11_52 rfl dX11_imageOf_5 hX.o hX.firstImage ?_
    refine E_goto (tgt := 15) dX11_imageOf_8 (by decide) ?_
    refine E_aret dX11_imageOf_15 rfl (Or.inl ⟨_, rfl⟩) ?_
    exact ⟨rfl, rfl⟩
set_option maxRecDepth 20000 in
set_option maxHeartbeats 3000000 in
theorem x_image0 {G : Ctx} {M : Mem} {A : AS} {B : Int} (hI : CI M A) (hG : GA A B) (hB : B ≤ 900000) : CT G m_X11_image 2 0 0 [vR 21, vI 0] M (xM M (s_image A 0) (t_image A 0)) := by
  refine CT.of k_X11_image 0 (ls := [some (vR 21), some (vI 0)]) rfl (Nat.le_of_ble_eq_true rfl) ?_
  obtain ⟨hX, hN, hR, hT, hK, hS, hW0, hW1, hW2⟩ := id hI
  obtain ⟨a, hRc, hC, ha, haN, hD, hH, hE, hSn, hg, hZ⟩ := hW0
  have hW := hG.w.c
  have hpn := hW.pn
  have hl8 := hW.ln
  have hr8 := hW.rn
  have hgg := hG.w.g
  have hth := hG.th
  have hV := hG.w.hv
  refine E_iload_n dX11_image_0 rfl ?_
  refine E_iconst dX11_image_1 (by decide) ?_
  refine E_iconst dX11_image_2 (by decide) ?_
  refine i_X11_68 rfl dX11_image_3 c_isIn (by omega) (Nat.le_of_ble_eq_true rfl) rfl rfl ?_
  rintro _ _ ⟨rfl, rfl⟩
  try dsimp only [pu]
  refine E_if_ne (tgt := 12) dX11_image_6 (by decide) (fun h6 => ?_) (fun h6 => ?_)
  · simp only [tB0, ne_eq, Bool.not_eq_false, Bool.not_eq_true, decide_eq_true_eq, decide_eq_false_iff_not, Classical.not_not] at h6
    refine E_aload_n dX11_image_12 rfl ?_
    refine i_X11_158 rfl dX11_image_13 (by exact hX.o) (c_noCourt hX hRc hC hD) (by omega) (Nat.le_of_ble_eq_true rfl) rfl rfl ?_
    rintro _ _ ⟨rfl, rfl⟩
    try dsimp only [pu]
    refine E_if_eq (tgt := 22) dX11_image_16 (by decide) (fun h16 => ?_) (fun h16 => ?_)
    · simp only [tB0, ne_eq, Bool.not_eq_false, Bool.not_eq_true, decide_eq_true_eq, decide_eq_false_iff_not, Classical.not_not] at h16
      refine E_aload_n dX11_image_22 rfl ?_
      refine E_iload_n dX11_image_23 rfl ?_
      refine i_X11_267 rfl dX11_image_24 (by exact hX.o) (c_imageOf0 hX) (by omega) (Nat.le_of_ble_eq_true rfl) rfl rfl ?_
      rintro _ _ ⟨rfl, rfl⟩
      try dsimp only [pu]
      refine E_aload_n dX11_image_27 rfl ?_
      refine g_X11_48 rfl dX11_image_28 hX.o hX.wash ?_
      refine i_X11_182 rfl dX11_image_31 (by exact hX.w1.o) (c_become (by exact hX.w1) (by exact hX.w0) hRc (by omega) (by omega) (by exact hZ)) (by omega) (Nat.le_of_ble_eq_true rfl) rfl rfl ?_
      rintro _ _ ⟨rfl, I, rfl, hb⟩
      try dsimp only [pu]
      refine E_iconst dX11_image_34 (by decide) ?_
      refine E_iret dX11_image_35 rfl ?_
      refine ⟨?_, ?_, FX.k (by omega) hb.2.2⟩
      · congr 2; unfold s_image; rw [if_pos (by omega), if_neg (by omega)]
      · unfold t_image; rw [if_pos (by omega), if_neg (by omega)]; exact hI.im hG (by omega) hRc hb
    · simp only [tB0, ne_eq, Bool.not_eq_false, Bool.not_eq_true, decide_eq_true_eq, decide_eq_false_iff_not, Classical.not_not] at h16
      refine c_X11_154 rfl dX11_image_19 ?_
      refine E_iret dX11_image_21 rfl ?_
      refine ⟨?_, ?_, (FX.rfl' M)⟩
      · congr 2; unfold s_image; rw [if_pos (by omega), if_pos (by omega)]; try rfl
      · unfold t_image; rw [if_pos (by omega), if_pos (by omega)]; exact hI
  · exfalso; omega
set_option maxRecDepth 20000 in
set_option maxHeartbeats 3000000 in
theorem x_restore0 {G : Ctx} {M : Mem} {A : AS} {B : Int} (hI : CI M A) (hG : GA A B) (hB : B ≤ 900000) : CT G m_X11_restore 2 0 0 [vR 21, vI 0] M (xM M (s_restore A 0) (t_restore A 0)) := by
  refine CT.of k_X11_restore 0 (ls := [some (vR 21), some (vI 0)]) rfl (Nat.le_of_ble_eq_true rfl) ?_
  obtain ⟨hX, hN, hR, hT, hK, hS, hW0, hW1, hW2⟩ := id hI
  obtain ⟨a, hRc, hC, ha, haN, hD, hH, hE, hSn, hg, hZ⟩ := hW0
  have hW := hG.w.c
  have hpn := hW.pn
  have hl8 := hW.ln
  have hr8 := hW.rn
  have hgg := hG.w.g
  have hth := hG.th
  have hV := hG.w.hv
  have him := (hG.im (k := 0) (by omega)).2
  obtain ⟨a2, k1, k2, k3, k4, k5, k6, k7, k8, k9, k10⟩ := id hW1
  refine E_iload_n dX11_restore_0 rfl ?_
  refine E_iconst dX11_restore_1 (by decide) ?_
  refine E_iconst dX11_restore_2 (by decide) ?_
  refine i_X11_68 rfl dX11_restore_3 c_isIn (by omega) (Nat.le_of_ble_eq_true rfl) rfl rfl ?_
  rintro _ _ ⟨rfl, rfl⟩
  try dsimp only [pu]
  refine E_if_ne (tgt := 12) dX11_restore_6 (by decide) (fun h6 => ?_) (fun h6 => ?_)
  · simp only [tB0, ne_eq, Bool.not_eq_false, Bool.not_eq_true, decide_eq_true_eq, decide_eq_false_iff_not, Classical.not_not] at h6
    refine E_aload_n dX11_restore_12 rfl ?_
    refine E_iload_n dX11_restore_13 rfl ?_
    refine i_X11_267 rfl dX11_restore_14 (by exact hX.o) (c_imageOf0 hX) (by omega) (Nat.le_of_ble_eq_true rfl) rfl rfl ?_
    rintro _ _ ⟨rfl, rfl⟩
    try dsimp only [pu]
    refine g_X11_168 rfl dX11_restore_17 hX.w1.o k1 ?_
    refine i_X11_271 rfl dX11_restore_20 (by exact hC.o) (c_isTold (by exact k2.o)) (by omega) (Nat.le_of_ble_eq_true rfl) rfl rfl ?_
    rintro _ _ ⟨rfl, rfl⟩
    rw [k5.lnc]
    try dsimp only [pu]
    refine E_if_ne (tgt := 29) dX11_restore_23 (by decide) (fun h23 => ?_) (fun h23 => ?_)
    · simp only [tB0, ne_eq, Bool.not_eq_false, Bool.not_eq_true, decide_eq_true_eq, decide_eq_false_iff_not, Classical.not_not] at h23
      refine E_aload_n dX11_restore_29 rfl ?_
      refine g_X11_48 rfl dX11_restore_30 hX.o hX.wash ?_
      refine E_aload_n dX11_restore_33 rfl ?_
      refine E_iload_n dX11_restore_34 rfl ?_
      refine i_X11_267 rfl dX11_restore_35 (by exact hX.o) (c_imageOf0 hX) (by omega) (Nat.le_of_ble_eq_true rfl) rfl rfl ?_
      rintro _ _ ⟨rfl, rfl⟩
      try dsimp only [pu]
      refine i_X11_182 rfl dX11_restore_38 (by exact hX.w0.o) (c_become (by exact hX.w0) (by exact hX.w1) k1 (by omega) (by omega) (by exact k10)) (by omega) (Nat.le_of_ble_eq_true rfl) rfl rfl ?_
      rintro _ _ ⟨rfl, I, rfl, hb⟩
      try dsimp only [pu]
      refine E_iconst dX11_restore_41 (by decide) ?_
      refine E_iret dX11_restore_42 rfl ?_
      refine ⟨?_, ?_, FX.k (by omega) hb.2.2⟩
      · congr 2; unfold s_restore; rw [if_pos (by omega), if_neg (by omega)]
      · unfold t_restore; rw [if_pos (by omega), if_neg (by omega)]; exact hI.re hG (by omega) k1 hb
    · simp only [tB0, ne_eq, Bool.not_eq_false, Bool.not_eq_true, decide_eq_true_eq, decide_eq_false_iff_not, Classical.not_not] at h23
      refine c_X11_154 rfl dX11_restore_26 ?_
      refine E_iret dX11_restore_28 rfl ?_
      refine ⟨?_, ?_, (FX.rfl' M)⟩
      · congr 2; unfold s_restore; rw [if_pos (by omega), if_pos (by omega)]; try rfl
      · unfold t_restore; rw [if_pos (by omega), if_pos (by omega)]; exact hI
  · exfalso; omega
set_option maxRecDepth 20000 in
set_option maxHeartbeats 3000000 in
theorem c_imageOf1 {G : Ctx} {M : Mem} (hX : XO M) : CT G m_X11_imageOf 0 0 0 [vR 21, vI 1] M (fun r M' => r = some (vR 59) ∧ M' = M) := by
  refine CT.of k_X11_imageOf 0 (ls := [some (vR 21), some (vI 1)]) rfl (Nat.le_of_ble_eq_true rfl) ?_
  refine E_iload_n dX11_imageOf_0 rfl ?_
  refine E_if_ne (tgt := 11) dX11_imageOf_1 (by decide) (fun h1 => ?_) (fun h1 => ?_)
  · refine E_aload_n dX11_imageOf_11 rfl ?_
    refine g_X11_55 rfl dX11_imageOf_12 hX.o hX.secondImage ?_
    refine E_aret dX11_imageOf_15 rfl (Or.inl ⟨_, rfl⟩) ?_
    exact ⟨rfl, rfl⟩
  · exfalso; omega
set_option maxRecDepth 20000 in
set_option maxHeartbeats 3000000 in
theorem x_image1 {G : Ctx} {M : Mem} {A : AS} {B : Int} (hI : CI M A) (hG : GA A B) (hB : B ≤ 900000) : CT G m_X11_image 2 0 0 [vR 21, vI 1] M (xM M (s_image A 1) (t_image A 1)) := by
  refine CT.of k_X11_image 0 (ls := [some (vR 21), some (vI 1)]) rfl (Nat.le_of_ble_eq_true rfl) ?_
  obtain ⟨hX, hN, hR, hT, hK, hS, hW0, hW1, hW2⟩ := id hI
  obtain ⟨a, hRc, hC, ha, haN, hD, hH, hE, hSn, hg, hZ⟩ := hW0
  have hW := hG.w.c
  have hpn := hW.pn
  have hl8 := hW.ln
  have hr8 := hW.rn
  have hgg := hG.w.g
  have hth := hG.th
  have hV := hG.w.hv
  refine E_iload_n dX11_image_0 rfl ?_
  refine E_iconst dX11_image_1 (by decide) ?_
  refine E_iconst dX11_image_2 (by decide) ?_
  refine i_X11_68 rfl dX11_image_3 c_isIn (by omega) (Nat.le_of_ble_eq_true rfl) rfl rfl ?_
  rintro _ _ ⟨rfl, rfl⟩
  try dsimp only [pu]
  refine E_if_ne (tgt := 12) dX11_image_6 (by decide) (fun h6 => ?_) (fun h6 => ?_)
  · simp only [tB0, ne_eq, Bool.not_eq_false, Bool.not_eq_true, decide_eq_true_eq, decide_eq_false_iff_not, Classical.not_not] at h6
    refine E_aload_n dX11_image_12 rfl ?_
    refine i_X11_158 rfl dX11_image_13 (by exact hX.o) (c_noCourt hX hRc hC hD) (by omega) (Nat.le_of_ble_eq_true rfl) rfl rfl ?_
    rintro _ _ ⟨rfl, rfl⟩
    try dsimp only [pu]
    refine E_if_eq (tgt := 22) dX11_image_16 (by decide) (fun h16 => ?_) (fun h16 => ?_)
    · simp only [tB0, ne_eq, Bool.not_eq_false, Bool.not_eq_true, decide_eq_true_eq, decide_eq_false_iff_not, Classical.not_not] at h16
      refine E_aload_n dX11_image_22 rfl ?_
      refine E_iload_n dX11_image_23 rfl ?_
      refine i_X11_267 rfl dX11_image_24 (by exact hX.o) (c_imageOf1 hX) (by omega) (Nat.le_of_ble_eq_true rfl) rfl rfl ?_
      rintro _ _ ⟨rfl, rfl⟩
      try dsimp only [pu]
      refine E_aload_n dX11_image_27 rfl ?_
      refine g_X11_48 rfl dX11_image_28 hX.o hX.wash ?_
      refine i_X11_182 rfl dX11_image_31 (by exact hX.w2.o) (c_become (by exact hX.w2) (by exact hX.w0) hRc (by omega) (by omega) (by exact hZ)) (by omega) (Nat.le_of_ble_eq_true rfl) rfl rfl ?_
      rintro _ _ ⟨rfl, I, rfl, hb⟩
      try dsimp only [pu]
      refine E_iconst dX11_image_34 (by decide) ?_
      refine E_iret dX11_image_35 rfl ?_
      refine ⟨?_, ?_, FX.k (by omega) hb.2.2⟩
      · congr 2; unfold s_image; rw [if_pos (by omega), if_neg (by omega)]
      · unfold t_image; rw [if_pos (by omega), if_neg (by omega)]; exact hI.im hG (by omega) hRc hb
    · simp only [tB0, ne_eq, Bool.not_eq_false, Bool.not_eq_true, decide_eq_true_eq, decide_eq_false_iff_not, Classical.not_not] at h16
      refine c_X11_154 rfl dX11_image_19 ?_
      refine E_iret dX11_image_21 rfl ?_
      refine ⟨?_, ?_, (FX.rfl' M)⟩
      · congr 2; unfold s_image; rw [if_pos (by omega), if_pos (by omega)]; try rfl
      · unfold t_image; rw [if_pos (by omega), if_pos (by omega)]; exact hI
  · exfalso; omega
set_option maxRecDepth 20000 in
set_option maxHeartbeats 3000000 in
theorem x_restore1 {G : Ctx} {M : Mem} {A : AS} {B : Int} (hI : CI M A) (hG : GA A B) (hB : B ≤ 900000) : CT G m_X11_restore 2 0 0 [vR 21, vI 1] M (xM M (s_restore A 1) (t_restore A 1)) := by
  refine CT.of k_X11_restore 0 (ls := [some (vR 21), some (vI 1)]) rfl (Nat.le_of_ble_eq_true rfl) ?_
  obtain ⟨hX, hN, hR, hT, hK, hS, hW0, hW1, hW2⟩ := id hI
  obtain ⟨a, hRc, hC, ha, haN, hD, hH, hE, hSn, hg, hZ⟩ := hW0
  have hW := hG.w.c
  have hpn := hW.pn
  have hl8 := hW.ln
  have hr8 := hW.rn
  have hgg := hG.w.g
  have hth := hG.th
  have hV := hG.w.hv
  have him := (hG.im (k := 1) (by omega)).2
  obtain ⟨a2, k1, k2, k3, k4, k5, k6, k7, k8, k9, k10⟩ := id hW2
  refine E_iload_n dX11_restore_0 rfl ?_
  refine E_iconst dX11_restore_1 (by decide) ?_
  refine E_iconst dX11_restore_2 (by decide) ?_
  refine i_X11_68 rfl dX11_restore_3 c_isIn (by omega) (Nat.le_of_ble_eq_true rfl) rfl rfl ?_
  rintro _ _ ⟨rfl, rfl⟩
  try dsimp only [pu]
  refine E_if_ne (tgt := 12) dX11_restore_6 (by decide) (fun h6 => ?_) (fun h6 => ?_)
  · simp only [tB0, ne_eq, Bool.not_eq_false, Bool.not_eq_true, decide_eq_true_eq, decide_eq_false_iff_not, Classical.not_not] at h6
    refine E_aload_n dX11_restore_12 rfl ?_
    refine E_iload_n dX11_restore_13 rfl ?_
    refine i_X11_267 rfl dX11_restore_14 (by exact hX.o) (c_imageOf1 hX) (by omega) (Nat.le_of_ble_eq_true rfl) rfl rfl ?_
    rintro _ _ ⟨rfl, rfl⟩
    try dsimp only [pu]
    refine g_X11_168 rfl dX11_restore_17 hX.w2.o k1 ?_
    refine i_X11_271 rfl dX11_restore_20 (by exact hC.o) (c_isTold (by exact k2.o)) (by omega) (Nat.le_of_ble_eq_true rfl) rfl rfl ?_
    rintro _ _ ⟨rfl, rfl⟩
    rw [k5.lnc]
    try dsimp only [pu]
    refine E_if_ne (tgt := 29) dX11_restore_23 (by decide) (fun h23 => ?_) (fun h23 => ?_)
    · simp only [tB0, ne_eq, Bool.not_eq_false, Bool.not_eq_true, decide_eq_true_eq, decide_eq_false_iff_not, Classical.not_not] at h23
      refine E_aload_n dX11_restore_29 rfl ?_
      refine g_X11_48 rfl dX11_restore_30 hX.o hX.wash ?_
      refine E_aload_n dX11_restore_33 rfl ?_
      refine E_iload_n dX11_restore_34 rfl ?_
      refine i_X11_267 rfl dX11_restore_35 (by exact hX.o) (c_imageOf1 hX) (by omega) (Nat.le_of_ble_eq_true rfl) rfl rfl ?_
      rintro _ _ ⟨rfl, rfl⟩
      try dsimp only [pu]
      refine i_X11_182 rfl dX11_restore_38 (by exact hX.w0.o) (c_become (by exact hX.w0) (by exact hX.w2) k1 (by omega) (by omega) (by exact k10)) (by omega) (Nat.le_of_ble_eq_true rfl) rfl rfl ?_
      rintro _ _ ⟨rfl, I, rfl, hb⟩
      try dsimp only [pu]
      refine E_iconst dX11_restore_41 (by decide) ?_
      refine E_iret dX11_restore_42 rfl ?_
      refine ⟨?_, ?_, FX.k (by omega) hb.2.2⟩
      · congr 2; unfold s_restore; rw [if_pos (by omega), if_neg (by omega)]
      · unfold t_restore; rw [if_pos (by omega), if_neg (by omega)]; exact hI.re hG (by omega) k1 hb
    · simp only [tB0, ne_eq, Bool.not_eq_false, Bool.not_eq_true, decide_eq_true_eq, decide_eq_false_iff_not, Classical.not_not] at h23
      refine c_X11_154 rfl dX11_restore_26 ?_
      refine E_iret dX11_restore_28 rfl ?_
      refine ⟨?_, ?_, (FX.rfl' M)⟩
      · congr 2; unfold s_restore; rw [if_pos (by omega), if_pos (by omega)]; try rfl
      · unfold t_restore; rw [if_pos (by omega), if_pos (by omega)]; exact hI
  · exfalso; omega
set_option maxRecDepth 20000 in
set_option maxHeartbeats 3000000 in
theorem x_imageN {G : Ctx} {M : Mem} {A : AS} {B : Int} (hI : CI M A) (hG : GA A B) (hB : B ≤ 900000) {c : Int} (hc : ¬ (0 ≤ c ∧ c ≤ 1)) : CT G m_X11_image 2 0 0 [vR 21, vI c] M (xM M (s_image A c) (t_image A c)) := by
  refine CT.of k_X11_image 0 (ls := [some (vR 21), some (vI c)]) rfl (Nat.le_of_ble_eq_true rfl) ?_
  obtain ⟨hX, hN, hR, hT, hK, hS, hW0, hW1, hW2⟩ := id hI
  obtain ⟨a, hRc, hC, ha, haN, hD, hH, hE, hSn, hg, hZ⟩ := hW0
  have hW := hG.w.c
  have hpn := hW.pn
  have hl8 := hW.ln
  have hr8 := hW.rn
  have hgg := hG.w.g
  have hth := hG.th
  have hV := hG.w.hv
  refine E_iload_n dX11_image_0 rfl ?_
  refine E_iconst dX11_image_1 (by decide) ?_
  refine E_iconst dX11_image_2 (by decide) ?_
  refine i_X11_68 rfl dX11_image_3 c_isIn (by omega) (Nat.le_of_ble_eq_true rfl) rfl rfl ?_
  rintro _ _ ⟨rfl, rfl⟩
  try dsimp only [pu]
  refine E_if_ne (tgt := 12) dX11_image_6 (by decide) (fun h6 => ?_) (fun h6 => ?_)
  · exfalso; omega
  · simp only [tB0, ne_eq, Bool.not_eq_false, Bool.not_eq_true, decide_eq_true_eq, decide_eq_false_iff_not, Classical.not_not] at h6
    refine c_X11_72 rfl dX11_image_9 ?_
    refine E_iret dX11_image_11 rfl ?_
    refine ⟨?_, ?_, (FX.rfl' M)⟩
    · congr 2; unfold s_image; rw [if_neg (by omega)]; try rfl
    · unfold t_image; rw [if_neg (by omega)]; exact hI
theorem x_image {G : Ctx} {M : Mem} {A : AS} {B : Int} (hI : CI M A) (hG : GA A B) (hB : B ≤ 900000) {c : Int} : CT G m_X11_image 2 0 0 [vR 21, vI c] M (xM M (s_image A c) (t_image A c)) := by
  by_cases h0 : c = 0
  · subst h0; exact x_image0 hI hG hB
  · by_cases h1 : c = 1
    · subst h1; exact x_image1 hI hG hB
    · exact x_imageN hI hG hB (by omega)
set_option maxRecDepth 20000 in
set_option maxHeartbeats 3000000 in
theorem x_restoreN {G : Ctx} {M : Mem} {A : AS} {B : Int} (hI : CI M A) (hG : GA A B) (hB : B ≤ 900000) {c : Int} (hc : ¬ (0 ≤ c ∧ c ≤ 1)) : CT G m_X11_restore 2 0 0 [vR 21, vI c] M (xM M (s_restore A c) (t_restore A c)) := by
  refine CT.of k_X11_restore 0 (ls := [some (vR 21), some (vI c)]) rfl (Nat.le_of_ble_eq_true rfl) ?_
  obtain ⟨hX, hN, hR, hT, hK, hS, hW0, hW1, hW2⟩ := id hI
  obtain ⟨a, hRc, hC, ha, haN, hD, hH, hE, hSn, hg, hZ⟩ := hW0
  have hW := hG.w.c
  have hpn := hW.pn
  have hl8 := hW.ln
  have hr8 := hW.rn
  have hgg := hG.w.g
  have hth := hG.th
  have hV := hG.w.hv
  refine E_iload_n dX11_restore_0 rfl ?_
  refine E_iconst dX11_restore_1 (by decide) ?_
  refine E_iconst dX11_restore_2 (by decide) ?_
  refine i_X11_68 rfl dX11_restore_3 c_isIn (by omega) (Nat.le_of_ble_eq_true rfl) rfl rfl ?_
  rintro _ _ ⟨rfl, rfl⟩
  try dsimp only [pu]
  refine E_if_ne (tgt := 12) dX11_restore_6 (by decide) (fun h6 => ?_) (fun h6 => ?_)
  · exfalso; omega
  · simp only [tB0, ne_eq, Bool.not_eq_false, Bool.not_eq_true, decide_eq_true_eq, decide_eq_false_iff_not, Classical.not_not] at h6
    refine c_X11_72 rfl dX11_restore_9 ?_
    refine E_iret dX11_restore_11 rfl ?_
    refine ⟨?_, ?_, (FX.rfl' M)⟩
    · congr 2; unfold s_restore; rw [if_neg (by omega)]; try rfl
    · unfold t_restore; rw [if_neg (by omega)]; exact hI
theorem x_restore {G : Ctx} {M : Mem} {A : AS} {B : Int} (hI : CI M A) (hG : GA A B) (hB : B ≤ 900000) {c : Int} : CT G m_X11_restore 2 0 0 [vR 21, vI c] M (xM M (s_restore A c) (t_restore A c)) := by
  by_cases h0 : c = 0
  · subst h0; exact x_restore0 hI hG hB
  · by_cases h1 : c = 1
    · subst h1; exact x_restore1 hI hG hB
    · exact x_restoreN hI hG hB (by omega)
