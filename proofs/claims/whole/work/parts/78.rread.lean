/-! ===== 78: the reference reads numbers, names, signs ===== -/
set_option maxRecDepth 20000 in
set_option maxHeartbeats 3000000 in
theorem c_bad {G : Ctx} {M : Mem} {m : Nat} {T : Int → Int} {N : Nat} {p : PT} (h0 : SR M m T N p) {k0 : Int} (hk : 0 < k0) : CT G m_X12_bad 0 0 0 [vR m, vI k0] M (fun r M' => r = none ∧ SR M' m T N (pX k0 p) ∧ KF M M' m) := by
  refine CT.of k_X12_bad 0 (ls := [some (vR m), some (vI k0)]) rfl (Nat.le_of_ble_eq_true rfl) ?_
  obtain ⟨hO, hT, e12, e13, e14, e15, e16, e17, hPY⟩ := id h0
  refine E_aload_n dX12_bad_0 rfl ?_
  refine g_X12_111 rfl dX12_bad_1 (by exact hO.o) e16 ?_
  refine E_if_ne (tgt := 20) dX12_bad_4 (by decide) (fun h4 => ?_) (fun h4 => ?_)
  · refine E_vret dX12_bad_20 rfl ?_
    have hq : pE p ≠ 0 := by omega
    rw [pX_f hq]; exact ⟨rfl, h0, KF.rfl' _ _⟩
  · refine E_aload_n dX12_bad_7 rfl ?_
    refine E_iload_n dX12_bad_8 rfl ?_
    refine p_X12_111 rfl dX12_bad_9 (by exact hO.o) ?_
    refine E_aload_n dX12_bad_12 rfl ?_
    refine E_aload_n dX12_bad_13 rfl ?_
    refine g_X12_96 rfl dX12_bad_14 (by exact hO.o) ((mI_ne (by omega)).trans e14) ?_
    refine p_X12_117 rfl dX12_bad_17 (by exact hO.o) ?_
    refine E_vret dX12_bad_20 rfl ?_
    have hq : pE p = 0 := by omega
    have k : KF M (mWI (mWI M m 16 k0) m 17 (pF p : Int)) m := ⟨rfl, fun b j hb => (mI_ne (by omega)).trans (mI_ne (by omega))⟩
    refine ⟨rfl, ⟨k.mo hO, k.tp hT, ?_⟩, k⟩
    have e : pX k0 p = (pS p, pF p, pT p, k0, (pF p : Int)) := by unfold pX; rw [if_pos hq]
    have hy := hPY.x (k := k0) (by omega)
    rw [e] at hy ⊢
    exact ⟨(mI_ne (by omega)).trans ((mI_ne (by omega)).trans e12), (mI_ne (by omega)).trans ((mI_ne (by omega)).trans e13), (mI_ne (by omega)).trans ((mI_ne (by omega)).trans e14), (mI_ne (by omega)).trans ((mI_ne (by omega)).trans e15), (mI_ne (by omega)).trans mI_eq, fun _ => mI_eq, hy⟩
set_option maxRecDepth 20000 in
set_option maxHeartbeats 3000000 in
theorem c_must {G : Ctx} {M : Mem} {m : Nat} {T : Int → Int} {N : Nat} {p : PT} (h0 : SR M m T N p) (b : Bool) : CT G m_X12_must 2 0 0 [vR m, vI (tB b)] M (fun r M' => r = none ∧ SR M' m T N (pN T N (if b = true then p else pX 1 p)) ∧ KF M M' m) := by
  refine CT.of k_X12_must 0 (ls := [some (vR m), some (vI (tB b))]) rfl (Nat.le_of_ble_eq_true rfl) ?_
  obtain ⟨hO, hT, e12, e13, e14, e15, e16, e17, hPY⟩ := id h0
  refine E_iload_n dX12_must_0 rfl ?_
  refine E_if_ne (tgt := 9) dX12_must_1 (by decide) (fun h1 => ?_) (fun h1 => ?_)
  · simp only [tB0, ne_eq, Bool.not_eq_false, Bool.not_eq_true, decide_eq_true_eq, decide_eq_false_iff_not, Classical.not_not] at h1
    have h1b := h1
    refine E_aload_n dX12_must_9 rfl ?_
    refine g_X12_111 rfl dX12_must_10 h0.1.o h0.2.2.2.2.2.2.1 ?_
    refine E_if_ne (tgt := 20) dX12_must_13 (by decide) (fun h13 => ?_) (fun h13 => ?_)
    · refine E_vret dX12_must_20 rfl ?_
      rw [if_pos h1b, pN_f (by omega)]; exact ⟨rfl, h0, KF.rfl' _ _⟩
    · refine E_aload_n dX12_must_16 rfl ?_
      refine i_X12_114 rfl dX12_must_17 (by exact h0.1.o) (c_nextS h0 (by omega)) (by omega) (Nat.le_of_ble_eq_true rfl) rfl rfl ?_
      rintro _ M2 ⟨rfl, h2, k2⟩
      try dsimp only [pu]
      refine E_vret dX12_must_20 rfl ?_
      rw [if_pos h1b]; exact ⟨rfl, h2, k2⟩
  · simp only [tB0, ne_eq, Bool.not_eq_false, Bool.not_eq_true, decide_eq_true_eq, decide_eq_false_iff_not, Classical.not_not] at h1
    have h1b := h1
    refine E_aload_n dX12_must_4 rfl ?_
    refine E_iconst dX12_must_5 (by decide) ?_
    refine i_X12_120 rfl dX12_must_6 (by exact (by exact hO.o)) (c_bad h0 (k0 := 1) (by omega)) (by omega) (Nat.le_of_ble_eq_true rfl) rfl rfl ?_
    rintro _ M1 ⟨rfl, h1, k1⟩
    try dsimp only [pu]
    refine E_aload_n dX12_must_9 rfl ?_
    refine g_X12_111 rfl dX12_must_10 h1.1.o h1.2.2.2.2.2.2.1 ?_
    refine E_if_ne (tgt := 20) dX12_must_13 (by decide) (fun h13 => ?_) (fun h13 => ?_)
    · refine E_vret dX12_must_20 rfl ?_
      rw [if_neg (by rw [h1b]; decide), pN_f (by omega)]; exact ⟨rfl, h1, k1⟩
    · refine E_aload_n dX12_must_16 rfl ?_
      refine i_X12_114 rfl dX12_must_17 (by exact h1.1.o) (c_nextS h1 (by omega)) (by omega) (Nat.le_of_ble_eq_true rfl) rfl rfl ?_
      rintro _ M2 ⟨rfl, h2, k2⟩
      try dsimp only [pu]
      refine E_vret dX12_must_20 rfl ?_
      rw [if_neg (by rw [h1b]; decide)]; exact ⟨rfl, h2, k1.tr k2⟩
set_option maxRecDepth 20000 in
set_option maxHeartbeats 3000000 in
theorem l_name {G : Ctx} {M : Mem} {m : Nat} {T : Int → Int} {N : Nat} {p : PT} (h0 : SR M m T N p) (hs : pS p = 1) (h8 : pT p - pF p < 8) {Q : Option MV → Mem → Prop} (n : Nat) (hn : n = pT p - pF p) (K : EV G m_X12_name 0 0 0 Q 56 [some (vR m), some (vL (pk T (pF p) n)), none, some (vI ((pF p : Int) + (n : Int)))] [] M) : ∀ (k r : Nat) , r + k = n → EV G m_X12_name 0 0 0 (Q) 7 [some (vR m), some (vL (pk T (pF p) r)), none, some (vI ((pF p : Int) + (r : Int)))] [] M := by
  intro k
  induction k with
  | zero =>
    intro r  hr
    obtain rfl : r = n := by omega
    obtain ⟨hO, hT, e12, e13, e14, e15, e16, e17, hPY⟩ := id h0
    have hv : TVs T N 1 (pF p) (pT p) := by have := hPY.1; unfold PV at this; rw [hs] at this; exact this
    have hft := hv.1
    have htN := hv.2.1
    have h500 := hT.2.1
    refine E_iload_n dX12_name_7 rfl ?_
    refine E_aload_n dX12_name_8 rfl ?_
    refine g_X12_108 rfl dX12_name_9 (by exact hO.o) e15 ?_
    refine E_icmp_ge (tgt := 56) dX12_name_12 (by decide) (fun h12 => ?_) (fun h12 => ?_)
    · exact K
    · exfalso; omega
  | succ k ih =>
    intro r  hr
    obtain ⟨hO, hT, e12, e13, e14, e15, e16, e17, hPY⟩ := id h0
    have hv : TVs T N 1 (pF p) (pT p) := by have := hPY.1; unfold PV at this; rw [hs] at this; exact this
    have hft := hv.1
    have htN := hv.2.1
    have h500 := hT.2.1
    have hpk := pkLt (T := T) (f := pF p) r (by omega) (fun j hj => by have := hv.let (j := pF p + j) (by omega) (by omega); omega)
    have hle := hv.let (j := pF p + r) (by omega) (by omega)
    have hx : mI M (m + 6) ((pF p : Int) + (r : Int)) = T ((pF p + r : Nat) : Int) := by
      have z := (hT.2.2 (pF p + r) (by omega)).1
      rw [Int.natCast_add] at z ⊢; exact z
    have hst : lOr (lShl (pk T (pF p) r) 8) (T ((pF p + r : Nat) : Int)) = pk T (pF p) (r + 1) := lOrShl hpk.1 hpk.2 (by omega) (by omega)
    have e13b : mI M m 13 = 2 := by rw [e13, hs]; rfl
    refine E_iload_n dX12_name_7 rfl ?_
    refine E_aload_n dX12_name_8 rfl ?_
    refine g_X12_108 rfl dX12_name_9 (by exact hO.o) e15 ?_
    refine E_icmp_ge (tgt := 56) dX12_name_12 (by decide) (fun h12 => ?_) (fun h12 => ?_)
    · exfalso; omega
    · refine E_aload_n dX12_name_15 rfl ?_
      refine g_X12_99 rfl dX12_name_16 (by exact hO.o) e13b ?_
      refine E_iconst dX12_name_19 (by decide) ?_
      refine E_icmp_ne (tgt := 56) dX12_name_20 (by decide) (fun h20 => ?_) (fun h20 => ?_)
      · exfalso; omega
      · refine E_aload_n dX12_name_23 rfl ?_
        refine g_X12_108 rfl dX12_name_24 (by exact hO.o) e15 ?_
        refine E_aload_n dX12_name_27 rfl ?_
        refine g_X12_96 rfl dX12_name_28 (by exact hO.o) e14 ?_
        refine E_isub dX12_name_31 (by omega) (by omega) ?_
        refine E_bipush dX12_name_32 (by decide) ?_
        refine E_icmp_ge (tgt := 56) dX12_name_34 (by decide) (fun h34 => ?_) (fun h34 => ?_)
        · exfalso; omega
        · refine E_lload_n dX12_name_37 rfl ?_
          refine E_bipush dX12_name_38 (by decide) ?_
          refine E_lshl dX12_name_40 ?_
          refine E_aload_n dX12_name_41 rfl ?_
          refine g_X12_25 rfl dX12_name_42 (by exact hO.o) (by exact hO.tape) ?_
          refine E_iload_n dX12_name_45 rfl ?_
          refine E_iald dX12_name_46 (by exact hO.s_tape) (by omega) (by omega) hx ?_
          refine E_i2l dX12_name_47 ?_
          refine E_lor dX12_name_48 ?_
          refine E_lstore_n dX12_name_49 rfl (by decide) ?_
          try dsimp only [List.set]
          refine E_iinc dX12_name_50 rfl (by omega) (by omega) (by decide) rfl (by decide) ?_
          try dsimp only [List.set]
          refine E_goto (tgt := 7) dX12_name_53 (by decide) ?_
          rw [hst]
          exact EV.lq (by rw [show (pF p : Int) + ((r + 1 : Nat) : Int) = (pF p : Int) + (r : Int) + 1 by omega]) (ih (r + 1) (by omega))
set_option maxRecDepth 20000 in
set_option maxHeartbeats 3000000 in
theorem c_name {G : Ctx} {M : Mem} {m : Nat} {T : Int → Int} {N : Nat} {p : PT} (h0 : SR M m T N p) : CT G m_X12_name 0 0 0 [vR m] M (fun r M' => r = some (vL (nmV T p)) ∧ M = M') := by
  refine CT.of k_X12_name 3 (ls := [some (vR m), none, none, none]) rfl (Nat.le_of_ble_eq_true rfl) ?_
  obtain ⟨hO, hT, e12, e13, e14, e15, e16, e17, hPY⟩ := id h0
  have hvv := hPY.1
  have hft := hvv.1
  have htN := hvv.2.1
  have h500 := hT.2.1
  refine E_lconst (x := 0) dX12_name_0 (by decide) ?_
  refine E_lstore_n dX12_name_1 rfl (by decide) ?_
  try dsimp only [List.set]
  refine E_aload_n dX12_name_2 rfl ?_
  refine g_X12_96 rfl dX12_name_3 (by exact hO.o) e14 ?_
  refine E_istore_n dX12_name_6 rfl (by decide) ?_
  try dsimp only [List.set]
  by_cases hc : pS p = 1 ∧ pT p - pF p < 8
  · refine EV.lq (by rw [show ((pF p : Int) + ((0 : Nat) : Int)) = (pF p : Int) by omega]; rfl) (l_name h0 hc.1 hc.2 (pT p - pF p) rfl ?_ (pT p - pF p) 0 (by omega))
    refine E_aload_n dX12_name_56 rfl ?_
    refine g_X12_111 rfl dX12_name_57 (by exact hO.o) e16 ?_
    refine E_if_ne (tgt := 67) dX12_name_60 (by decide) (fun h60 => ?_) (fun h60 => ?_)
    · refine E_lconst (x := 0) dX12_name_67 (by decide) ?_
      refine E_lret dX12_name_68 rfl ?_
      exact ⟨by unfold nmV; rw [if_neg (fun z => h60 z.1)], rfl⟩
    · refine E_lload_n dX12_name_63 rfl ?_
      refine E_goto (tgt := 68) dX12_name_64 (by decide) ?_
      refine E_lret dX12_name_68 rfl ?_
      have z0 : pE p = 0 := by omega
      exact ⟨by unfold nmV; rw [if_pos ⟨z0, hc⟩], rfl⟩
  · have hn2 : mI M m 13 = 2 → pS p = 1 := fun z => by rw [e13] at z; unfold rsS at z; split at z <;> omega
    refine E_iload_n dX12_name_7 rfl ?_
    refine E_aload_n dX12_name_8 rfl ?_
    refine g_X12_108 rfl dX12_name_9 (by exact hO.o) e15 ?_
    refine E_icmp_ge (tgt := 56) dX12_name_12 (by decide) (fun h12 => ?_) (fun h12 => ?_)
    · refine E_aload_n dX12_name_56 rfl ?_
      refine g_X12_111 rfl dX12_name_57 (by exact hO.o) e16 ?_
      refine E_if_ne (tgt := 67) dX12_name_60 (by decide) (fun h60 => ?_) (fun h60 => ?_)
      · refine E_lconst (x := 0) dX12_name_67 (by decide) ?_
        refine E_lret dX12_name_68 rfl ?_
        exact ⟨by unfold nmV; rw [if_neg (fun z => h60 z.1)], rfl⟩
      · refine E_lload_n dX12_name_63 rfl ?_
        refine E_goto (tgt := 68) dX12_name_64 (by decide) ?_
        refine E_lret dX12_name_68 rfl ?_
        have z0 : pE p = 0 := by omega
        exact ⟨by unfold nmV; rw [if_neg (fun z => hc z.2)], rfl⟩
    · refine E_aload_n dX12_name_15 rfl ?_
      refine g_X12_99 rfl dX12_name_16 (by exact hO.o) rfl ?_
      refine E_iconst dX12_name_19 (by decide) ?_
      refine E_icmp_ne (tgt := 56) dX12_name_20 (by decide) (fun h20 => ?_) (fun h20 => ?_)
      · refine E_aload_n dX12_name_56 rfl ?_
        refine g_X12_111 rfl dX12_name_57 (by exact hO.o) e16 ?_
        refine E_if_ne (tgt := 67) dX12_name_60 (by decide) (fun h60 => ?_) (fun h60 => ?_)
        · refine E_lconst (x := 0) dX12_name_67 (by decide) ?_
          refine E_lret dX12_name_68 rfl ?_
          exact ⟨by unfold nmV; rw [if_neg (fun z => h60 z.1)], rfl⟩
        · refine E_lload_n dX12_name_63 rfl ?_
          refine E_goto (tgt := 68) dX12_name_64 (by decide) ?_
          refine E_lret dX12_name_68 rfl ?_
          have z0 : pE p = 0 := by omega
          exact ⟨by unfold nmV; rw [if_neg (fun z => hc z.2)], rfl⟩
      · refine E_aload_n dX12_name_23 rfl ?_
        refine g_X12_108 rfl dX12_name_24 (by exact hO.o) e15 ?_
        refine E_aload_n dX12_name_27 rfl ?_
        refine g_X12_96 rfl dX12_name_28 (by exact hO.o) e14 ?_
        refine E_isub dX12_name_31 (by omega) (by omega) ?_
        refine E_bipush dX12_name_32 (by decide) ?_
        refine E_icmp_ge (tgt := 56) dX12_name_34 (by decide) (fun h34 => ?_) (fun h34 => ?_)
        · refine E_aload_n dX12_name_56 rfl ?_
          refine g_X12_111 rfl dX12_name_57 (by exact hO.o) e16 ?_
          refine E_if_ne (tgt := 67) dX12_name_60 (by decide) (fun h60 => ?_) (fun h60 => ?_)
          · refine E_lconst (x := 0) dX12_name_67 (by decide) ?_
            refine E_lret dX12_name_68 rfl ?_
            exact ⟨by unfold nmV; rw [if_neg (fun z => h60 z.1)], rfl⟩
          · refine E_lload_n dX12_name_63 rfl ?_
            refine E_goto (tgt := 68) dX12_name_64 (by decide) ?_
            refine E_lret dX12_name_68 rfl ?_
            have z0 : pE p = 0 := by omega
            exact ⟨by unfold nmV; rw [if_neg (fun z => hc z.2)], rfl⟩
        · exfalso; exact hc ⟨hn2 (by omega), by omega⟩
set_option maxRecDepth 20000 in
set_option maxHeartbeats 3000000 in
theorem l_figures {G : Ctx} {M : Mem} {m : Nat} {T : Int → Int} {N : Nat} {p : PT} (h0 : SR M m T N p) (hs : pS p = 2) (n : Nat) (hn : n = pT p - pF p) : ∀ (k r : Nat) , r + k = n → EV G m_X12_figures 0 0 0 (rI M (dg T (pF p) n)) 7 [some (vR m), some (vI (dg T (pF p) r)), some (vI ((pF p : Int) + (r : Int)))] [] M := by
  intro k
  induction k with
  | zero =>
    intro r  hr
    obtain rfl : r = n := by omega
    obtain ⟨hO, hT, e12, e13, e14, e15, e16, e17, hPY⟩ := id h0
    have hv : TVs T N 2 (pF p) (pT p) := by have := hPY.1; unfold PV at this; rw [hs] at this; exact this
    have hft := hv.1
    have htN := hv.2.1
    have h500 := hT.2.1
    refine E_iload_n dX12_figures_7 rfl ?_
    refine E_aload_n dX12_figures_8 rfl ?_
    refine g_X12_108 rfl dX12_figures_9 (by exact hO.o) e15 ?_
    refine E_icmp_ge (tgt := 44) dX12_figures_12 (by decide) (fun h12 => ?_) (fun h12 => ?_)
    · refine E_iload_n dX12_figures_44 rfl ?_
      refine E_iret dX12_figures_45 rfl ?_
      exact ⟨rfl, rfl⟩
    · exfalso; omega
  | succ k ih =>
    intro r  hr
    obtain ⟨hO, hT, e12, e13, e14, e15, e16, e17, hPY⟩ := id h0
    have hv : TVs T N 2 (pF p) (pT p) := by have := hPY.1; unfold PV at this; rw [hs] at this; exact this
    have hft := hv.1
    have htN := hv.2.1
    have h500 := hT.2.1
    have hd0 := fg_v hv r (by omega)
    have hd1 := fg_v hv (r + 1) (by omega)
    have hde : dg T (pF p) (r + 1) = 10 * dg T (pF p) r + T ((pF p + r : Nat) : Int) - 48 := rfl
    have hfg := hv.fig (j := pF p + r) (by omega) (by omega)
    have hx : mI M (m + 6) ((pF p : Int) + (r : Int)) = T ((pF p + r : Nat) : Int) := by
      have z := (hT.2.2 (pF p + r) (by omega)).1
      rw [Int.natCast_add] at z ⊢; exact z
    have e13b : mI M m 13 = 3 := by rw [e13, hs]; rfl
    refine E_iload_n dX12_figures_7 rfl ?_
    refine E_aload_n dX12_figures_8 rfl ?_
    refine g_X12_108 rfl dX12_figures_9 (by exact hO.o) e15 ?_
    refine E_icmp_ge (tgt := 44) dX12_figures_12 (by decide) (fun h12 => ?_) (fun h12 => ?_)
    · exfalso; omega
    · refine E_aload_n dX12_figures_15 rfl ?_
      refine g_X12_99 rfl dX12_figures_16 (by exact hO.o) e13b ?_
      refine E_iconst dX12_figures_19 (by decide) ?_
      refine E_icmp_ne (tgt := 44) dX12_figures_20 (by decide) (fun h20 => ?_) (fun h20 => ?_)
      · exfalso; omega
      · refine E_bipush dX12_figures_23 (by decide) ?_
        refine E_iload_n dX12_figures_25 rfl ?_
        refine E_imul dX12_figures_26 (by omega) (by omega) ?_
        refine E_aload_n dX12_figures_27 rfl ?_
        refine g_X12_25 rfl dX12_figures_28 (by exact hO.o) (by exact hO.tape) ?_
        refine E_iload_n dX12_figures_31 rfl ?_
        refine E_iald dX12_figures_32 (by exact hO.s_tape) (by omega) (by omega) hx ?_
        refine E_iadd dX12_figures_33 (by omega) (by omega) ?_
        refine E_bipush dX12_figures_34 (by decide) ?_
        refine E_isub dX12_figures_36 (by omega) (by omega) ?_
        refine E_istore_n dX12_figures_37 rfl (by decide) ?_
        try dsimp only [List.set]
        refine E_iinc dX12_figures_38 rfl (by omega) (by omega) (by decide) rfl (by decide) ?_
        try dsimp only [List.set]
        refine E_goto (tgt := 7) dX12_figures_41 (by decide) ?_
        exact EV.lq (by rw [hde, show (pF p : Int) + ((r + 1 : Nat) : Int) = (pF p : Int) + (r : Int) + 1 by omega]) (ih (r + 1) (by omega))
set_option maxRecDepth 20000 in
set_option maxHeartbeats 3000000 in
theorem c_figures {G : Ctx} {M : Mem} {m : Nat} {T : Int → Int} {N : Nat} {p : PT} (h0 : SR M m T N p) : CT G m_X12_figures 0 0 0 [vR m] M (rI M (fgV T p)) := by
  refine CT.of k_X12_figures 2 (ls := [some (vR m), none, none]) rfl (Nat.le_of_ble_eq_true rfl) ?_
  obtain ⟨hO, hT, e12, e13, e14, e15, e16, e17, hPY⟩ := id h0
  have hvv := hPY.1
  have hft := hvv.1
  have htN := hvv.2.1
  have h500 := hT.2.1
  refine E_iconst dX12_figures_0 (by decide) ?_
  refine E_istore_n dX12_figures_1 rfl (by decide) ?_
  try dsimp only [List.set]
  refine E_aload_n dX12_figures_2 rfl ?_
  refine g_X12_96 rfl dX12_figures_3 (by exact hO.o) e14 ?_
  refine E_istore_n dX12_figures_6 rfl (by decide) ?_
  try dsimp only [List.set]
  by_cases hc : pS p = 2
  · unfold fgV; rw [if_pos hc]
    exact EV.lq (by rw [show ((pF p : Int) + ((0 : Nat) : Int)) = (pF p : Int) by omega]; rfl) (l_figures h0 hc (pT p - pF p) rfl (pT p - pF p) 0 (by omega))
  · have hn2 : mI M m 13 = 3 → pS p = 2 := fun z => by rw [e13] at z; unfold rsS at z; split at z <;> omega
    unfold fgV; rw [if_neg hc]
    refine E_iload_n dX12_figures_7 rfl ?_
    refine E_aload_n dX12_figures_8 rfl ?_
    refine g_X12_108 rfl dX12_figures_9 (by exact hO.o) e15 ?_
    refine E_icmp_ge (tgt := 44) dX12_figures_12 (by decide) (fun h12 => ?_) (fun h12 => ?_)
    · refine E_iload_n dX12_figures_44 rfl ?_
      refine E_iret dX12_figures_45 rfl ?_
      exact ⟨rfl, rfl⟩
    · refine E_aload_n dX12_figures_15 rfl ?_
      refine g_X12_99 rfl dX12_figures_16 (by exact hO.o) rfl ?_
      refine E_iconst dX12_figures_19 (by decide) ?_
      refine E_icmp_ne (tgt := 44) dX12_figures_20 (by decide) (fun h20 => ?_) (fun h20 => ?_)
      · refine E_iload_n dX12_figures_44 rfl ?_
        refine E_iret dX12_figures_45 rfl ?_
        exact ⟨rfl, rfl⟩
      · exfalso; exact hc (hn2 (by omega))
theorem pX_s {k : Int} {p : PT} : pS (pX k p) = pS p := by
  unfold pX; split <;> rfl
set_option maxRecDepth 20000 in
set_option maxHeartbeats 3000000 in
theorem c_number {G : Ctx} {M : Mem} {m : Nat} {T : Int → Int} {N : Nat} {p : PT} (h0 : SR M m T N p) {lo hi : Int} : CT G m_X12_number 3 0 0 [vR m, vI lo, vI hi] M (fun r M' => r = some (vI (if pE p = 0 then fgV T p else 0)) ∧ SR M' m T N (pU T N lo hi p) ∧ KF M M' m) := by
  refine CT.of k_X12_number 1 (ls := [some (vR m), some (vI lo), some (vI hi), none]) rfl (Nat.le_of_ble_eq_true rfl) ?_
  obtain ⟨hO, hT, e12, e13, e14, e15, e16, e17, hPY⟩ := id h0
  have hp0 := hPY.2.1
  have hn3 : rsS (pS p) = 3 → pS p = 2 := fun z => by unfold rsS at z; split at z <;> omega
  refine E_aload_n dX12_number_0 rfl ?_
  refine g_X12_111 rfl dX12_number_1 (by exact hO.o) e16 ?_
  refine E_if_le (tgt := 9) dX12_number_4 (by decide) (fun h4 => ?_) (fun h4 => ?_)
  · have he : pE p = 0 := by omega
    refine E_aload_n dX12_number_9 rfl ?_
    refine i_X12_124 rfl dX12_number_10 (by exact (by exact hO.o)) (c_figures h0) (by omega) (Nat.le_of_ble_eq_true rfl) rfl rfl ?_
    rintro _ _ ⟨rfl, rfl⟩
    try dsimp only [pu]
    refine E_istore_n dX12_number_13 rfl (by decide) ?_
    try dsimp only [List.set]
    refine E_aload_n dX12_number_14 rfl ?_
    refine g_X12_99 rfl dX12_number_15 (by exact hO.o) e13 ?_
    refine E_iconst dX12_number_18 (by decide) ?_
    refine E_icmp_ne (tgt := 39) dX12_number_19 (by decide) (fun h19 => ?_) (fun h19 => ?_)
    · refine E_aload_n dX12_number_39 rfl ?_
      refine E_aload_n dX12_number_40 rfl ?_
      refine g_X12_99 rfl dX12_number_41 h0.1.o e13 ?_
      refine E_iconst dX12_number_44 (by decide) ?_
      refine E_icmp_ne (tgt := 52) dX12_number_45 (by decide) (fun h45 => ?_) (fun h45 => ?_)
      · refine E_iconst dX12_number_52 (by decide) ?_
        refine i_X12_128 rfl dX12_number_53 (by exact h0.1.o) (c_must h0 false) (by omega) (Nat.le_of_ble_eq_true rfl) rfl rfl ?_
        rintro _ M3 ⟨rfl, h3, k3⟩
        try dsimp only [pu]
        refine E_iload_n dX12_number_56 rfl ?_
        refine E_iret dX12_number_57 rfl ?_
        have e : pN T N (if false = true then p else pX 1 (p)) = pU T N lo hi p := by
          rw [if_neg (by decide)]; exact pU_1 (fun _ z => h19 (by rw [z]; rfl))
        rw [e] at h3
        exact ⟨by rw [if_pos he], h3, k3⟩
      · exfalso; omega
    · refine E_iload_n dX12_number_22 rfl ?_
      refine E_i2l dX12_number_23 ?_
      refine E_iload_n dX12_number_24 rfl ?_
      refine E_i2l dX12_number_25 ?_
      refine E_iload_n dX12_number_26 rfl ?_
      refine E_i2l dX12_number_27 ?_
      refine i_X12_63 rfl dX12_number_28 c_in (by omega) (Nat.le_of_ble_eq_true rfl) rfl rfl ?_
      rintro _ _ ⟨rfl, rfl⟩
      try dsimp only [pu]
      refine E_if_ne (tgt := 39) dX12_number_31 (by decide) (fun h31 => ?_) (fun h31 => ?_)
      · simp only [tB0, ne_eq, Bool.not_eq_false, Bool.not_eq_true, decide_eq_true_eq, decide_eq_false_iff_not, Classical.not_not] at h31
        have hs2 : pS p = 2 := hn3 (by omega)
        refine E_aload_n dX12_number_39 rfl ?_
        refine E_aload_n dX12_number_40 rfl ?_
        refine g_X12_99 rfl dX12_number_41 h0.1.o e13 ?_
        refine E_iconst dX12_number_44 (by decide) ?_
        refine E_icmp_ne (tgt := 52) dX12_number_45 (by decide) (fun h45 => ?_) (fun h45 => ?_)
        · exfalso; rw [hs2] at h45; exact h45 rfl
        · refine E_iconst dX12_number_48 (by decide) ?_
          refine E_goto (tgt := 53) dX12_number_49 (by decide) ?_
          refine i_X12_128 rfl dX12_number_53 (by exact h0.1.o) (c_must h0 true) (by omega) (Nat.le_of_ble_eq_true rfl) rfl rfl ?_
          rintro _ M3 ⟨rfl, h3, k3⟩
          try dsimp only [pu]
          refine E_iload_n dX12_number_56 rfl ?_
          refine E_iret dX12_number_57 rfl ?_
          have e : pN T N (if true = true then p else pX 1 (p)) = pU T N lo hi p := by
            rw [if_pos rfl]; exact pU_0 (fun _ => ⟨hs2, h31⟩)
          rw [e] at h3
          exact ⟨by rw [if_pos he], h3, k3⟩
      · simp only [tB0, ne_eq, Bool.not_eq_false, Bool.not_eq_true, decide_eq_true_eq, decide_eq_false_iff_not, Classical.not_not] at h31
        refine E_aload_n dX12_number_34 rfl ?_
        refine E_iconst dX12_number_35 (by decide) ?_
        refine i_X12_120 rfl dX12_number_36 (by exact (by exact hO.o)) (c_bad h0 (k0 := 2) (by omega)) (by omega) (Nat.le_of_ble_eq_true rfl) rfl rfl ?_
        rintro _ M1 ⟨rfl, h1, k1⟩
        try dsimp only [pu]
        have hs2 : pS p = 2 := hn3 (by omega)
        refine E_aload_n dX12_number_39 rfl ?_
        refine E_aload_n dX12_number_40 rfl ?_
        refine g_X12_99 rfl dX12_number_41 h1.1.o (h1.2.2.2.1.trans (by show rsS (pS (pX 2 p)) = _; rw [pX_s])) ?_
        refine E_iconst dX12_number_44 (by decide) ?_
        refine E_icmp_ne (tgt := 52) dX12_number_45 (by decide) (fun h45 => ?_) (fun h45 => ?_)
        · exfalso; rw [hs2] at h45; exact h45 rfl
        · refine E_iconst dX12_number_48 (by decide) ?_
          refine E_goto (tgt := 53) dX12_number_49 (by decide) ?_
          refine i_X12_128 rfl dX12_number_53 (by exact h1.1.o) (c_must h1 true) (by omega) (Nat.le_of_ble_eq_true rfl) rfl rfl ?_
          rintro _ M3 ⟨rfl, h3, k3⟩
          try dsimp only [pu]
          refine E_iload_n dX12_number_56 rfl ?_
          refine E_iret dX12_number_57 rfl ?_
          have e : pN T N (if true = true then pX 2 p else pX 1 (pX 2 p)) = pU T N lo hi p := by
            rw [if_pos rfl]; exact pU_2 (fun _ => ⟨hs2, h31⟩)
          rw [e] at h3
          exact ⟨by rw [if_pos he], h3, k1.tr k3⟩
  · refine E_iconst dX12_number_7 (by decide) ?_
    refine E_iret dX12_number_8 rfl ?_
    have he : pE p ≠ 0 := by omega
    rw [if_neg he, pU_f he]; exact ⟨rfl, h0, KF.rfl' _ _⟩
set_option maxRecDepth 20000 in
set_option maxHeartbeats 3000000 in
theorem c_kindBy {G : Ctx} {M : Mem} {T : Int → Int} {p : PT} : CT G m_X12_kindBy 0 0 0 [vL (nmV T p)] M (rI M (kdV T p)) := by
  refine CT.of k_X12_kindBy 0 (ls := [some (vL (nmV T p)), none]) rfl (Nat.le_of_ble_eq_true rfl) ?_
  obtain ⟨w0, w1, w2, w3, w4, w5, w6, w7, w8⟩ := wV_is
  refine E_lload_n dX12_kindBy_0 rfl ?_
  refine c_X12_132 rfl dX12_kindBy_1 ?_
  refine E_lcne (tgt := 12) dX12_kindBy_4 dX12_kindBy_5 (by decide) (fun h5 => ?_) (fun h5 => ?_)
  · refine E_lload_n dX12_kindBy_12 rfl ?_
    refine c_X12_134 rfl dX12_kindBy_13 ?_
    refine E_lcne (tgt := 24) dX12_kindBy_16 dX12_kindBy_17 (by decide) (fun h17 => ?_) (fun h17 => ?_)
    · refine E_lload_n dX12_kindBy_24 rfl ?_
      refine c_X12_136 rfl dX12_kindBy_25 ?_
      refine E_lcne (tgt := 36) dX12_kindBy_28 dX12_kindBy_29 (by decide) (fun h29 => ?_) (fun h29 => ?_)
      · refine E_lload_n dX12_kindBy_36 rfl ?_
        refine c_X12_138 rfl dX12_kindBy_37 ?_
        refine E_lcne (tgt := 48) dX12_kindBy_40 dX12_kindBy_41 (by decide) (fun h41 => ?_) (fun h41 => ?_)
        · refine E_lload_n dX12_kindBy_48 rfl ?_
          refine c_X12_140 rfl dX12_kindBy_49 ?_
          refine E_lcne (tgt := 60) dX12_kindBy_52 dX12_kindBy_53 (by decide) (fun h53 => ?_) (fun h53 => ?_)
          · refine c_X12_89 rfl dX12_kindBy_60 ?_
            refine E_iret dX12_kindBy_62 rfl ?_
            refine ⟨?_, rfl⟩
            congr 2; unfold kdV; rw [w4, w5, w6, w7, w8, if_neg (by omega), if_neg (by omega), if_neg (by omega), if_neg (by omega), if_neg (by omega)]
          · refine E_iconst dX12_kindBy_56 (by decide) ?_
            refine E_goto (tgt := 62) dX12_kindBy_57 (by decide) ?_
            refine E_iret dX12_kindBy_62 rfl ?_
            refine ⟨?_, rfl⟩
            congr 2; unfold kdV; rw [w4, w5, w6, w7, w8, if_neg (by omega), if_neg (by omega), if_neg (by omega), if_neg (by omega), if_pos (by omega)]
        · refine E_iconst dX12_kindBy_44 (by decide) ?_
          refine E_goto (tgt := 62) dX12_kindBy_45 (by decide) ?_
          refine E_iret dX12_kindBy_62 rfl ?_
          refine ⟨?_, rfl⟩
          congr 2; unfold kdV; rw [w4, w5, w6, w7, w8, if_neg (by omega), if_pos (by omega)]
      · refine E_iconst dX12_kindBy_32 (by decide) ?_
        refine E_goto (tgt := 62) dX12_kindBy_33 (by decide) ?_
        refine E_iret dX12_kindBy_62 rfl ?_
        refine ⟨?_, rfl⟩
        congr 2; unfold kdV; rw [w4, w5, w6, w7, w8, if_neg (by omega), if_neg (by omega), if_neg (by omega), if_pos (by omega)]
    · refine E_iconst dX12_kindBy_20 (by decide) ?_
      refine E_goto (tgt := 62) dX12_kindBy_21 (by decide) ?_
      refine E_iret dX12_kindBy_62 rfl ?_
      refine ⟨?_, rfl⟩
      congr 2; unfold kdV; rw [w4, w5, w6, w7, w8, if_neg (by omega), if_neg (by omega), if_pos (by omega)]
  · refine E_iconst dX12_kindBy_8 (by decide) ?_
    refine E_goto (tgt := 62) dX12_kindBy_9 (by decide) ?_
    refine E_iret dX12_kindBy_62 rfl ?_
    refine ⟨?_, rfl⟩
    congr 2; unfold kdV; rw [w4, w5, w6, w7, w8, if_pos (by omega)]
set_option maxRecDepth 20000 in
set_option maxHeartbeats 3000000 in
theorem c_mustEnd {G : Ctx} {M : Mem} {m : Nat} {T : Int → Int} {N : Nat} {p : PT} (h0 : SR M m T N p) : CT G m_X12_mustEnd 3 0 0 [vR m] M (fun r M' => r = none ∧ SR M' m T N (pG T N p) ∧ KF M M' m) := by
  refine CT.of k_X12_mustEnd 0 (ls := [some (vR m)]) rfl (Nat.le_of_ble_eq_true rfl) ?_
  obtain ⟨hO, hT, e12, e13, e14, e15, e16, e17, hPY⟩ := id h0
  have hn4 : rsS (pS p) = 4 → pS p = 3 := fun z => by unfold rsS at z; split at z <;> omega
  refine E_aload_n dX12_mustEnd_0 rfl ?_
  refine g_X12_111 rfl dX12_mustEnd_1 (by exact hO.o) e16 ?_
  refine E_if_ne (tgt := 24) dX12_mustEnd_4 (by decide) (fun h4 => ?_) (fun h4 => ?_)
  · refine E_vret dX12_mustEnd_24 rfl ?_
    have he : pE p ≠ 0 := h4
    rw [pG_f he]; exact ⟨rfl, h0, KF.rfl' _ _⟩
  · refine E_aload_n dX12_mustEnd_7 rfl ?_
    refine E_aload_n dX12_mustEnd_8 rfl ?_
    refine g_X12_99 rfl dX12_mustEnd_9 (by exact hO.o) e13 ?_
    refine E_iconst dX12_mustEnd_12 (by decide) ?_
    refine E_icmp_ne (tgt := 20) dX12_mustEnd_13 (by decide) (fun h13 => ?_) (fun h13 => ?_)
    · refine E_iconst dX12_mustEnd_20 (by decide) ?_
      refine i_X12_128 rfl dX12_mustEnd_21 (by exact (by exact hO.o)) (c_must h0 false) (by omega) (Nat.le_of_ble_eq_true rfl) rfl rfl ?_
      rintro _ M1 ⟨rfl, h1, k1⟩
      try dsimp only [pu]
      refine E_vret dX12_mustEnd_24 rfl ?_
      have e : pN T N (if false = true then p else pX 1 p) = pG T N p := by
        rw [if_neg (by decide)]; exact pG_1 (fun _ z => h13 (by rw [z]; rfl))
      rw [e] at h1
      exact ⟨rfl, h1, k1⟩
    · refine E_iconst dX12_mustEnd_16 (by decide) ?_
      refine E_goto (tgt := 21) dX12_mustEnd_17 (by decide) ?_
      refine i_X12_128 rfl dX12_mustEnd_21 (by exact (by exact hO.o)) (c_must h0 true) (by omega) (Nat.le_of_ble_eq_true rfl) rfl rfl ?_
      rintro _ M1 ⟨rfl, h1, k1⟩
      try dsimp only [pu]
      refine E_vret dX12_mustEnd_24 rfl ?_
      have e : pN T N (if true = true then p else pX 1 p) = pG T N p := by
        rw [if_pos rfl]; exact pG_0 (fun _ => hn4 (by omega))
      rw [e] at h1
      exact ⟨rfl, h1, k1⟩
set_option maxRecDepth 20000 in
set_option maxHeartbeats 3000000 in
theorem c_begins {G : Ctx} {M : Mem} {m : Nat} {T : Int → Int} {N : Nat} {p : PT} (h0 : SR M m T N p) {fr : CD} (hf : ∀ j : Int, 0 ≤ j → j < 144 → mI M (m + 5) j = fr j) {j0 rm : Int} (j1 : 0 ≤ j0 ∧ j0 < 144) : CT G m_X12_begins 3 0 0 [vR m, vI j0, vI rm] M (fun r M' => r = none ∧ SR M' m T N (pQ T N (fr j0 = rm) p) ∧ KF M M' m) := by
  refine CT.of k_X12_begins 0 (ls := [some (vR m), some (vI j0), some (vI rm)]) rfl (Nat.le_of_ble_eq_true rfl) ?_
  obtain ⟨hO, hT, e12, e13, e14, e15, e16, e17, hPY⟩ := id h0
  refine E_aload_n dX12_begins_0 rfl ?_
  refine g_X12_22 rfl dX12_begins_1 (by exact hO.o) (by exact hO.fresh) ?_
  refine E_iload_n dX12_begins_4 rfl ?_
  refine E_iald dX12_begins_5 (by exact hO.s_fresh) (by omega) (by omega) (hf _ (by omega) (by omega)) ?_
  refine E_iload_n dX12_begins_6 rfl ?_
  refine E_icmp_ne (tgt := 15) dX12_begins_7 (by decide) (fun h7 => ?_) (fun h7 => ?_)
  · refine E_aload_n dX12_begins_15 rfl ?_
    refine E_iconst dX12_begins_16 (by decide) ?_
    refine i_X12_128 rfl dX12_begins_17 (by exact (by first | exact h1.1.o | exact h0.1.o)) (c_must h0 true) (by omega) (Nat.le_of_ble_eq_true rfl) rfl rfl ?_
    rintro _ M2 ⟨rfl, h2, k2⟩
    try dsimp only [pu]
    refine E_vret dX12_begins_20 rfl ?_
    have e : pN T N (if true = true then p else pX 1 (p)) = pQ T N (fr j0 = rm) p := by
      rw [if_pos rfl]; unfold pQ; rw [if_neg (by omega)]
    rw [e] at h2
    exact ⟨rfl, h2, k2⟩
  · refine E_aload_n dX12_begins_10 rfl ?_
    refine E_iconst dX12_begins_11 (by decide) ?_
    refine i_X12_120 rfl dX12_begins_12 (by exact (by exact hO.o)) (c_bad h0 (k0 := 3) (by omega)) (by omega) (Nat.le_of_ble_eq_true rfl) rfl rfl ?_
    rintro _ M1 ⟨rfl, h1, k1⟩
    try dsimp only [pu]
    refine E_aload_n dX12_begins_15 rfl ?_
    refine E_iconst dX12_begins_16 (by decide) ?_
    refine i_X12_128 rfl dX12_begins_17 (by exact (by first | exact h1.1.o | exact h0.1.o)) (c_must h1 true) (by omega) (Nat.le_of_ble_eq_true rfl) rfl rfl ?_
    rintro _ M2 ⟨rfl, h2, k2⟩
    try dsimp only [pu]
    refine E_vret dX12_begins_20 rfl ?_
    have e : pN T N (if true = true then pX 3 p else pX 1 (pX 3 p)) = pQ T N (fr j0 = rm) p := by
      rw [if_pos rfl]; unfold pQ; rw [if_pos (by omega)]
    rw [e] at h2
    exact ⟨rfl, h2, k1.tr k2⟩
set_option maxRecDepth 20000 in
set_option maxHeartbeats 3000000 in
theorem l_isTold {G : Ctx} {M : Mem} {m : Nat} (hO : MO M m) {fr : CD} (hf : ∀ j : Int, 0 ≤ j → j < 144 → mI M (m + 5) j = fr j) (hb : FB fr) {fl co : Int} (n : Nat) (hn : fr 0 = n) : ∀ (k r : Nat) , r + k = n → EV G m_X12_isTold 0 0 0 (rI M (tB (tdB fr fl co n))) 5 [some (vR m), some (vI fl), some (vI co), some (vI (tB (tdB fr fl co r))), some (vI (r : Int))] [] M := by
  intro k
  induction k with
  | zero =>
    intro r  hr
    obtain rfl : r = n := by omega
    have hb0 := hb.1
    refine E_iload dX12_isTold_5 rfl ?_
    refine E_aload_n dX12_isTold_7 rfl ?_
    refine g_X12_22 rfl dX12_isTold_8 (by exact hO.o) (by exact hO.fresh) ?_
    refine E_iconst dX12_isTold_11 (by decide) ?_
    refine E_iald dX12_isTold_12 (by exact hO.s_fresh) (by omega) (by omega) ((hf _ (by omega) (by omega)).trans hn) ?_
    refine E_icmp_ge (tgt := 66) dX12_isTold_13 (by decide) (fun h13 => ?_) (fun h13 => ?_)
    · refine E_iload_n dX12_isTold_66 rfl ?_
      refine E_zret dX12_isTold_67 rfl (tB_nar _) ?_
      exact ⟨rfl, rfl⟩
    · exfalso; omega
  | succ k ih =>
    intro r  hr
    have hb0 := hb.1
    have hbr := tB_ran (tdB fr fl co r)
    refine E_iload dX12_isTold_5 rfl ?_
    refine E_aload_n dX12_isTold_7 rfl ?_
    refine g_X12_22 rfl dX12_isTold_8 (by exact hO.o) (by exact hO.fresh) ?_
    refine E_iconst dX12_isTold_11 (by decide) ?_
    refine E_iald dX12_isTold_12 (by exact hO.s_fresh) (by omega) (by omega) ((hf _ (by omega) (by omega)).trans hn) ?_
    refine E_icmp_ge (tgt := 66) dX12_isTold_13 (by decide) (fun h13 => ?_) (fun h13 => ?_)
    · exfalso; omega
    · refine E_iload_n dX12_isTold_16 rfl ?_
      refine E_if_ne (tgt := 54) dX12_isTold_17 (by decide) (fun h17 => ?_) (fun h17 => ?_)
      · simp only [tB0, ne_eq, Bool.not_eq_false, Bool.not_eq_true, decide_eq_true_eq, decide_eq_false_iff_not, Classical.not_not] at h17
        refine E_iconst dX12_isTold_54 (by decide) ?_
        refine E_goto (tgt := 59) dX12_isTold_55 (by decide) ?_
        refine E_istore_n dX12_isTold_59 rfl (by decide) ?_
        try dsimp only [List.set]
        refine E_iinc dX12_isTold_60 rfl (by omega) (by omega) (by decide) rfl (by decide) ?_
        try dsimp only [List.set]
        refine E_goto (tgt := 5) dX12_isTold_63 (by decide) ?_
        have e : tdB fr fl co (r + 1) = true := by simp only [tdB]; rw [h17]; rfl
        exact EV.lq (by rw [e]; rfl) (ih (r + 1) (by omega))
      · simp only [tB0, ne_eq, Bool.not_eq_false, Bool.not_eq_true, decide_eq_true_eq, decide_eq_false_iff_not, Classical.not_not] at h17
        refine E_aload_n dX12_isTold_20 rfl ?_
        refine g_X12_22 rfl dX12_isTold_21 (by exact hO.o) (by exact hO.fresh) ?_
        refine E_bipush dX12_isTold_24 (by decide) ?_
        refine E_iconst dX12_isTold_26 (by decide) ?_
        refine E_iload dX12_isTold_27 rfl ?_
        refine E_imul dX12_isTold_29 (by omega) (by omega) ?_
        refine E_iadd dX12_isTold_30 (by omega) (by omega) ?_
        refine E_iald dX12_isTold_31 (by exact hO.s_fresh) (by omega) (by omega) (hf _ (by omega) (by omega)) ?_
        refine E_iload_n dX12_isTold_32 rfl ?_
        refine E_icmp_ne (tgt := 58) dX12_isTold_33 (by decide) (fun h33 => ?_) (fun h33 => ?_)
        · refine E_iconst dX12_isTold_58 (by decide) ?_
          refine E_istore_n dX12_isTold_59 rfl (by decide) ?_
          try dsimp only [List.set]
          refine E_iinc dX12_isTold_60 rfl (by omega) (by omega) (by decide) rfl (by decide) ?_
          try dsimp only [List.set]
          refine E_goto (tgt := 5) dX12_isTold_63 (by decide) ?_
          have hr0 : tdB fr fl co r = false := h17
          have e : tdB fr fl co (r + 1) = false := by simp only [tdB]; rw [hr0, decide_eq_false (by omega)]; rfl
          exact EV.lq (by rw [e]; rfl) (ih (r + 1) (by omega))
        · refine E_aload_n dX12_isTold_36 rfl ?_
          refine g_X12_22 rfl dX12_isTold_37 (by exact hO.o) (by exact hO.fresh) ?_
          refine E_bipush dX12_isTold_40 (by decide) ?_
          refine E_iconst dX12_isTold_42 (by decide) ?_
          refine E_iload dX12_isTold_43 rfl ?_
          refine E_imul dX12_isTold_45 (by omega) (by omega) ?_
          refine E_iadd dX12_isTold_46 (by omega) (by omega) ?_
          refine E_iconst dX12_isTold_47 (by decide) ?_
          refine E_iadd dX12_isTold_48 (by omega) (by omega) ?_
          refine E_iald dX12_isTold_49 (by exact hO.s_fresh) (by omega) (by omega) ((hf _ (by omega) (by omega)).trans (by rw [show 28 + 3 * (r : Int) + 1 = 29 + 3 * (r : Int) by omega])) ?_
          refine E_iload_n dX12_isTold_50 rfl ?_
          refine E_icmp_ne (tgt := 58) dX12_isTold_51 (by decide) (fun h51 => ?_) (fun h51 => ?_)
          · refine E_iconst dX12_isTold_58 (by decide) ?_
            refine E_istore_n dX12_isTold_59 rfl (by decide) ?_
            try dsimp only [List.set]
            refine E_iinc dX12_isTold_60 rfl (by omega) (by omega) (by decide) rfl (by decide) ?_
            try dsimp only [List.set]
            refine E_goto (tgt := 5) dX12_isTold_63 (by decide) ?_
            have hr0 : tdB fr fl co r = false := h17
            have e : tdB fr fl co (r + 1) = false := by simp only [tdB]; rw [hr0, decide_eq_false (by omega)]; rfl
            exact EV.lq (by rw [e]; rfl) (ih (r + 1) (by omega))
          · refine E_iconst dX12_isTold_54 (by decide) ?_
            refine E_goto (tgt := 59) dX12_isTold_55 (by decide) ?_
            refine E_istore_n dX12_isTold_59 rfl (by decide) ?_
            try dsimp only [List.set]
            refine E_iinc dX12_isTold_60 rfl (by omega) (by omega) (by decide) rfl (by decide) ?_
            try dsimp only [List.set]
            refine E_goto (tgt := 5) dX12_isTold_63 (by decide) ?_
            have hr0 : tdB fr fl co r = false := h17
            have e : tdB fr fl co (r + 1) = true := by simp only [tdB]; rw [hr0, decide_eq_true (by omega)]; rfl
            exact EV.lq (by rw [e]; rfl) (ih (r + 1) (by omega))
set_option maxRecDepth 20000 in
set_option maxHeartbeats 3000000 in
theorem c_mIsTold {G : Ctx} {M : Mem} {m : Nat} (hO : MO M m) {fr : CD} (hf : ∀ j : Int, 0 ≤ j → j < 144 → mI M (m + 5) j = fr j) (hb : FB fr) {fl co : Int} : CT G m_X12_isTold 0 0 0 [vR m, vI fl, vI co] M (rI M (tB (tdB fr fl co (fr 0).toNat))) := by
  refine CT.of k_X12_isTold 2 (ls := [some (vR m), some (vI fl), some (vI co), none, none]) rfl (Nat.le_of_ble_eq_true rfl) ?_
  refine E_iconst dX12_isTold_0 (by decide) ?_
  refine E_istore_n dX12_isTold_1 rfl (by decide) ?_
  try dsimp only [List.set]
  refine E_iconst dX12_isTold_2 (by decide) ?_
  refine E_istore dX12_isTold_3 rfl (by decide) ?_
  try dsimp only [List.set]
  have hb0 := hb.1
  exact EV.lq rfl (l_isTold hO hf hb (fr 0).toNat (by omega) (fr 0).toNat 0 (by omega))
