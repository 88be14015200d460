/-! ===== 79: the reference reads lines, rights, pieces ===== -/
def SF (M : Mem) (m : Nat) (T : Int → Int) (N : Nat) (fr : CD) (p : PT) : Prop := SR M m T N p ∧ ∀ j : Int, 0 ≤ j → j < 144 → mI M (m + 5) j = fr j
def KG (M M' : Mem) (m : Nat) : Prop := M' = mJ M (mI M') ∧ ∀ b (j : Int), ¬ (b = m ∧ 12 ≤ j ∧ j ≤ 17) → b ≠ m + 5 → mI M' b j = mI M b j
theorem KG.rfl' (M : Mem) (m : Nat) : KG M M m := ⟨rfl, fun _ _ _ _ => rfl⟩
theorem KG.tr {M M1 M2 : Mem} {m : Nat} (h : KG M M1 m) (g : KG M1 M2 m) : KG M M2 m := by
  refine ⟨?_, fun b j h1 h2 => (g.2 b j h1 h2).trans (h.2 b j h1 h2)⟩
  rw [g.1, h.1]; rfl
theorem SF.st {M M1 : Mem} {m : Nat} {T : Int → Int} {N : Nat} {fr : CD} {p p1 : PT} (h : SF M m T N fr p) (g : SR M1 m T N p1) (k : KF M M1 m) : SF M1 m T N fr p1 ∧ KG M M1 m := ⟨⟨g, fun j j0 j1 => (k.2 _ _ (by omega)).trans (h.2 j j0 j1)⟩, k.1, fun b j h1 _ => k.2 b j h1⟩
theorem SF.q {M : Mem} {m : Nat} {T : Int → Int} {N : Nat} {fr fr2 : CD} {p p2 : PT} (h : SF M m T N fr p) (e : fr = fr2) (f : p = p2) : SF M m T N fr2 p2 := by subst e; subst f; exact h
theorem SF.w {M : Mem} {m : Nat} {T : Int → Int} {N : Nat} {fr : CD} {p : PT} (h : SF M m T N fr p) (j x : Int) : SF (mWI M (m + 5) j x) m T N (upC fr j x) p := by
  obtain ⟨⟨hO, hT, e12, e13, e14, e15, e16, e17, hPY⟩, hf⟩ := h
  refine ⟨⟨hO, ⟨(mI_ne (by omega)).trans hT.1, hT.2.1, fun k hk => ⟨(mI_ne (by omega)).trans (hT.2.2 k hk).1, (hT.2.2 k hk).2⟩⟩, (mI_ne (by omega)).trans e12, (mI_ne (by omega)).trans e13, (mI_ne (by omega)).trans e14, (mI_ne (by omega)).trans e15, (mI_ne (by omega)).trans e16, fun z => (mI_ne (by omega)).trans (e17 z), hPY⟩, fun i i0 i1 => ?_⟩
  by_cases e : i = j
  · rw [e, mI_eq, upC_self]
  · rw [mI_ne (by omega), upC_ne _ _ e]; exact hf i i0 i1
theorem KG.w {M : Mem} {m : Nat} (j x : Int) : KG M (mWI M (m + 5) j x) m := ⟨rfl, fun b i h1 h2 => mI_ne (by omega)⟩
theorem iV_b {T : Int → Int} {N : Nat} {p : PT} (h : PY T N p) : 0 ≤ (if pE p = 0 then fgV T p else 0) ∧ (if pE p = 0 then fgV T p else 0) ≤ 999 := by
  split
  · exact fgV_b h.1
  · omega
theorem SF.y {M : Mem} {m : Nat} {T : Int → Int} {N : Nat} {fr : CD} {p : PT} (h : SF M m T N fr p) : PY T N p := h.1.2.2.2.2.2.2.2.2
set_option maxRecDepth 20000 in
set_option maxHeartbeats 3000000 in
theorem l_rDay {G : Ctx} {M : Mem} {m : Nat} {T : Int → Int} {N : Nat} {p : PT} : ∀ (k r : Nat) (M1 : Mem), r + k = 24 → (SF M1 m T N (dyF T N p r) (dyP T N p r) ∧ KG M M1 m) → EV G m_X12_readDay 4 0 0 (fun r M' => r = none ∧ SF M' m T N (dyF T N p 24) (pG T N (dyP T N p 24)) ∧ KG M M' m) 22 [some (vR m), some (vI (r : Int))] [] M1 := by
  intro k
  induction k with
  | zero =>
    intro r M1 hr hi
    obtain rfl : r = 24 := by omega
    refine E_iload_n dX12_readDay_22 rfl ?_
    refine E_bipush dX12_readDay_23 (by decide) ?_
    refine E_icmp_ge (tgt := 49) dX12_readDay_25 (by decide) (fun h25 => ?_) (fun h25 => ?_)
    · refine E_aload_n dX12_readDay_49 rfl ?_
      refine i_X12_152 rfl dX12_readDay_50 (by exact hi.1.1.1.o) (c_mustEnd hi.1.1) (by omega) (Nat.le_of_ble_eq_true rfl) rfl rfl ?_
      rintro _ M2 ⟨rfl, g2, f2⟩
      obtain ⟨h2, k2⟩ := hi.1.st g2 f2
      try dsimp only [pu]
      refine E_vret dX12_readDay_53 rfl ?_
      exact ⟨rfl, h2, hi.2.tr k2⟩
    · exfalso; omega
  | succ k ih =>
    intro r M1 hr hi
    refine E_iload_n dX12_readDay_22 rfl ?_
    refine E_bipush dX12_readDay_23 (by decide) ?_
    refine E_icmp_ge (tgt := 49) dX12_readDay_25 (by decide) (fun h25 => ?_) (fun h25 => ?_)
    · exfalso; omega
    · refine E_aload_n dX12_readDay_28 rfl ?_
      refine g_X12_22 rfl dX12_readDay_29 hi.1.1.1.o hi.1.1.1.fresh ?_
      refine E_iconst dX12_readDay_32 (by decide) ?_
      refine E_iload_n dX12_readDay_33 rfl ?_
      refine E_iadd dX12_readDay_34 (by omega) (by omega) ?_
      refine E_aload_n dX12_readDay_35 rfl ?_
      refine E_iconst dX12_readDay_36 (by decide) ?_
      refine E_bipush dX12_readDay_37 (by decide) ?_
      refine i_X12_148 rfl dX12_readDay_39 (by exact hi.1.1.1.o) (c_number hi.1.1 (lo := 0) (hi := 99)) (by omega) (Nat.le_of_ble_eq_true rfl) rfl rfl ?_
      rintro _ M2 ⟨rfl, g2, f2⟩
      obtain ⟨h2, k2⟩ := hi.1.st g2 f2
      try dsimp only [pu]
      refine E_iast dX12_readDay_42 h2.1.1.s_fresh (by omega) (by omega) ?_
      refine E_iinc dX12_readDay_43 rfl (by omega) (by omega) (by decide) rfl (by decide) ?_
      try dsimp only [List.set]
      refine E_goto (tgt := 22) dX12_readDay_46 (by decide) ?_
      exact EV.mq rfl rfl (ih (r + 1) (mWI M2 (m + 5) (4 + (r : Int)) (if pE (dyP T N p r) = 0 then fgV T (dyP T N p r) else 0)) (by omega) ⟨h2.w _ _, hi.2.tr (k2.tr (KG.w _ _))⟩)
set_option maxRecDepth 20000 in
set_option maxHeartbeats 3000000 in
theorem c_rDay {G : Ctx} {M : Mem} {m : Nat} {T : Int → Int} {N : Nat} {p : PT} (h0 : SF M m T N (fun _ => 0) p) : CT G m_X12_readDay 4 0 0 [vR m] M (fun r M' => r = none ∧ SF M' m T N (dyF T N p 24) (pG T N (dyP T N p 24)) ∧ KG M M' m) := by
  refine CT.of k_X12_readDay 1 (ls := [some (vR m), none]) rfl (Nat.le_of_ble_eq_true rfl) ?_
  obtain ⟨w0, w1, w2, w3, w4, w5, w6, w7, w8⟩ := wV_is
  refine E_aload_n dX12_readDay_0 rfl ?_
  refine E_aload_n dX12_readDay_1 rfl ?_
  refine i_X12_142 rfl dX12_readDay_2 (by exact h0.1.1.o) (c_name h0.1) (by omega) (Nat.le_of_ble_eq_true rfl) rfl rfl ?_
  rintro _ _ ⟨rfl, rfl⟩
  try dsimp only [pu]
  refine c_X12_146 rfl dX12_readDay_5 ?_
  refine E_lcne (tgt := 16) dX12_readDay_8 dX12_readDay_9 (by decide) (fun h9 => ?_) (fun h9 => ?_)
  · refine E_iconst dX12_readDay_16 (by decide) ?_
    refine i_X12_128 rfl dX12_readDay_17 (by exact h0.1.1.o) (c_must h0.1 false) (by omega) (Nat.le_of_ble_eq_true rfl) rfl rfl ?_
    rintro _ M1 ⟨rfl, g1, f1⟩
    obtain ⟨h1, k1⟩ := h0.st g1 f1
    have e : pN T N (if false = true then p else pX 1 p) = pO T N 0 p := by unfold pO; rw [w0, if_neg h9, if_neg (by decide)]
    rw [e] at h1
    try dsimp only [pu]
    refine E_iconst dX12_readDay_20 (by decide) ?_
    refine E_istore_n dX12_readDay_21 rfl (by decide) ?_
    try dsimp only [List.set]
    exact EV.lq rfl (l_rDay 24 0 M1 (by omega) ⟨h1, k1⟩)
  · refine E_iconst dX12_readDay_12 (by decide) ?_
    refine E_goto (tgt := 17) dX12_readDay_13 (by decide) ?_
    refine i_X12_128 rfl dX12_readDay_17 (by exact h0.1.1.o) (c_must h0.1 true) (by omega) (Nat.le_of_ble_eq_true rfl) rfl rfl ?_
    rintro _ M1 ⟨rfl, g1, f1⟩
    obtain ⟨h1, k1⟩ := h0.st g1 f1
    have e : pN T N (if true = true then p else pX 1 p) = pO T N 0 p := by unfold pO; rw [w0, if_pos h9, if_pos rfl]
    rw [e] at h1
    try dsimp only [pu]
    refine E_iconst dX12_readDay_20 (by decide) ?_
    refine E_istore_n dX12_readDay_21 rfl (by decide) ?_
    try dsimp only [List.set]
    exact EV.lq rfl (l_rDay 24 0 M1 (by omega) ⟨h1, k1⟩)
set_option maxRecDepth 20000 in
set_option maxHeartbeats 3000000 in
theorem c_rLine {G : Ctx} {M : Mem} {m : Nat} {T : Int → Int} {N : Nat} {fr : CD} {p : PT} (h0 : SF M m T N fr p) (hw : WP fr) : CT G m_X12_readLine 4 0 0 [vR m] M (fun r M' => r = none ∧ SF M' m T N (lnF T N (pQ T N (fr 0 = 8) p) fr) (lnP T N (pQ T N (fr 0 = 8) p) fr) ∧ KG M M' m) := by
  refine CT.of k_X12_readLine 4 (ls := [some (vR m), none, none, none, none]) rfl (Nat.le_of_ble_eq_true rfl) ?_
  obtain ⟨q, hq⟩ : ∃ q, q = (pQ T N (fr 0 = 8) p) := ⟨_, rfl⟩
  have hb0 := hw.1.1
  have hb1 := hw.1.2.1
  have hb2 := hw.1.2.2
  refine E_aload_n dX12_readLine_0 rfl ?_
  refine E_iconst dX12_readLine_1 (by decide) ?_
  refine E_bipush dX12_readLine_2 (by decide) ?_
  refine i_X12_155 rfl dX12_readLine_4 (by exact h0.1.1.o) (c_begins h0.1 h0.2 (j0 := 0) (rm := 8) ⟨by omega, by omega⟩) (by omega) (Nat.le_of_ble_eq_true rfl) rfl rfl ?_
  rintro _ M1 ⟨rfl, g1, f1⟩
  obtain ⟨h1, k1⟩ := h0.st g1 f1
  rw [← hq] at h1
  try dsimp only [pu]
  refine E_aload_n dX12_readLine_7 rfl ?_
  refine E_iconst dX12_readLine_8 (by decide) ?_
  refine E_bipush dX12_readLine_9 (by decide) ?_
  refine i_X12_148 rfl dX12_readLine_11 (by exact h1.1.1.o) (c_number h1.1 (lo := 0) (hi := 9)) (by omega) (Nat.le_of_ble_eq_true rfl) rfl rfl ?_
  rintro _ M2 ⟨rfl, g2, f2⟩
  obtain ⟨h2, k2⟩ := h1.st g2 f2
  have h2 : SF M2 m T N fr (ln2 T N q) := h2
  try dsimp only [pu]
  refine E_istore_n dX12_readLine_14 rfl (by decide) ?_
  try dsimp only [List.set]
  refine E_aload_n dX12_readLine_15 rfl ?_
  refine g_X12_111 rfl dX12_readLine_16 h2.1.1.o h2.1.2.2.2.2.2.2.1 ?_
  refine E_if_ne (tgt := 47) dX12_readLine_19 (by decide) (fun h19 => ?_) (fun h19 => ?_)
  · have h3 : SF M2 m T N fr (ln3 T N q fr) := by
      have e : ln3 T N q fr = ln2 T N q := by unfold ln3; rw [if_neg (fun z => h19 z.1)]
      rw [e]; exact h2
    have K3 : KG M M2 m := k1.tr k2
    refine E_aload_n dX12_readLine_47 rfl ?_
    refine E_iconst dX12_readLine_48 (by decide) ?_
    refine E_iconst dX12_readLine_49 (by decide) ?_
    refine i_X12_148 rfl dX12_readLine_50 (by exact h3.1.1.o) (c_number h3.1 (lo := 0) (hi := 3)) (by omega) (Nat.le_of_ble_eq_true rfl) rfl rfl ?_
    rintro _ M4 ⟨rfl, g4, f4⟩
    obtain ⟨h4, k4⟩ := h3.st g4 f4
    have h4 : SF M4 m T N fr (ln4 T N q fr) := h4
    try dsimp only [pu]
    refine E_istore_n dX12_readLine_53 rfl (by decide) ?_
    try dsimp only [List.set]
    refine E_aload_n dX12_readLine_54 rfl ?_
    refine E_iconst dX12_readLine_55 (by decide) ?_
    refine E_bipush dX12_readLine_56 (by decide) ?_
    refine i_X12_148 rfl dX12_readLine_58 (by exact h4.1.1.o) (c_number h4.1 (lo := 1) (hi := 9)) (by omega) (Nat.le_of_ble_eq_true rfl) rfl rfl ?_
    rintro _ M5 ⟨rfl, g5, f5⟩
    obtain ⟨h5, k5⟩ := h4.st g5 f5
    try dsimp only [pu]
    refine E_istore_n dX12_readLine_61 rfl (by decide) ?_
    try dsimp only [List.set]
    refine E_aload_n dX12_readLine_62 rfl ?_
    refine i_X12_152 rfl dX12_readLine_63 (by exact h5.1.1.o) (c_mustEnd h5.1) (by omega) (Nat.le_of_ble_eq_true rfl) rfl rfl ?_
    rintro _ M6 ⟨rfl, g6, f6⟩
    obtain ⟨h6, k6⟩ := h5.st g6 f6
    have h6 : SF M6 m T N fr (lnP T N q fr) := h6
    try dsimp only [pu]
    refine E_aload_n dX12_readLine_66 rfl ?_
    refine g_X12_111 rfl dX12_readLine_67 (by exact h6.1.1.o) h6.1.2.2.2.2.2.2.1 ?_
    refine E_if_ne (tgt := 124) dX12_readLine_70 (by decide) (fun h70 => ?_) (fun h70 => ?_)
    · refine E_vret dX12_readLine_124 rfl ?_
      subst hq
      exact ⟨rfl, h6.q (by unfold lnF; rw [if_neg h70]) rfl, K3.tr (k4.tr (k5.tr k6))⟩
    · have h70 := Classical.not_not.mp h70
      refine E_bipush dX12_readLine_73 (by decide) ?_
      refine E_iconst dX12_readLine_75 (by decide) ?_
      refine E_aload_n dX12_readLine_76 rfl ?_
      refine g_X12_22 rfl dX12_readLine_77 (by exact h6.1.1.o) (by exact h6.1.1.fresh) ?_
      refine E_iconst dX12_readLine_80 (by decide) ?_
      refine E_iald dX12_readLine_81 (by exact h6.1.1.s_fresh) (by omega) (by omega) (h6.2 _ (by omega) (by omega)) ?_
      refine E_imul dX12_readLine_82 (by omega) (by omega) ?_
      refine E_iadd dX12_readLine_83 (by omega) (by omega) ?_
      refine E_istore dX12_readLine_84 rfl (by decide) ?_
      try dsimp only [List.set]
      refine E_aload_n dX12_readLine_86 rfl ?_
      refine g_X12_22 rfl dX12_readLine_87 (by exact h6.1.1.o) (by exact h6.1.1.fresh) ?_
      refine E_iload dX12_readLine_90 rfl ?_
      refine E_iload_n dX12_readLine_92 rfl ?_
      refine E_iast dX12_readLine_93 (by exact h6.1.1.s_fresh) (by omega) (by omega) ?_
      refine E_aload_n dX12_readLine_94 rfl ?_
      refine g_X12_22 rfl dX12_readLine_95 (by exact h6.1.1.o) (by exact h6.1.1.fresh) ?_
      refine E_iload dX12_readLine_98 rfl ?_
      refine E_iconst dX12_readLine_100 (by decide) ?_
      refine E_iadd dX12_readLine_101 (by omega) (by omega) ?_
      refine E_iload_n dX12_readLine_102 rfl ?_
      refine E_iast dX12_readLine_103 (by exact h6.1.1.s_fresh) (by omega) (by omega) ?_
      refine E_aload_n dX12_readLine_104 rfl ?_
      refine g_X12_22 rfl dX12_readLine_105 (by exact h6.1.1.o) (by exact h6.1.1.fresh) ?_
      refine E_iload dX12_readLine_108 rfl ?_
      refine E_iconst dX12_readLine_110 (by decide) ?_
      refine E_iadd dX12_readLine_111 (by omega) (by omega) ?_
      refine E_iload_n dX12_readLine_112 rfl ?_
      refine E_iast dX12_readLine_113 (by exact h6.1.1.s_fresh) (by omega) (by omega) ?_
      refine E_aload_n dX12_readLine_114 rfl ?_
      refine g_X12_22 rfl dX12_readLine_115 (by exact h6.1.1.o) (by exact h6.1.1.fresh) ?_
      refine E_iconst dX12_readLine_118 (by decide) ?_
      refine E_dup2 dX12_readLine_119 rfl rfl ?_
      refine E_iald dX12_readLine_120 (by exact h6.1.1.s_fresh) (by omega) (by omega) ((mI_ne (by omega)).trans ((mI_ne (by omega)).trans ((mI_ne (by omega)).trans ((h6.2 _ (by omega) (by omega)))))) ?_
      refine E_iconst dX12_readLine_121 (by decide) ?_
      refine E_iadd dX12_readLine_122 (by omega) (by omega) ?_
      refine E_iast dX12_readLine_123 (by exact h6.1.1.s_fresh) (by omega) (by omega) ?_
      refine E_vret dX12_readLine_124 rfl ?_
      have hk := ln_k h70
      refine ⟨rfl, ((((h6.w _ _).w _ _).w _ _).w _ _).q ?_ (by rw [hq]), K3.tr (k4.tr (k5.tr (k6.tr ((KG.w _ _).tr ((KG.w _ _).tr ((KG.w _ _).tr (KG.w _ _)))))))⟩
      rw [← hq]
      unfold lnF upL
      rw [if_pos h70, show 28 + 3 * fr 0 + 1 = 29 + 3 * fr 0 by omega, show 28 + 3 * fr 0 + 2 = 30 + 3 * fr 0 by omega, if_pos hk.1, if_pos (pU_k (T := T) (N := N) (lo := 0) (hi := 3) hk.2.2.1).1, fgV_3, if_pos hk.2.2.1]
  · have h19 := Classical.not_not.mp h19
    have hn3 : rsS (pS (ln2 T N q)) = 3 → pS (ln2 T N q) = 2 := fun z => by unfold rsS at z; split at z <;> omega
    refine E_aload_n dX12_readLine_22 rfl ?_
    refine g_X12_99 rfl dX12_readLine_23 h2.1.1.o h2.1.2.2.2.1 ?_
    refine E_iconst dX12_readLine_26 (by decide) ?_
    refine E_icmp_ne (tgt := 47) dX12_readLine_27 (by decide) (fun h27 => ?_) (fun h27 => ?_)
    · have h3 : SF M2 m T N fr (ln3 T N q fr) := by
        have e : ln3 T N q fr = ln2 T N q := by unfold ln3; rw [if_neg (fun z => h27 (by rw [z.2.1]; rfl))]
        rw [e]; exact h2
      have K3 : KG M M2 m := k1.tr k2
      refine E_aload_n dX12_readLine_47 rfl ?_
      refine E_iconst dX12_readLine_48 (by decide) ?_
      refine E_iconst dX12_readLine_49 (by decide) ?_
      refine i_X12_148 rfl dX12_readLine_50 (by exact h3.1.1.o) (c_number h3.1 (lo := 0) (hi := 3)) (by omega) (Nat.le_of_ble_eq_true rfl) rfl rfl ?_
      rintro _ M4 ⟨rfl, g4, f4⟩
      obtain ⟨h4, k4⟩ := h3.st g4 f4
      have h4 : SF M4 m T N fr (ln4 T N q fr) := h4
      try dsimp only [pu]
      refine E_istore_n dX12_readLine_53 rfl (by decide) ?_
      try dsimp only [List.set]
      refine E_aload_n dX12_readLine_54 rfl ?_
      refine E_iconst dX12_readLine_55 (by decide) ?_
      refine E_bipush dX12_readLine_56 (by decide) ?_
      refine i_X12_148 rfl dX12_readLine_58 (by exact h4.1.1.o) (c_number h4.1 (lo := 1) (hi := 9)) (by omega) (Nat.le_of_ble_eq_true rfl) rfl rfl ?_
      rintro _ M5 ⟨rfl, g5, f5⟩
      obtain ⟨h5, k5⟩ := h4.st g5 f5
      try dsimp only [pu]
      refine E_istore_n dX12_readLine_61 rfl (by decide) ?_
      try dsimp only [List.set]
      refine E_aload_n dX12_readLine_62 rfl ?_
      refine i_X12_152 rfl dX12_readLine_63 (by exact h5.1.1.o) (c_mustEnd h5.1) (by omega) (Nat.le_of_ble_eq_true rfl) rfl rfl ?_
      rintro _ M6 ⟨rfl, g6, f6⟩
      obtain ⟨h6, k6⟩ := h5.st g6 f6
      have h6 : SF M6 m T N fr (lnP T N q fr) := h6
      try dsimp only [pu]
      refine E_aload_n dX12_readLine_66 rfl ?_
      refine g_X12_111 rfl dX12_readLine_67 (by exact h6.1.1.o) h6.1.2.2.2.2.2.2.1 ?_
      refine E_if_ne (tgt := 124) dX12_readLine_70 (by decide) (fun h70 => ?_) (fun h70 => ?_)
      · refine E_vret dX12_readLine_124 rfl ?_
        subst hq
        exact ⟨rfl, h6.q (by unfold lnF; rw [if_neg h70]) rfl, K3.tr (k4.tr (k5.tr k6))⟩
      · have h70 := Classical.not_not.mp h70
        refine E_bipush dX12_readLine_73 (by decide) ?_
        refine E_iconst dX12_readLine_75 (by decide) ?_
        refine E_aload_n dX12_readLine_76 rfl ?_
        refine g_X12_22 rfl dX12_readLine_77 (by exact h6.1.1.o) (by exact h6.1.1.fresh) ?_
        refine E_iconst dX12_readLine_80 (by decide) ?_
        refine E_iald dX12_readLine_81 (by exact h6.1.1.s_fresh) (by omega) (by omega) (h6.2 _ (by omega) (by omega)) ?_
        refine E_imul dX12_readLine_82 (by omega) (by omega) ?_
        refine E_iadd dX12_readLine_83 (by omega) (by omega) ?_
        refine E_istore dX12_readLine_84 rfl (by decide) ?_
        try dsimp only [List.set]
        refine E_aload_n dX12_readLine_86 rfl ?_
        refine g_X12_22 rfl dX12_readLine_87 (by exact h6.1.1.o) (by exact h6.1.1.fresh) ?_
        refine E_iload dX12_readLine_90 rfl ?_
        refine E_iload_n dX12_readLine_92 rfl ?_
        refine E_iast dX12_readLine_93 (by exact h6.1.1.s_fresh) (by omega) (by omega) ?_
        refine E_aload_n dX12_readLine_94 rfl ?_
        refine g_X12_22 rfl dX12_readLine_95 (by exact h6.1.1.o) (by exact h6.1.1.fresh) ?_
        refine E_iload dX12_readLine_98 rfl ?_
        refine E_iconst dX12_readLine_100 (by decide) ?_
        refine E_iadd dX12_readLine_101 (by omega) (by omega) ?_
        refine E_iload_n dX12_readLine_102 rfl ?_
        refine E_iast dX12_readLine_103 (by exact h6.1.1.s_fresh) (by omega) (by omega) ?_
        refine E_aload_n dX12_readLine_104 rfl ?_
        refine g_X12_22 rfl dX12_readLine_105 (by exact h6.1.1.o) (by exact h6.1.1.fresh) ?_
        refine E_iload dX12_readLine_108 rfl ?_
        refine E_iconst dX12_readLine_110 (by decide) ?_
        refine E_iadd dX12_readLine_111 (by omega) (by omega) ?_
        refine E_iload_n dX12_readLine_112 rfl ?_
        refine E_iast dX12_readLine_113 (by exact h6.1.1.s_fresh) (by omega) (by omega) ?_
        refine E_aload_n dX12_readLine_114 rfl ?_
        refine g_X12_22 rfl dX12_readLine_115 (by exact h6.1.1.o) (by exact h6.1.1.fresh) ?_
        refine E_iconst dX12_readLine_118 (by decide) ?_
        refine E_dup2 dX12_readLine_119 rfl rfl ?_
        refine E_iald dX12_readLine_120 (by exact h6.1.1.s_fresh) (by omega) (by omega) ((mI_ne (by omega)).trans ((mI_ne (by omega)).trans ((mI_ne (by omega)).trans ((h6.2 _ (by omega) (by omega)))))) ?_
        refine E_iconst dX12_readLine_121 (by decide) ?_
        refine E_iadd dX12_readLine_122 (by omega) (by omega) ?_
        refine E_iast dX12_readLine_123 (by exact h6.1.1.s_fresh) (by omega) (by omega) ?_
        refine E_vret dX12_readLine_124 rfl ?_
        have hk := ln_k h70
        refine ⟨rfl, ((((h6.w _ _).w _ _).w _ _).w _ _).q ?_ (by rw [hq]), K3.tr (k4.tr (k5.tr (k6.tr ((KG.w _ _).tr ((KG.w _ _).tr ((KG.w _ _).tr (KG.w _ _)))))))⟩
        rw [← hq]
        unfold lnF upL
        rw [if_pos h70, show 28 + 3 * fr 0 + 1 = 29 + 3 * fr 0 by omega, show 28 + 3 * fr 0 + 2 = 30 + 3 * fr 0 by omega, if_pos hk.1, if_pos (pU_k (T := T) (N := N) (lo := 0) (hi := 3) hk.2.2.1).1, fgV_3, if_pos hk.2.2.1]
    · refine E_aload_n dX12_readLine_30 rfl ?_
      refine E_iload_n dX12_readLine_31 rfl ?_
      refine E_aload_n dX12_readLine_32 rfl ?_
      refine i_X12_124 rfl dX12_readLine_33 (by exact h2.1.1.o) (c_figures h2.1) (by omega) (Nat.le_of_ble_eq_true rfl) rfl rfl ?_
      rintro _ _ ⟨rfl, rfl⟩
      try dsimp only [pu]
      refine i_X12_159 rfl dX12_readLine_36 (by exact h2.1.1.o) (c_mIsTold h2.1.1 h2.2 hw.1) (by omega) (Nat.le_of_ble_eq_true rfl) rfl rfl ?_
      rintro _ _ ⟨rfl, rfl⟩
      try dsimp only [pu]
      refine E_if_eq (tgt := 47) dX12_readLine_39 (by decide) (fun h39 => ?_) (fun h39 => ?_)
      · simp only [tB0, ne_eq, Bool.not_eq_false, Bool.not_eq_true, decide_eq_true_eq, decide_eq_false_iff_not, Classical.not_not] at h39
        have h3 : SF M2 m T N fr (ln3 T N q fr) := by
          have e : ln3 T N q fr = ln2 T N q := by unfold ln3; rw [if_neg (fun z => by have hp1 := (pU_k (T := T) (N := N) (lo := 0) (hi := 9) (p := q) z.1).1; rw [if_pos hp1] at h39; rw [h39] at z; exact absurd z.2.2 (by decide))]
          rw [e]; exact h2
        have K3 : KG M M2 m := k1.tr k2
        refine E_aload_n dX12_readLine_47 rfl ?_
        refine E_iconst dX12_readLine_48 (by decide) ?_
        refine E_iconst dX12_readLine_49 (by decide) ?_
        refine i_X12_148 rfl dX12_readLine_50 (by exact h3.1.1.o) (c_number h3.1 (lo := 0) (hi := 3)) (by omega) (Nat.le_of_ble_eq_true rfl) rfl rfl ?_
        rintro _ M4 ⟨rfl, g4, f4⟩
        obtain ⟨h4, k4⟩ := h3.st g4 f4
        have h4 : SF M4 m T N fr (ln4 T N q fr) := h4
        try dsimp only [pu]
        refine E_istore_n dX12_readLine_53 rfl (by decide) ?_
        try dsimp only [List.set]
        refine E_aload_n dX12_readLine_54 rfl ?_
        refine E_iconst dX12_readLine_55 (by decide) ?_
        refine E_bipush dX12_readLine_56 (by decide) ?_
        refine i_X12_148 rfl dX12_readLine_58 (by exact h4.1.1.o) (c_number h4.1 (lo := 1) (hi := 9)) (by omega) (Nat.le_of_ble_eq_true rfl) rfl rfl ?_
        rintro _ M5 ⟨rfl, g5, f5⟩
        obtain ⟨h5, k5⟩ := h4.st g5 f5
        try dsimp only [pu]
        refine E_istore_n dX12_readLine_61 rfl (by decide) ?_
        try dsimp only [List.set]
        refine E_aload_n dX12_readLine_62 rfl ?_
        refine i_X12_152 rfl dX12_readLine_63 (by exact h5.1.1.o) (c_mustEnd h5.1) (by omega) (Nat.le_of_ble_eq_true rfl) rfl rfl ?_
        rintro _ M6 ⟨rfl, g6, f6⟩
        obtain ⟨h6, k6⟩ := h5.st g6 f6
        have h6 : SF M6 m T N fr (lnP T N q fr) := h6
        try dsimp only [pu]
        refine E_aload_n dX12_readLine_66 rfl ?_
        refine g_X12_111 rfl dX12_readLine_67 (by exact h6.1.1.o) h6.1.2.2.2.2.2.2.1 ?_
        refine E_if_ne (tgt := 124) dX12_readLine_70 (by decide) (fun h70 => ?_) (fun h70 => ?_)
        · refine E_vret dX12_readLine_124 rfl ?_
          subst hq
          exact ⟨rfl, h6.q (by unfold lnF; rw [if_neg h70]) rfl, K3.tr (k4.tr (k5.tr k6))⟩
        · have h70 := Classical.not_not.mp h70
          refine E_bipush dX12_readLine_73 (by decide) ?_
          refine E_iconst dX12_readLine_75 (by decide) ?_
          refine E_aload_n dX12_readLine_76 rfl ?_
          refine g_X12_22 rfl dX12_readLine_77 (by exact h6.1.1.o) (by exact h6.1.1.fresh) ?_
          refine E_iconst dX12_readLine_80 (by decide) ?_
          refine E_iald dX12_readLine_81 (by exact h6.1.1.s_fresh) (by omega) (by omega) (h6.2 _ (by omega) (by omega)) ?_
          refine E_imul dX12_readLine_82 (by omega) (by omega) ?_
          refine E_iadd dX12_readLine_83 (by omega) (by omega) ?_
          refine E_istore dX12_readLine_84 rfl (by decide) ?_
          try dsimp only [List.set]
          refine E_aload_n dX12_readLine_86 rfl ?_
          refine g_X12_22 rfl dX12_readLine_87 (by exact h6.1.1.o) (by exact h6.1.1.fresh) ?_
          refine E_iload dX12_readLine_90 rfl ?_
          refine E_iload_n dX12_readLine_92 rfl ?_
          refine E_iast dX12_readLine_93 (by exact h6.1.1.s_fresh) (by omega) (by omega) ?_
          refine E_aload_n dX12_readLine_94 rfl ?_
          refine g_X12_22 rfl dX12_readLine_95 (by exact h6.1.1.o) (by exact h6.1.1.fresh) ?_
          refine E_iload dX12_readLine_98 rfl ?_
          refine E_iconst dX12_readLine_100 (by decide) ?_
          refine E_iadd dX12_readLine_101 (by omega) (by omega) ?_
          refine E_iload_n dX12_readLine_102 rfl ?_
          refine E_iast dX12_readLine_103 (by exact h6.1.1.s_fresh) (by omega) (by omega) ?_
          refine E_aload_n dX12_readLine_104 rfl ?_
          refine g_X12_22 rfl dX12_readLine_105 (by exact h6.1.1.o) (by exact h6.1.1.fresh) ?_
          refine E_iload dX12_readLine_108 rfl ?_
          refine E_iconst dX12_readLine_110 (by decide) ?_
          refine E_iadd dX12_readLine_111 (by omega) (by omega) ?_
          refine E_iload_n dX12_readLine_112 rfl ?_
          refine E_iast dX12_readLine_113 (by exact h6.1.1.s_fresh) (by omega) (by omega) ?_
          refine E_aload_n dX12_readLine_114 rfl ?_
          refine g_X12_22 rfl dX12_readLine_115 (by exact h6.1.1.o) (by exact h6.1.1.fresh) ?_
          refine E_iconst dX12_readLine_118 (by decide) ?_
          refine E_dup2 dX12_readLine_119 rfl rfl ?_
          refine E_iald dX12_readLine_120 (by exact h6.1.1.s_fresh) (by omega) (by omega) ((mI_ne (by omega)).trans ((mI_ne (by omega)).trans ((mI_ne (by omega)).trans ((h6.2 _ (by omega) (by omega)))))) ?_
          refine E_iconst dX12_readLine_121 (by decide) ?_
          refine E_iadd dX12_readLine_122 (by omega) (by omega) ?_
          refine E_iast dX12_readLine_123 (by exact h6.1.1.s_fresh) (by omega) (by omega) ?_
          refine E_vret dX12_readLine_124 rfl ?_
          have hk := ln_k h70
          refine ⟨rfl, ((((h6.w _ _).w _ _).w _ _).w _ _).q ?_ (by rw [hq]), K3.tr (k4.tr (k5.tr (k6.tr ((KG.w _ _).tr ((KG.w _ _).tr ((KG.w _ _).tr (KG.w _ _)))))))⟩
          rw [← hq]
          unfold lnF upL
          rw [if_pos h70, show 28 + 3 * fr 0 + 1 = 29 + 3 * fr 0 by omega, show 28 + 3 * fr 0 + 2 = 30 + 3 * fr 0 by omega, if_pos hk.1, if_pos (pU_k (T := T) (N := N) (lo := 0) (hi := 3) hk.2.2.1).1, fgV_3, if_pos hk.2.2.1]
      · simp only [tB0, ne_eq, Bool.not_eq_false, Bool.not_eq_true, decide_eq_true_eq, decide_eq_false_iff_not, Classical.not_not] at h39
        refine E_aload_n dX12_readLine_42 rfl ?_
        refine E_iconst dX12_readLine_43 (by decide) ?_
        refine i_X12_120 rfl dX12_readLine_44 (by exact h2.1.1.o) (c_bad h2.1 (k0 := 2) (by omega)) (by omega) (Nat.le_of_ble_eq_true rfl) rfl rfl ?_
        rintro _ M3 ⟨rfl, g3, f3⟩
        obtain ⟨h3, k3⟩ := h2.st g3 f3
        try dsimp only [pu]
        have hp1 := (pU_k (T := T) (N := N) (lo := 0) (hi := 9) (p := q) h19).1
        have h3 : SF M3 m T N fr (ln3 T N q fr) := by
          have e : ln3 T N q fr = pX 2 (ln2 T N q) := by unfold ln3; rw [if_pos ⟨h19, hn3 (by omega), by rw [if_pos hp1] at h39; exact h39⟩]
          rw [e]; exact h3
        have K3 : KG M M3 m := k1.tr (k2.tr k3)
        refine E_aload_n dX12_readLine_47 rfl ?_
        refine E_iconst dX12_readLine_48 (by decide) ?_
        refine E_iconst dX12_readLine_49 (by decide) ?_
        refine i_X12_148 rfl dX12_readLine_50 (by exact h3.1.1.o) (c_number h3.1 (lo := 0) (hi := 3)) (by omega) (Nat.le_of_ble_eq_true rfl) rfl rfl ?_
        rintro _ M4 ⟨rfl, g4, f4⟩
        obtain ⟨h4, k4⟩ := h3.st g4 f4
        have h4 : SF M4 m T N fr (ln4 T N q fr) := h4
        try dsimp only [pu]
        refine E_istore_n dX12_readLine_53 rfl (by decide) ?_
        try dsimp only [List.set]
        refine E_aload_n dX12_readLine_54 rfl ?_
        refine E_iconst dX12_readLine_55 (by decide) ?_
        refine E_bipush dX12_readLine_56 (by decide) ?_
        refine i_X12_148 rfl dX12_readLine_58 (by exact h4.1.1.o) (c_number h4.1 (lo := 1) (hi := 9)) (by omega) (Nat.le_of_ble_eq_true rfl) rfl rfl ?_
        rintro _ M5 ⟨rfl, g5, f5⟩
        obtain ⟨h5, k5⟩ := h4.st g5 f5
        try dsimp only [pu]
        refine E_istore_n dX12_readLine_61 rfl (by decide) ?_
        try dsimp only [List.set]
        refine E_aload_n dX12_readLine_62 rfl ?_
        refine i_X12_152 rfl dX12_readLine_63 (by exact h5.1.1.o) (c_mustEnd h5.1) (by omega) (Nat.le_of_ble_eq_true rfl) rfl rfl ?_
        rintro _ M6 ⟨rfl, g6, f6⟩
        obtain ⟨h6, k6⟩ := h5.st g6 f6
        have h6 : SF M6 m T N fr (lnP T N q fr) := h6
        try dsimp only [pu]
        refine E_aload_n dX12_readLine_66 rfl ?_
        refine g_X12_111 rfl dX12_readLine_67 (by exact h6.1.1.o) h6.1.2.2.2.2.2.2.1 ?_
        refine E_if_ne (tgt := 124) dX12_readLine_70 (by decide) (fun h70 => ?_) (fun h70 => ?_)
        · refine E_vret dX12_readLine_124 rfl ?_
          subst hq
          exact ⟨rfl, h6.q (by unfold lnF; rw [if_neg h70]) rfl, K3.tr (k4.tr (k5.tr k6))⟩
        · have h70 := Classical.not_not.mp h70
          refine E_bipush dX12_readLine_73 (by decide) ?_
          refine E_iconst dX12_readLine_75 (by decide) ?_
          refine E_aload_n dX12_readLine_76 rfl ?_
          refine g_X12_22 rfl dX12_readLine_77 (by exact h6.1.1.o) (by exact h6.1.1.fresh) ?_
          refine E_iconst dX12_readLine_80 (by decide) ?_
          refine E_iald dX12_readLine_81 (by exact h6.1.1.s_fresh) (by omega) (by omega) (h6.2 _ (by omega) (by omega)) ?_
          refine E_imul dX12_readLine_82 (by omega) (by omega) ?_
          refine E_iadd dX12_readLine_83 (by omega) (by omega) ?_
          refine E_istore dX12_readLine_84 rfl (by decide) ?_
          try dsimp only [List.set]
          refine E_aload_n dX12_readLine_86 rfl ?_
          refine g_X12_22 rfl dX12_readLine_87 (by exact h6.1.1.o) (by exact h6.1.1.fresh) ?_
          refine E_iload dX12_readLine_90 rfl ?_
          refine E_iload_n dX12_readLine_92 rfl ?_
          refine E_iast dX12_readLine_93 (by exact h6.1.1.s_fresh) (by omega) (by omega) ?_
          refine E_aload_n dX12_readLine_94 rfl ?_
          refine g_X12_22 rfl dX12_readLine_95 (by exact h6.1.1.o) (by exact h6.1.1.fresh) ?_
          refine E_iload dX12_readLine_98 rfl ?_
          refine E_iconst dX12_readLine_100 (by decide) ?_
          refine E_iadd dX12_readLine_101 (by omega) (by omega) ?_
          refine E_iload_n dX12_readLine_102 rfl ?_
          refine E_iast dX12_readLine_103 (by exact h6.1.1.s_fresh) (by omega) (by omega) ?_
          refine E_aload_n dX12_readLine_104 rfl ?_
          refine g_X12_22 rfl dX12_readLine_105 (by exact h6.1.1.o) (by exact h6.1.1.fresh) ?_
          refine E_iload dX12_readLine_108 rfl ?_
          refine E_iconst dX12_readLine_110 (by decide) ?_
          refine E_iadd dX12_readLine_111 (by omega) (by omega) ?_
          refine E_iload_n dX12_readLine_112 rfl ?_
          refine E_iast dX12_readLine_113 (by exact h6.1.1.s_fresh) (by omega) (by omega) ?_
          refine E_aload_n dX12_readLine_114 rfl ?_
          refine g_X12_22 rfl dX12_readLine_115 (by exact h6.1.1.o) (by exact h6.1.1.fresh) ?_
          refine E_iconst dX12_readLine_118 (by decide) ?_
          refine E_dup2 dX12_readLine_119 rfl rfl ?_
          refine E_iald dX12_readLine_120 (by exact h6.1.1.s_fresh) (by omega) (by omega) ((mI_ne (by omega)).trans ((mI_ne (by omega)).trans ((mI_ne (by omega)).trans ((h6.2 _ (by omega) (by omega)))))) ?_
          refine E_iconst dX12_readLine_121 (by decide) ?_
          refine E_iadd dX12_readLine_122 (by omega) (by omega) ?_
          refine E_iast dX12_readLine_123 (by exact h6.1.1.s_fresh) (by omega) (by omega) ?_
          refine E_vret dX12_readLine_124 rfl ?_
          have hk := ln_k h70
          refine ⟨rfl, ((((h6.w _ _).w _ _).w _ _).w _ _).q ?_ (by rw [hq]), K3.tr (k4.tr (k5.tr (k6.tr ((KG.w _ _).tr ((KG.w _ _).tr ((KG.w _ _).tr (KG.w _ _)))))))⟩
          rw [← hq]
          unfold lnF upL
          rw [if_pos h70, show 28 + 3 * fr 0 + 1 = 29 + 3 * fr 0 by omega, show 28 + 3 * fr 0 + 2 = 30 + 3 * fr 0 by omega, if_pos hk.1, if_pos (pU_k (T := T) (N := N) (lo := 0) (hi := 3) hk.2.2.1).1, fgV_3, if_pos hk.2.2.1]
set_option maxRecDepth 20000 in
set_option maxHeartbeats 3000000 in
theorem c_rRight {G : Ctx} {M : Mem} {m : Nat} {T : Int → Int} {N : Nat} {fr : CD} {p : PT} (h0 : SF M m T N fr p) (hw : WP fr) : CT G m_X12_readRight 4 0 0 [vR m] M (fun r M' => r = none ∧ SF M' m T N (rtF T N (pQ T N (fr 1 = 8) p) fr) (rtP T N (pQ T N (fr 1 = 8) p) fr) ∧ KG M M' m) := by
  refine CT.of k_X12_readRight 5 (ls := [some (vR m), none, none, none, none, none]) rfl (Nat.le_of_ble_eq_true rfl) ?_
  obtain ⟨q, hq⟩ : ∃ q, q = (pQ T N (fr 1 = 8) p) := ⟨_, rfl⟩
  have hb0 := hw.1.1
  have hb1 := hw.1.2.1
  have hb2 := hw.1.2.2
  refine E_aload_n dX12_readRight_0 rfl ?_
  refine E_iconst dX12_readRight_1 (by decide) ?_
  refine E_bipush dX12_readRight_2 (by decide) ?_
  refine i_X12_155 rfl dX12_readRight_4 (by exact h0.1.1.o) (c_begins h0.1 h0.2 (j0 := 1) (rm := 8) ⟨by omega, by omega⟩) (by omega) (Nat.le_of_ble_eq_true rfl) rfl rfl ?_
  rintro _ M1 ⟨rfl, g1, f1⟩
  obtain ⟨h1, k1⟩ := h0.st g1 f1
  rw [← hq] at h1
  try dsimp only [pu]
  refine E_aload_n dX12_readRight_7 rfl ?_
  refine E_iconst dX12_readRight_8 (by decide) ?_
  refine E_aload_n dX12_readRight_9 rfl ?_
  refine g_X12_22 rfl dX12_readRight_10 h1.1.1.o h1.1.1.fresh ?_
  refine E_iconst dX12_readRight_13 (by decide) ?_
  refine E_iald dX12_readRight_14 h1.1.1.s_fresh (by omega) (by omega) (h1.2 _ (by omega) (by omega)) ?_
  refine E_iconst dX12_readRight_15 (by decide) ?_
  refine E_isub dX12_readRight_16 (by omega) (by omega) ?_
  refine i_X12_148 rfl dX12_readRight_17 (by exact h1.1.1.o) (c_number h1.1 (lo := 0) (hi := fr 0 - 1)) (by omega) (Nat.le_of_ble_eq_true rfl) rfl rfl ?_
  rintro _ M2 ⟨rfl, g2, f2⟩
  obtain ⟨h2, k2⟩ := h1.st g2 f2
  have h2 : SF M2 m T N fr (rt2 T N q fr) := h2
  try dsimp only [pu]
  refine E_istore_n dX12_readRight_20 rfl (by decide) ?_
  try dsimp only [List.set]
  refine E_aload_n dX12_readRight_21 rfl ?_
  refine E_iconst dX12_readRight_22 (by decide) ?_
  refine E_bipush dX12_readRight_23 (by decide) ?_
  refine i_X12_148 rfl dX12_readRight_25 (by exact h2.1.1.o) (c_number h2.1 (lo := 0) (hi := 23)) (by omega) (Nat.le_of_ble_eq_true rfl) rfl rfl ?_
  rintro _ M3 ⟨rfl, g3, f3⟩
  obtain ⟨h3, k3⟩ := h2.st g3 f3
  have h3 : SF M3 m T N fr (rt3 T N q fr) := h3
  try dsimp only [pu]
  refine E_istore_n dX12_readRight_28 rfl (by decide) ?_
  try dsimp only [List.set]
  refine E_aload_n dX12_readRight_29 rfl ?_
  refine E_iload_n dX12_readRight_30 rfl ?_
  refine E_bipush dX12_readRight_31 (by decide) ?_
  refine i_X12_148 rfl dX12_readRight_33 (by exact h3.1.1.o) (c_number h3.1 (hi := 23)) (by omega) (Nat.le_of_ble_eq_true rfl) rfl rfl ?_
  rintro _ M4 ⟨rfl, g4, f4⟩
  obtain ⟨h4, k4⟩ := h3.st g4 f4
  have h4 : SF M4 m T N fr (rt4 T N q fr) := by
    have e : pU T N (if pE (rt2 T N q fr) = 0 then fgV T (rt2 T N q fr) else 0) 23 (rt3 T N q fr) = rt4 T N q fr := by
      by_cases z : pE (rt2 T N q fr) = 0
      · unfold rt4; rw [if_pos z]
      · have z3 : pE (rt3 T N q fr) ≠ 0 := fun y => z (pU_k (T := T) (N := N) y).1
        unfold rt4; rw [pU_f z3, pU_f z3]
    rw [← e]; exact h4
  try dsimp only [pu]
  refine E_istore_n dX12_readRight_36 rfl (by decide) ?_
  try dsimp only [List.set]
  refine E_aload_n dX12_readRight_37 rfl ?_
  refine E_iconst dX12_readRight_38 (by decide) ?_
  refine E_iconst dX12_readRight_39 (by decide) ?_
  refine i_X12_148 rfl dX12_readRight_40 (by exact h4.1.1.o) (c_number h4.1 (lo := 0) (hi := 5)) (by omega) (Nat.le_of_ble_eq_true rfl) rfl rfl ?_
  rintro _ M5 ⟨rfl, g5, f5⟩
  obtain ⟨h5, k5⟩ := h4.st g5 f5
  try dsimp only [pu]
  refine E_istore dX12_readRight_43 rfl (by decide) ?_
  try dsimp only [List.set]
  refine E_aload_n dX12_readRight_45 rfl ?_
  refine i_X12_152 rfl dX12_readRight_46 (by exact h5.1.1.o) (c_mustEnd h5.1) (by omega) (Nat.le_of_ble_eq_true rfl) rfl rfl ?_
  rintro _ M6 ⟨rfl, g6, f6⟩
  obtain ⟨h6, k6⟩ := h5.st g6 f6
  have h6 : SF M6 m T N fr (rtP T N q fr) := h6
  try dsimp only [pu]
  refine E_aload_n dX12_readRight_49 rfl ?_
  refine g_X12_111 rfl dX12_readRight_50 (by exact h6.1.1.o) h6.1.2.2.2.2.2.2.1 ?_
  refine E_if_ne (tgt := 118) dX12_readRight_53 (by decide) (fun h53 => ?_) (fun h53 => ?_)
  · refine E_vret dX12_readRight_118 rfl ?_
    subst hq
    exact ⟨rfl, h6.q (by unfold rtF; rw [if_neg h53]) rfl, k1.tr (k2.tr (k3.tr (k4.tr (k5.tr k6))))⟩
  · have h53 := Classical.not_not.mp h53
    refine E_bipush dX12_readRight_56 (by decide) ?_
    refine E_iconst dX12_readRight_58 (by decide) ?_
    refine E_aload_n dX12_readRight_59 rfl ?_
    refine g_X12_22 rfl dX12_readRight_60 (by exact h6.1.1.o) (by exact h6.1.1.fresh) ?_
    refine E_iconst dX12_readRight_63 (by decide) ?_
    refine E_iald dX12_readRight_64 (by exact h6.1.1.s_fresh) (by omega) (by omega) (h6.2 _ (by omega) (by omega)) ?_
    refine E_imul dX12_readRight_65 (by omega) (by omega) ?_
    refine E_iadd dX12_readRight_66 (by omega) (by omega) ?_
    refine E_istore dX12_readRight_67 rfl (by decide) ?_
    try dsimp only [List.set]
    refine E_aload_n dX12_readRight_69 rfl ?_
    refine g_X12_22 rfl dX12_readRight_70 (by exact h6.1.1.o) (by exact h6.1.1.fresh) ?_
    refine E_iload dX12_readRight_73 rfl ?_
    refine E_iload_n dX12_readRight_75 rfl ?_
    refine E_iast dX12_readRight_76 (by exact h6.1.1.s_fresh) (by omega) (by omega) ?_
    refine E_aload_n dX12_readRight_77 rfl ?_
    refine g_X12_22 rfl dX12_readRight_78 (by exact h6.1.1.o) (by exact h6.1.1.fresh) ?_
    refine E_iload dX12_readRight_81 rfl ?_
    refine E_iconst dX12_readRight_83 (by decide) ?_
    refine E_iadd dX12_readRight_84 (by omega) (by omega) ?_
    refine E_iload_n dX12_readRight_85 rfl ?_
    refine E_iast dX12_readRight_86 (by exact h6.1.1.s_fresh) (by omega) (by omega) ?_
    refine E_aload_n dX12_readRight_87 rfl ?_
    refine g_X12_22 rfl dX12_readRight_88 (by exact h6.1.1.o) (by exact h6.1.1.fresh) ?_
    refine E_iload dX12_readRight_91 rfl ?_
    refine E_iconst dX12_readRight_93 (by decide) ?_
    refine E_iadd dX12_readRight_94 (by omega) (by omega) ?_
    refine E_iload_n dX12_readRight_95 rfl ?_
    refine E_iast dX12_readRight_96 (by exact h6.1.1.s_fresh) (by omega) (by omega) ?_
    refine E_aload_n dX12_readRight_97 rfl ?_
    refine g_X12_22 rfl dX12_readRight_98 (by exact h6.1.1.o) (by exact h6.1.1.fresh) ?_
    refine E_iload dX12_readRight_101 rfl ?_
    refine E_iconst dX12_readRight_103 (by decide) ?_
    refine E_iadd dX12_readRight_104 (by omega) (by omega) ?_
    refine E_iload dX12_readRight_105 rfl ?_
    refine E_iast dX12_readRight_107 (by exact h6.1.1.s_fresh) (by omega) (by omega) ?_
    refine E_aload_n dX12_readRight_108 rfl ?_
    refine g_X12_22 rfl dX12_readRight_109 (by exact h6.1.1.o) (by exact h6.1.1.fresh) ?_
    refine E_iconst dX12_readRight_112 (by decide) ?_
    refine E_dup2 dX12_readRight_113 rfl rfl ?_
    refine E_iald dX12_readRight_114 (by exact h6.1.1.s_fresh) (by omega) (by omega) ((mI_ne (by omega)).trans ((mI_ne (by omega)).trans ((mI_ne (by omega)).trans ((mI_ne (by omega)).trans ((h6.2 _ (by omega) (by omega))))))) ?_
    refine E_iconst dX12_readRight_115 (by decide) ?_
    refine E_iadd dX12_readRight_116 (by omega) (by omega) ?_
    refine E_iast dX12_readRight_117 (by exact h6.1.1.s_fresh) (by omega) (by omega) ?_
    refine E_vret dX12_readRight_118 rfl ?_
    have hk := rt_k h53
    refine ⟨rfl, (((((h6.w _ _).w _ _).w _ _).w _ _).w _ _).q ?_ (by rw [hq]), k1.tr (k2.tr (k3.tr (k4.tr (k5.tr (k6.tr ((KG.w _ _).tr ((KG.w _ _).tr ((KG.w _ _).tr ((KG.w _ _).tr (KG.w _ _))))))))))⟩
    rw [← hq]
    unfold rtF upR
    rw [if_pos h53, show 52 + 4 * fr 1 + 1 = 53 + 4 * fr 1 by omega, show 52 + 4 * fr 1 + 2 = 54 + 4 * fr 1 by omega, show 52 + 4 * fr 1 + 3 = 55 + 4 * fr 1 by omega, if_pos hk.1, if_pos hk.2.1, if_pos hk.2.2.1, if_pos hk.2.2.2.1]
set_option maxRecDepth 20000 in
set_option maxHeartbeats 3000000 in
theorem c_rPiece {G : Ctx} {M : Mem} {m : Nat} {T : Int → Int} {N : Nat} {fr : CD} {p : PT} (h0 : SF M m T N fr p) (hw : WP fr) : CT G m_X12_readPiece 4 0 0 [vR m] M (fun r M' => r = none ∧ SF M' m T N (pcF T N (pQ T N (fr 2 = 10) p) fr) (pcP T N (pQ T N (fr 2 = 10) p)) ∧ KG M M' m) := by
  refine CT.of k_X12_readPiece 5 (ls := [some (vR m), none, none, none, none, none]) rfl (Nat.le_of_ble_eq_true rfl) ?_
  obtain ⟨q, hq⟩ : ∃ q, q = (pQ T N (fr 2 = 10) p) := ⟨_, rfl⟩
  have hb0 := hw.1.1
  have hb1 := hw.1.2.1
  have hb2 := hw.1.2.2
  refine E_aload_n dX12_readPiece_0 rfl ?_
  refine E_iconst dX12_readPiece_1 (by decide) ?_
  refine E_bipush dX12_readPiece_2 (by decide) ?_
  refine i_X12_155 rfl dX12_readPiece_4 (by exact h0.1.1.o) (c_begins h0.1 h0.2 (j0 := 2) (rm := 10) ⟨by omega, by omega⟩) (by omega) (Nat.le_of_ble_eq_true rfl) rfl rfl ?_
  rintro _ M1 ⟨rfl, g1, f1⟩
  obtain ⟨h1, k1⟩ := h0.st g1 f1
  rw [← hq] at h1
  try dsimp only [pu]
  refine E_aload_n dX12_readPiece_7 rfl ?_
  refine i_X12_142 rfl dX12_readPiece_8 (by exact h1.1.1.o) (c_name h1.1) (by omega) (Nat.le_of_ble_eq_true rfl) rfl rfl ?_
  rintro _ _ ⟨rfl, rfl⟩
  try dsimp only [pu]
  refine i_X12_163 rfl dX12_readPiece_11 (c_kindBy (T := T) (p := q)) (by omega) (Nat.le_of_ble_eq_true rfl) rfl rfl ?_
  rintro _ _ ⟨rfl, rfl⟩
  try dsimp only [pu]
  refine E_istore_n dX12_readPiece_14 rfl (by decide) ?_
  try dsimp only [List.set]
  refine E_aload_n dX12_readPiece_15 rfl ?_
  refine g_X12_111 rfl dX12_readPiece_16 h1.1.1.o h1.1.2.2.2.2.2.2.1 ?_
  refine E_if_ne (tgt := 37) dX12_readPiece_19 (by decide) (fun h19 => ?_) (fun h19 => ?_)
  · have h2 : SF M1 m T N fr (pc2 T N q) := h1.q rfl (by unfold pc2; rw [pK_f h19])
    have K2 : KG M M1 m := k1
    refine E_aload_n dX12_readPiece_37 rfl ?_
    refine E_iconst dX12_readPiece_38 (by decide) ?_
    refine E_iconst dX12_readPiece_39 (by decide) ?_
    refine i_X12_148 rfl dX12_readPiece_40 (by exact h2.1.1.o) (c_number h2.1 (lo := 0) (hi := 5)) (by omega) (Nat.le_of_ble_eq_true rfl) rfl rfl ?_
    rintro _ M3 ⟨rfl, g3, f3⟩
    obtain ⟨h3, k3⟩ := h2.st g3 f3
    have h3 : SF M3 m T N fr (pc3 T N q) := h3
    try dsimp only [pu]
    refine E_istore_n dX12_readPiece_43 rfl (by decide) ?_
    try dsimp only [List.set]
    refine E_aload_n dX12_readPiece_44 rfl ?_
    refine E_iconst dX12_readPiece_45 (by decide) ?_
    refine E_bipush dX12_readPiece_46 (by decide) ?_
    refine i_X12_148 rfl dX12_readPiece_48 (by exact h3.1.1.o) (c_number h3.1 (lo := 0) (hi := 99)) (by omega) (Nat.le_of_ble_eq_true rfl) rfl rfl ?_
    rintro _ M4 ⟨rfl, g4, f4⟩
    obtain ⟨h4, k4⟩ := h3.st g4 f4
    have h4 : SF M4 m T N fr (pc4 T N q) := h4
    try dsimp only [pu]
    refine E_istore_n dX12_readPiece_51 rfl (by decide) ?_
    try dsimp only [List.set]
    refine E_aload_n dX12_readPiece_52 rfl ?_
    refine E_iconst dX12_readPiece_53 (by decide) ?_
    refine E_bipush dX12_readPiece_54 (by decide) ?_
    refine i_X12_148 rfl dX12_readPiece_56 (by exact h4.1.1.o) (c_number h4.1 (lo := 1) (hi := 9)) (by omega) (Nat.le_of_ble_eq_true rfl) rfl rfl ?_
    rintro _ M5 ⟨rfl, g5, f5⟩
    obtain ⟨h5, k5⟩ := h4.st g5 f5
    try dsimp only [pu]
    refine E_istore dX12_readPiece_59 rfl (by decide) ?_
    try dsimp only [List.set]
    refine E_aload_n dX12_readPiece_61 rfl ?_
    refine i_X12_152 rfl dX12_readPiece_62 (by exact h5.1.1.o) (c_mustEnd h5.1) (by omega) (Nat.le_of_ble_eq_true rfl) rfl rfl ?_
    rintro _ M6 ⟨rfl, g6, f6⟩
    obtain ⟨h6, k6⟩ := h5.st g6 f6
    have h6 : SF M6 m T N fr (pcP T N q) := h6
    try dsimp only [pu]
    refine E_aload_n dX12_readPiece_65 rfl ?_
    refine g_X12_111 rfl dX12_readPiece_66 (by exact h6.1.1.o) h6.1.2.2.2.2.2.2.1 ?_
    refine E_if_ne (tgt := 146) dX12_readPiece_69 (by decide) (fun h69 => ?_) (fun h69 => ?_)
    · refine E_vret dX12_readPiece_146 rfl ?_
      subst hq
      exact ⟨rfl, h6.q (by unfold pcF; rw [if_neg h69]) rfl, K2.tr (k3.tr (k4.tr (k5.tr k6)))⟩
    · have h69 := Classical.not_not.mp h69
      have hk := pc_k h69
      have h8 : ¬ fr 2 = 10 := (pQ_k (by rw [← hq]; exact hk.1)).2
      refine E_bipush dX12_readPiece_72 (by decide) ?_
      refine E_bipush dX12_readPiece_74 (by decide) ?_
      refine E_aload_n dX12_readPiece_76 rfl ?_
      refine g_X12_22 rfl dX12_readPiece_77 (by exact h6.1.1.o) (by exact h6.1.1.fresh) ?_
      refine E_iconst dX12_readPiece_80 (by decide) ?_
      refine E_iald dX12_readPiece_81 (by exact h6.1.1.s_fresh) (by omega) (by omega) (h6.2 _ (by omega) (by omega)) ?_
      refine E_imul dX12_readPiece_82 (by omega) (by omega) ?_
      refine E_iadd dX12_readPiece_83 (by omega) (by omega) ?_
      refine E_istore dX12_readPiece_84 rfl (by decide) ?_
      try dsimp only [List.set]
      refine E_aload_n dX12_readPiece_86 rfl ?_
      refine g_X12_22 rfl dX12_readPiece_87 (by exact h6.1.1.o) (by exact h6.1.1.fresh) ?_
      refine E_iload dX12_readPiece_90 rfl ?_
      refine E_iload_n dX12_readPiece_92 rfl ?_
      refine E_iast dX12_readPiece_93 (by exact h6.1.1.s_fresh) (by omega) (by omega) ?_
      refine E_aload_n dX12_readPiece_94 rfl ?_
      refine g_X12_22 rfl dX12_readPiece_95 (by exact h6.1.1.o) (by exact h6.1.1.fresh) ?_
      refine E_iload dX12_readPiece_98 rfl ?_
      refine E_iconst dX12_readPiece_100 (by decide) ?_
      refine E_iadd dX12_readPiece_101 (by omega) (by omega) ?_
      refine E_iload_n dX12_readPiece_102 rfl ?_
      refine E_iast dX12_readPiece_103 (by exact h6.1.1.s_fresh) (by omega) (by omega) ?_
      refine E_aload_n dX12_readPiece_104 rfl ?_
      refine g_X12_22 rfl dX12_readPiece_105 (by exact h6.1.1.o) (by exact h6.1.1.fresh) ?_
      refine E_iload dX12_readPiece_108 rfl ?_
      refine E_iconst dX12_readPiece_110 (by decide) ?_
      refine E_iadd dX12_readPiece_111 (by omega) (by omega) ?_
      refine E_iload_n dX12_readPiece_112 rfl ?_
      refine E_iast dX12_readPiece_113 (by exact h6.1.1.s_fresh) (by omega) (by omega) ?_
      refine E_aload_n dX12_readPiece_114 rfl ?_
      refine g_X12_22 rfl dX12_readPiece_115 (by exact h6.1.1.o) (by exact h6.1.1.fresh) ?_
      refine E_iload dX12_readPiece_118 rfl ?_
      refine E_iconst dX12_readPiece_120 (by decide) ?_
      refine E_iadd dX12_readPiece_121 (by omega) (by omega) ?_
      refine E_iload dX12_readPiece_122 rfl ?_
      refine E_iast dX12_readPiece_124 (by exact h6.1.1.s_fresh) (by omega) (by omega) ?_
      refine E_aload_n dX12_readPiece_125 rfl ?_
      refine g_X12_22 rfl dX12_readPiece_126 (by exact h6.1.1.o) (by exact h6.1.1.fresh) ?_
      refine E_iload dX12_readPiece_129 rfl ?_
      refine E_iconst dX12_readPiece_131 (by decide) ?_
      refine E_iadd dX12_readPiece_132 (by omega) (by omega) ?_
      refine c_X12_89 rfl dX12_readPiece_133 ?_
      refine E_iast dX12_readPiece_135 (by exact h6.1.1.s_fresh) (by omega) (by omega) ?_
      refine E_aload_n dX12_readPiece_136 rfl ?_
      refine g_X12_22 rfl dX12_readPiece_137 (by exact h6.1.1.o) (by exact h6.1.1.fresh) ?_
      refine E_iconst dX12_readPiece_140 (by decide) ?_
      refine E_dup2 dX12_readPiece_141 rfl rfl ?_
      refine E_iald dX12_readPiece_142 (by exact h6.1.1.s_fresh) (by omega) (by omega) ((mI_ne (by omega)).trans ((mI_ne (by omega)).trans ((mI_ne (by omega)).trans ((mI_ne (by omega)).trans ((mI_ne (by omega)).trans ((h6.2 _ (by omega) (by omega)))))))) ?_
      refine E_iconst dX12_readPiece_143 (by decide) ?_
      refine E_iadd dX12_readPiece_144 (by omega) (by omega) ?_
      refine E_iast dX12_readPiece_145 (by exact h6.1.1.s_fresh) (by omega) (by omega) ?_
      refine E_vret dX12_readPiece_146 rfl ?_
      refine ⟨rfl, ((((((h6.w _ _).w _ _).w _ _).w _ _).w _ _).w _ _).q ?_ (by rw [hq]), K2.tr (k3.tr (k4.tr (k5.tr (k6.tr ((KG.w _ _).tr ((KG.w _ _).tr ((KG.w _ _).tr ((KG.w _ _).tr ((KG.w _ _).tr (KG.w _ _))))))))))⟩
      rw [← hq]
      unfold pcF upP
      rw [if_pos h69, show 84 + 6 * fr 2 + 1 = 85 + 6 * fr 2 by omega, show 84 + 6 * fr 2 + 2 = 86 + 6 * fr 2 by omega, show 84 + 6 * fr 2 + 3 = 87 + 6 * fr 2 by omega, show 84 + 6 * fr 2 + 4 = 88 + 6 * fr 2 by omega, if_pos hk.2.1, if_pos hk.2.2.1, if_pos hk.2.2.2.1]
  · refine E_aload_n dX12_readPiece_22 rfl ?_
    refine E_iload_n dX12_readPiece_23 rfl ?_
    refine c_X12_89 rfl dX12_readPiece_24 ?_
    refine E_icmp_eq (tgt := 33) dX12_readPiece_26 (by decide) (fun h26 => ?_) (fun h26 => ?_)
    · refine E_iconst dX12_readPiece_33 (by decide) ?_
      refine i_X12_128 rfl dX12_readPiece_34 (by exact h1.1.1.o) (c_must h1.1 false) (by omega) (Nat.le_of_ble_eq_true rfl) rfl rfl ?_
      rintro _ M2 ⟨rfl, g2, f2⟩
      obtain ⟨h2, k2⟩ := h1.st g2 f2
      try dsimp only [pu]
      have h2 : SF M2 m T N fr (pc2 T N q) := h2.q rfl (by unfold pc2 pK; rw [if_neg (by decide), if_neg (fun z => z h26)])
      have K2 : KG M M2 m := k1.tr k2
      refine E_aload_n dX12_readPiece_37 rfl ?_
      refine E_iconst dX12_readPiece_38 (by decide) ?_
      refine E_iconst dX12_readPiece_39 (by decide) ?_
      refine i_X12_148 rfl dX12_readPiece_40 (by exact h2.1.1.o) (c_number h2.1 (lo := 0) (hi := 5)) (by omega) (Nat.le_of_ble_eq_true rfl) rfl rfl ?_
      rintro _ M3 ⟨rfl, g3, f3⟩
      obtain ⟨h3, k3⟩ := h2.st g3 f3
      have h3 : SF M3 m T N fr (pc3 T N q) := h3
      try dsimp only [pu]
      refine E_istore_n dX12_readPiece_43 rfl (by decide) ?_
      try dsimp only [List.set]
      refine E_aload_n dX12_readPiece_44 rfl ?_
      refine E_iconst dX12_readPiece_45 (by decide) ?_
      refine E_bipush dX12_readPiece_46 (by decide) ?_
      refine i_X12_148 rfl dX12_readPiece_48 (by exact h3.1.1.o) (c_number h3.1 (lo := 0) (hi := 99)) (by omega) (Nat.le_of_ble_eq_true rfl) rfl rfl ?_
      rintro _ M4 ⟨rfl, g4, f4⟩
      obtain ⟨h4, k4⟩ := h3.st g4 f4
      have h4 : SF M4 m T N fr (pc4 T N q) := h4
      try dsimp only [pu]
      refine E_istore_n dX12_readPiece_51 rfl (by decide) ?_
      try dsimp only [List.set]
      refine E_aload_n dX12_readPiece_52 rfl ?_
      refine E_iconst dX12_readPiece_53 (by decide) ?_
      refine E_bipush dX12_readPiece_54 (by decide) ?_
      refine i_X12_148 rfl dX12_readPiece_56 (by exact h4.1.1.o) (c_number h4.1 (lo := 1) (hi := 9)) (by omega) (Nat.le_of_ble_eq_true rfl) rfl rfl ?_
      rintro _ M5 ⟨rfl, g5, f5⟩
      obtain ⟨h5, k5⟩ := h4.st g5 f5
      try dsimp only [pu]
      refine E_istore dX12_readPiece_59 rfl (by decide) ?_
      try dsimp only [List.set]
      refine E_aload_n dX12_readPiece_61 rfl ?_
      refine i_X12_152 rfl dX12_readPiece_62 (by exact h5.1.1.o) (c_mustEnd h5.1) (by omega) (Nat.le_of_ble_eq_true rfl) rfl rfl ?_
      rintro _ M6 ⟨rfl, g6, f6⟩
      obtain ⟨h6, k6⟩ := h5.st g6 f6
      have h6 : SF M6 m T N fr (pcP T N q) := h6
      try dsimp only [pu]
      refine E_aload_n dX12_readPiece_65 rfl ?_
      refine g_X12_111 rfl dX12_readPiece_66 (by exact h6.1.1.o) h6.1.2.2.2.2.2.2.1 ?_
      refine E_if_ne (tgt := 146) dX12_readPiece_69 (by decide) (fun h69 => ?_) (fun h69 => ?_)
      · refine E_vret dX12_readPiece_146 rfl ?_
        subst hq
        exact ⟨rfl, h6.q (by unfold pcF; rw [if_neg h69]) rfl, K2.tr (k3.tr (k4.tr (k5.tr k6)))⟩
      · have h69 := Classical.not_not.mp h69
        have hk := pc_k h69
        have h8 : ¬ fr 2 = 10 := (pQ_k (by rw [← hq]; exact hk.1)).2
        refine E_bipush dX12_readPiece_72 (by decide) ?_
        refine E_bipush dX12_readPiece_74 (by decide) ?_
        refine E_aload_n dX12_readPiece_76 rfl ?_
        refine g_X12_22 rfl dX12_readPiece_77 (by exact h6.1.1.o) (by exact h6.1.1.fresh) ?_
        refine E_iconst dX12_readPiece_80 (by decide) ?_
        refine E_iald dX12_readPiece_81 (by exact h6.1.1.s_fresh) (by omega) (by omega) (h6.2 _ (by omega) (by omega)) ?_
        refine E_imul dX12_readPiece_82 (by omega) (by omega) ?_
        refine E_iadd dX12_readPiece_83 (by omega) (by omega) ?_
        refine E_istore dX12_readPiece_84 rfl (by decide) ?_
        try dsimp only [List.set]
        refine E_aload_n dX12_readPiece_86 rfl ?_
        refine g_X12_22 rfl dX12_readPiece_87 (by exact h6.1.1.o) (by exact h6.1.1.fresh) ?_
        refine E_iload dX12_readPiece_90 rfl ?_
        refine E_iload_n dX12_readPiece_92 rfl ?_
        refine E_iast dX12_readPiece_93 (by exact h6.1.1.s_fresh) (by omega) (by omega) ?_
        refine E_aload_n dX12_readPiece_94 rfl ?_
        refine g_X12_22 rfl dX12_readPiece_95 (by exact h6.1.1.o) (by exact h6.1.1.fresh) ?_
        refine E_iload dX12_readPiece_98 rfl ?_
        refine E_iconst dX12_readPiece_100 (by decide) ?_
        refine E_iadd dX12_readPiece_101 (by omega) (by omega) ?_
        refine E_iload_n dX12_readPiece_102 rfl ?_
        refine E_iast dX12_readPiece_103 (by exact h6.1.1.s_fresh) (by omega) (by omega) ?_
        refine E_aload_n dX12_readPiece_104 rfl ?_
        refine g_X12_22 rfl dX12_readPiece_105 (by exact h6.1.1.o) (by exact h6.1.1.fresh) ?_
        refine E_iload dX12_readPiece_108 rfl ?_
        refine E_iconst dX12_readPiece_110 (by decide) ?_
        refine E_iadd dX12_readPiece_111 (by omega) (by omega) ?_
        refine E_iload_n dX12_readPiece_112 rfl ?_
        refine E_iast dX12_readPiece_113 (by exact h6.1.1.s_fresh) (by omega) (by omega) ?_
        refine E_aload_n dX12_readPiece_114 rfl ?_
        refine g_X12_22 rfl dX12_readPiece_115 (by exact h6.1.1.o) (by exact h6.1.1.fresh) ?_
        refine E_iload dX12_readPiece_118 rfl ?_
        refine E_iconst dX12_readPiece_120 (by decide) ?_
        refine E_iadd dX12_readPiece_121 (by omega) (by omega) ?_
        refine E_iload dX12_readPiece_122 rfl ?_
        refine E_iast dX12_readPiece_124 (by exact h6.1.1.s_fresh) (by omega) (by omega) ?_
        refine E_aload_n dX12_readPiece_125 rfl ?_
        refine g_X12_22 rfl dX12_readPiece_126 (by exact h6.1.1.o) (by exact h6.1.1.fresh) ?_
        refine E_iload dX12_readPiece_129 rfl ?_
        refine E_iconst dX12_readPiece_131 (by decide) ?_
        refine E_iadd dX12_readPiece_132 (by omega) (by omega) ?_
        refine c_X12_89 rfl dX12_readPiece_133 ?_
        refine E_iast dX12_readPiece_135 (by exact h6.1.1.s_fresh) (by omega) (by omega) ?_
        refine E_aload_n dX12_readPiece_136 rfl ?_
        refine g_X12_22 rfl dX12_readPiece_137 (by exact h6.1.1.o) (by exact h6.1.1.fresh) ?_
        refine E_iconst dX12_readPiece_140 (by decide) ?_
        refine E_dup2 dX12_readPiece_141 rfl rfl ?_
        refine E_iald dX12_readPiece_142 (by exact h6.1.1.s_fresh) (by omega) (by omega) ((mI_ne (by omega)).trans ((mI_ne (by omega)).trans ((mI_ne (by omega)).trans ((mI_ne (by omega)).trans ((mI_ne (by omega)).trans ((h6.2 _ (by omega) (by omega)))))))) ?_
        refine E_iconst dX12_readPiece_143 (by decide) ?_
        refine E_iadd dX12_readPiece_144 (by omega) (by omega) ?_
        refine E_iast dX12_readPiece_145 (by exact h6.1.1.s_fresh) (by omega) (by omega) ?_
        refine E_vret dX12_readPiece_146 rfl ?_
        refine ⟨rfl, ((((((h6.w _ _).w _ _).w _ _).w _ _).w _ _).w _ _).q ?_ (by rw [hq]), K2.tr (k3.tr (k4.tr (k5.tr (k6.tr ((KG.w _ _).tr ((KG.w _ _).tr ((KG.w _ _).tr ((KG.w _ _).tr ((KG.w _ _).tr (KG.w _ _))))))))))⟩
        rw [← hq]
        unfold pcF upP
        rw [if_pos h69, show 84 + 6 * fr 2 + 1 = 85 + 6 * fr 2 by omega, show 84 + 6 * fr 2 + 2 = 86 + 6 * fr 2 by omega, show 84 + 6 * fr 2 + 3 = 87 + 6 * fr 2 by omega, show 84 + 6 * fr 2 + 4 = 88 + 6 * fr 2 by omega, if_pos hk.2.1, if_pos hk.2.2.1, if_pos hk.2.2.2.1]
    · refine E_iconst dX12_readPiece_29 (by decide) ?_
      refine E_goto (tgt := 34) dX12_readPiece_30 (by decide) ?_
      refine i_X12_128 rfl dX12_readPiece_34 (by exact h1.1.1.o) (c_must h1.1 true) (by omega) (Nat.le_of_ble_eq_true rfl) rfl rfl ?_
      rintro _ M2 ⟨rfl, g2, f2⟩
      obtain ⟨h2, k2⟩ := h1.st g2 f2
      try dsimp only [pu]
      have h2 : SF M2 m T N fr (pc2 T N q) := h2.q rfl (by unfold pc2 pK; rw [if_pos h26, if_pos rfl])
      have K2 : KG M M2 m := k1.tr k2
      refine E_aload_n dX12_readPiece_37 rfl ?_
      refine E_iconst dX12_readPiece_38 (by decide) ?_
      refine E_iconst dX12_readPiece_39 (by decide) ?_
      refine i_X12_148 rfl dX12_readPiece_40 (by exact h2.1.1.o) (c_number h2.1 (lo := 0) (hi := 5)) (by omega) (Nat.le_of_ble_eq_true rfl) rfl rfl ?_
      rintro _ M3 ⟨rfl, g3, f3⟩
      obtain ⟨h3, k3⟩ := h2.st g3 f3
      have h3 : SF M3 m T N fr (pc3 T N q) := h3
      try dsimp only [pu]
      refine E_istore_n dX12_readPiece_43 rfl (by decide) ?_
      try dsimp only [List.set]
      refine E_aload_n dX12_readPiece_44 rfl ?_
      refine E_iconst dX12_readPiece_45 (by decide) ?_
      refine E_bipush dX12_readPiece_46 (by decide) ?_
      refine i_X12_148 rfl dX12_readPiece_48 (by exact h3.1.1.o) (c_number h3.1 (lo := 0) (hi := 99)) (by omega) (Nat.le_of_ble_eq_true rfl) rfl rfl ?_
      rintro _ M4 ⟨rfl, g4, f4⟩
      obtain ⟨h4, k4⟩ := h3.st g4 f4
      have h4 : SF M4 m T N fr (pc4 T N q) := h4
      try dsimp only [pu]
      refine E_istore_n dX12_readPiece_51 rfl (by decide) ?_
      try dsimp only [List.set]
      refine E_aload_n dX12_readPiece_52 rfl ?_
      refine E_iconst dX12_readPiece_53 (by decide) ?_
      refine E_bipush dX12_readPiece_54 (by decide) ?_
      refine i_X12_148 rfl dX12_readPiece_56 (by exact h4.1.1.o) (c_number h4.1 (lo := 1) (hi := 9)) (by omega) (Nat.le_of_ble_eq_true rfl) rfl rfl ?_
      rintro _ M5 ⟨rfl, g5, f5⟩
      obtain ⟨h5, k5⟩ := h4.st g5 f5
      try dsimp only [pu]
      refine E_istore dX12_readPiece_59 rfl (by decide) ?_
      try dsimp only [List.set]
      refine E_aload_n dX12_readPiece_61 rfl ?_
      refine i_X12_152 rfl dX12_readPiece_62 (by exact h5.1.1.o) (c_mustEnd h5.1) (by omega) (Nat.le_of_ble_eq_true rfl) rfl rfl ?_
      rintro _ M6 ⟨rfl, g6, f6⟩
      obtain ⟨h6, k6⟩ := h5.st g6 f6
      have h6 : SF M6 m T N fr (pcP T N q) := h6
      try dsimp only [pu]
      refine E_aload_n dX12_readPiece_65 rfl ?_
      refine g_X12_111 rfl dX12_readPiece_66 (by exact h6.1.1.o) h6.1.2.2.2.2.2.2.1 ?_
      refine E_if_ne (tgt := 146) dX12_readPiece_69 (by decide) (fun h69 => ?_) (fun h69 => ?_)
      · refine E_vret dX12_readPiece_146 rfl ?_
        subst hq
        exact ⟨rfl, h6.q (by unfold pcF; rw [if_neg h69]) rfl, K2.tr (k3.tr (k4.tr (k5.tr k6)))⟩
      · have h69 := Classical.not_not.mp h69
        have hk := pc_k h69
        have h8 : ¬ fr 2 = 10 := (pQ_k (by rw [← hq]; exact hk.1)).2
        refine E_bipush dX12_readPiece_72 (by decide) ?_
        refine E_bipush dX12_readPiece_74 (by decide) ?_
        refine E_aload_n dX12_readPiece_76 rfl ?_
        refine g_X12_22 rfl dX12_readPiece_77 (by exact h6.1.1.o) (by exact h6.1.1.fresh) ?_
        refine E_iconst dX12_readPiece_80 (by decide) ?_
        refine E_iald dX12_readPiece_81 (by exact h6.1.1.s_fresh) (by omega) (by omega) (h6.2 _ (by omega) (by omega)) ?_
        refine E_imul dX12_readPiece_82 (by omega) (by omega) ?_
        refine E_iadd dX12_readPiece_83 (by omega) (by omega) ?_
        refine E_istore dX12_readPiece_84 rfl (by decide) ?_
        try dsimp only [List.set]
        refine E_aload_n dX12_readPiece_86 rfl ?_
        refine g_X12_22 rfl dX12_readPiece_87 (by exact h6.1.1.o) (by exact h6.1.1.fresh) ?_
        refine E_iload dX12_readPiece_90 rfl ?_
        refine E_iload_n dX12_readPiece_92 rfl ?_
        refine E_iast dX12_readPiece_93 (by exact h6.1.1.s_fresh) (by omega) (by omega) ?_
        refine E_aload_n dX12_readPiece_94 rfl ?_
        refine g_X12_22 rfl dX12_readPiece_95 (by exact h6.1.1.o) (by exact h6.1.1.fresh) ?_
        refine E_iload dX12_readPiece_98 rfl ?_
        refine E_iconst dX12_readPiece_100 (by decide) ?_
        refine E_iadd dX12_readPiece_101 (by omega) (by omega) ?_
        refine E_iload_n dX12_readPiece_102 rfl ?_
        refine E_iast dX12_readPiece_103 (by exact h6.1.1.s_fresh) (by omega) (by omega) ?_
        refine E_aload_n dX12_readPiece_104 rfl ?_
        refine g_X12_22 rfl dX12_readPiece_105 (by exact h6.1.1.o) (by exact h6.1.1.fresh) ?_
        refine E_iload dX12_readPiece_108 rfl ?_
        refine E_iconst dX12_readPiece_110 (by decide) ?_
        refine E_iadd dX12_readPiece_111 (by omega) (by omega) ?_
        refine E_iload_n dX12_readPiece_112 rfl ?_
        refine E_iast dX12_readPiece_113 (by exact h6.1.1.s_fresh) (by omega) (by omega) ?_
        refine E_aload_n dX12_readPiece_114 rfl ?_
        refine g_X12_22 rfl dX12_readPiece_115 (by exact h6.1.1.o) (by exact h6.1.1.fresh) ?_
        refine E_iload dX12_readPiece_118 rfl ?_
        refine E_iconst dX12_readPiece_120 (by decide) ?_
        refine E_iadd dX12_readPiece_121 (by omega) (by omega) ?_
        refine E_iload dX12_readPiece_122 rfl ?_
        refine E_iast dX12_readPiece_124 (by exact h6.1.1.s_fresh) (by omega) (by omega) ?_
        refine E_aload_n dX12_readPiece_125 rfl ?_
        refine g_X12_22 rfl dX12_readPiece_126 (by exact h6.1.1.o) (by exact h6.1.1.fresh) ?_
        refine E_iload dX12_readPiece_129 rfl ?_
        refine E_iconst dX12_readPiece_131 (by decide) ?_
        refine E_iadd dX12_readPiece_132 (by omega) (by omega) ?_
        refine c_X12_89 rfl dX12_readPiece_133 ?_
        refine E_iast dX12_readPiece_135 (by exact h6.1.1.s_fresh) (by omega) (by omega) ?_
        refine E_aload_n dX12_readPiece_136 rfl ?_
        refine g_X12_22 rfl dX12_readPiece_137 (by exact h6.1.1.o) (by exact h6.1.1.fresh) ?_
        refine E_iconst dX12_readPiece_140 (by decide) ?_
        refine E_dup2 dX12_readPiece_141 rfl rfl ?_
        refine E_iald dX12_readPiece_142 (by exact h6.1.1.s_fresh) (by omega) (by omega) ((mI_ne (by omega)).trans ((mI_ne (by omega)).trans ((mI_ne (by omega)).trans ((mI_ne (by omega)).trans ((mI_ne (by omega)).trans ((h6.2 _ (by omega) (by omega)))))))) ?_
        refine E_iconst dX12_readPiece_143 (by decide) ?_
        refine E_iadd dX12_readPiece_144 (by omega) (by omega) ?_
        refine E_iast dX12_readPiece_145 (by exact h6.1.1.s_fresh) (by omega) (by omega) ?_
        refine E_vret dX12_readPiece_146 rfl ?_
        refine ⟨rfl, ((((((h6.w _ _).w _ _).w _ _).w _ _).w _ _).w _ _).q ?_ (by rw [hq]), K2.tr (k3.tr (k4.tr (k5.tr (k6.tr ((KG.w _ _).tr ((KG.w _ _).tr ((KG.w _ _).tr ((KG.w _ _).tr ((KG.w _ _).tr (KG.w _ _))))))))))⟩
        rw [← hq]
        unfold pcF upP
        rw [if_pos h69, show 84 + 6 * fr 2 + 1 = 85 + 6 * fr 2 by omega, show 84 + 6 * fr 2 + 2 = 86 + 6 * fr 2 by omega, show 84 + 6 * fr 2 + 3 = 87 + 6 * fr 2 by omega, show 84 + 6 * fr 2 + 4 = 88 + 6 * fr 2 by omega, if_pos hk.2.1, if_pos hk.2.2.1, if_pos hk.2.2.2.1]
