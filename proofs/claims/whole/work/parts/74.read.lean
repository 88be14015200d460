/-! ===== 74: the class reads lines, rights, pieces ===== -/
/-- the reader at a and the court at c -/
def ST (M : Mem) (a c : Nat) (T : Int → Int) (N : Nat) (fr : CD) (p : PT) : Prop := RQ M a ∧ TP (mI M) a T N ∧ CA M c ∧ CP (mI M) c fr ∧ CR T N (mI M) a p
/-- only the reader's token and fault and the court's rows have changed, but not the row d -/
def KB (M M' : Mem) (a c d : Nat) : Prop := M' = mJ M (mI M') ∧ ∀ b (j : Int), ¬ (b = a ∧ 2 ≤ j ∧ j ≤ 6) → (b < c ∨ c + 13 < b ∨ b = c + 5 ∨ b = d) → mI M' b j = mI M b j
theorem KB.rfl' (M : Mem) (a c d : Nat) : KB M M a c d := ⟨rfl, fun _ _ _ _ => rfl⟩
theorem KB.tr {M M1 M2 : Mem} {a c d : Nat} (h : KB M M1 a c d) (g : KB M1 M2 a c d) : KB M M2 a c d := by
  refine ⟨?_, fun b j h1 h2 => (g.2 b j h1 h2).trans (h.2 b j h1 h2)⟩
  rw [g.1, h.1]; rfl
theorem ST.st {M M1 : Mem} {a c : Nat} {T : Int → Int} {N : Nat} {fr : CD} {p p2 : PT} {I : AS} (h : ST M a c T N fr p) (hac : a + 1 < c) (hM : M1 = mJ M I) (hA : RA M a I) (hD : CR T N I a p2) : ST M1 a c T N fr p2 ∧ KB M M1 a c (c + 1) := by
  subst hM
  obtain ⟨h1, h2, h3, h4, h5⟩ := h
  exact ⟨⟨h1, hA.tp h2, h3, h4.of (fun b j b0 b1 _ _ => hA b j (by omega)), hD⟩, rfl, fun b j g1 g2 => hA b j g1⟩
theorem CR.of {T : Int → Int} {N : Nat} {I J : AS} {a : Nat} {p : PT} (h : CR T N I a p) (e : ∀ j, J a j = I a j) : CR T N J a p := by
  obtain ⟨s, f, t, e2, e3, e4, hv, hp, e5, e6⟩ := h
  exact ⟨s, f, t, (e 2).trans e2, (e 3).trans e3, (e 4).trans e4, hv, hp, (e 5).trans e5, fun z => (e 6).trans (e6 z)⟩
theorem ST.ad {M M1 : Mem} {a c : Nat} {T : Int → Int} {N : Nat} {fr fr2 : CD} {p : PT} {I : AS} (h : ST M a c T N fr p) (hac : a + 1 < c) (hM : M1 = mJ M I) (hP : CP I c fr2) (hW : CW M c I) : ST M1 a c T N fr2 p ∧ KB M M1 a c (c + 1) := by
  subst hM
  obtain ⟨h1, h2, h3, h4, h5⟩ := h
  refine ⟨⟨h1, ⟨(hW _ _ (by omega)).trans h2.1, h2.2.1, fun k hk => ⟨(hW _ _ (by omega)).trans (h2.2.2 k hk).1, (h2.2.2 k hk).2⟩⟩, h3, hP, h5.of (fun j => hW _ _ (by omega))⟩, rfl, fun b j g1 g2 => hW b j (by omega)⟩
theorem pR_k {T : Int → Int} {N : Nat} {i : Nat} {b : Bool} {p : PT} (h : pE (pR T N i b p) = 0) : pE p = 0 ∧ b = true := by
  unfold pR at h
  rw [pN_e] at h
  split at h
  · split at h
    · rename_i e; exact ⟨h, e⟩
    · rw [pX_e] at h; split at h <;> omega
  · rw [pX_e] at h; split at h <;> omega
theorem pR_o {T : Int → Int} {N : Nat} {i : Nat} {p : PT} : pR T N i true p = pO T N i p := by
  unfold pR pO; rw [if_pos rfl]
theorem pR_x {T : Int → Int} {N : Nat} {i : Nat} {b : Bool} {p : PT} (h : nmV T p ≠ wV i) : pR T N i b p = pX 1 p := by
  unfold pR; rw [if_neg h]
  rw [pN_f]
  rw [pX_e]; split
  · decide
  · assumption
theorem pR_q {T : Int → Int} {N : Nat} {i : Nat} {p : PT} {x y : Int} (h : nmV T p = wV i) (hx : x ≤ y) : pR T N i (decide (x < y)) p = pQ T N (x = y) p := by
  unfold pR pQ; rw [if_pos h]
  by_cases e : x = y
  · rw [if_pos e, if_neg (by simp; omega)]
  · rw [if_neg e, if_pos (by simp; omega)]
set_option maxRecDepth 20000 in
set_option maxHeartbeats 3000000 in
theorem c_readLine {G : Ctx} {M : Mem} {a c : Nat} {T : Int → Int} {N : Nat} {fr : CD} {p : PT} (h0 : ST M a c T N fr p) (hw : WP fr) (hac : a + 1 < c) : CT G m_X3_readLine 6 0 0 [vR a, vR c] M (fun r M' => r = none ∧ ST M' a c T N (lnF T N (pR T N 1 (decide (fr 0 < 8)) p) fr) (lnP T N (pR T N 1 (decide (fr 0 < 8)) p) fr) ∧ KB M M' a c (c + 1)) := by
  refine CT.of k_X3_readLine 4 (ls := [some (vR a), some (vR c), none, none, none, none]) rfl (Nat.le_of_ble_eq_true rfl) ?_
  obtain ⟨q, hq⟩ : ∃ q, q = (pR T N 1 (decide (fr 0 < 8)) p) := ⟨_, rfl⟩
  have hb0 := hw.1.1
  have hb1 := hw.1.2.1
  have hb2 := hw.1.2.2
  refine E_aload_n dX3_readLine_0 rfl ?_
  refine E_ldcS (i := 1) dX3_readLine_1 rfl rfl rfl ?_
  refine E_aload_n dX3_readLine_3 rfl ?_
  refine g_X3_85 rfl dX3_readLine_4 h0.2.2.1.o h0.2.2.2.1.1.1 ?_
  refine E_bipush dX3_readLine_7 (by decide) ?_
  refine E_icmp_ge (tgt := 16) dX3_readLine_9 (by decide) (fun h9 => ?_) (fun h9 => ?_)
  · refine E_iconst dX3_readLine_16 (by decide) ?_
    refine i_X3_62 rfl dX3_readLine_17 (by exact h0.1.o) (c_readWord h0.1 h0.2.1 h0.2.2.2.2 (i := 1) (by omega) false) (by omega) (Nat.le_of_ble_eq_true rfl) rfl rfl ?_
    rintro _ M1 ⟨rfl, I1, hM1, hA1, hD1⟩
    obtain ⟨h1, k1⟩ := h0.st hac hM1 hA1 hD1
    have eq1 : pR T N 1 false p = q := by rw [hq, decide_eq_false (by omega)]
    rw [eq1] at h1
    try dsimp only [pu]
    refine E_aload_n dX3_readLine_20 rfl ?_
    refine E_iconst dX3_readLine_21 (by decide) ?_
    refine E_bipush dX3_readLine_22 (by decide) ?_
    refine i_X3_69 rfl dX3_readLine_24 (by exact h1.1.o) (c_readNumber h1.1 h1.2.1 h1.2.2.2.2) (by omega) (Nat.le_of_ble_eq_true rfl) rfl rfl ?_
    rintro _ M2 ⟨v1, rfl, hv1, hbv1, I2, hM2, hA2, hD2⟩
    obtain ⟨h2, k2⟩ := h1.st hac hM2 hA2 hD2
    have h2 : ST M2 a c T N fr (ln2 T N q) := h2
    obtain ⟨s2, f2, t2, x2, x3, x4, xv, xp, x5, x6⟩ := id h2.2.2.2.2
    try dsimp only [pu]
    refine E_istore_n dX3_readLine_27 rfl (by decide) ?_
    try dsimp only [List.set]
    refine E_aload_n dX3_readLine_28 rfl ?_
    refine g_X3_50 rfl dX3_readLine_29 h2.1.o x3 ?_
    refine E_istore_n dX3_readLine_32 rfl (by decide) ?_
    try dsimp only [List.set]
    refine E_aload_n dX3_readLine_33 rfl ?_
    refine E_iconst dX3_readLine_34 (by decide) ?_
    refine E_iconst dX3_readLine_35 (by decide) ?_
    refine i_X3_69 rfl dX3_readLine_36 (by exact h2.1.o) (c_readNumber h2.1 h2.2.1 h2.2.2.2.2) (by omega) (Nat.le_of_ble_eq_true rfl) rfl rfl ?_
    rintro _ M3 ⟨v2, rfl, hv2, hbv2, I3, hM3, hA3, hD3⟩
    obtain ⟨h3, k3⟩ := h2.st hac hM3 hA3 hD3
    try dsimp only [pu]
    refine E_istore dX3_readLine_39 rfl (by decide) ?_
    try dsimp only [List.set]
    refine E_aload_n dX3_readLine_41 rfl ?_
    refine E_iload_n dX3_readLine_42 rfl ?_
    refine E_iload dX3_readLine_43 rfl ?_
    refine i_X3_88 rfl dX3_readLine_45 (by exact h3.2.2.1.o) (c_hasLineAt h3.2.2.1 h3.2.2.2.1 hw.1) (by omega) (Nat.le_of_ble_eq_true rfl) rfl rfl ?_
    rintro _ _ ⟨rfl, rfl⟩
    try dsimp only [pu]
    refine E_if_eq (tgt := 57) dX3_readLine_48 (by decide) (fun h48 => ?_) (fun h48 => ?_)
    · simp only [tB0, ne_eq, Bool.not_eq_false, Bool.not_eq_true, decide_eq_true_eq, decide_eq_false_iff_not, Classical.not_not] at h48
      have h4 : ST M3 a c T N fr (ln4 T N q fr) := by rw [← ln_not hv1 hv2 h48]; exact h3
      have K4 : KB M M3 a c (c + 1) := k1.tr (k2.tr k3)
      refine E_aload_n dX3_readLine_57 rfl ?_
      refine E_iconst dX3_readLine_58 (by decide) ?_
      refine E_bipush dX3_readLine_59 (by decide) ?_
      refine i_X3_69 rfl dX3_readLine_61 (by exact h4.1.o) (c_readNumber h4.1 h4.2.1 h4.2.2.2.2) (by omega) (Nat.le_of_ble_eq_true rfl) rfl rfl ?_
      rintro _ M5 ⟨v3, rfl, hv3, hbv3, I5, hM5, hA5, hD5⟩
      obtain ⟨h5, k5⟩ := h4.st hac hM5 hA5 hD5
      try dsimp only [pu]
      refine E_istore dX3_readLine_64 rfl (by decide) ?_
      try dsimp only [List.set]
      refine E_aload_n dX3_readLine_66 rfl ?_
      refine i_X3_73 rfl dX3_readLine_67 (by exact h5.1.o) (c_readSign h5.1 h5.2.1 h5.2.2.2.2) (by omega) (Nat.le_of_ble_eq_true rfl) rfl rfl ?_
      rintro _ M6 ⟨rfl, I6, hM6, hA6, hD6⟩
      obtain ⟨h6, k6⟩ := h5.st hac hM6 hA6 hD6
      have h6 : ST M6 a c T N fr (lnP T N q fr) := h6
      try dsimp only [pu]
      refine E_aload_n dX3_readLine_70 rfl ?_
      refine g_X3_22 rfl dX3_readLine_71 h6.1.o h6.2.2.2.2.e ?_
      refine E_if_ne (tgt := 86) dX3_readLine_74 (by decide) (fun h74 => ?_) (fun h74 => ?_)
      · refine E_vret dX3_readLine_86 rfl ?_
        subst hq
        refine ⟨rfl, ?_, K4.tr (k5.tr k6)⟩
        have e : lnF T N (pR T N 1 (decide (fr 0 < 8)) p) fr = fr := by unfold lnF; rw [if_neg h74]
        rw [e]; exact h6
      · have h74 := Classical.not_not.mp h74
        have hk := ln_k h74
        have h8 : fr 0 < 8 := by
          have z := (pR_k (by rw [← hq]; exact hk.1)).2
          exact of_decide_eq_true z
        refine E_aload_n dX3_readLine_77 rfl ?_
        refine E_iload_n dX3_readLine_78 rfl ?_
        refine E_iload dX3_readLine_79 rfl ?_
        refine E_iload dX3_readLine_81 rfl ?_
        refine i_X3_92 rfl dX3_readLine_83 (by exact h6.2.2.1.o) (c_addL h6.2.2.1 h6.2.2.2.1 hw.1 h8) (by omega) (Nat.le_of_ble_eq_true rfl) rfl rfl ?_
        rintro _ M7 ⟨rfl, I7, hM7, hP7, hW7, hB7⟩
        obtain ⟨h7, k7⟩ := h6.ad hac hM7 hP7 hW7
        try dsimp only [pu]
        refine E_vret dX3_readLine_86 rfl ?_
        subst hq
        refine ⟨rfl, ?_, K4.tr (k5.tr (k6.tr k7))⟩
        have e : lnF T N (pR T N 1 (decide (fr 0 < 8)) p) fr = upL fr v1 v2 v3 := by unfold lnF; rw [if_pos h74, hv1 hk.1, hv2 hk.2.1, hv3 hk.2.2.1]
        rw [e]; exact h7
    · simp only [tB0, ne_eq, Bool.not_eq_false, Bool.not_eq_true, decide_eq_true_eq, decide_eq_false_iff_not, Classical.not_not] at h48
      refine E_aload_n dX3_readLine_51 rfl ?_
      refine E_iload_n dX3_readLine_52 rfl ?_
      refine E_iconst dX3_readLine_53 (by decide) ?_
      refine i_X3_53 rfl dX3_readLine_54 (by exact h3.1.o) (c_failAt h3.1 h3.2.1 h3.2.2.2.2 (p2 := ln4 T N q fr) (by decide) (ln_dup hw hv1 hv2 (fun z => (xp z).2.1) h48).1 (ln_dup hw hv1 hv2 (fun z => (xp z).2.1) h48).2) (by omega) (Nat.le_of_ble_eq_true rfl) rfl rfl ?_
      rintro _ M4 ⟨rfl, I4, hM4, hA4, hD4⟩
      obtain ⟨h4, k4⟩ := h3.st hac hM4 hA4 hD4
      try dsimp only [pu]
      have K4 : KB M M4 a c (c + 1) := k1.tr (k2.tr (k3.tr k4))
      refine E_aload_n dX3_readLine_57 rfl ?_
      refine E_iconst dX3_readLine_58 (by decide) ?_
      refine E_bipush dX3_readLine_59 (by decide) ?_
      refine i_X3_69 rfl dX3_readLine_61 (by exact h4.1.o) (c_readNumber h4.1 h4.2.1 h4.2.2.2.2) (by omega) (Nat.le_of_ble_eq_true rfl) rfl rfl ?_
      rintro _ M5 ⟨v3, rfl, hv3, hbv3, I5, hM5, hA5, hD5⟩
      obtain ⟨h5, k5⟩ := h4.st hac hM5 hA5 hD5
      try dsimp only [pu]
      refine E_istore dX3_readLine_64 rfl (by decide) ?_
      try dsimp only [List.set]
      refine E_aload_n dX3_readLine_66 rfl ?_
      refine i_X3_73 rfl dX3_readLine_67 (by exact h5.1.o) (c_readSign h5.1 h5.2.1 h5.2.2.2.2) (by omega) (Nat.le_of_ble_eq_true rfl) rfl rfl ?_
      rintro _ M6 ⟨rfl, I6, hM6, hA6, hD6⟩
      obtain ⟨h6, k6⟩ := h5.st hac hM6 hA6 hD6
      have h6 : ST M6 a c T N fr (lnP T N q fr) := h6
      try dsimp only [pu]
      refine E_aload_n dX3_readLine_70 rfl ?_
      refine g_X3_22 rfl dX3_readLine_71 h6.1.o h6.2.2.2.2.e ?_
      refine E_if_ne (tgt := 86) dX3_readLine_74 (by decide) (fun h74 => ?_) (fun h74 => ?_)
      · refine E_vret dX3_readLine_86 rfl ?_
        subst hq
        refine ⟨rfl, ?_, K4.tr (k5.tr k6)⟩
        have e : lnF T N (pR T N 1 (decide (fr 0 < 8)) p) fr = fr := by unfold lnF; rw [if_neg h74]
        rw [e]; exact h6
      · have h74 := Classical.not_not.mp h74
        have hk := ln_k h74
        have h8 : fr 0 < 8 := by
          have z := (pR_k (by rw [← hq]; exact hk.1)).2
          exact of_decide_eq_true z
        refine E_aload_n dX3_readLine_77 rfl ?_
        refine E_iload_n dX3_readLine_78 rfl ?_
        refine E_iload dX3_readLine_79 rfl ?_
        refine E_iload dX3_readLine_81 rfl ?_
        refine i_X3_92 rfl dX3_readLine_83 (by exact h6.2.2.1.o) (c_addL h6.2.2.1 h6.2.2.2.1 hw.1 h8) (by omega) (Nat.le_of_ble_eq_true rfl) rfl rfl ?_
        rintro _ M7 ⟨rfl, I7, hM7, hP7, hW7, hB7⟩
        obtain ⟨h7, k7⟩ := h6.ad hac hM7 hP7 hW7
        try dsimp only [pu]
        refine E_vret dX3_readLine_86 rfl ?_
        subst hq
        refine ⟨rfl, ?_, K4.tr (k5.tr (k6.tr k7))⟩
        have e : lnF T N (pR T N 1 (decide (fr 0 < 8)) p) fr = upL fr v1 v2 v3 := by unfold lnF; rw [if_pos h74, hv1 hk.1, hv2 hk.2.1, hv3 hk.2.2.1]
        rw [e]; exact h7
  · refine E_iconst dX3_readLine_12 (by decide) ?_
    refine E_goto (tgt := 17) dX3_readLine_13 (by decide) ?_
    refine i_X3_62 rfl dX3_readLine_17 (by exact h0.1.o) (c_readWord h0.1 h0.2.1 h0.2.2.2.2 (i := 1) (by omega) true) (by omega) (Nat.le_of_ble_eq_true rfl) rfl rfl ?_
    rintro _ M1 ⟨rfl, I1, hM1, hA1, hD1⟩
    obtain ⟨h1, k1⟩ := h0.st hac hM1 hA1 hD1
    have eq1 : pR T N 1 true p = q := by rw [hq, decide_eq_true (by omega)]
    rw [eq1] at h1
    try dsimp only [pu]
    refine E_aload_n dX3_readLine_20 rfl ?_
    refine E_iconst dX3_readLine_21 (by decide) ?_
    refine E_bipush dX3_readLine_22 (by decide) ?_
    refine i_X3_69 rfl dX3_readLine_24 (by exact h1.1.o) (c_readNumber h1.1 h1.2.1 h1.2.2.2.2) (by omega) (Nat.le_of_ble_eq_true rfl) rfl rfl ?_
    rintro _ M2 ⟨v1, rfl, hv1, hbv1, I2, hM2, hA2, hD2⟩
    obtain ⟨h2, k2⟩ := h1.st hac hM2 hA2 hD2
    have h2 : ST M2 a c T N fr (ln2 T N q) := h2
    obtain ⟨s2, f2, t2, x2, x3, x4, xv, xp, x5, x6⟩ := id h2.2.2.2.2
    try dsimp only [pu]
    refine E_istore_n dX3_readLine_27 rfl (by decide) ?_
    try dsimp only [List.set]
    refine E_aload_n dX3_readLine_28 rfl ?_
    refine g_X3_50 rfl dX3_readLine_29 h2.1.o x3 ?_
    refine E_istore_n dX3_readLine_32 rfl (by decide) ?_
    try dsimp only [List.set]
    refine E_aload_n dX3_readLine_33 rfl ?_
    refine E_iconst dX3_readLine_34 (by decide) ?_
    refine E_iconst dX3_readLine_35 (by decide) ?_
    refine i_X3_69 rfl dX3_readLine_36 (by exact h2.1.o) (c_readNumber h2.1 h2.2.1 h2.2.2.2.2) (by omega) (Nat.le_of_ble_eq_true rfl) rfl rfl ?_
    rintro _ M3 ⟨v2, rfl, hv2, hbv2, I3, hM3, hA3, hD3⟩
    obtain ⟨h3, k3⟩ := h2.st hac hM3 hA3 hD3
    try dsimp only [pu]
    refine E_istore dX3_readLine_39 rfl (by decide) ?_
    try dsimp only [List.set]
    refine E_aload_n dX3_readLine_41 rfl ?_
    refine E_iload_n dX3_readLine_42 rfl ?_
    refine E_iload dX3_readLine_43 rfl ?_
    refine i_X3_88 rfl dX3_readLine_45 (by exact h3.2.2.1.o) (c_hasLineAt h3.2.2.1 h3.2.2.2.1 hw.1) (by omega) (Nat.le_of_ble_eq_true rfl) rfl rfl ?_
    rintro _ _ ⟨rfl, rfl⟩
    try dsimp only [pu]
    refine E_if_eq (tgt := 57) dX3_readLine_48 (by decide) (fun h48 => ?_) (fun h48 => ?_)
    · simp only [tB0, ne_eq, Bool.not_eq_false, Bool.not_eq_true, decide_eq_true_eq, decide_eq_false_iff_not, Classical.not_not] at h48
      have h4 : ST M3 a c T N fr (ln4 T N q fr) := by rw [← ln_not hv1 hv2 h48]; exact h3
      have K4 : KB M M3 a c (c + 1) := k1.tr (k2.tr k3)
      refine E_aload_n dX3_readLine_57 rfl ?_
      refine E_iconst dX3_readLine_58 (by decide) ?_
      refine E_bipush dX3_readLine_59 (by decide) ?_
      refine i_X3_69 rfl dX3_readLine_61 (by exact h4.1.o) (c_readNumber h4.1 h4.2.1 h4.2.2.2.2) (by omega) (Nat.le_of_ble_eq_true rfl) rfl rfl ?_
      rintro _ M5 ⟨v3, rfl, hv3, hbv3, I5, hM5, hA5, hD5⟩
      obtain ⟨h5, k5⟩ := h4.st hac hM5 hA5 hD5
      try dsimp only [pu]
      refine E_istore dX3_readLine_64 rfl (by decide) ?_
      try dsimp only [List.set]
      refine E_aload_n dX3_readLine_66 rfl ?_
      refine i_X3_73 rfl dX3_readLine_67 (by exact h5.1.o) (c_readSign h5.1 h5.2.1 h5.2.2.2.2) (by omega) (Nat.le_of_ble_eq_true rfl) rfl rfl ?_
      rintro _ M6 ⟨rfl, I6, hM6, hA6, hD6⟩
      obtain ⟨h6, k6⟩ := h5.st hac hM6 hA6 hD6
      have h6 : ST M6 a c T N fr (lnP T N q fr) := h6
      try dsimp only [pu]
      refine E_aload_n dX3_readLine_70 rfl ?_
      refine g_X3_22 rfl dX3_readLine_71 h6.1.o h6.2.2.2.2.e ?_
      refine E_if_ne (tgt := 86) dX3_readLine_74 (by decide) (fun h74 => ?_) (fun h74 => ?_)
      · refine E_vret dX3_readLine_86 rfl ?_
        subst hq
        refine ⟨rfl, ?_, K4.tr (k5.tr k6)⟩
        have e : lnF T N (pR T N 1 (decide (fr 0 < 8)) p) fr = fr := by unfold lnF; rw [if_neg h74]
        rw [e]; exact h6
      · have h74 := Classical.not_not.mp h74
        have hk := ln_k h74
        have h8 : fr 0 < 8 := by
          have z := (pR_k (by rw [← hq]; exact hk.1)).2
          exact of_decide_eq_true z
        refine E_aload_n dX3_readLine_77 rfl ?_
        refine E_iload_n dX3_readLine_78 rfl ?_
        refine E_iload dX3_readLine_79 rfl ?_
        refine E_iload dX3_readLine_81 rfl ?_
        refine i_X3_92 rfl dX3_readLine_83 (by exact h6.2.2.1.o) (c_addL h6.2.2.1 h6.2.2.2.1 hw.1 h8) (by omega) (Nat.le_of_ble_eq_true rfl) rfl rfl ?_
        rintro _ M7 ⟨rfl, I7, hM7, hP7, hW7, hB7⟩
        obtain ⟨h7, k7⟩ := h6.ad hac hM7 hP7 hW7
        try dsimp only [pu]
        refine E_vret dX3_readLine_86 rfl ?_
        subst hq
        refine ⟨rfl, ?_, K4.tr (k5.tr (k6.tr k7))⟩
        have e : lnF T N (pR T N 1 (decide (fr 0 < 8)) p) fr = upL fr v1 v2 v3 := by unfold lnF; rw [if_pos h74, hv1 hk.1, hv2 hk.2.1, hv3 hk.2.2.1]
        rw [e]; exact h7
    · simp only [tB0, ne_eq, Bool.not_eq_false, Bool.not_eq_true, decide_eq_true_eq, decide_eq_false_iff_not, Classical.not_not] at h48
      refine E_aload_n dX3_readLine_51 rfl ?_
      refine E_iload_n dX3_readLine_52 rfl ?_
      refine E_iconst dX3_readLine_53 (by decide) ?_
      refine i_X3_53 rfl dX3_readLine_54 (by exact h3.1.o) (c_failAt h3.1 h3.2.1 h3.2.2.2.2 (p2 := ln4 T N q fr) (by decide) (ln_dup hw hv1 hv2 (fun z => (xp z).2.1) h48).1 (ln_dup hw hv1 hv2 (fun z => (xp z).2.1) h48).2) (by omega) (Nat.le_of_ble_eq_true rfl) rfl rfl ?_
      rintro _ M4 ⟨rfl, I4, hM4, hA4, hD4⟩
      obtain ⟨h4, k4⟩ := h3.st hac hM4 hA4 hD4
      try dsimp only [pu]
      have K4 : KB M M4 a c (c + 1) := k1.tr (k2.tr (k3.tr k4))
      refine E_aload_n dX3_readLine_57 rfl ?_
      refine E_iconst dX3_readLine_58 (by decide) ?_
      refine E_bipush dX3_readLine_59 (by decide) ?_
      refine i_X3_69 rfl dX3_readLine_61 (by exact h4.1.o) (c_readNumber h4.1 h4.2.1 h4.2.2.2.2) (by omega) (Nat.le_of_ble_eq_true rfl) rfl rfl ?_
      rintro _ M5 ⟨v3, rfl, hv3, hbv3, I5, hM5, hA5, hD5⟩
      obtain ⟨h5, k5⟩ := h4.st hac hM5 hA5 hD5
      try dsimp only [pu]
      refine E_istore dX3_readLine_64 rfl (by decide) ?_
      try dsimp only [List.set]
      refine E_aload_n dX3_readLine_66 rfl ?_
      refine i_X3_73 rfl dX3_readLine_67 (by exact h5.1.o) (c_readSign h5.1 h5.2.1 h5.2.2.2.2) (by omega) (Nat.le_of_ble_eq_true rfl) rfl rfl ?_
      rintro _ M6 ⟨rfl, I6, hM6, hA6, hD6⟩
      obtain ⟨h6, k6⟩ := h5.st hac hM6 hA6 hD6
      have h6 : ST M6 a c T N fr (lnP T N q fr) := h6
      try dsimp only [pu]
      refine E_aload_n dX3_readLine_70 rfl ?_
      refine g_X3_22 rfl dX3_readLine_71 h6.1.o h6.2.2.2.2.e ?_
      refine E_if_ne (tgt := 86) dX3_readLine_74 (by decide) (fun h74 => ?_) (fun h74 => ?_)
      · refine E_vret dX3_readLine_86 rfl ?_
        subst hq
        refine ⟨rfl, ?_, K4.tr (k5.tr k6)⟩
        have e : lnF T N (pR T N 1 (decide (fr 0 < 8)) p) fr = fr := by unfold lnF; rw [if_neg h74]
        rw [e]; exact h6
      · have h74 := Classical.not_not.mp h74
        have hk := ln_k h74
        have h8 : fr 0 < 8 := by
          have z := (pR_k (by rw [← hq]; exact hk.1)).2
          exact of_decide_eq_true z
        refine E_aload_n dX3_readLine_77 rfl ?_
        refine E_iload_n dX3_readLine_78 rfl ?_
        refine E_iload dX3_readLine_79 rfl ?_
        refine E_iload dX3_readLine_81 rfl ?_
        refine i_X3_92 rfl dX3_readLine_83 (by exact h6.2.2.1.o) (c_addL h6.2.2.1 h6.2.2.2.1 hw.1 h8) (by omega) (Nat.le_of_ble_eq_true rfl) rfl rfl ?_
        rintro _ M7 ⟨rfl, I7, hM7, hP7, hW7, hB7⟩
        obtain ⟨h7, k7⟩ := h6.ad hac hM7 hP7 hW7
        try dsimp only [pu]
        refine E_vret dX3_readLine_86 rfl ?_
        subst hq
        refine ⟨rfl, ?_, K4.tr (k5.tr (k6.tr k7))⟩
        have e : lnF T N (pR T N 1 (decide (fr 0 < 8)) p) fr = upL fr v1 v2 v3 := by unfold lnF; rw [if_pos h74, hv1 hk.1, hv2 hk.2.1, hv3 hk.2.2.1]
        rw [e]; exact h7
set_option maxRecDepth 20000 in
set_option maxHeartbeats 3000000 in
theorem c_readRight {G : Ctx} {M : Mem} {a c : Nat} {T : Int → Int} {N : Nat} {fr : CD} {p : PT} (h0 : ST M a c T N fr p) (hw : WP fr) (hac : a + 1 < c) : CT G m_X3_readRight 6 0 0 [vR a, vR c] M (fun r M' => r = none ∧ ST M' a c T N (rtF T N (pR T N 2 (decide (fr 1 < 8)) p) fr) (rtP T N (pR T N 2 (decide (fr 1 < 8)) p) fr) ∧ KB M M' a c (c + 1)) := by
  refine CT.of k_X3_readRight 4 (ls := [some (vR a), some (vR c), none, none, none, none]) rfl (Nat.le_of_ble_eq_true rfl) ?_
  obtain ⟨q, hq⟩ : ∃ q, q = (pR T N 2 (decide (fr 1 < 8)) p) := ⟨_, rfl⟩
  have hb0 := hw.1.1
  have hb1 := hw.1.2.1
  have hb2 := hw.1.2.2
  refine E_aload_n dX3_readRight_0 rfl ?_
  refine E_ldcS (i := 2) dX3_readRight_1 rfl rfl rfl ?_
  refine E_aload_n dX3_readRight_3 rfl ?_
  refine g_X3_101 rfl dX3_readRight_4 h0.2.2.1.o h0.2.2.2.1.1.2.1 ?_
  refine E_bipush dX3_readRight_7 (by decide) ?_
  refine E_icmp_ge (tgt := 16) dX3_readRight_9 (by decide) (fun h9 => ?_) (fun h9 => ?_)
  · refine E_iconst dX3_readRight_16 (by decide) ?_
    refine i_X3_62 rfl dX3_readRight_17 (by exact h0.1.o) (c_readWord h0.1 h0.2.1 h0.2.2.2.2 (i := 2) (by omega) false) (by omega) (Nat.le_of_ble_eq_true rfl) rfl rfl ?_
    rintro _ M1 ⟨rfl, I1, hM1, hA1, hD1⟩
    obtain ⟨h1, k1⟩ := h0.st hac hM1 hA1 hD1
    have eq1 : pR T N 2 false p = q := by rw [hq, decide_eq_false (by omega)]
    rw [eq1] at h1
    try dsimp only [pu]
    refine E_aload_n dX3_readRight_20 rfl ?_
    refine E_iconst dX3_readRight_21 (by decide) ?_
    refine E_aload_n dX3_readRight_22 rfl ?_
    refine g_X3_85 rfl dX3_readRight_23 h1.2.2.1.o h1.2.2.2.1.1.1 ?_
    refine E_iconst dX3_readRight_26 (by decide) ?_
    refine E_isub dX3_readRight_27 (by omega) (by omega) ?_
    refine i_X3_69 rfl dX3_readRight_28 (by exact h1.1.o) (c_readNumber h1.1 h1.2.1 h1.2.2.2.2) (by omega) (Nat.le_of_ble_eq_true rfl) rfl rfl ?_
    rintro _ M2 ⟨v1, rfl, hv1, hbv1, I2, hM2, hA2, hD2⟩
    obtain ⟨h2, k2⟩ := h1.st hac hM2 hA2 hD2
    have h2 : ST M2 a c T N fr (rt2 T N q fr) := h2
    try dsimp only [pu]
    refine E_istore_n dX3_readRight_31 rfl (by decide) ?_
    try dsimp only [List.set]
    refine E_aload_n dX3_readRight_32 rfl ?_
    refine E_iconst dX3_readRight_33 (by decide) ?_
    refine E_bipush dX3_readRight_34 (by decide) ?_
    refine i_X3_69 rfl dX3_readRight_36 (by exact h2.1.o) (c_readNumber h2.1 h2.2.1 h2.2.2.2.2) (by omega) (Nat.le_of_ble_eq_true rfl) rfl rfl ?_
    rintro _ M3 ⟨v2, rfl, hv2, hbv2, I3, hM3, hA3, hD3⟩
    obtain ⟨h3, k3⟩ := h2.st hac hM3 hA3 hD3
    have h3 : ST M3 a c T N fr (rt3 T N q fr) := h3
    try dsimp only [pu]
    refine E_istore_n dX3_readRight_39 rfl (by decide) ?_
    try dsimp only [List.set]
    refine E_aload_n dX3_readRight_40 rfl ?_
    refine E_iload_n dX3_readRight_41 rfl ?_
    refine E_bipush dX3_readRight_42 (by decide) ?_
    refine i_X3_69 rfl dX3_readRight_44 (by exact h3.1.o) (c_readNumber h3.1 h3.2.1 h3.2.2.2.2) (by omega) (Nat.le_of_ble_eq_true rfl) rfl rfl ?_
    rintro _ M4 ⟨v3, rfl, hv3, hbv3, I4, hM4, hA4, hD4⟩
    obtain ⟨h4, k4⟩ := h3.st hac hM4 hA4 hD4
    have h4 : ST M4 a c T N fr (rt4 T N q fr) := by
      have e : pU T N v2 23 (rt3 T N q fr) = rt4 T N q fr := by
        by_cases z : pE (rt2 T N q fr) = 0
        · unfold rt4; rw [hv2 z]
        · have z3 : pE (rt3 T N q fr) ≠ 0 := fun y => z (pU_k (T := T) (N := N) y).1
          unfold rt4; rw [pU_f z3, pU_f z3]
      rw [← e]; exact h4
    try dsimp only [pu]
    refine E_istore dX3_readRight_47 rfl (by decide) ?_
    try dsimp only [List.set]
    refine E_aload_n dX3_readRight_49 rfl ?_
    refine E_iconst dX3_readRight_50 (by decide) ?_
    refine E_iconst dX3_readRight_51 (by decide) ?_
    refine i_X3_69 rfl dX3_readRight_52 (by exact h4.1.o) (c_readNumber h4.1 h4.2.1 h4.2.2.2.2) (by omega) (Nat.le_of_ble_eq_true rfl) rfl rfl ?_
    rintro _ M5 ⟨v4, rfl, hv4, hbv4, I5, hM5, hA5, hD5⟩
    obtain ⟨h5, k5⟩ := h4.st hac hM5 hA5 hD5
    try dsimp only [pu]
    refine E_istore dX3_readRight_55 rfl (by decide) ?_
    try dsimp only [List.set]
    refine E_aload_n dX3_readRight_57 rfl ?_
    refine i_X3_73 rfl dX3_readRight_58 (by exact h5.1.o) (c_readSign h5.1 h5.2.1 h5.2.2.2.2) (by omega) (Nat.le_of_ble_eq_true rfl) rfl rfl ?_
    rintro _ M6 ⟨rfl, I6, hM6, hA6, hD6⟩
    obtain ⟨h6, k6⟩ := h5.st hac hM6 hA6 hD6
    have h6 : ST M6 a c T N fr (rtP T N q fr) := h6
    try dsimp only [pu]
    refine E_aload_n dX3_readRight_61 rfl ?_
    refine g_X3_22 rfl dX3_readRight_62 h6.1.o h6.2.2.2.2.e ?_
    refine E_if_ne (tgt := 78) dX3_readRight_65 (by decide) (fun h65 => ?_) (fun h65 => ?_)
    · refine E_vret dX3_readRight_78 rfl ?_
      subst hq
      refine ⟨rfl, ?_, k1.tr (k2.tr (k3.tr (k4.tr (k5.tr k6))))⟩
      have e : rtF T N (pR T N 2 (decide (fr 1 < 8)) p) fr = fr := by unfold rtF; rw [if_neg h65]
      rw [e]; exact h6
    · have h65 := Classical.not_not.mp h65
      have hk := rt_k h65
      have h8 : fr 1 < 8 := by
        have z := (pR_k (by rw [← hq]; exact hk.1)).2
        exact of_decide_eq_true z
      refine E_aload_n dX3_readRight_68 rfl ?_
      refine E_iload_n dX3_readRight_69 rfl ?_
      refine E_iload_n dX3_readRight_70 rfl ?_
      refine E_iload dX3_readRight_71 rfl ?_
      refine E_iload dX3_readRight_73 rfl ?_
      refine i_X3_104 rfl dX3_readRight_75 (by exact h6.2.2.1.o) (c_addR h6.2.2.1 h6.2.2.2.1 hw.1 h8) (by omega) (Nat.le_of_ble_eq_true rfl) rfl rfl ?_
      rintro _ M7 ⟨rfl, I7, hM7, hP7, hW7, hB7⟩
      obtain ⟨h7, k7⟩ := h6.ad hac hM7 hP7 hW7
      try dsimp only [pu]
      refine E_vret dX3_readRight_78 rfl ?_
      subst hq
      refine ⟨rfl, ?_, k1.tr (k2.tr (k3.tr (k4.tr (k5.tr (k6.tr k7)))))⟩
      have e : rtF T N (pR T N 2 (decide (fr 1 < 8)) p) fr = upR fr v1 v2 v3 v4 := by unfold rtF; rw [if_pos h65, hv1 hk.1, hv2 hk.2.1, hv3 hk.2.2.1, hv4 hk.2.2.2.1]
      rw [e]; exact h7
  · refine E_iconst dX3_readRight_12 (by decide) ?_
    refine E_goto (tgt := 17) dX3_readRight_13 (by decide) ?_
    refine i_X3_62 rfl dX3_readRight_17 (by exact h0.1.o) (c_readWord h0.1 h0.2.1 h0.2.2.2.2 (i := 2) (by omega) true) (by omega) (Nat.le_of_ble_eq_true rfl) rfl rfl ?_
    rintro _ M1 ⟨rfl, I1, hM1, hA1, hD1⟩
    obtain ⟨h1, k1⟩ := h0.st hac hM1 hA1 hD1
    have eq1 : pR T N 2 true p = q := by rw [hq, decide_eq_true (by omega)]
    rw [eq1] at h1
    try dsimp only [pu]
    refine E_aload_n dX3_readRight_20 rfl ?_
    refine E_iconst dX3_readRight_21 (by decide) ?_
    refine E_aload_n dX3_readRight_22 rfl ?_
    refine g_X3_85 rfl dX3_readRight_23 h1.2.2.1.o h1.2.2.2.1.1.1 ?_
    refine E_iconst dX3_readRight_26 (by decide) ?_
    refine E_isub dX3_readRight_27 (by omega) (by omega) ?_
    refine i_X3_69 rfl dX3_readRight_28 (by exact h1.1.o) (c_readNumber h1.1 h1.2.1 h1.2.2.2.2) (by omega) (Nat.le_of_ble_eq_true rfl) rfl rfl ?_
    rintro _ M2 ⟨v1, rfl, hv1, hbv1, I2, hM2, hA2, hD2⟩
    obtain ⟨h2, k2⟩ := h1.st hac hM2 hA2 hD2
    have h2 : ST M2 a c T N fr (rt2 T N q fr) := h2
    try dsimp only [pu]
    refine E_istore_n dX3_readRight_31 rfl (by decide) ?_
    try dsimp only [List.set]
    refine E_aload_n dX3_readRight_32 rfl ?_
    refine E_iconst dX3_readRight_33 (by decide) ?_
    refine E_bipush dX3_readRight_34 (by decide) ?_
    refine i_X3_69 rfl dX3_readRight_36 (by exact h2.1.o) (c_readNumber h2.1 h2.2.1 h2.2.2.2.2) (by omega) (Nat.le_of_ble_eq_true rfl) rfl rfl ?_
    rintro _ M3 ⟨v2, rfl, hv2, hbv2, I3, hM3, hA3, hD3⟩
    obtain ⟨h3, k3⟩ := h2.st hac hM3 hA3 hD3
    have h3 : ST M3 a c T N fr (rt3 T N q fr) := h3
    try dsimp only [pu]
    refine E_istore_n dX3_readRight_39 rfl (by decide) ?_
    try dsimp only [List.set]
    refine E_aload_n dX3_readRight_40 rfl ?_
    refine E_iload_n dX3_readRight_41 rfl ?_
    refine E_bipush dX3_readRight_42 (by decide) ?_
    refine i_X3_69 rfl dX3_readRight_44 (by exact h3.1.o) (c_readNumber h3.1 h3.2.1 h3.2.2.2.2) (by omega) (Nat.le_of_ble_eq_true rfl) rfl rfl ?_
    rintro _ M4 ⟨v3, rfl, hv3, hbv3, I4, hM4, hA4, hD4⟩
    obtain ⟨h4, k4⟩ := h3.st hac hM4 hA4 hD4
    have h4 : ST M4 a c T N fr (rt4 T N q fr) := by
      have e : pU T N v2 23 (rt3 T N q fr) = rt4 T N q fr := by
        by_cases z : pE (rt2 T N q fr) = 0
        · unfold rt4; rw [hv2 z]
        · have z3 : pE (rt3 T N q fr) ≠ 0 := fun y => z (pU_k (T := T) (N := N) y).1
          unfold rt4; rw [pU_f z3, pU_f z3]
      rw [← e]; exact h4
    try dsimp only [pu]
    refine E_istore dX3_readRight_47 rfl (by decide) ?_
    try dsimp only [List.set]
    refine E_aload_n dX3_readRight_49 rfl ?_
    refine E_iconst dX3_readRight_50 (by decide) ?_
    refine E_iconst dX3_readRight_51 (by decide) ?_
    refine i_X3_69 rfl dX3_readRight_52 (by exact h4.1.o) (c_readNumber h4.1 h4.2.1 h4.2.2.2.2) (by omega) (Nat.le_of_ble_eq_true rfl) rfl rfl ?_
    rintro _ M5 ⟨v4, rfl, hv4, hbv4, I5, hM5, hA5, hD5⟩
    obtain ⟨h5, k5⟩ := h4.st hac hM5 hA5 hD5
    try dsimp only [pu]
    refine E_istore dX3_readRight_55 rfl (by decide) ?_
    try dsimp only [List.set]
    refine E_aload_n dX3_readRight_57 rfl ?_
    refine i_X3_73 rfl dX3_readRight_58 (by exact h5.1.o) (c_readSign h5.1 h5.2.1 h5.2.2.2.2) (by omega) (Nat.le_of_ble_eq_true rfl) rfl rfl ?_
    rintro _ M6 ⟨rfl, I6, hM6, hA6, hD6⟩
    obtain ⟨h6, k6⟩ := h5.st hac hM6 hA6 hD6
    have h6 : ST M6 a c T N fr (rtP T N q fr) := h6
    try dsimp only [pu]
    refine E_aload_n dX3_readRight_61 rfl ?_
    refine g_X3_22 rfl dX3_readRight_62 h6.1.o h6.2.2.2.2.e ?_
    refine E_if_ne (tgt := 78) dX3_readRight_65 (by decide) (fun h65 => ?_) (fun h65 => ?_)
    · refine E_vret dX3_readRight_78 rfl ?_
      subst hq
      refine ⟨rfl, ?_, k1.tr (k2.tr (k3.tr (k4.tr (k5.tr k6))))⟩
      have e : rtF T N (pR T N 2 (decide (fr 1 < 8)) p) fr = fr := by unfold rtF; rw [if_neg h65]
      rw [e]; exact h6
    · have h65 := Classical.not_not.mp h65
      have hk := rt_k h65
      have h8 : fr 1 < 8 := by
        have z := (pR_k (by rw [← hq]; exact hk.1)).2
        exact of_decide_eq_true z
      refine E_aload_n dX3_readRight_68 rfl ?_
      refine E_iload_n dX3_readRight_69 rfl ?_
      refine E_iload_n dX3_readRight_70 rfl ?_
      refine E_iload dX3_readRight_71 rfl ?_
      refine E_iload dX3_readRight_73 rfl ?_
      refine i_X3_104 rfl dX3_readRight_75 (by exact h6.2.2.1.o) (c_addR h6.2.2.1 h6.2.2.2.1 hw.1 h8) (by omega) (Nat.le_of_ble_eq_true rfl) rfl rfl ?_
      rintro _ M7 ⟨rfl, I7, hM7, hP7, hW7, hB7⟩
      obtain ⟨h7, k7⟩ := h6.ad hac hM7 hP7 hW7
      try dsimp only [pu]
      refine E_vret dX3_readRight_78 rfl ?_
      subst hq
      refine ⟨rfl, ?_, k1.tr (k2.tr (k3.tr (k4.tr (k5.tr (k6.tr k7)))))⟩
      have e : rtF T N (pR T N 2 (decide (fr 1 < 8)) p) fr = upR fr v1 v2 v3 v4 := by unfold rtF; rw [if_pos h65, hv1 hk.1, hv2 hk.2.1, hv3 hk.2.2.1, hv4 hk.2.2.2.1]
      rw [e]; exact h7
set_option maxRecDepth 20000 in
set_option maxHeartbeats 3000000 in
theorem c_readPiece {G : Ctx} {M : Mem} {a c : Nat} {T : Int → Int} {N : Nat} {fr : CD} {p : PT} (h0 : ST M a c T N fr p) (hw : WP fr) (hac : a + 1 < c) : CT G m_X3_readPiece 6 0 0 [vR a, vR c] M (fun r M' => r = none ∧ ST M' a c T N (pcF T N (pR T N 3 (decide (fr 2 < 10)) p) fr) (pcP T N (pR T N 3 (decide (fr 2 < 10)) p)) ∧ KB M M' a c (c + 1)) := by
  refine CT.of k_X3_readPiece 4 (ls := [some (vR a), some (vR c), none, none, none, none]) rfl (Nat.le_of_ble_eq_true rfl) ?_
  obtain ⟨q, hq⟩ : ∃ q, q = (pR T N 3 (decide (fr 2 < 10)) p) := ⟨_, rfl⟩
  have hb0 := hw.1.1
  have hb1 := hw.1.2.1
  have hb2 := hw.1.2.2
  refine E_aload_n dX3_readPiece_0 rfl ?_
  refine E_ldcS (i := 3) dX3_readPiece_1 rfl rfl rfl ?_
  refine E_aload_n dX3_readPiece_3 rfl ?_
  refine g_X3_113 rfl dX3_readPiece_4 h0.2.2.1.o h0.2.2.2.1.1.2.2 ?_
  refine E_bipush dX3_readPiece_7 (by decide) ?_
  refine E_icmp_ge (tgt := 16) dX3_readPiece_9 (by decide) (fun h9 => ?_) (fun h9 => ?_)
  · refine E_iconst dX3_readPiece_16 (by decide) ?_
    refine i_X3_62 rfl dX3_readPiece_17 (by exact h0.1.o) (c_readWord h0.1 h0.2.1 h0.2.2.2.2 (i := 3) (by omega) false) (by omega) (Nat.le_of_ble_eq_true rfl) rfl rfl ?_
    rintro _ M1 ⟨rfl, I1, hM1, hA1, hD1⟩
    obtain ⟨h1, k1⟩ := h0.st hac hM1 hA1 hD1
    have eq1 : pR T N 3 false p = q := by rw [hq, decide_eq_false (by omega)]
    rw [eq1] at h1
    try dsimp only [pu]
    refine E_aload_n dX3_readPiece_20 rfl ?_
    refine i_X3_116 rfl dX3_readPiece_21 (by exact h1.1.o) (c_readKind h1.1 h1.2.1 h1.2.2.2.2) (by omega) (Nat.le_of_ble_eq_true rfl) rfl rfl ?_
    rintro _ M2 ⟨v1, rfl, hv1, I2, hM2, hA2, hD2⟩
    obtain ⟨h2, k2⟩ := h1.st hac hM2 hA2 hD2
    have h2 : ST M2 a c T N fr (pc2 T N q) := h2
    try dsimp only [pu]
    refine E_istore_n dX3_readPiece_24 rfl (by decide) ?_
    try dsimp only [List.set]
    refine E_aload_n dX3_readPiece_25 rfl ?_
    refine E_iconst dX3_readPiece_26 (by decide) ?_
    refine E_iconst dX3_readPiece_27 (by decide) ?_
    refine i_X3_69 rfl dX3_readPiece_28 (by exact h2.1.o) (c_readNumber h2.1 h2.2.1 h2.2.2.2.2) (by omega) (Nat.le_of_ble_eq_true rfl) rfl rfl ?_
    rintro _ M3 ⟨v2, rfl, hv2, hbv2, I3, hM3, hA3, hD3⟩
    obtain ⟨h3, k3⟩ := h2.st hac hM3 hA3 hD3
    have h3 : ST M3 a c T N fr (pc3 T N q) := h3
    try dsimp only [pu]
    refine E_istore_n dX3_readPiece_31 rfl (by decide) ?_
    try dsimp only [List.set]
    refine E_aload_n dX3_readPiece_32 rfl ?_
    refine E_iconst dX3_readPiece_33 (by decide) ?_
    refine E_bipush dX3_readPiece_34 (by decide) ?_
    refine i_X3_69 rfl dX3_readPiece_36 (by exact h3.1.o) (c_readNumber h3.1 h3.2.1 h3.2.2.2.2) (by omega) (Nat.le_of_ble_eq_true rfl) rfl rfl ?_
    rintro _ M4 ⟨v3, rfl, hv3, hbv3, I4, hM4, hA4, hD4⟩
    obtain ⟨h4, k4⟩ := h3.st hac hM4 hA4 hD4
    have h4 : ST M4 a c T N fr (pc4 T N q) := h4
    try dsimp only [pu]
    refine E_istore dX3_readPiece_39 rfl (by decide) ?_
    try dsimp only [List.set]
    refine E_aload_n dX3_readPiece_41 rfl ?_
    refine E_iconst dX3_readPiece_42 (by decide) ?_
    refine E_bipush dX3_readPiece_43 (by decide) ?_
    refine i_X3_69 rfl dX3_readPiece_45 (by exact h4.1.o) (c_readNumber h4.1 h4.2.1 h4.2.2.2.2) (by omega) (Nat.le_of_ble_eq_true rfl) rfl rfl ?_
    rintro _ M5 ⟨v4, rfl, hv4, hbv4, I5, hM5, hA5, hD5⟩
    obtain ⟨h5, k5⟩ := h4.st hac hM5 hA5 hD5
    try dsimp only [pu]
    refine E_istore dX3_readPiece_48 rfl (by decide) ?_
    try dsimp only [List.set]
    refine E_aload_n dX3_readPiece_50 rfl ?_
    refine i_X3_73 rfl dX3_readPiece_51 (by exact h5.1.o) (c_readSign h5.1 h5.2.1 h5.2.2.2.2) (by omega) (Nat.le_of_ble_eq_true rfl) rfl rfl ?_
    rintro _ M6 ⟨rfl, I6, hM6, hA6, hD6⟩
    obtain ⟨h6, k6⟩ := h5.st hac hM6 hA6 hD6
    have h6 : ST M6 a c T N fr (pcP T N q) := h6
    try dsimp only [pu]
    refine E_aload_n dX3_readPiece_54 rfl ?_
    refine g_X3_22 rfl dX3_readPiece_55 h6.1.o h6.2.2.2.2.e ?_
    refine E_if_ne (tgt := 71) dX3_readPiece_58 (by decide) (fun h58 => ?_) (fun h58 => ?_)
    · refine E_vret dX3_readPiece_71 rfl ?_
      subst hq
      refine ⟨rfl, ?_, k1.tr (k2.tr (k3.tr (k4.tr (k5.tr k6))))⟩
      have e : pcF T N (pR T N 3 (decide (fr 2 < 10)) p) fr = fr := by unfold pcF; rw [if_neg h58]
      rw [e]; exact h6
    · have h58 := Classical.not_not.mp h58
      have hk := pc_k h58
      have h8 : fr 2 < 10 := by
        have z := (pR_k (by rw [← hq]; exact hk.1)).2
        exact of_decide_eq_true z
      refine E_aload_n dX3_readPiece_61 rfl ?_
      refine E_iload_n dX3_readPiece_62 rfl ?_
      refine E_iload_n dX3_readPiece_63 rfl ?_
      refine E_iload dX3_readPiece_64 rfl ?_
      refine E_iload dX3_readPiece_66 rfl ?_
      refine i_X3_122 rfl dX3_readPiece_68 (by exact h6.2.2.1.o) (c_addP h6.2.2.1 h6.2.2.2.1 hw.1 h8) (by omega) (Nat.le_of_ble_eq_true rfl) rfl rfl ?_
      rintro _ M7 ⟨rfl, I7, hM7, hP7, hW7, hB7⟩
      obtain ⟨h7, k7⟩ := h6.ad hac hM7 hP7 hW7
      try dsimp only [pu]
      refine E_vret dX3_readPiece_71 rfl ?_
      subst hq
      refine ⟨rfl, ?_, k1.tr (k2.tr (k3.tr (k4.tr (k5.tr (k6.tr k7)))))⟩
      have e : pcF T N (pR T N 3 (decide (fr 2 < 10)) p) fr = upP fr v1 v2 v3 v4 := by unfold pcF; rw [if_pos h58, hv1 hk.2.1, hv2 hk.2.1, hv3 hk.2.2.1, hv4 hk.2.2.2.1]
      rw [e]; exact h7
  · refine E_iconst dX3_readPiece_12 (by decide) ?_
    refine E_goto (tgt := 17) dX3_readPiece_13 (by decide) ?_
    refine i_X3_62 rfl dX3_readPiece_17 (by exact h0.1.o) (c_readWord h0.1 h0.2.1 h0.2.2.2.2 (i := 3) (by omega) true) (by omega) (Nat.le_of_ble_eq_true rfl) rfl rfl ?_
    rintro _ M1 ⟨rfl, I1, hM1, hA1, hD1⟩
    obtain ⟨h1, k1⟩ := h0.st hac hM1 hA1 hD1
    have eq1 : pR T N 3 true p = q := by rw [hq, decide_eq_true (by omega)]
    rw [eq1] at h1
    try dsimp only [pu]
    refine E_aload_n dX3_readPiece_20 rfl ?_
    refine i_X3_116 rfl dX3_readPiece_21 (by exact h1.1.o) (c_readKind h1.1 h1.2.1 h1.2.2.2.2) (by omega) (Nat.le_of_ble_eq_true rfl) rfl rfl ?_
    rintro _ M2 ⟨v1, rfl, hv1, I2, hM2, hA2, hD2⟩
    obtain ⟨h2, k2⟩ := h1.st hac hM2 hA2 hD2
    have h2 : ST M2 a c T N fr (pc2 T N q) := h2
    try dsimp only [pu]
    refine E_istore_n dX3_readPiece_24 rfl (by decide) ?_
    try dsimp only [List.set]
    refine E_aload_n dX3_readPiece_25 rfl ?_
    refine E_iconst dX3_readPiece_26 (by decide) ?_
    refine E_iconst dX3_readPiece_27 (by decide) ?_
    refine i_X3_69 rfl dX3_readPiece_28 (by exact h2.1.o) (c_readNumber h2.1 h2.2.1 h2.2.2.2.2) (by omega) (Nat.le_of_ble_eq_true rfl) rfl rfl ?_
    rintro _ M3 ⟨v2, rfl, hv2, hbv2, I3, hM3, hA3, hD3⟩
    obtain ⟨h3, k3⟩ := h2.st hac hM3 hA3 hD3
    have h3 : ST M3 a c T N fr (pc3 T N q) := h3
    try dsimp only [pu]
    refine E_istore_n dX3_readPiece_31 rfl (by decide) ?_
    try dsimp only [List.set]
    refine E_aload_n dX3_readPiece_32 rfl ?_
    refine E_iconst dX3_readPiece_33 (by decide) ?_
    refine E_bipush dX3_readPiece_34 (by decide) ?_
    refine i_X3_69 rfl dX3_readPiece_36 (by exact h3.1.o) (c_readNumber h3.1 h3.2.1 h3.2.2.2.2) (by omega) (Nat.le_of_ble_eq_true rfl) rfl rfl ?_
    rintro _ M4 ⟨v3, rfl, hv3, hbv3, I4, hM4, hA4, hD4⟩
    obtain ⟨h4, k4⟩ := h3.st hac hM4 hA4 hD4
    have h4 : ST M4 a c T N fr (pc4 T N q) := h4
    try dsimp only [pu]
    refine E_istore dX3_readPiece_39 rfl (by decide) ?_
    try dsimp only [List.set]
    refine E_aload_n dX3_readPiece_41 rfl ?_
    refine E_iconst dX3_readPiece_42 (by decide) ?_
    refine E_bipush dX3_readPiece_43 (by decide) ?_
    refine i_X3_69 rfl dX3_readPiece_45 (by exact h4.1.o) (c_readNumber h4.1 h4.2.1 h4.2.2.2.2) (by omega) (Nat.le_of_ble_eq_true rfl) rfl rfl ?_
    rintro _ M5 ⟨v4, rfl, hv4, hbv4, I5, hM5, hA5, hD5⟩
    obtain ⟨h5, k5⟩ := h4.st hac hM5 hA5 hD5
    try dsimp only [pu]
    refine E_istore dX3_readPiece_48 rfl (by decide) ?_
    try dsimp only [List.set]
    refine E_aload_n dX3_readPiece_50 rfl ?_
    refine i_X3_73 rfl dX3_readPiece_51 (by exact h5.1.o) (c_readSign h5.1 h5.2.1 h5.2.2.2.2) (by omega) (Nat.le_of_ble_eq_true rfl) rfl rfl ?_
    rintro _ M6 ⟨rfl, I6, hM6, hA6, hD6⟩
    obtain ⟨h6, k6⟩ := h5.st hac hM6 hA6 hD6
    have h6 : ST M6 a c T N fr (pcP T N q) := h6
    try dsimp only [pu]
    refine E_aload_n dX3_readPiece_54 rfl ?_
    refine g_X3_22 rfl dX3_readPiece_55 h6.1.o h6.2.2.2.2.e ?_
    refine E_if_ne (tgt := 71) dX3_readPiece_58 (by decide) (fun h58 => ?_) (fun h58 => ?_)
    · refine E_vret dX3_readPiece_71 rfl ?_
      subst hq
      refine ⟨rfl, ?_, k1.tr (k2.tr (k3.tr (k4.tr (k5.tr k6))))⟩
      have e : pcF T N (pR T N 3 (decide (fr 2 < 10)) p) fr = fr := by unfold pcF; rw [if_neg h58]
      rw [e]; exact h6
    · have h58 := Classical.not_not.mp h58
      have hk := pc_k h58
      have h8 : fr 2 < 10 := by
        have z := (pR_k (by rw [← hq]; exact hk.1)).2
        exact of_decide_eq_true z
      refine E_aload_n dX3_readPiece_61 rfl ?_
      refine E_iload_n dX3_readPiece_62 rfl ?_
      refine E_iload_n dX3_readPiece_63 rfl ?_
      refine E_iload dX3_readPiece_64 rfl ?_
      refine E_iload dX3_readPiece_66 rfl ?_
      refine i_X3_122 rfl dX3_readPiece_68 (by exact h6.2.2.1.o) (c_addP h6.2.2.1 h6.2.2.2.1 hw.1 h8) (by omega) (Nat.le_of_ble_eq_true rfl) rfl rfl ?_
      rintro _ M7 ⟨rfl, I7, hM7, hP7, hW7, hB7⟩
      obtain ⟨h7, k7⟩ := h6.ad hac hM7 hP7 hW7
      try dsimp only [pu]
      refine E_vret dX3_readPiece_71 rfl ?_
      subst hq
      refine ⟨rfl, ?_, k1.tr (k2.tr (k3.tr (k4.tr (k5.tr (k6.tr k7)))))⟩
      have e : pcF T N (pR T N 3 (decide (fr 2 < 10)) p) fr = upP fr v1 v2 v3 v4 := by unfold pcF; rw [if_pos h58, hv1 hk.2.1, hv2 hk.2.1, hv3 hk.2.2.1, hv4 hk.2.2.2.1]
      rw [e]; exact h7
set_option maxRecDepth 20000 in
set_option maxHeartbeats 3000000 in
theorem l_readLines {G : Ctx} {M : Mem} {a c : Nat} {T : Int → Int} {N : Nat} (hac : a + 1 < c) (Z : PT × CD) : ∀ (k r : Nat) (M1 : Mem) (x : PT × CD), r + k = 8 → (ST M1 a c T N x.2 x.1 ∧ WP x.2 ∧ KB M M1 a c (c + 1) ∧ itQ T (rdL T N) 1 k x = Z) → EV G m_X3_readLines 7 0 0 (fun r M' => r = none ∧ ST M' a c T N Z.2 Z.1 ∧ WP Z.2 ∧ KB M M' a c (c + 1)) 7 [some (vR a), some (vR c), some (vI (r : Int))] [] M1 := by
  intro k
  induction k with
  | zero =>
    intro r M1 x hr hi
    obtain rfl : r = 8 := by omega
    refine E_iload_n dX3_readLines_7 rfl ?_
    refine E_bipush dX3_readLines_8 (by decide) ?_
    refine E_icmp_ge (tgt := 33) dX3_readLines_10 (by decide) (fun h10 => ?_) (fun h10 => ?_)
    · refine E_vret dX3_readLines_33 rfl ?_
      have e : x = Z := hi.2.2.2
      rw [← e]; exact ⟨rfl, hi.1, hi.2.1, hi.2.2.1⟩
    · exfalso; omega
  | succ k ih =>
    intro r M1 x hr hi
    refine E_iload_n dX3_readLines_7 rfl ?_
    refine E_bipush dX3_readLines_8 (by decide) ?_
    refine E_icmp_ge (tgt := 33) dX3_readLines_10 (by decide) (fun h10 => ?_) (fun h10 => ?_)
    · exfalso; omega
    · refine E_aload_n dX3_readLines_13 rfl ?_
      refine E_ldcS (i := 1) dX3_readLines_14 rfl rfl rfl ?_
      refine i_X3_81 rfl dX3_readLines_16 (by exact hi.1.1.o) (c_isNext hi.1.1 hi.1.2.1 hi.1.2.2.2.2 (i := 1) (by omega)) (by omega) (Nat.le_of_ble_eq_true rfl) rfl rfl ?_
      rintro _ _ ⟨rfl, rfl⟩
      try dsimp only [pu]
      refine E_if_eq (tgt := 33) dX3_readLines_19 (by decide) (fun h19 => ?_) (fun h19 => ?_)
      · simp only [tB0, ne_eq, Bool.not_eq_false, Bool.not_eq_true, decide_eq_true_eq, decide_eq_false_iff_not, Classical.not_not] at h19
        refine E_vret dX3_readLines_33 rfl ?_
        have e : itQ T (rdL T N) 1 (k + 1) x = x := by simp only [itQ]; rw [if_neg h19]
        rw [← hi.2.2.2, e]; exact ⟨rfl, hi.1, hi.2.1, hi.2.2.1⟩
      · simp only [tB0, ne_eq, Bool.not_eq_false, Bool.not_eq_true, decide_eq_true_eq, decide_eq_false_iff_not, Classical.not_not] at h19
        refine E_aload_n dX3_readLines_22 rfl ?_
        refine E_aload_n dX3_readLines_23 rfl ?_
        refine i_X3_76 rfl dX3_readLines_24 (by exact hi.1.1.o) (c_readLine hi.1 hi.2.1 hac) (by omega) (Nat.le_of_ble_eq_true rfl) rfl rfl ?_
        rintro _ M2 ⟨rfl, g1, g2⟩
        have hb0 := hi.2.1.1.1
        have hb1 := hi.2.1.1.2.1
        have hb2 := hi.2.1.1.2.2
        rw [pR_q h19 (by omega)] at g1
        have g1 : ST M2 a c T N (rdL T N x).2 (rdL T N x).1 := g1
        try dsimp only [pu]
        refine E_iinc dX3_readLines_27 rfl (by omega) (by omega) (by decide) rfl (by decide) ?_
        try dsimp only [List.set]
        refine E_goto (tgt := 7) dX3_readLines_30 (by decide) ?_
        have e : itQ T (rdL T N) 1 (k + 1) x = itQ T (rdL T N) 1 k (rdL T N x) := by simp only [itQ]; rw [if_pos h19]
        exact EV.mq rfl rfl (ih (r + 1) M2 (rdL T N x) (by omega) ⟨g1, rdL_w hi.2.1, hi.2.2.1.tr g2, by rw [← e]; exact hi.2.2.2⟩)
set_option maxRecDepth 20000 in
set_option maxHeartbeats 3000000 in
theorem l_readRights {G : Ctx} {M : Mem} {a c : Nat} {T : Int → Int} {N : Nat} (hac : a + 1 < c) (Z : PT × CD) : ∀ (k r : Nat) (M1 : Mem) (x : PT × CD), r + k = 9 → (ST M1 a c T N x.2 x.1 ∧ WP x.2 ∧ KB M M1 a c (c + 1) ∧ itQ T (rdR T N) 2 k x = Z) → EV G m_X3_readRights 7 0 0 (fun r M' => r = none ∧ ST M' a c T N Z.2 Z.1 ∧ WP Z.2 ∧ KB M M' a c (c + 1)) 2 [some (vR a), some (vR c), some (vI (r : Int))] [] M1 := by
  intro k
  induction k with
  | zero =>
    intro r M1 x hr hi
    obtain rfl : r = 9 := by omega
    refine E_iload_n dX3_readRights_2 rfl ?_
    refine E_bipush dX3_readRights_3 (by decide) ?_
    refine E_icmp_gt (tgt := 28) dX3_readRights_5 (by decide) (fun h5 => ?_) (fun h5 => ?_)
    · refine E_vret dX3_readRights_28 rfl ?_
      have e : x = Z := hi.2.2.2
      rw [← e]; exact ⟨rfl, hi.1, hi.2.1, hi.2.2.1⟩
    · exfalso; omega
  | succ k ih =>
    intro r M1 x hr hi
    refine E_iload_n dX3_readRights_2 rfl ?_
    refine E_bipush dX3_readRights_3 (by decide) ?_
    refine E_icmp_gt (tgt := 28) dX3_readRights_5 (by decide) (fun h5 => ?_) (fun h5 => ?_)
    · exfalso; omega
    · refine E_aload_n dX3_readRights_8 rfl ?_
      refine E_ldcS (i := 2) dX3_readRights_9 rfl rfl rfl ?_
      refine i_X3_81 rfl dX3_readRights_11 (by exact hi.1.1.o) (c_isNext hi.1.1 hi.1.2.1 hi.1.2.2.2.2 (i := 2) (by omega)) (by omega) (Nat.le_of_ble_eq_true rfl) rfl rfl ?_
      rintro _ _ ⟨rfl, rfl⟩
      try dsimp only [pu]
      refine E_if_eq (tgt := 28) dX3_readRights_14 (by decide) (fun h14 => ?_) (fun h14 => ?_)
      · simp only [tB0, ne_eq, Bool.not_eq_false, Bool.not_eq_true, decide_eq_true_eq, decide_eq_false_iff_not, Classical.not_not] at h14
        refine E_vret dX3_readRights_28 rfl ?_
        have e : itQ T (rdR T N) 2 (k + 1) x = x := by simp only [itQ]; rw [if_neg h14]
        rw [← hi.2.2.2, e]; exact ⟨rfl, hi.1, hi.2.1, hi.2.2.1⟩
      · simp only [tB0, ne_eq, Bool.not_eq_false, Bool.not_eq_true, decide_eq_true_eq, decide_eq_false_iff_not, Classical.not_not] at h14
        refine E_aload_n dX3_readRights_17 rfl ?_
        refine E_aload_n dX3_readRights_18 rfl ?_
        refine i_X3_98 rfl dX3_readRights_19 (by exact hi.1.1.o) (c_readRight hi.1 hi.2.1 hac) (by omega) (Nat.le_of_ble_eq_true rfl) rfl rfl ?_
        rintro _ M2 ⟨rfl, g1, g2⟩
        have hb0 := hi.2.1.1.1
        have hb1 := hi.2.1.1.2.1
        have hb2 := hi.2.1.1.2.2
        rw [pR_q h14 (by omega)] at g1
        have g1 : ST M2 a c T N (rdR T N x).2 (rdR T N x).1 := g1
        try dsimp only [pu]
        refine E_iinc dX3_readRights_22 rfl (by omega) (by omega) (by decide) rfl (by decide) ?_
        try dsimp only [List.set]
        refine E_goto (tgt := 2) dX3_readRights_25 (by decide) ?_
        have e : itQ T (rdR T N) 2 (k + 1) x = itQ T (rdR T N) 2 k (rdR T N x) := by simp only [itQ]; rw [if_pos h14]
        exact EV.mq rfl rfl (ih (r + 1) M2 (rdR T N x) (by omega) ⟨g1, rdR_w hi.2.1, hi.2.2.1.tr g2, by rw [← e]; exact hi.2.2.2⟩)
set_option maxRecDepth 20000 in
set_option maxHeartbeats 3000000 in
theorem l_readPieces {G : Ctx} {M : Mem} {a c : Nat} {T : Int → Int} {N : Nat} (hac : a + 1 < c) (Z : PT × CD) : ∀ (k r : Nat) (M1 : Mem) (x : PT × CD), r + k = 11 → (ST M1 a c T N x.2 x.1 ∧ WP x.2 ∧ KB M M1 a c (c + 1) ∧ itQ T (rdP T N) 3 k x = Z) → EV G m_X3_readPieces 7 0 0 (fun r M' => r = none ∧ ST M' a c T N Z.2 Z.1 ∧ WP Z.2 ∧ KB M M' a c (c + 1)) 2 [some (vR a), some (vR c), some (vI (r : Int))] [] M1 := by
  intro k
  induction k with
  | zero =>
    intro r M1 x hr hi
    obtain rfl : r = 11 := by omega
    refine E_iload_n dX3_readPieces_2 rfl ?_
    refine E_bipush dX3_readPieces_3 (by decide) ?_
    refine E_icmp_gt (tgt := 28) dX3_readPieces_5 (by decide) (fun h5 => ?_) (fun h5 => ?_)
    · refine E_vret dX3_readPieces_28 rfl ?_
      have e : x = Z := hi.2.2.2
      rw [← e]; exact ⟨rfl, hi.1, hi.2.1, hi.2.2.1⟩
    · exfalso; omega
  | succ k ih =>
    intro r M1 x hr hi
    refine E_iload_n dX3_readPieces_2 rfl ?_
    refine E_bipush dX3_readPieces_3 (by decide) ?_
    refine E_icmp_gt (tgt := 28) dX3_readPieces_5 (by decide) (fun h5 => ?_) (fun h5 => ?_)
    · exfalso; omega
    · refine E_aload_n dX3_readPieces_8 rfl ?_
      refine E_ldcS (i := 3) dX3_readPieces_9 rfl rfl rfl ?_
      refine i_X3_81 rfl dX3_readPieces_11 (by exact hi.1.1.o) (c_isNext hi.1.1 hi.1.2.1 hi.1.2.2.2.2 (i := 3) (by omega)) (by omega) (Nat.le_of_ble_eq_true rfl) rfl rfl ?_
      rintro _ _ ⟨rfl, rfl⟩
      try dsimp only [pu]
      refine E_if_eq (tgt := 28) dX3_readPieces_14 (by decide) (fun h14 => ?_) (fun h14 => ?_)
      · simp only [tB0, ne_eq, Bool.not_eq_false, Bool.not_eq_true, decide_eq_true_eq, decide_eq_false_iff_not, Classical.not_not] at h14
        refine E_vret dX3_readPieces_28 rfl ?_
        have e : itQ T (rdP T N) 3 (k + 1) x = x := by simp only [itQ]; rw [if_neg h14]
        rw [← hi.2.2.2, e]; exact ⟨rfl, hi.1, hi.2.1, hi.2.2.1⟩
      · simp only [tB0, ne_eq, Bool.not_eq_false, Bool.not_eq_true, decide_eq_true_eq, decide_eq_false_iff_not, Classical.not_not] at h14
        refine E_aload_n dX3_readPieces_17 rfl ?_
        refine E_aload_n dX3_readPieces_18 rfl ?_
        refine i_X3_110 rfl dX3_readPieces_19 (by exact hi.1.1.o) (c_readPiece hi.1 hi.2.1 hac) (by omega) (Nat.le_of_ble_eq_true rfl) rfl rfl ?_
        rintro _ M2 ⟨rfl, g1, g2⟩
        have hb0 := hi.2.1.1.1
        have hb1 := hi.2.1.1.2.1
        have hb2 := hi.2.1.1.2.2
        rw [pR_q h14 (by omega)] at g1
        have g1 : ST M2 a c T N (rdP T N x).2 (rdP T N x).1 := g1
        try dsimp only [pu]
        refine E_iinc dX3_readPieces_22 rfl (by omega) (by omega) (by decide) rfl (by decide) ?_
        try dsimp only [List.set]
        refine E_goto (tgt := 2) dX3_readPieces_25 (by decide) ?_
        have e : itQ T (rdP T N) 3 (k + 1) x = itQ T (rdP T N) 3 k (rdP T N x) := by simp only [itQ]; rw [if_pos h14]
        exact EV.mq rfl rfl (ih (r + 1) M2 (rdP T N x) (by omega) ⟨g1, rdP_w hi.2.1, hi.2.2.1.tr g2, by rw [← e]; exact hi.2.2.2⟩)
theorem rd3_l {T : Int → Int} {N : Nat} {p : PT} {fr : CD} (hb : fr 0 ≤ 8) : itQ T (rdL T N) 1 8 (lnP T N (pR T N 1 (decide (fr 0 < 8)) p) fr, lnF T N (pR T N 1 (decide (fr 0 < 8)) p) fr) = itQ T (rdL T N) 1 9 (if nmV T p = wV 1 then p else pX 1 p, fr) := by
  by_cases e : nmV T p = wV 1
  · rw [pR_q e hb, if_pos e]
    rw [show (9 : Nat) = 8 + 1 from rfl]
    simp only [itQ]
    rw [if_pos e]; rfl
  · have ne : pE (pX 1 p) ≠ 0 := by
      rw [pX_e]; split
      · decide
      · assumption
    rw [pR_x e, (lnP_f ne).1, (lnP_f ne).2, if_neg e, itQ_f (by omega) (by exact ne) 8, itQ_f (by omega) (by exact ne) 9]
set_option maxRecDepth 20000 in
set_option maxHeartbeats 3000000 in
theorem c_readLines {G : Ctx} {M : Mem} {a c : Nat} {T : Int → Int} {N : Nat} {fr : CD} {p : PT} (h0 : ST M a c T N fr p) (hw : WP fr) (hac : a + 1 < c) : CT G m_X3_readLines 7 0 0 [vR a, vR c] M (fun r M' => r = none ∧ ST M' a c T N (itQ T (rdL T N) 1 9 (if nmV T p = wV 1 then p else pX 1 p, fr)).2 (itQ T (rdL T N) 1 9 (if nmV T p = wV 1 then p else pX 1 p, fr)).1 ∧ WP (itQ T (rdL T N) 1 9 (if nmV T p = wV 1 then p else pX 1 p, fr)).2 ∧ KB M M' a c (c + 1)) := by
  refine CT.of k_X3_readLines 1 (ls := [some (vR a), some (vR c), none]) rfl (Nat.le_of_ble_eq_true rfl) ?_
  refine E_aload_n dX3_readLines_0 rfl ?_
  refine E_aload_n dX3_readLines_1 rfl ?_
  refine i_X3_76 rfl dX3_readLines_2 (by exact h0.1.o) (c_readLine h0 hw hac) (by omega) (Nat.le_of_ble_eq_true rfl) rfl rfl ?_
  rintro _ M1 ⟨rfl, h1, k1⟩
  try dsimp only [pu]
  refine E_iconst dX3_readLines_5 (by decide) ?_
  refine E_istore_n dX3_readLines_6 rfl (by decide) ?_
  try dsimp only [List.set]
  have hb0 := hw.1.1
  rw [← rd3_l hb0.2]
  exact EV.mq rfl rfl (l_readLines hac _ 8 0 M1 (lnP T N (pR T N 1 (decide (fr 0 < 8)) p) fr, lnF T N (pR T N 1 (decide (fr 0 < 8)) p) fr) (by omega) ⟨h1, lnF_w hw (fun z => of_decide_eq_true (pR_k z).2), k1, rfl⟩)
set_option maxRecDepth 20000 in
set_option maxHeartbeats 3000000 in
theorem c_readRights {G : Ctx} {M : Mem} {a c : Nat} {T : Int → Int} {N : Nat} {fr : CD} {p : PT} (h0 : ST M a c T N fr p) (hw : WP fr) (hac : a + 1 < c) : CT G m_X3_readRights 7 0 0 [vR a, vR c] M (fun r M' => r = none ∧ ST M' a c T N (itQ T (rdR T N) 2 9 (p, fr)).2 (itQ T (rdR T N) 2 9 (p, fr)).1 ∧ WP (itQ T (rdR T N) 2 9 (p, fr)).2 ∧ KB M M' a c (c + 1)) := by
  refine CT.of k_X3_readRights 1 (ls := [some (vR a), some (vR c), none]) rfl (Nat.le_of_ble_eq_true rfl) ?_
  refine E_iconst dX3_readRights_0 (by decide) ?_
  refine E_istore_n dX3_readRights_1 rfl (by decide) ?_
  try dsimp only [List.set]
  exact EV.mq rfl rfl (l_readRights hac _ 9 0 M (p, fr) (by omega) ⟨h0, hw, KB.rfl' _ _ _ _, rfl⟩)
set_option maxRecDepth 20000 in
set_option maxHeartbeats 3000000 in
theorem c_readPieces {G : Ctx} {M : Mem} {a c : Nat} {T : Int → Int} {N : Nat} {fr : CD} {p : PT} (h0 : ST M a c T N fr p) (hw : WP fr) (hac : a + 1 < c) : CT G m_X3_readPieces 7 0 0 [vR a, vR c] M (fun r M' => r = none ∧ ST M' a c T N (itQ T (rdP T N) 3 11 (p, fr)).2 (itQ T (rdP T N) 3 11 (p, fr)).1 ∧ WP (itQ T (rdP T N) 3 11 (p, fr)).2 ∧ KB M M' a c (c + 1)) := by
  refine CT.of k_X3_readPieces 1 (ls := [some (vR a), some (vR c), none]) rfl (Nat.le_of_ble_eq_true rfl) ?_
  refine E_iconst dX3_readPieces_0 (by decide) ?_
  refine E_istore_n dX3_readPieces_1 rfl (by decide) ?_
  try dsimp only [List.set]
  exact EV.mq rfl rfl (l_readPieces hac _ 11 0 M (p, fr) (by omega) ⟨h0, hw, KB.rfl' _ _ _ _, rfl⟩)
