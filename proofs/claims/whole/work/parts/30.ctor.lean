/-! ===== 30: constructors ===== -/
theorem mN_new (M : Mem) (sh : Nat × Nat) : mN (mNew M sh) = mN M + 1 := rfl
theorem mN_wr (M : Mem) (a k x : Nat) : mN (mWR M a k x) = mN M := rfl
theorem mS_wr (M : Mem) (a k x : Nat) : mS (mWR M a k x) = mS M := rfl
theorem mI_wr (M : Mem) (a k x : Nat) : mI (mWR M a k x) = mI M := rfl
theorem mS_new {M : Mem} {sh : Nat × Nat} {b : Nat} (h : b ≠ mN M) : mS (mNew M sh) b = mS M b := by
  show (if b = M.1.1 then sh else M.1.2 b) = _
  rw [if_neg (show ¬ b = M.1.1 from h)]; rfl
theorem mS_new0 (M : Mem) (sh : Nat × Nat) : mS (mNew M sh) (mN M) = sh := by simp [mS, mNew, mN]
theorem mI_new {M : Mem} {sh : Nat × Nat} {b : Nat} (h : b ≠ mN M) : mI (mNew M sh) b = mI M b := by
  show (if b = M.1.1 then _ else M.2.1 b) = _
  rw [if_neg (show ¬ b = M.1.1 from h)]; rfl
theorem mI_new0 (M : Mem) (sh : Nat × Nat) (j : Int) : mI (mNew M sh) (mN M) j = 0 := by simp [mI, mNew, mN]
theorem mR_new {M : Mem} {sh : Nat × Nat} {b : Nat} (h : b ≠ mN M) : mR (mNew M sh) b = mR M b := by
  show (if b = M.1.1 then _ else M.2.2 b) = _
  rw [if_neg (show ¬ b = M.1.1 from h)]; rfl
theorem mR_w {M : Mem} {a k x b j : Nat} (h : ¬ (b = a ∧ j = k)) : mR (mWR M a k x) b j = mR M b j := upN_ne _ _ h
theorem mR_w0 (M : Mem) (a k x : Nat) : mR (mWR M a k x) a k = x := upN_self _ _ _ _
/-- one row of numbers is made and kept in a field: what is known afterwards; a: the object, K: the fields known already -/
def NW (M0 M : Mem) (a : Nat) (fs : List (Nat × Nat × (Nat × Nat))) : Prop := mN M = mN M0 + fs.length ∧ (∀ b, b < mN M0 → mS M b = mS M0 b ∧ mI M b = mI M0 b ∧ (b ≠ a → mR M b = mR M0 b)) ∧ (∀ i q, fs[i]? = some q → q.2.1 = mN M0 + i ∧ mR M a q.1 = q.2.1 ∧ mS M q.2.1 = q.2.2 ∧ ∀ j, mI M q.2.1 j = 0)
theorem NW.nil (M : Mem) (a : Nat) : NW M M a [] := ⟨rfl, fun b hb => ⟨rfl, rfl, fun _ => rfl⟩, fun i q h => by simp at h⟩
theorem NW.add {M0 M : Mem} {a : Nat} {fs : List (Nat × Nat × (Nat × Nat))} (h : NW M0 M a fs) (ha : a < mN M0) (k : Nat) (sh : Nat × Nat) (hk : ∀ q ∈ fs, q.1 ≠ k) : NW M0 (mWR (mNew M sh) a k (mN M)) a (fs ++ [(k, mN M, sh)]) := by
  obtain ⟨h1, h2, h3⟩ := h
  refine ⟨by rw [mN_wr, mN_new, h1, List.length_append]; simp; omega, fun b hb => ?_, fun i q hq => ?_⟩
  · obtain ⟨q1, q2, q3⟩ := h2 b hb
    have hne : b ≠ mN M := by omega
    refine ⟨by rw [mS_wr, mS_new hne]; exact q1, by rw [mI_wr, mI_new hne]; exact q2, fun hba => ?_⟩
    funext j
    rw [mR_w (fun z => hba z.1), mR_new hne]
    rw [q3 hba]
  · by_cases hi : i < fs.length
    · rw [List.getElem?_append_left hi] at hq
      obtain ⟨q0, q1, q2, q3⟩ := h3 i q hq
      have hne : q.2.1 ≠ mN M := by omega
      have hna : a ≠ mN M := by omega
      refine ⟨q0, ?_, by rw [mS_wr, mS_new hne]; exact q2, fun j => by rw [mI_wr, mI_new hne]; exact q3 j⟩
      rw [mR_w (fun z => hk q (List.mem_of_getElem? hq) z.2), mR_new hna]; exact q1
    · rw [List.getElem?_append_right (by omega)] at hq
      have hz : i - fs.length < 1 := (List.getElem?_eq_some_iff.mp hq).1
      rw [show i - fs.length = 0 by omega] at hq
      cases hq
      exact ⟨by show mN M = mN M0 + i; omega, mR_w0 _ _ _ _, by rw [mS_wr]; exact mS_new0 _ _, fun j => by rw [mI_wr]; exact mI_new0 _ _ _⟩
theorem NW.fld {M0 M : Mem} {a : Nat} {fs : List (Nat × Nat × (Nat × Nat))} (h : NW M0 M a fs) (i x : Nat) (e : mN M0 + i = x) {k A : Nat} {sh : Nat × Nat} (hq : fs[i]? = some (k, A, sh)) : mR M a k = x ∧ mS M x = sh := by
  obtain ⟨q0, q1, q2, q3⟩ := h.2.2 i _ hq
  subst e
  exact ⟨q1.trans q0, by rw [← q0]; exact q2⟩
theorem NW.zero {M0 M : Mem} {a : Nat} {fs : List (Nat × Nat × (Nat × Nat))} (h : NW M0 M a fs) (b : Nat) (j : Int) (b0 : mN M0 ≤ b) (b1 : b < mN M0 + fs.length) : mI M b j = 0 := by
  have hq : fs[b - mN M0]? = some (fs[b - mN M0]'(by omega)) := List.getElem?_eq_getElem (by omega)
  obtain ⟨q0, q1, q2, q3⟩ := h.2.2 _ _ hq
  have := q3 j
  rw [q0, show mN M0 + (b - mN M0) = b by omega] at this
  exact this
theorem NW.sa {M0 M : Mem} {a : Nat} {fs : List (Nat × Nat × (Nat × Nat))} (h : NW M0 M a fs) (ha : a < mN M0) {sh sh2 : Nat × Nat} (hs : mS M0 a = sh) : mS (mNew M sh2) a = sh := by
  have := h.1
  rw [mS_new (by omega)]
  exact (h.2.1 a ha).1.trans hs
set_option maxRecDepth 20000 in
set_option maxHeartbeats 8000000 in
theorem c_Court_init {G : Ctx} {M0 : Mem} {a : Nat} (hN : mN M0 = a + 1) (h21 : 21 ≤ a) (hs : mS M0 a = (4, 1)) : CT G m_X1_init 1 13 128 [vR a] M0 (fun r M' => r = none ∧ mN M' = mN M0 + 13 ∧ CA M' a ∧ (∀ b, b < mN M0 → mS M' b = mS M0 b ∧ mI M' b = mI M0 b ∧ (b ≠ a → mR M' b = mR M0 b)) ∧ ∀ b j, mN M0 ≤ b → b < mN M0 + 13 → mI M' b j = 0) := by
  refine CT.of k_X1_init 0 (ls := [some (vR a)]) rfl (Nat.le_of_ble_eq_true rfl) ?_
  have ha : a < mN M0 := by omega
  have h0 := NW.nil M0 a
  refine E_aload_n dX1_init_0 rfl ?_
  refine o_X1_3 rfl dX1_init_1 (by omega) (by omega) (Nat.le_of_ble_eq_true rfl) ?_
  refine E_aload_n dX1_init_4 rfl ?_
  refine E_bipush dX1_init_5 (by decide) ?_
  refine E_newI (N := 24) dX1_init_7 n_arrI rfl (by decide) ?_
  refine p_X1_9 rfl rfl dX1_init_9 (h0.sa ha hs) (by have z := h0.1; omega) ?_
  have h1 := h0.add ha 0 (1, 24) (by simp)
  simp only [List.nil_append, List.cons_append] at h1
  generalize mWR (mNew M0 (1, 24)) a 0 (mN M0) = M1 at h1 ⊢
  refine E_aload_n dX1_init_12 rfl ?_
  refine E_bipush dX1_init_13 (by decide) ?_
  refine E_newI (N := 8) dX1_init_15 n_arrI rfl (by decide) ?_
  refine p_X1_15 rfl rfl dX1_init_17 (h1.sa ha hs) (by have z := h1.1; omega) ?_
  have h2 := h1.add ha 2 (1, 8) (by simp)
  simp only [List.nil_append, List.cons_append] at h2
  generalize mWR (mNew M1 (1, 8)) a 2 (mN M1) = M2 at h2 ⊢
  refine E_aload_n dX1_init_20 rfl ?_
  refine E_bipush dX1_init_21 (by decide) ?_
  refine E_newI (N := 8) dX1_init_23 n_arrI rfl (by decide) ?_
  refine p_X1_18 rfl rfl dX1_init_25 (h2.sa ha hs) (by have z := h2.1; omega) ?_
  have h3 := h2.add ha 3 (1, 8) (by simp)
  simp only [List.nil_append, List.cons_append] at h3
  generalize mWR (mNew M2 (1, 8)) a 3 (mN M2) = M3 at h3 ⊢
  refine E_aload_n dX1_init_28 rfl ?_
  refine E_bipush dX1_init_29 (by decide) ?_
  refine E_newI (N := 8) dX1_init_31 n_arrI rfl (by decide) ?_
  refine p_X1_21 rfl rfl dX1_init_33 (h3.sa ha hs) (by have z := h3.1; omega) ?_
  have h4 := h3.add ha 4 (1, 8) (by simp)
  simp only [List.nil_append, List.cons_append] at h4
  generalize mWR (mNew M3 (1, 8)) a 4 (mN M3) = M4 at h4 ⊢
  refine E_aload_n dX1_init_36 rfl ?_
  refine E_bipush dX1_init_37 (by decide) ?_
  refine E_newI (N := 8) dX1_init_39 n_arrI rfl (by decide) ?_
  refine p_X1_24 rfl rfl dX1_init_41 (h4.sa ha hs) (by have z := h4.1; omega) ?_
  have h5 := h4.add ha 5 (1, 8) (by simp)
  simp only [List.nil_append, List.cons_append] at h5
  generalize mWR (mNew M4 (1, 8)) a 5 (mN M4) = M5 at h5 ⊢
  refine E_aload_n dX1_init_44 rfl ?_
  refine E_bipush dX1_init_45 (by decide) ?_
  refine E_newI (N := 8) dX1_init_47 n_arrI rfl (by decide) ?_
  refine p_X1_27 rfl rfl dX1_init_49 (h5.sa ha hs) (by have z := h5.1; omega) ?_
  have h6 := h5.add ha 7 (1, 8) (by simp)
  simp only [List.nil_append, List.cons_append] at h6
  generalize mWR (mNew M5 (1, 8)) a 7 (mN M5) = M6 at h6 ⊢
  refine E_aload_n dX1_init_52 rfl ?_
  refine E_bipush dX1_init_53 (by decide) ?_
  refine E_newI (N := 8) dX1_init_55 n_arrI rfl (by decide) ?_
  refine p_X1_30 rfl rfl dX1_init_57 (h6.sa ha hs) (by have z := h6.1; omega) ?_
  have h7 := h6.add ha 8 (1, 8) (by simp)
  simp only [List.nil_append, List.cons_append] at h7
  generalize mWR (mNew M6 (1, 8)) a 8 (mN M6) = M7 at h7 ⊢
  refine E_aload_n dX1_init_60 rfl ?_
  refine E_bipush dX1_init_61 (by decide) ?_
  refine E_newI (N := 8) dX1_init_63 n_arrI rfl (by decide) ?_
  refine p_X1_33 rfl rfl dX1_init_65 (h7.sa ha hs) (by have z := h7.1; omega) ?_
  have h8 := h7.add ha 9 (1, 8) (by simp)
  simp only [List.nil_append, List.cons_append] at h8
  generalize mWR (mNew M7 (1, 8)) a 9 (mN M7) = M8 at h8 ⊢
  refine E_aload_n dX1_init_68 rfl ?_
  refine E_bipush dX1_init_69 (by decide) ?_
  refine E_newI (N := 8) dX1_init_71 n_arrI rfl (by decide) ?_
  refine p_X1_36 rfl rfl dX1_init_73 (h8.sa ha hs) (by have z := h8.1; omega) ?_
  have h9 := h8.add ha 10 (1, 8) (by simp)
  simp only [List.nil_append, List.cons_append] at h9
  generalize mWR (mNew M8 (1, 8)) a 10 (mN M8) = M9 at h9 ⊢
  refine E_aload_n dX1_init_76 rfl ?_
  refine E_bipush dX1_init_77 (by decide) ?_
  refine E_newI (N := 10) dX1_init_79 n_arrI rfl (by decide) ?_
  refine p_X1_39 rfl rfl dX1_init_81 (h9.sa ha hs) (by have z := h9.1; omega) ?_
  have h10 := h9.add ha 12 (1, 10) (by simp)
  simp only [List.nil_append, List.cons_append] at h10
  generalize mWR (mNew M9 (1, 10)) a 12 (mN M9) = M10 at h10 ⊢
  refine E_aload_n dX1_init_84 rfl ?_
  refine E_bipush dX1_init_85 (by decide) ?_
  refine E_newI (N := 10) dX1_init_87 n_arrI rfl (by decide) ?_
  refine p_X1_42 rfl rfl dX1_init_89 (h10.sa ha hs) (by have z := h10.1; omega) ?_
  have h11 := h10.add ha 13 (1, 10) (by simp)
  simp only [List.nil_append, List.cons_append] at h11
  generalize mWR (mNew M10 (1, 10)) a 13 (mN M10) = M11 at h11 ⊢
  refine E_aload_n dX1_init_92 rfl ?_
  refine E_bipush dX1_init_93 (by decide) ?_
  refine E_newI (N := 10) dX1_init_95 n_arrI rfl (by decide) ?_
  refine p_X1_45 rfl rfl dX1_init_97 (h11.sa ha hs) (by have z := h11.1; omega) ?_
  have h12 := h11.add ha 14 (1, 10) (by simp)
  simp only [List.nil_append, List.cons_append] at h12
  generalize mWR (mNew M11 (1, 10)) a 14 (mN M11) = M12 at h12 ⊢
  refine E_aload_n dX1_init_100 rfl ?_
  refine E_bipush dX1_init_101 (by decide) ?_
  refine E_newI (N := 10) dX1_init_103 n_arrI rfl (by decide) ?_
  refine p_X1_48 rfl rfl dX1_init_105 (h12.sa ha hs) (by have z := h12.1; omega) ?_
  have h13 := h12.add ha 15 (1, 10) (by simp)
  simp only [List.nil_append, List.cons_append] at h13
  generalize mWR (mNew M12 (1, 10)) a 15 (mN M12) = M13 at h13 ⊢
  refine E_vret dX1_init_108 rfl ?_
  exact ⟨rfl, h13.1, ⟨(h13.2.1 a ha).1.trans hs, h21, h13.fld 0 (a + 1) (by omega) rfl, h13.fld 1 (a + 2) (by omega) rfl, h13.fld 2 (a + 3) (by omega) rfl, h13.fld 3 (a + 4) (by omega) rfl, h13.fld 4 (a + 5) (by omega) rfl, h13.fld 5 (a + 6) (by omega) rfl, h13.fld 6 (a + 7) (by omega) rfl, h13.fld 7 (a + 8) (by omega) rfl, h13.fld 8 (a + 9) (by omega) rfl, h13.fld 9 (a + 10) (by omega) rfl, h13.fld 10 (a + 11) (by omega) rfl, h13.fld 11 (a + 12) (by omega) rfl, h13.fld 12 (a + 13) (by omega) rfl⟩, h13.2.1, fun b j b0 b1 => h13.zero b j b0 b1⟩
set_option maxRecDepth 20000 in
set_option maxHeartbeats 8000000 in
theorem c_Wash_init {G : Ctx} {M0 : Mem} {a c : Nat} (hN : mN M0 = a + 1) (h21 : 21 ≤ a) (hs : mS M0 a = (4, 8)) (hc : 21 ≤ c) : CT G m_X9_init 1 5 46 [vR a, vR c] M0 (fun r M' => r = none ∧ mN M' = mN M0 + 5 ∧ WA M' a ∧ mR M' a 0 = c ∧ (∀ b, b < mN M0 → mS M' b = mS M0 b ∧ mI M' b = mI M0 b ∧ (b ≠ a → mR M' b = mR M0 b)) ∧ ∀ b j, mN M0 ≤ b → b < mN M0 + 5 → mI M' b j = 0) := by
  refine CT.of k_X9_init 0 (ls := [some (vR a), some (vR c)]) rfl (Nat.le_of_ble_eq_true rfl) ?_
  have ha : a < mN M0 := by omega
  have h0 := NW.nil M0 a
  refine E_aload_n dX9_init_0 rfl ?_
  refine o_X9_3 rfl dX9_init_1 (by omega) (by omega) (Nat.le_of_ble_eq_true rfl) ?_
  refine E_aload_n dX9_init_4 rfl ?_
  refine E_bipush dX9_init_5 (by decide) ?_
  refine E_newI (N := 10) dX9_init_7 n_arrI rfl (by decide) ?_
  refine p_X9_11 rfl rfl dX9_init_9 (h0.sa ha hs) (by have z := h0.1; omega) ?_
  have h1 := h0.add ha 2 (1, 10) (by simp)
  simp only [List.nil_append, List.cons_append] at h1
  generalize mWR (mNew M0 (1, 10)) a 2 (mN M0) = M1 at h1 ⊢
  refine E_aload_n dX9_init_12 rfl ?_
  refine E_bipush dX9_init_13 (by decide) ?_
  refine E_newI (N := 10) dX9_init_15 n_arrI rfl (by decide) ?_
  refine p_X9_17 rfl rfl dX9_init_17 (h1.sa ha hs) (by have z := h1.1; omega) ?_
  have h2 := h1.add ha 3 (1, 10) (by simp)
  simp only [List.nil_append, List.cons_append] at h2
  generalize mWR (mNew M1 (1, 10)) a 3 (mN M1) = M2 at h2 ⊢
  refine E_aload_n dX9_init_20 rfl ?_
  refine E_bipush dX9_init_21 (by decide) ?_
  refine E_newZ (N := 10) dX9_init_23 n_arrZ rfl (by decide) ?_
  refine p_X9_20 rfl rfl dX9_init_25 (h2.sa ha hs) (by have z := h2.1; omega) ?_
  have h3 := h2.add ha 4 (3, 10) (by simp)
  simp only [List.nil_append, List.cons_append] at h3
  generalize mWR (mNew M2 (3, 10)) a 4 (mN M2) = M3 at h3 ⊢
  refine E_aload_n dX9_init_28 rfl ?_
  refine E_bipush dX9_init_29 (by decide) ?_
  refine E_newI (N := 8) dX9_init_31 n_arrI rfl (by decide) ?_
  refine p_X9_24 rfl rfl dX9_init_33 (h3.sa ha hs) (by have z := h3.1; omega) ?_
  have h4 := h3.add ha 5 (1, 8) (by simp)
  simp only [List.nil_append, List.cons_append] at h4
  generalize mWR (mNew M3 (1, 8)) a 5 (mN M3) = M4 at h4 ⊢
  refine E_aload_n dX9_init_36 rfl ?_
  refine E_bipush dX9_init_37 (by decide) ?_
  refine E_newZ (N := 8) dX9_init_39 n_arrZ rfl (by decide) ?_
  refine p_X9_27 rfl rfl dX9_init_41 (h4.sa ha hs) (by have z := h4.1; omega) ?_
  have h5 := h4.add ha 6 (3, 8) (by simp)
  simp only [List.nil_append, List.cons_append] at h5
  generalize mWR (mNew M4 (3, 8)) a 6 (mN M4) = M5 at h5 ⊢
  refine E_aload_n dX9_init_44 rfl ?_
  refine E_aload_n dX9_init_45 rfl ?_
  refine p_X9_30 rfl dX9_init_46 ((h5.2.1 a ha).1.trans hs) hc ?_
  refine E_vret dX9_init_49 rfl ?_
  exact ⟨rfl, h5.1, ⟨(h5.2.1 a ha).1.trans hs, h21, ⟨(mR_w (by omega)).trans (h5.fld 0 (a + 1) (by omega) rfl).1, (h5.fld 0 (a + 1) (by omega) rfl).2⟩, ⟨(mR_w (by omega)).trans (h5.fld 1 (a + 2) (by omega) rfl).1, (h5.fld 1 (a + 2) (by omega) rfl).2⟩, ⟨(mR_w (by omega)).trans (h5.fld 2 (a + 3) (by omega) rfl).1, (h5.fld 2 (a + 3) (by omega) rfl).2⟩, ⟨(mR_w (by omega)).trans (h5.fld 3 (a + 4) (by omega) rfl).1, (h5.fld 3 (a + 4) (by omega) rfl).2⟩, ⟨(mR_w (by omega)).trans (h5.fld 4 (a + 5) (by omega) rfl).1, (h5.fld 4 (a + 5) (by omega) rfl).2⟩⟩, mR_w0 _ _ _ _, fun b hb => ⟨(h5.2.1 b hb).1, (h5.2.1 b hb).2.1, fun hba => by funext j; rw [mR_w (fun z => hba z.1), (h5.2.1 b hb).2.2 hba]⟩, fun b j b0 b1 => h5.zero b j b0 b1⟩
set_option maxRecDepth 20000 in
set_option maxHeartbeats 8000000 in
theorem c_Trace_init {G : Ctx} {M0 : Mem} {a : Nat} (hN : mN M0 = a + 1) (h21 : 21 ≤ a) (hs : mS M0 a = (4, 7)) : CT G m_X8_init 1 1 16 [vR a] M0 (fun r M' => r = none ∧ mN M' = mN M0 + 1 ∧ (mS M' a = (4, 7) ∧ mR M' a 0 = a + 1 ∧ mS M' (a + 1) = (1, 16)) ∧ (∀ b, b < mN M0 → mS M' b = mS M0 b ∧ mI M' b = mI M0 b ∧ (b ≠ a → mR M' b = mR M0 b)) ∧ ∀ b j, mN M0 ≤ b → b < mN M0 + 1 → mI M' b j = 0) := by
  refine CT.of k_X8_init 0 (ls := [some (vR a)]) rfl (Nat.le_of_ble_eq_true rfl) ?_
  have ha : a < mN M0 := by omega
  have h0 := NW.nil M0 a
  refine E_aload_n dX8_init_0 rfl ?_
  refine o_X8_1 rfl dX8_init_1 (by omega) (by omega) (Nat.le_of_ble_eq_true rfl) ?_
  refine E_aload_n dX8_init_4 rfl ?_
  refine E_bipush dX8_init_5 (by decide) ?_
  refine E_newI (N := 16) dX8_init_7 n_arrI rfl (by decide) ?_
  refine p_X8_9 rfl rfl dX8_init_9 (h0.sa ha hs) (by have z := h0.1; omega) ?_
  have h1 := h0.add ha 0 (1, 16) (by simp)
  simp only [List.nil_append, List.cons_append] at h1
  generalize mWR (mNew M0 (1, 16)) a 0 (mN M0) = M1 at h1 ⊢
  refine E_vret dX8_init_12 rfl ?_
  exact ⟨rfl, h1.1, ⟨(h1.2.1 a ha).1.trans hs, h1.fld 0 (a + 1) (by omega) rfl⟩, h1.2.1, fun b j b0 b1 => h1.zero b j b0 b1⟩
set_option maxRecDepth 20000 in
set_option maxHeartbeats 8000000 in
theorem c_Reader_init {G : Ctx} {M0 : Mem} {a : Nat} (hN : mN M0 = a + 1) (h21 : 21 ≤ a) (hs : mS M0 a = (4, 2)) : CT G m_X3_init 1 1 500 [vR a] M0 (fun r M' => r = none ∧ mN M' = mN M0 + 1 ∧ (mS M' a = (4, 2) ∧ mR M' a 0 = a + 1 ∧ mS M' (a + 1) = (2, 500)) ∧ (∀ b, b < mN M0 → mS M' b = mS M0 b ∧ mI M' b = mI M0 b ∧ (b ≠ a → mR M' b = mR M0 b)) ∧ ∀ b j, mN M0 ≤ b → b < mN M0 + 1 → mI M' b j = 0) := by
  refine CT.of k_X3_init 0 (ls := [some (vR a)]) rfl (Nat.le_of_ble_eq_true rfl) ?_
  have ha : a < mN M0 := by omega
  have h0 := NW.nil M0 a
  refine E_aload_n dX3_init_0 rfl ?_
  refine o_X3_3 rfl dX3_init_1 (by omega) (by omega) (Nat.le_of_ble_eq_true rfl) ?_
  refine E_aload_n dX3_init_4 rfl ?_
  refine E_sipush dX3_init_5 (by decide) ?_
  refine E_newB (N := 500) dX3_init_8 n_arrB rfl (by decide) ?_
  refine p_X3_11 rfl rfl dX3_init_10 (h0.sa ha hs) (by have z := h0.1; omega) ?_
  have h1 := h0.add ha 0 (2, 500) (by simp)
  simp only [List.nil_append, List.cons_append] at h1
  generalize mWR (mNew M0 (2, 500)) a 0 (mN M0) = M1 at h1 ⊢
  refine E_vret dX3_init_13 rfl ?_
  exact ⟨rfl, h1.1, ⟨(h1.2.1 a ha).1.trans hs, h1.fld 0 (a + 1) (by omega) rfl⟩, h1.2.1, fun b j b0 b1 => h1.zero b j b0 b1⟩
