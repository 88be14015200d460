/-! ===== 81: the reference is made ===== -/
def NK (M0 M : Mem) (a : Nat) (fs : List (Nat × Nat × (Nat × Nat))) : Prop := NW M0 M a fs ∧ ∀ k, (∀ q ∈ fs, q.1 ≠ k) → mR M a k = mR M0 a k
theorem NK.nil (M : Mem) (a : Nat) : NK M M a [] := ⟨NW.nil M a, fun _ _ => rfl⟩
theorem NK.add {M0 M : Mem} {a : Nat} {fs : List (Nat × Nat × (Nat × Nat))} (h : NK M0 M a fs) (ha : a < mN M0) (k : Nat) (sh : Nat × Nat) (hk : ∀ q ∈ fs, q.1 ≠ k) : NK M0 (mWR (mNew M sh) a k (mN M)) a (fs ++ [(k, mN M, sh)]) := by
  refine ⟨h.1.add ha k sh hk, fun j hj => ?_⟩
  have h1 : j ≠ k := fun e => hj (k, mN M, sh) (List.mem_append.mpr (Or.inr (List.mem_singleton.mpr rfl))) e.symm
  have h2 : a ≠ mN M := by have := h.1.1; omega
  rw [mR_w (fun z => h1 z.2), mR_new h2]
  exact h.2 j (fun q hq => hj q (List.mem_append.mpr (Or.inl hq)))
set_option maxRecDepth 20000 in
set_option maxHeartbeats 3000000 in
theorem c_Model_init {G : Ctx} {M0 : Mem} {a : Nat} (hN : mN M0 = a + 1) (h21 : 21 ≤ a) (hs : mS M0 a = (4, 11)) : CT G m_X12_init 1 14 1468 [vR a] M0 (fun r M' => r = none ∧ mN M' = mN M0 + 14 ∧ MO M' a ∧ (∀ b, b < mN M0 → mS M' b = mS M0 b ∧ mI M' b = mI M0 b ∧ (b ≠ a → mR M' b = mR M0 b)) ∧ (∀ j : Int, 0 ≤ j → j < 8 → mI M' (a + 1) j = -1) ∧ ∀ b (j : Int), a + 2 ≤ b → b ≤ a + 14 → mI M' b j = 0) := by
  refine CT.of k_X12_init 0 (ls := [some (vR a)]) rfl (Nat.le_of_ble_eq_true rfl) ?_
  have ha : a < mN M0 := by omega
  refine E_aload_n dX12_init_0 rfl ?_
  refine o_X12_1 rfl dX12_init_1 (by omega) (by omega) (Nat.le_of_ble_eq_true rfl) ?_
  refine E_aload_n dX12_init_4 rfl ?_
  refine E_bipush dX12_init_5 (by decide) ?_
  refine E_newI (N := 8) dX12_init_7 n_arrI rfl (by decide) ?_
  refine E_dup dX12_init_9 rfl ?_
  refine E_iconst dX12_init_10 (by decide) ?_
  refine E_iconst dX12_init_11 (by decide) ?_
  refine E_iast dX12_init_12 (by exact mS_new0 _ _) (by omega) (by omega) ?_
  refine E_dup dX12_init_13 rfl ?_
  refine E_iconst dX12_init_14 (by decide) ?_
  refine E_iconst dX12_init_15 (by decide) ?_
  refine E_iast dX12_init_16 (by exact mS_new0 _ _) (by omega) (by omega) ?_
  refine E_dup dX12_init_17 rfl ?_
  refine E_iconst dX12_init_18 (by decide) ?_
  refine E_iconst dX12_init_19 (by decide) ?_
  refine E_iast dX12_init_20 (by exact mS_new0 _ _) (by omega) (by omega) ?_
  refine E_dup dX12_init_21 rfl ?_
  refine E_iconst dX12_init_22 (by decide) ?_
  refine E_iconst dX12_init_23 (by decide) ?_
  refine E_iast dX12_init_24 (by exact mS_new0 _ _) (by omega) (by omega) ?_
  refine E_dup dX12_init_25 rfl ?_
  refine E_iconst dX12_init_26 (by decide) ?_
  refine E_iconst dX12_init_27 (by decide) ?_
  refine E_iast dX12_init_28 (by exact mS_new0 _ _) (by omega) (by omega) ?_
  refine E_dup dX12_init_29 rfl ?_
  refine E_iconst dX12_init_30 (by decide) ?_
  refine E_iconst dX12_init_31 (by decide) ?_
  refine E_iast dX12_init_32 (by exact mS_new0 _ _) (by omega) (by omega) ?_
  refine E_dup dX12_init_33 rfl ?_
  refine E_bipush dX12_init_34 (by decide) ?_
  refine E_iconst dX12_init_36 (by decide) ?_
  refine E_iast dX12_init_37 (by exact mS_new0 _ _) (by omega) (by omega) ?_
  refine E_dup dX12_init_38 rfl ?_
  refine E_bipush dX12_init_39 (by decide) ?_
  refine E_iconst dX12_init_41 (by decide) ?_
  refine E_iast dX12_init_42 (by exact mS_new0 _ _) (by omega) (by omega) ?_
  refine p_X12_7 rfl rfl dX12_init_43 (by exact (mS_new (by omega)).trans hs) (by omega) ?_
  have xN : mN (mWR (mWI (mWI (mWI (mWI (mWI (mWI (mWI (mWI (mNew M0 (1, 8)) (mN M0) 0 (-1)) (mN M0) 1 (-1)) (mN M0) 2 (-1)) (mN M0) 3 (-1)) (mN M0) 4 (-1)) (mN M0) 5 (-1)) (mN M0) 6 (-1)) (mN M0) 7 (-1)) a 2 (mN M0)) = mN M0 + 1 := rfl
  have xS : ∀ b, b < mN M0 → mS (mWR (mWI (mWI (mWI (mWI (mWI (mWI (mWI (mWI (mNew M0 (1, 8)) (mN M0) 0 (-1)) (mN M0) 1 (-1)) (mN M0) 2 (-1)) (mN M0) 3 (-1)) (mN M0) 4 (-1)) (mN M0) 5 (-1)) (mN M0) 6 (-1)) (mN M0) 7 (-1)) a 2 (mN M0)) b = mS M0 b := fun b hb => mS_new (by omega)
  have xs : mS (mWR (mWI (mWI (mWI (mWI (mWI (mWI (mWI (mWI (mNew M0 (1, 8)) (mN M0) 0 (-1)) (mN M0) 1 (-1)) (mN M0) 2 (-1)) (mN M0) 3 (-1)) (mN M0) 4 (-1)) (mN M0) 5 (-1)) (mN M0) 6 (-1)) (mN M0) 7 (-1)) a 2 (mN M0)) (mN M0) = (1, 8) := mS_new0 _ _
  have xI : ∀ b, b < mN M0 → mI (mWR (mWI (mWI (mWI (mWI (mWI (mWI (mWI (mWI (mNew M0 (1, 8)) (mN M0) 0 (-1)) (mN M0) 1 (-1)) (mN M0) 2 (-1)) (mN M0) 3 (-1)) (mN M0) 4 (-1)) (mN M0) 5 (-1)) (mN M0) 6 (-1)) (mN M0) 7 (-1)) a 2 (mN M0)) b = mI M0 b := fun b hb => by
    funext j
    exact (mI_ne (by omega)).trans ((mI_ne (by omega)).trans ((mI_ne (by omega)).trans ((mI_ne (by omega)).trans ((mI_ne (by omega)).trans ((mI_ne (by omega)).trans ((mI_ne (by omega)).trans ((mI_ne (by omega)).trans (congrFun (mI_new (by omega)) j))))))))
  have xr : mR (mWR (mWI (mWI (mWI (mWI (mWI (mWI (mWI (mWI (mNew M0 (1, 8)) (mN M0) 0 (-1)) (mN M0) 1 (-1)) (mN M0) 2 (-1)) (mN M0) 3 (-1)) (mN M0) 4 (-1)) (mN M0) 5 (-1)) (mN M0) 6 (-1)) (mN M0) 7 (-1)) a 2 (mN M0)) a 2 = mN M0 := mR_w0 _ _ _ _
  have xR : ∀ b, b < mN M0 → b ≠ a → mR (mWR (mWI (mWI (mWI (mWI (mWI (mWI (mWI (mWI (mNew M0 (1, 8)) (mN M0) 0 (-1)) (mN M0) 1 (-1)) (mN M0) 2 (-1)) (mN M0) 3 (-1)) (mN M0) 4 (-1)) (mN M0) 5 (-1)) (mN M0) 6 (-1)) (mN M0) 7 (-1)) a 2 (mN M0)) b = mR M0 b := fun b hb hba => by
    funext j
    rw [mR_w (fun z => hba z.1)]
    exact congrFun (mR_new (M := M0) (sh := (1, 8)) (by omega)) j
  have xl : ∀ j : Int, 0 ≤ j → j < 8 → mI (mWR (mWI (mWI (mWI (mWI (mWI (mWI (mWI (mWI (mNew M0 (1, 8)) (mN M0) 0 (-1)) (mN M0) 1 (-1)) (mN M0) 2 (-1)) (mN M0) 3 (-1)) (mN M0) 4 (-1)) (mN M0) 5 (-1)) (mN M0) 6 (-1)) (mN M0) 7 (-1)) a 2 (mN M0)) (mN M0) j = -1 := fun j j0 j1 => by
    rcases (by omega : j = 0 ∨ j = 1 ∨ j = 2 ∨ j = 3 ∨ j = 4 ∨ j = 5 ∨ j = 6 ∨ j = 7) with rfl | rfl | rfl | rfl | rfl | rfl | rfl | rfl <;> simp [mI, mWI, mWR, up2]
  generalize (mWR (mWI (mWI (mWI (mWI (mWI (mWI (mWI (mWI (mNew M0 (1, 8)) (mN M0) 0 (-1)) (mN M0) 1 (-1)) (mN M0) 2 (-1)) (mN M0) 3 (-1)) (mN M0) 4 (-1)) (mN M0) 5 (-1)) (mN M0) 6 (-1)) (mN M0) 7 (-1)) a 2 (mN M0)) = M1 at xN xS xs xI xr xR xl ⊢
  have ha1 : a < mN M1 := by omega
  have h0 := NK.nil M1 a
  refine E_aload_n dX12_init_46 rfl ?_
  refine E_bipush dX12_init_47 (by decide) ?_
  refine E_newI (N := 8) dX12_init_49 n_arrI rfl (by decide) ?_
  refine p_X12_13 rfl rfl dX12_init_51 (h0.1.sa ha1 ((xS a ha).trans hs)) (by have z := h0.1.1; omega) ?_
  have h1 := h0.add ha1 3 (1, 8) (by simp)
  simp only [List.nil_append, List.cons_append] at h1
  generalize mWR (mNew M1 (1, 8)) a 3 (mN M1) = M2 at h1 ⊢
  refine E_aload_n dX12_init_54 rfl ?_
  refine E_sipush dX12_init_55 (by decide) ?_
  refine E_newI (N := 320) dX12_init_58 n_arrI rfl (by decide) ?_
  refine p_X12_16 rfl rfl dX12_init_60 (h1.1.sa ha1 ((xS a ha).trans hs)) (by have z := h1.1.1; omega) ?_
  have h2 := h1.add ha1 4 (1, 320) (by simp)
  simp only [List.nil_append, List.cons_append] at h2
  generalize mWR (mNew M2 (1, 320)) a 4 (mN M2) = M3 at h2 ⊢
  refine E_aload_n dX12_init_63 rfl ?_
  refine E_sipush dX12_init_64 (by decide) ?_
  refine E_newI (N := 144) dX12_init_67 n_arrI rfl (by decide) ?_
  refine p_X12_19 rfl rfl dX12_init_69 (h2.1.sa ha1 ((xS a ha).trans hs)) (by have z := h2.1.1; omega) ?_
  have h3 := h2.add ha1 5 (1, 144) (by simp)
  simp only [List.nil_append, List.cons_append] at h3
  generalize mWR (mNew M3 (1, 144)) a 5 (mN M3) = M4 at h3 ⊢
  refine E_aload_n dX12_init_72 rfl ?_
  refine E_sipush dX12_init_73 (by decide) ?_
  refine E_newI (N := 144) dX12_init_76 n_arrI rfl (by decide) ?_
  refine p_X12_22 rfl rfl dX12_init_78 (h3.1.sa ha1 ((xS a ha).trans hs)) (by have z := h3.1.1; omega) ?_
  have h4 := h3.add ha1 6 (1, 144) (by simp)
  simp only [List.nil_append, List.cons_append] at h4
  generalize mWR (mNew M4 (1, 144)) a 6 (mN M4) = M5 at h4 ⊢
  refine E_aload_n dX12_init_81 rfl ?_
  refine E_sipush dX12_init_82 (by decide) ?_
  refine E_newI (N := 500) dX12_init_85 n_arrI rfl (by decide) ?_
  refine p_X12_25 rfl rfl dX12_init_87 (h4.1.sa ha1 ((xS a ha).trans hs)) (by have z := h4.1.1; omega) ?_
  have h5 := h4.add ha1 8 (1, 500) (by simp)
  simp only [List.nil_append, List.cons_append] at h5
  generalize mWR (mNew M5 (1, 500)) a 8 (mN M5) = M6 at h5 ⊢
  refine E_aload_n dX12_init_90 rfl ?_
  refine E_bipush dX12_init_91 (by decide) ?_
  refine E_newI (N := 10) dX12_init_93 n_arrI rfl (by decide) ?_
  refine p_X12_28 rfl rfl dX12_init_95 (h5.1.sa ha1 ((xS a ha).trans hs)) (by have z := h5.1.1; omega) ?_
  have h6 := h5.add ha1 18 (1, 10) (by simp)
  simp only [List.nil_append, List.cons_append] at h6
  generalize mWR (mNew M6 (1, 10)) a 18 (mN M6) = M7 at h6 ⊢
  refine E_aload_n dX12_init_98 rfl ?_
  refine E_bipush dX12_init_99 (by decide) ?_
  refine E_newI (N := 10) dX12_init_101 n_arrI rfl (by decide) ?_
  refine p_X12_31 rfl rfl dX12_init_103 (h6.1.sa ha1 ((xS a ha).trans hs)) (by have z := h6.1.1; omega) ?_
  have h7 := h6.add ha1 19 (1, 10) (by simp)
  simp only [List.nil_append, List.cons_append] at h7
  generalize mWR (mNew M7 (1, 10)) a 19 (mN M7) = M8 at h7 ⊢
  refine E_aload_n dX12_init_106 rfl ?_
  refine E_bipush dX12_init_107 (by decide) ?_
  refine E_newI (N := 6) dX12_init_109 n_arrI rfl (by decide) ?_
  refine p_X12_34 rfl rfl dX12_init_111 (h7.1.sa ha1 ((xS a ha).trans hs)) (by have z := h7.1.1; omega) ?_
  have h8 := h7.add ha1 21 (1, 6) (by simp)
  simp only [List.nil_append, List.cons_append] at h8
  generalize mWR (mNew M8 (1, 6)) a 21 (mN M8) = M9 at h8 ⊢
  refine E_aload_n dX12_init_114 rfl ?_
  refine E_bipush dX12_init_115 (by decide) ?_
  refine E_newI (N := 6) dX12_init_117 n_arrI rfl (by decide) ?_
  refine p_X12_37 rfl rfl dX12_init_119 (h8.1.sa ha1 ((xS a ha).trans hs)) (by have z := h8.1.1; omega) ?_
  have h9 := h8.add ha1 22 (1, 6) (by simp)
  simp only [List.nil_append, List.cons_append] at h9
  generalize mWR (mNew M9 (1, 6)) a 22 (mN M9) = M10 at h9 ⊢
  refine E_aload_n dX12_init_122 rfl ?_
  refine E_bipush dX12_init_123 (by decide) ?_
  refine E_newI (N := 6) dX12_init_125 n_arrI rfl (by decide) ?_
  refine p_X12_40 rfl rfl dX12_init_127 (h9.1.sa ha1 ((xS a ha).trans hs)) (by have z := h9.1.1; omega) ?_
  have h10 := h9.add ha1 23 (1, 6) (by simp)
  simp only [List.nil_append, List.cons_append] at h10
  generalize mWR (mNew M10 (1, 6)) a 23 (mN M10) = M11 at h10 ⊢
  refine E_aload_n dX12_init_130 rfl ?_
  refine E_iconst dX12_init_131 (by decide) ?_
  refine E_newZ (N := 2) dX12_init_132 n_arrZ rfl (by decide) ?_
  refine p_X12_43 rfl rfl dX12_init_134 (h10.1.sa ha1 ((xS a ha).trans hs)) (by have z := h10.1.1; omega) ?_
  have h11 := h10.add ha1 24 (3, 2) (by simp)
  simp only [List.nil_append, List.cons_append] at h11
  generalize mWR (mNew M11 (3, 2)) a 24 (mN M11) = M12 at h11 ⊢
  refine E_aload_n dX12_init_137 rfl ?_
  refine E_sipush dX12_init_138 (by decide) ?_
  refine E_newI (N := 288) dX12_init_141 n_arrI rfl (by decide) ?_
  refine p_X12_47 rfl rfl dX12_init_143 (h11.1.sa ha1 ((xS a ha).trans hs)) (by have z := h11.1.1; omega) ?_
  have h12 := h11.add ha1 25 (1, 288) (by simp)
  simp only [List.nil_append, List.cons_append] at h12
  generalize mWR (mNew M12 (1, 288)) a 25 (mN M12) = M13 at h12 ⊢
  refine E_aload_n dX12_init_146 rfl ?_
  refine E_bipush dX12_init_147 (by decide) ?_
  refine E_newI (N := 16) dX12_init_149 n_arrI rfl (by decide) ?_
  refine p_X12_50 rfl rfl dX12_init_151 (h12.1.sa ha1 ((xS a ha).trans hs)) (by have z := h12.1.1; omega) ?_
  have h13 := h12.add ha1 26 (1, 16) (by simp)
  simp only [List.nil_append, List.cons_append] at h13
  generalize mWR (mNew M13 (1, 16)) a 26 (mN M13) = M14 at h13 ⊢
  refine E_vret dX12_init_154 rfl ?_
  refine ⟨rfl, by have z := h13.1.1; simp at z; omega, ⟨(h13.1.2.1 a ha1).1.trans ((xS a ha).trans hs), h21, ⟨(h13.2 2 (by simp)).trans (xr.trans hN), (h13.1.2.1 _ (by omega)).1.trans (by rw [← hN]; exact xs)⟩, h13.1.fld 0 (a + 2) (by omega) rfl, h13.1.fld 1 (a + 3) (by omega) rfl, h13.1.fld 2 (a + 4) (by omega) rfl, h13.1.fld 3 (a + 5) (by omega) rfl, h13.1.fld 4 (a + 6) (by omega) rfl, h13.1.fld 5 (a + 7) (by omega) rfl, h13.1.fld 6 (a + 8) (by omega) rfl, h13.1.fld 7 (a + 9) (by omega) rfl, h13.1.fld 8 (a + 10) (by omega) rfl, h13.1.fld 9 (a + 11) (by omega) rfl, h13.1.fld 10 (a + 12) (by omega) rfl, h13.1.fld 11 (a + 13) (by omega) rfl, h13.1.fld 12 (a + 14) (by omega) rfl⟩, fun b hb => ⟨(h13.1.2.1 b (by omega)).1.trans (xS b hb), (h13.1.2.1 b (by omega)).2.1.trans (xI b hb), fun hba => ((h13.1.2.1 b (by omega)).2.2 hba).trans (xR b hb hba)⟩, fun j j0 j1 => ?_, fun b j b0 b1 => h13.1.zero b j (by omega) (by simp; omega)⟩
  rw [(h13.1.2.1 (a + 1) (by omega)).2.1, ← hN]; exact xl j j0 j1
