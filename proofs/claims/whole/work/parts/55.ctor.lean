/-! ===== 55: constructors of Rows, CourtWash, the reference ===== -/
/-- what is known of a memory M' that was grown out of M: all below stays, but for the references of 21 -/
def PS (M M' : Mem) : Prop := mN M ≤ mN M' ∧ ∀ b, b < mN M → mS M' b = mS M b ∧ mI M' b = mI M b ∧ (b ≠ 21 → mR M' b = mR M b)
def PR (M M' : Mem) (k : Nat) : Prop := ∀ j, j ≠ k → mR M' 21 j = mR M 21 j
theorem PS.tr {M M1 M2 : Mem} (h : PS M M1) (g : PS M1 M2) : PS M M2 := ⟨Nat.le_trans h.1 g.1, fun b hb => by
  have h1 := h.2 b hb
  have h2 := g.2 b (Nat.lt_of_lt_of_le hb h.1)
  exact ⟨h2.1.trans h1.1, h2.2.1.trans h1.2.1, fun q => (h2.2.2 q).trans (h1.2.2 q)⟩⟩
/-- an object is made, its constructor runs, it is kept in a field of 21 -/
theorem PS.new {M M' : Mem} {sh : Nat × Nat} {k : Nat} (h21 : 21 < mN M) (hn : mN M + 1 ≤ mN M') (h : ∀ b, b < mN M + 1 → mS M' b = mS (mNew M sh) b ∧ mI M' b = mI (mNew M sh) b ∧ (b ≠ mN M → mR M' b = mR (mNew M sh) b)) : PS M (mWR M' 21 k (mN M)) ∧ PR M (mWR M' 21 k (mN M)) k ∧ mR (mWR M' 21 k (mN M)) 21 k = mN M := by
  refine ⟨⟨by show mN M ≤ mN M'; omega, fun b hb => ?_⟩, fun j hj => ?_, upN_self _ _ _ _⟩
  · have h1 := h b (by omega)
    refine ⟨h1.1.trans (mS_new (by omega)), h1.2.1.trans (mI_new (by omega)), fun q => ?_⟩
    funext j
    rw [mR_w (fun z => q z.1), h1.2.2 (by omega), mR_new (by omega)]
  · rw [mR_w (fun z => hj z.2), (h 21 (by omega)).2.2 (by omega), mR_new (by omega)]
theorem PS.arr {M : Mem} {sh : Nat × Nat} {k : Nat} (h21 : 21 < mN M) : PS M (mWR (mNew M sh) 21 k (mN M)) ∧ PR M (mWR (mNew M sh) 21 k (mN M)) k ∧ mR (mWR (mNew M sh) 21 k (mN M)) 21 k = mN M := PS.new h21 (Nat.le_refl _) (fun b _ => ⟨rfl, rfl, fun _ => rfl⟩)
/-- an object is made, not kept in a field -/
theorem PS.obj {M M' : Mem} {sh : Nat × Nat} (h21 : 21 < mN M) (hn : mN M + 1 ≤ mN M') (h : ∀ b, b < mN M + 1 → mS M' b = mS (mNew M sh) b ∧ mI M' b = mI (mNew M sh) b ∧ (b ≠ mN M → mR M' b = mR (mNew M sh) b)) : PS M M' ∧ ∀ j, mR M' 21 j = mR M 21 j := by
  refine ⟨⟨by omega, fun b hb => ?_⟩, fun j => ?_⟩
  · have h1 := h b (by omega)
    exact ⟨h1.1.trans (mS_new (by omega)), h1.2.1.trans (mI_new (by omega)), fun _ => (h1.2.2 (by omega)).trans (mR_new (by omega))⟩
  · rw [(h 21 (by omega)).2.2 (by omega), mR_new (by omega)]
set_option maxRecDepth 20000 in
set_option maxHeartbeats 3000000 in
theorem c_Rows_init {G : Ctx} {M0 : Mem} {a : Nat} (hN : mN M0 = a + 1) (h21 : 21 ≤ a) (hs : mS M0 a = (4, 4)) : CT G m_X5_init 1 3 336 [vR a] M0 (fun r M' => r = none ∧ mN M' = mN M0 + 3 ∧ RP M' a ∧ (∀ b, b < mN M0 → mS M' b = mS M0 b ∧ mI M' b = mI M0 b ∧ (b ≠ a → mR M' b = mR M0 b)) ∧ (∀ j : Int, 0 ≤ j → j < 8 → mI M' (a + 1) j = -1) ∧ ∀ j, mI M' (a + 2) j = 0 ∧ mI M' (a + 3) j = 0) := by
  refine CT.of k_X5_init 0 (ls := [some (vR a)]) rfl (Nat.le_of_ble_eq_true rfl) ?_
  have ha : a < mN M0 := by omega
  have h0 := NW.nil M0 a
  refine E_aload_n dX5_init_0 rfl ?_
  refine o_X5_1 rfl dX5_init_1 (by omega) (by omega) (Nat.le_of_ble_eq_true rfl) ?_
  refine E_aload_n dX5_init_4 rfl ?_
  refine E_bipush dX5_init_5 (by decide) ?_
  refine E_newI (N := 8) dX5_init_7 n_arrI rfl (by decide) ?_
  refine p_X5_9 rfl rfl dX5_init_9 (h0.sa ha hs) (by have z := h0.1; omega) ?_
  have h1 := h0.add ha 0 (1, 8) (by simp)
  simp only [List.nil_append, List.cons_append] at h1
  generalize mWR (mNew M0 (1, 8)) a 0 (mN M0) = M1 at h1 ⊢
  refine E_aload_n dX5_init_12 rfl ?_
  refine E_bipush dX5_init_13 (by decide) ?_
  refine E_newI (N := 8) dX5_init_15 n_arrI rfl (by decide) ?_
  refine p_X5_13 rfl rfl dX5_init_17 (h1.sa ha hs) (by have z := h1.1; omega) ?_
  have h2 := h1.add ha 1 (1, 8) (by simp)
  simp only [List.nil_append, List.cons_append] at h2
  generalize mWR (mNew M1 (1, 8)) a 1 (mN M1) = M2 at h2 ⊢
  refine E_aload_n dX5_init_20 rfl ?_
  refine E_sipush dX5_init_21 (by decide) ?_
  refine E_newI (N := 320) dX5_init_24 n_arrI rfl (by decide) ?_
  refine p_X5_16 rfl rfl dX5_init_26 (h2.sa ha hs) (by have z := h2.1; omega) ?_
  have h3 := h2.add ha 2 (1, 320) (by simp)
  simp only [List.nil_append, List.cons_append] at h3
  generalize mWR (mNew M2 (1, 320)) a 2 (mN M2) = M3 at h3 ⊢
  refine E_aload_n dX5_init_29 rfl ?_
  refine g_X5_9 rfl dX5_init_30 ((h3.2.1 a ha).1.trans hs) (h3.fld 0 (a + 1) (by omega) rfl).1 ?_
  refine E_iconst dX5_init_33 (by decide) ?_
  refine i_X5_19 rfl dX5_init_34 (c_fill 8 (h3.fld 0 (a + 1) (by omega) rfl).2 (by omega)) (by omega) (Nat.le_of_ble_eq_true rfl) rfl rfl ?_
  rintro _ _ ⟨rfl, rfl⟩
  try dsimp only [pu]
  refine E_vret dX5_init_37 rfl ?_
  have hP : RP M3 a := ⟨(h3.2.1 a ha).1.trans hs, h21, h3.fld 0 (a + 1) (by omega) rfl, h3.fld 1 (a + 2) (by omega) rfl, h3.fld 2 (a + 3) (by omega) rfl⟩
  refine ⟨rfl, h3.1, hP, fun b hb => ⟨(h3.2.1 b hb).1, ?_, (h3.2.1 b hb).2.2⟩, fun j j0 j1 => fil_at _ ⟨j0, j1⟩, fun j => ⟨?_, ?_⟩⟩
  · funext j; show fil (mI M3) (a + 1) 0 8 (-1) b j = mI M0 b j; rw [fil_ne _ (by omega), (h3.2.1 b hb).2.1]
  · show fil (mI M3) (a + 1) 0 8 (-1) (a + 2) j = 0; rw [fil_ne _ (by omega)]; exact h3.zero _ _ (by omega) (by show _ < mN M0 + 3; omega)
  · show fil (mI M3) (a + 1) 0 8 (-1) (a + 3) j = 0; rw [fil_ne _ (by omega)]; exact h3.zero _ _ (by omega) (by show _ < mN M0 + 3; omega)
set_option maxRecDepth 20000 in
set_option maxHeartbeats 3000000 in
theorem c_CourtWash_init {G : Ctx} {M0 : Mem} (hN0 : mN M0 = 22) (hS0 : mS M0 21 = (4, 10)) (hz0 : ∀ j, mI M0 21 j = 0) : CT G m_X11_init 2 55 1313 [vR 21] M0 (fun r M' => r = none ∧ mN M' = 77 ∧ XO M' ∧ CA M' 33 ∧ (mR M' 47 0 = 33 ∧ mR M' 53 0 = 33 ∧ mR M' 59 0 = 33 ∧ mR M' 65 0 = 33 ∧ mR M' 71 0 = 33) ∧ (∀ b, b < 22 → b ≠ 21 → mS M' b = mS M0 b ∧ mI M' b = mI M0 b ∧ mR M' b = mR M0 b) ∧ (∀ b j, 21 ≤ b → b ≤ 76 → b ≠ 23 → b ≠ 30 → b ≠ 31 → b ≠ 32 → mI M' b j = 0) ∧ ∀ j : Int, 0 ≤ j → j < 8 → mI M' 23 j = -1) := by
  refine CT.of k_X11_init 1 (ls := [some (vR 21), none]) rfl (Nat.le_of_ble_eq_true rfl) ?_
  refine E_aload_n dX11_init_0 rfl ?_
  refine o_X11_1 rfl dX11_init_1 (by omega) (by omega) (Nat.le_of_ble_eq_true rfl) ?_
  refine E_aload_n dX11_init_4 rfl ?_
  refine n_X11_7 rfl dX11_init_5 ?_
  rw [hN0]
  refine E_dup dX11_init_8 rfl ?_
  refine i_X11_9 rfl dX11_init_9 (by omega) (c_Rows_init (by rw [mN_new, hN0]) (by omega) (by rw [← hN0]; exact mS_new0 _ _)) (by omega) (Nat.le_of_ble_eq_true rfl) rfl rfl ?_
  rintro _ Mb ⟨rfl, hn, hP, hu, hl1, hz1⟩
  rw [mN_new, hN0] at hn hu
  try dsimp only [pu]
  refine p_X11_10 rfl rfl dX11_init_12 ((hu 21 (by omega)).1.trans ((mS_new (by omega)).trans hS0)) (by omega) ?_
  have hq := PS.new (M := M0) (M' := Mb) (sh := (4, 4)) (k := 0) (by omega) (by omega) (by rw [hN0]; exact hu)
  rw [hN0] at hq
  have hN1 : mN (mWR Mb 21 0 22) = 26 := hn
  have hP1 : RP (mWR Mb 21 0 22) 22 := ⟨hP.o, hP.lo, ⟨(mR_w (by omega)).trans hP.lanes, hP.s_lanes⟩, ⟨(mR_w (by omega)).trans hP.sizes, hP.s_sizes⟩, (mR_w (by omega)).trans hP.items, hP.s_items⟩
  have hl1 : ∀ j : Int, 0 ≤ j → j < 8 → mI (mWR Mb 21 0 22) 23 j = -1 := hl1
  have hz22 : ∀ j, mI (mWR Mb 21 0 22) 22 j = 0 := fun j => (congrFun (hu 22 (by omega)).2.1 j).trans (by rw [← hN0]; exact mI_new0 _ _ _)
  have hz1 : ∀ j, mI (mWR Mb 21 0 22) 24 j = 0 ∧ mI (mWR Mb 21 0 22) 25 j = 0 := hz1
  clear hP hn hu
  generalize mWR Mb 21 0 22 = Ma1 at *
  obtain ⟨hp1, hr1, he1⟩ := hq
  have hS1 := (hp1.2 21 (by omega)).1.trans hS0
  refine E_aload_n dX11_init_15 rfl ?_
  refine n_X11_16 rfl dX11_init_16 ?_
  rw [hN1]
  refine E_dup dX11_init_19 rfl ?_
  refine i_X11_18 rfl dX11_init_20 (by omega) (c_Reader_init (by rw [mN_new, hN1]) (by omega) (by rw [← hN1]; exact mS_new0 _ _)) (by omega) (Nat.le_of_ble_eq_true rfl) rfl rfl ?_
  rintro _ Mb ⟨rfl, hn, hP, hu, hz1⟩
  rw [mN_new, hN1] at hn hu hz1
  try dsimp only [pu]
  refine p_X11_19 rfl rfl dX11_init_23 ((hu 21 (by omega)).1.trans ((mS_new (by omega)).trans hS1)) (by omega) ?_
  have hq := PS.new (M := Ma1) (M' := Mb) (sh := (4, 2)) (k := 1) (by omega) (by omega) (by rw [hN1]; exact hu)
  rw [hN1] at hq
  have hN2 : mN (mWR Mb 21 1 26) = 28 := hn
  have hP2 : RQ (mWR Mb 21 1 26) 26 := ⟨hP.1, by omega, (mR_w (by omega)).trans hP.2.1, hP.2.2⟩
  have hz2 : ∀ j, mI (mWR Mb 21 1 26) 26 j = 0 ∧ mI (mWR Mb 21 1 26) 27 j = 0 := fun j => ⟨(congrFun (hu 26 (by omega)).2.1 j).trans (by rw [← hN1]; exact mI_new0 _ _ _), hz1 27 j (by omega) (by omega)⟩
  clear hP hn hu hz1
  generalize mWR Mb 21 1 26 = Ma2 at *
  obtain ⟨hp2, hr2, he2⟩ := hq
  have hS2 := (hp2.2 21 (by omega)).1.trans hS1
  refine E_aload_n dX11_init_26 rfl ?_
  refine n_X11_23 rfl dX11_init_27 ?_
  rw [hN2]
  refine E_dup dX11_init_30 rfl ?_
  refine i_X11_25 rfl dX11_init_31 (by omega) (c_Trace_init (by rw [mN_new, hN2]) (by omega) (by rw [← hN2]; exact mS_new0 _ _)) (by omega) (Nat.le_of_ble_eq_true rfl) rfl rfl ?_
  rintro _ Mb ⟨rfl, hn, hP, hu, hz1⟩
  rw [mN_new, hN2] at hn hu hz1
  try dsimp only [pu]
  refine p_X11_26 rfl rfl dX11_init_34 ((hu 21 (by omega)).1.trans ((mS_new (by omega)).trans hS2)) (by omega) ?_
  have hq := PS.new (M := Ma2) (M' := Mb) (sh := (4, 7)) (k := 7) (by omega) (by omega) (by rw [hN2]; exact hu)
  rw [hN2] at hq
  have hN3 : mN (mWR Mb 21 7 28) = 30 := hn
  have hP3 : TQ (mWR Mb 21 7 28) 28 := ⟨hP.1, by omega, (mR_w (by omega)).trans hP.2.1, hP.2.2⟩
  have hz3 : ∀ j, mI (mWR Mb 21 7 28) 28 j = 0 ∧ mI (mWR Mb 21 7 28) 29 j = 0 := fun j => ⟨(congrFun (hu 28 (by omega)).2.1 j).trans (by rw [← hN2]; exact mI_new0 _ _ _), hz1 29 j (by omega) (by omega)⟩
  clear hP hn hu hz1
  generalize mWR Mb 21 7 28 = Ma3 at *
  obtain ⟨hp3, hr3, he3⟩ := hq
  have hS3 := (hp3.2 21 (by omega)).1.trans hS2
  refine E_aload_n dX11_init_37 rfl ?_
  refine E_iconst dX11_init_38 (by decide) ?_
  refine E_newI (N := 4) dX11_init_39 n_arrI rfl (by decide) ?_
  rw [hN3]
  refine p_X11_30 rfl rfl dX11_init_41 ((mS_new (by omega)).trans hS3) (by omega) ?_
  have hq := PS.arr (M := Ma3) (sh := (1, 4)) (k := 8) (by omega)
  rw [hN3] at hq
  have hs4 : mS (mWR (mNew Ma3 (1, 4)) 21 8 30) 30 = (1, 4) := by show mS (mNew Ma3 (1, 4)) 30 = _; rw [← hN3]; exact mS_new0 _ _
  have hN4 : mN (mWR (mNew Ma3 (1, 4)) 21 8 30) = 31 := by show mN Ma3 + 1 = 31; omega
  generalize mWR (mNew Ma3 (1, 4)) 21 8 30 = Ma4 at hq hs4 hN4 ⊢
  obtain ⟨hp4, hr4, he4⟩ := hq
  have hS4 := (hp4.2 21 (by omega)).1.trans hS3
  refine E_aload_n dX11_init_44 rfl ?_
  refine E_iconst dX11_init_45 (by decide) ?_
  refine E_newI (N := 4) dX11_init_46 n_arrI rfl (by decide) ?_
  rw [hN4]
  refine p_X11_34 rfl rfl dX11_init_48 ((mS_new (by omega)).trans hS4) (by omega) ?_
  have hq := PS.arr (M := Ma4) (sh := (1, 4)) (k := 9) (by omega)
  rw [hN4] at hq
  have hs5 : mS (mWR (mNew Ma4 (1, 4)) 21 9 31) 31 = (1, 4) := by show mS (mNew Ma4 (1, 4)) 31 = _; rw [← hN4]; exact mS_new0 _ _
  have hN5 : mN (mWR (mNew Ma4 (1, 4)) 21 9 31) = 32 := by show mN Ma4 + 1 = 32; omega
  generalize mWR (mNew Ma4 (1, 4)) 21 9 31 = Ma5 at hq hs5 hN5 ⊢
  obtain ⟨hp5, hr5, he5⟩ := hq
  have hS5 := (hp5.2 21 (by omega)).1.trans hS4
  refine E_aload_n dX11_init_51 rfl ?_
  refine E_bipush dX11_init_52 (by decide) ?_
  refine E_newI (N := 32) dX11_init_54 n_arrI rfl (by decide) ?_
  rw [hN5]
  refine p_X11_39 rfl rfl dX11_init_56 ((mS_new (by omega)).trans hS5) (by omega) ?_
  have hq := PS.arr (M := Ma5) (sh := (1, 32)) (k := 10) (by omega)
  rw [hN5] at hq
  have hs6 : mS (mWR (mNew Ma5 (1, 32)) 21 10 32) 32 = (1, 32) := by show mS (mNew Ma5 (1, 32)) 32 = _; rw [← hN5]; exact mS_new0 _ _
  have hN6 : mN (mWR (mNew Ma5 (1, 32)) 21 10 32) = 33 := by show mN Ma5 + 1 = 33; omega
  generalize mWR (mNew Ma5 (1, 32)) 21 10 32 = Ma6 at hq hs6 hN6 ⊢
  obtain ⟨hp6, hr6, he6⟩ := hq
  have hS6 := (hp6.2 21 (by omega)).1.trans hS5
  refine n_X11_37 rfl dX11_init_59 ?_
  rw [hN6]
  refine E_dup dX11_init_62 rfl ?_
  refine i_X11_42 rfl dX11_init_63 (by omega) (c_Court_init (by rw [mN_new, hN6]) (by omega) (by rw [← hN6]; exact mS_new0 _ _)) (by omega) (Nat.le_of_ble_eq_true rfl) rfl rfl ?_
  rintro _ Mb ⟨rfl, hn, hP, hu, hz1⟩
  rw [mN_new, hN6] at hn hu hz1
  have hq := PS.obj (M := Ma6) (M' := Mb) (sh := (4, 1)) (by omega) (by omega) (by rw [hN6]; exact hu)
  have hN7 : mN Mb = 47 := hn
  have hP7 : CA Mb 33 := hP
  have hz7 : ∀ b j, 33 ≤ b → b ≤ 46 → mI Mb b j = 0 := fun b j b0 b1 => by
    by_cases e : b = 33
    · rw [e]; exact (congrFun (hu 33 (by omega)).2.1 j).trans (by rw [← hN6]; exact mI_new0 _ _ _)
    · exact hz1 b j (by omega) (by omega)
  clear hP hn hu hz1
  generalize Mb = Ma7 at *
  obtain ⟨hp7, hr7⟩ := hq
  have hS7 := (hp7.2 21 (by omega)).1.trans hS6
  try dsimp only [pu]
  refine E_astore_n dX11_init_66 rfl (by decide) ?_
  try dsimp only [List.set]
  refine E_aload_n dX11_init_67 rfl ?_
  refine n_X11_43 rfl dX11_init_68 ?_
  rw [hN7]
  refine E_dup dX11_init_71 rfl ?_
  refine E_aload_n dX11_init_72 rfl ?_
  refine i_X11_45 rfl dX11_init_73 (by omega) (c_Wash_init (by rw [mN_new, hN7]) (by omega) (by rw [← hN7]; exact mS_new0 _ _) (by omega)) (by omega) (Nat.le_of_ble_eq_true rfl) rfl rfl ?_
  rintro _ Mb ⟨rfl, hn, hP, hc1, hu, hz1⟩
  rw [mN_new, hN7] at hn hu hz1
  try dsimp only [pu]
  refine p_X11_48 rfl rfl dX11_init_76 ((hu 21 (by omega)).1.trans ((mS_new (by omega)).trans hS7)) (by omega) ?_
  have hq := PS.new (M := Ma7) (M' := Mb) (sh := (4, 8)) (k := 2) (by omega) (by omega) (by rw [hN7]; exact hu)
  rw [hN7] at hq
  have hN8 : mN (mWR Mb 21 2 47) = 53 := hn
  have hP8 : WA (mWR Mb 21 2 47) 47 := ⟨hP.o, hP.lo, ⟨(mR_w (by omega)).trans hP.wet, hP.s_wet⟩, ⟨(mR_w (by omega)).trans hP.where, hP.s_where⟩, ⟨(mR_w (by omega)).trans hP.stained, hP.s_stained⟩, ⟨(mR_w (by omega)).trans hP.dripsOn, hP.s_dripsOn⟩, (mR_w (by omega)).trans hP.redOn, hP.s_redOn⟩
  have hc8 : mR (mWR Mb 21 2 47) 47 0 = 33 := (mR_w (by omega)).trans hc1
  have hz8 : ∀ b j, 47 ≤ b → b ≤ 52 → mI (mWR Mb 21 2 47) b j = 0 := fun b j b0 b1 => by
    by_cases e : b = 47
    · rw [e]; exact (congrFun (hu 47 (by omega)).2.1 j).trans (by rw [← hN7]; exact mI_new0 _ _ _)
    · exact hz1 b j (by omega) (by omega)
  clear hP hn hu hc1 hz1
  generalize mWR Mb 21 2 47 = Ma8 at *
  obtain ⟨hp8, hr8, he8⟩ := hq
  have hS8 := (hp8.2 21 (by omega)).1.trans hS7
  refine E_aload_n dX11_init_79 rfl ?_
  refine n_X11_43 rfl dX11_init_80 ?_
  rw [hN8]
  refine E_dup dX11_init_83 rfl ?_
  refine E_aload_n dX11_init_84 rfl ?_
  refine i_X11_45 rfl dX11_init_85 (by omega) (c_Wash_init (by rw [mN_new, hN8]) (by omega) (by rw [← hN8]; exact mS_new0 _ _) (by omega)) (by omega) (Nat.le_of_ble_eq_true rfl) rfl rfl ?_
  rintro _ Mb ⟨rfl, hn, hP, hc1, hu, hz1⟩
  rw [mN_new, hN8] at hn hu hz1
  try dsimp only [pu]
  refine p_X11_52 rfl rfl dX11_init_88 ((hu 21 (by omega)).1.trans ((mS_new (by omega)).trans hS8)) (by omega) ?_
  have hq := PS.new (M := Ma8) (M' := Mb) (sh := (4, 8)) (k := 3) (by omega) (by omega) (by rw [hN8]; exact hu)
  rw [hN8] at hq
  have hN9 : mN (mWR Mb 21 3 53) = 59 := hn
  have hP9 : WA (mWR Mb 21 3 53) 53 := ⟨hP.o, hP.lo, ⟨(mR_w (by omega)).trans hP.wet, hP.s_wet⟩, ⟨(mR_w (by omega)).trans hP.where, hP.s_where⟩, ⟨(mR_w (by omega)).trans hP.stained, hP.s_stained⟩, ⟨(mR_w (by omega)).trans hP.dripsOn, hP.s_dripsOn⟩, (mR_w (by omega)).trans hP.redOn, hP.s_redOn⟩
  have hc9 : mR (mWR Mb 21 3 53) 53 0 = 33 := (mR_w (by omega)).trans hc1
  have hz9 : ∀ b j, 53 ≤ b → b ≤ 58 → mI (mWR Mb 21 3 53) b j = 0 := fun b j b0 b1 => by
    by_cases e : b = 53
    · rw [e]; exact (congrFun (hu 53 (by omega)).2.1 j).trans (by rw [← hN8]; exact mI_new0 _ _ _)
    · exact hz1 b j (by omega) (by omega)
  clear hP hn hu hc1 hz1
  generalize mWR Mb 21 3 53 = Ma9 at *
  obtain ⟨hp9, hr9, he9⟩ := hq
  have hS9 := (hp9.2 21 (by omega)).1.trans hS8
  refine E_aload_n dX11_init_91 rfl ?_
  refine n_X11_43 rfl dX11_init_92 ?_
  rw [hN9]
  refine E_dup dX11_init_95 rfl ?_
  refine E_aload_n dX11_init_96 rfl ?_
  refine i_X11_45 rfl dX11_init_97 (by omega) (c_Wash_init (by rw [mN_new, hN9]) (by omega) (by rw [← hN9]; exact mS_new0 _ _) (by omega)) (by omega) (Nat.le_of_ble_eq_true rfl) rfl rfl ?_
  rintro _ Mb ⟨rfl, hn, hP, hc1, hu, hz1⟩
  rw [mN_new, hN9] at hn hu hz1
  try dsimp only [pu]
  refine p_X11_55 rfl rfl dX11_init_100 ((hu 21 (by omega)).1.trans ((mS_new (by omega)).trans hS9)) (by omega) ?_
  have hq := PS.new (M := Ma9) (M' := Mb) (sh := (4, 8)) (k := 4) (by omega) (by omega) (by rw [hN9]; exact hu)
  rw [hN9] at hq
  have hN10 : mN (mWR Mb 21 4 59) = 65 := hn
  have hP10 : WA (mWR Mb 21 4 59) 59 := ⟨hP.o, hP.lo, ⟨(mR_w (by omega)).trans hP.wet, hP.s_wet⟩, ⟨(mR_w (by omega)).trans hP.where, hP.s_where⟩, ⟨(mR_w (by omega)).trans hP.stained, hP.s_stained⟩, ⟨(mR_w (by omega)).trans hP.dripsOn, hP.s_dripsOn⟩, (mR_w (by omega)).trans hP.redOn, hP.s_redOn⟩
  have hc10 : mR (mWR Mb 21 4 59) 59 0 = 33 := (mR_w (by omega)).trans hc1
  have hz10 : ∀ b j, 59 ≤ b → b ≤ 64 → mI (mWR Mb 21 4 59) b j = 0 := fun b j b0 b1 => by
    by_cases e : b = 59
    · rw [e]; exact (congrFun (hu 59 (by omega)).2.1 j).trans (by rw [← hN9]; exact mI_new0 _ _ _)
    · exact hz1 b j (by omega) (by omega)
  clear hP hn hu hc1 hz1
  generalize mWR Mb 21 4 59 = Ma10 at *
  obtain ⟨hp10, hr10, he10⟩ := hq
  have hS10 := (hp10.2 21 (by omega)).1.trans hS9
  refine E_aload_n dX11_init_103 rfl ?_
  refine n_X11_43 rfl dX11_init_104 ?_
  rw [hN10]
  refine E_dup dX11_init_107 rfl ?_
  refine E_aload_n dX11_init_108 rfl ?_
  refine i_X11_45 rfl dX11_init_109 (by omega) (c_Wash_init (by rw [mN_new, hN10]) (by omega) (by rw [← hN10]; exact mS_new0 _ _) (by omega)) (by omega) (Nat.le_of_ble_eq_true rfl) rfl rfl ?_
  rintro _ Mb ⟨rfl, hn, hP, hc1, hu, hz1⟩
  rw [mN_new, hN10] at hn hu hz1
  try dsimp only [pu]
  refine p_X11_58 rfl rfl dX11_init_112 ((hu 21 (by omega)).1.trans ((mS_new (by omega)).trans hS10)) (by omega) ?_
  have hq := PS.new (M := Ma10) (M' := Mb) (sh := (4, 8)) (k := 5) (by omega) (by omega) (by rw [hN10]; exact hu)
  rw [hN10] at hq
  have hN11 : mN (mWR Mb 21 5 65) = 71 := hn
  have hP11 : WA (mWR Mb 21 5 65) 65 := ⟨hP.o, hP.lo, ⟨(mR_w (by omega)).trans hP.wet, hP.s_wet⟩, ⟨(mR_w (by omega)).trans hP.where, hP.s_where⟩, ⟨(mR_w (by omega)).trans hP.stained, hP.s_stained⟩, ⟨(mR_w (by omega)).trans hP.dripsOn, hP.s_dripsOn⟩, (mR_w (by omega)).trans hP.redOn, hP.s_redOn⟩
  have hc11 : mR (mWR Mb 21 5 65) 65 0 = 33 := (mR_w (by omega)).trans hc1
  have hz11 : ∀ b j, 65 ≤ b → b ≤ 70 → mI (mWR Mb 21 5 65) b j = 0 := fun b j b0 b1 => by
    by_cases e : b = 65
    · rw [e]; exact (congrFun (hu 65 (by omega)).2.1 j).trans (by rw [← hN10]; exact mI_new0 _ _ _)
    · exact hz1 b j (by omega) (by omega)
  clear hP hn hu hc1 hz1
  generalize mWR Mb 21 5 65 = Ma11 at *
  obtain ⟨hp11, hr11, he11⟩ := hq
  have hS11 := (hp11.2 21 (by omega)).1.trans hS10
  refine E_aload_n dX11_init_115 rfl ?_
  refine n_X11_43 rfl dX11_init_116 ?_
  rw [hN11]
  refine E_dup dX11_init_119 rfl ?_
  refine E_aload_n dX11_init_120 rfl ?_
  refine i_X11_45 rfl dX11_init_121 (by omega) (c_Wash_init (by rw [mN_new, hN11]) (by omega) (by rw [← hN11]; exact mS_new0 _ _) (by omega)) (by omega) (Nat.le_of_ble_eq_true rfl) rfl rfl ?_
  rintro _ Mb ⟨rfl, hn, hP, hc1, hu, hz1⟩
  rw [mN_new, hN11] at hn hu hz1
  try dsimp only [pu]
  refine p_X11_61 rfl rfl dX11_init_124 ((hu 21 (by omega)).1.trans ((mS_new (by omega)).trans hS11)) (by omega) ?_
  have hq := PS.new (M := Ma11) (M' := Mb) (sh := (4, 8)) (k := 6) (by omega) (by omega) (by rw [hN11]; exact hu)
  rw [hN11] at hq
  have hN12 : mN (mWR Mb 21 6 71) = 77 := hn
  have hP12 : WA (mWR Mb 21 6 71) 71 := ⟨hP.o, hP.lo, ⟨(mR_w (by omega)).trans hP.wet, hP.s_wet⟩, ⟨(mR_w (by omega)).trans hP.where, hP.s_where⟩, ⟨(mR_w (by omega)).trans hP.stained, hP.s_stained⟩, ⟨(mR_w (by omega)).trans hP.dripsOn, hP.s_dripsOn⟩, (mR_w (by omega)).trans hP.redOn, hP.s_redOn⟩
  have hc12 : mR (mWR Mb 21 6 71) 71 0 = 33 := (mR_w (by omega)).trans hc1
  have hz12 : ∀ b j, 71 ≤ b → b ≤ 76 → mI (mWR Mb 21 6 71) b j = 0 := fun b j b0 b1 => by
    by_cases e : b = 71
    · rw [e]; exact (congrFun (hu 71 (by omega)).2.1 j).trans (by rw [← hN11]; exact mI_new0 _ _ _)
    · exact hz1 b j (by omega) (by omega)
  clear hP hn hu hc1 hz1
  generalize mWR Mb 21 6 71 = Ma12 at *
  obtain ⟨hp12, hr12, he12⟩ := hq
  have hS12 := (hp12.2 21 (by omega)).1.trans hS11
  refine E_vret dX11_init_127 rfl ?_
  have ht11 := hp12
  have ht10 := hp11.tr ht11
  have ht9 := hp10.tr ht10
  have ht8 := hp9.tr ht9
  have ht7 := hp8.tr ht8
  have ht6 := hp7.tr ht7
  have ht5 := hp6.tr ht6
  have ht4 := hp5.tr ht5
  have ht3 := hp4.tr ht4
  have ht2 := hp3.tr ht3
  have ht1 := hp2.tr ht2
  have ht0 := hp1.tr ht1
  refine ⟨rfl, hN12, ⟨⟨hS12, ((hr12 0 (by omega)).trans ((hr11 0 (by omega)).trans ((hr10 0 (by omega)).trans ((hr9 0 (by omega)).trans ((hr8 0 (by omega)).trans ((hr7 0).trans ((hr6 0 (by omega)).trans ((hr5 0 (by omega)).trans ((hr4 0 (by omega)).trans ((hr3 0 (by omega)).trans ((hr2 0 (by omega)).trans he1))))))))))), ((hr12 1 (by omega)).trans ((hr11 1 (by omega)).trans ((hr10 1 (by omega)).trans ((hr9 1 (by omega)).trans ((hr8 1 (by omega)).trans ((hr7 1).trans ((hr6 1 (by omega)).trans ((hr5 1 (by omega)).trans ((hr4 1 (by omega)).trans ((hr3 1 (by omega)).trans he2)))))))))), ((hr12 2 (by omega)).trans ((hr11 2 (by omega)).trans ((hr10 2 (by omega)).trans ((hr9 2 (by omega)).trans he8)))), ((hr12 3 (by omega)).trans ((hr11 3 (by omega)).trans ((hr10 3 (by omega)).trans he9))), ((hr12 4 (by omega)).trans ((hr11 4 (by omega)).trans he10)), ((hr12 5 (by omega)).trans he11), he12, ((hr12 7 (by omega)).trans ((hr11 7 (by omega)).trans ((hr10 7 (by omega)).trans ((hr9 7 (by omega)).trans ((hr8 7 (by omega)).trans ((hr7 7).trans ((hr6 7 (by omega)).trans ((hr5 7 (by omega)).trans ((hr4 7 (by omega)).trans he3))))))))), ((hr12 8 (by omega)).trans ((hr11 8 (by omega)).trans ((hr10 8 (by omega)).trans ((hr9 8 (by omega)).trans ((hr8 8 (by omega)).trans ((hr7 8).trans ((hr6 8 (by omega)).trans ((hr5 8 (by omega)).trans he4)))))))), ((hr12 9 (by omega)).trans ((hr11 9 (by omega)).trans ((hr10 9 (by omega)).trans ((hr9 9 (by omega)).trans ((hr8 9 (by omega)).trans ((hr7 9).trans ((hr6 9 (by omega)).trans he5))))))), ((hr12 10 (by omega)).trans ((hr11 10 (by omega)).trans ((hr10 10 (by omega)).trans ((hr9 10 (by omega)).trans ((hr8 10 (by omega)).trans ((hr7 10).trans he6))))))⟩, ⟨(ht4.2 30 (by omega)).1.trans hs4, (ht5.2 31 (by omega)).1.trans hs5, (ht6.2 32 (by omega)).1.trans hs6⟩, ⟨(ht1.2 22 (by omega)).1.trans hP1.o, by omega, ⟨(congrFun ((ht1.2 22 (by omega)).2.2 (by omega)) 0).trans hP1.lanes, (ht1.2 (22 + 1) (by omega)).1.trans hP1.s_lanes⟩, ⟨(congrFun ((ht1.2 22 (by omega)).2.2 (by omega)) 1).trans hP1.sizes, (ht1.2 (22 + 2) (by omega)).1.trans hP1.s_sizes⟩, (congrFun ((ht1.2 22 (by omega)).2.2 (by omega)) 2).trans hP1.items, (ht1.2 (22 + 3) (by omega)).1.trans hP1.s_items⟩, ⟨(ht2.2 26 (by omega)).1.trans hP2.1, by omega, (congrFun ((ht2.2 26 (by omega)).2.2 (by omega)) 0).trans hP2.tape, (ht2.2 (26 + 1) (by omega)).1.trans hP2.s_tape⟩, ⟨(ht3.2 28 (by omega)).1.trans hP3.1, by omega, (congrFun ((ht3.2 28 (by omega)).2.2 (by omega)) 0).trans hP3.numbers, (ht3.2 (28 + 1) (by omega)).1.trans hP3.s_numbers⟩, ⟨(ht8.2 47 (by omega)).1.trans hP8.o, by omega, ⟨(congrFun ((ht8.2 47 (by omega)).2.2 (by omega)) 2).trans hP8.wet, (ht8.2 (47 + 1) (by omega)).1.trans hP8.s_wet⟩, ⟨(congrFun ((ht8.2 47 (by omega)).2.2 (by omega)) 3).trans hP8.where, (ht8.2 (47 + 2) (by omega)).1.trans hP8.s_where⟩, ⟨(congrFun ((ht8.2 47 (by omega)).2.2 (by omega)) 4).trans hP8.stained, (ht8.2 (47 + 3) (by omega)).1.trans hP8.s_stained⟩, ⟨(congrFun ((ht8.2 47 (by omega)).2.2 (by omega)) 5).trans hP8.dripsOn, (ht8.2 (47 + 4) (by omega)).1.trans hP8.s_dripsOn⟩, (congrFun ((ht8.2 47 (by omega)).2.2 (by omega)) 6).trans hP8.redOn, (ht8.2 (47 + 5) (by omega)).1.trans hP8.s_redOn⟩, ⟨(ht9.2 53 (by omega)).1.trans hP9.o, by omega, ⟨(congrFun ((ht9.2 53 (by omega)).2.2 (by omega)) 2).trans hP9.wet, (ht9.2 (53 + 1) (by omega)).1.trans hP9.s_wet⟩, ⟨(congrFun ((ht9.2 53 (by omega)).2.2 (by omega)) 3).trans hP9.where, (ht9.2 (53 + 2) (by omega)).1.trans hP9.s_where⟩, ⟨(congrFun ((ht9.2 53 (by omega)).2.2 (by omega)) 4).trans hP9.stained, (ht9.2 (53 + 3) (by omega)).1.trans hP9.s_stained⟩, ⟨(congrFun ((ht9.2 53 (by omega)).2.2 (by omega)) 5).trans hP9.dripsOn, (ht9.2 (53 + 4) (by omega)).1.trans hP9.s_dripsOn⟩, (congrFun ((ht9.2 53 (by omega)).2.2 (by omega)) 6).trans hP9.redOn, (ht9.2 (53 + 5) (by omega)).1.trans hP9.s_redOn⟩, ⟨(ht10.2 59 (by omega)).1.trans hP10.o, by omega, ⟨(congrFun ((ht10.2 59 (by omega)).2.2 (by omega)) 2).trans hP10.wet, (ht10.2 (59 + 1) (by omega)).1.trans hP10.s_wet⟩, ⟨(congrFun ((ht10.2 59 (by omega)).2.2 (by omega)) 3).trans hP10.where, (ht10.2 (59 + 2) (by omega)).1.trans hP10.s_where⟩, ⟨(congrFun ((ht10.2 59 (by omega)).2.2 (by omega)) 4).trans hP10.stained, (ht10.2 (59 + 3) (by omega)).1.trans hP10.s_stained⟩, ⟨(congrFun ((ht10.2 59 (by omega)).2.2 (by omega)) 5).trans hP10.dripsOn, (ht10.2 (59 + 4) (by omega)).1.trans hP10.s_dripsOn⟩, (congrFun ((ht10.2 59 (by omega)).2.2 (by omega)) 6).trans hP10.redOn, (ht10.2 (59 + 5) (by omega)).1.trans hP10.s_redOn⟩, ⟨(ht11.2 65 (by omega)).1.trans hP11.o, by omega, ⟨(congrFun ((ht11.2 65 (by omega)).2.2 (by omega)) 2).trans hP11.wet, (ht11.2 (65 + 1) (by omega)).1.trans hP11.s_wet⟩, ⟨(congrFun ((ht11.2 65 (by omega)).2.2 (by omega)) 3).trans hP11.where, (ht11.2 (65 + 2) (by omega)).1.trans hP11.s_where⟩, ⟨(congrFun ((ht11.2 65 (by omega)).2.2 (by omega)) 4).trans hP11.stained, (ht11.2 (65 + 3) (by omega)).1.trans hP11.s_stained⟩, ⟨(congrFun ((ht11.2 65 (by omega)).2.2 (by omega)) 5).trans hP11.dripsOn, (ht11.2 (65 + 4) (by omega)).1.trans hP11.s_dripsOn⟩, (congrFun ((ht11.2 65 (by omega)).2.2 (by omega)) 6).trans hP11.redOn, (ht11.2 (65 + 5) (by omega)).1.trans hP11.s_redOn⟩, ⟨hP12.o, by omega, ⟨hP12.wet, hP12.s_wet⟩, ⟨hP12.where, hP12.s_where⟩, ⟨hP12.stained, hP12.s_stained⟩, ⟨hP12.dripsOn, hP12.s_dripsOn⟩, hP12.redOn, hP12.s_redOn⟩⟩, ⟨(ht7.2 33 (by omega)).1.trans hP7.o, by omega, ⟨(congrFun ((ht7.2 33 (by omega)).2.2 (by omega)) 0).trans hP7.day, (ht7.2 (33 + 1) (by omega)).1.trans hP7.s_day⟩, ⟨(congrFun ((ht7.2 33 (by omega)).2.2 (by omega)) 2).trans hP7.floors, (ht7.2 (33 + 2) (by omega)).1.trans hP7.s_floors⟩, ⟨(congrFun ((ht7.2 33 (by omega)).2.2 (by omega)) 3).trans hP7.columns, (ht7.2 (33 + 3) (by omega)).1.trans hP7.s_columns⟩, ⟨(congrFun ((ht7.2 33 (by omega)).2.2 (by omega)) 4).trans hP7.wides, (ht7.2 (33 + 4) (by omega)).1.trans hP7.s_wides⟩, ⟨(congrFun ((ht7.2 33 (by omega)).2.2 (by omega)) 5).trans hP7.below, (ht7.2 (33 + 5) (by omega)).1.trans hP7.s_below⟩, ⟨(congrFun ((ht7.2 33 (by omega)).2.2 (by omega)) 7).trans hP7.rightLines, (ht7.2 (33 + 6) (by omega)).1.trans hP7.s_rightLines⟩, ⟨(congrFun ((ht7.2 33 (by omega)).2.2 (by omega)) 8).trans hP7.rightFroms, (ht7.2 (33 + 7) (by omega)).1.trans hP7.s_rightFroms⟩, ⟨(congrFun ((ht7.2 33 (by omega)).2.2 (by omega)) 9).trans hP7.rightTos, (ht7.2 (33 + 8) (by omega)).1.trans hP7.s_rightTos⟩, ⟨(congrFun ((ht7.2 33 (by omega)).2.2 (by omega)) 10).trans hP7.rightOwners, (ht7.2 (33 + 9) (by omega)).1.trans hP7.s_rightOwners⟩, ⟨(congrFun ((ht7.2 33 (by omega)).2.2 (by omega)) 12).trans hP7.kinds, (ht7.2 (33 + 10) (by omega)).1.trans hP7.s_kinds⟩, ⟨(congrFun ((ht7.2 33 (by omega)).2.2 (by omega)) 13).trans hP7.owners, (ht7.2 (33 + 11) (by omega)).1.trans hP7.s_owners⟩, ⟨(congrFun ((ht7.2 33 (by omega)).2.2 (by omega)) 14).trans hP7.firstWet, (ht7.2 (33 + 12) (by omega)).1.trans hP7.s_firstWet⟩, (congrFun ((ht7.2 33 (by omega)).2.2 (by omega)) 15).trans hP7.yards, (ht7.2 (33 + 13) (by omega)).1.trans hP7.s_yards⟩, ⟨(congrFun ((ht8.2 47 (by omega)).2.2 (by omega)) 0).trans hc8, (congrFun ((ht9.2 53 (by omega)).2.2 (by omega)) 0).trans hc9, (congrFun ((ht10.2 59 (by omega)).2.2 (by omega)) 0).trans hc10, (congrFun ((ht11.2 65 (by omega)).2.2 (by omega)) 0).trans hc11, hc12⟩, ?_, ?_⟩
  · intro b hb h21
    exact ⟨(ht0.2 b (by omega)).1, (ht0.2 b (by omega)).2.1, (ht0.2 b (by omega)).2.2 h21⟩
  · have z : ∀ b j, 21 ≤ b → b ≤ 76 → b ≠ 23 → b ≠ 30 → b ≠ 31 → b ≠ 32 → mI Ma12 b j = 0 := fun b j b0 b1 b2 b3 b4 b5 => by
      by_cases e0 : b = 21
      · rw [e0, (ht0.2 21 (by omega)).2.1]; exact hz0 j
      by_cases e1 : b ≤ 25
      · rw [(ht1.2 b (by omega)).2.1]
        by_cases e2 : b = 22
        · rw [e2]; exact hz22 j
        · by_cases e3 : b = 24
          · rw [e3]; exact (hz1 j).1
          · rw [show b = 25 by omega]; exact (hz1 j).2
      by_cases e2 : b ≤ 27
      · rw [(ht2.2 b (by omega)).2.1]
        by_cases e3 : b = 26
        · rw [e3]; exact (hz2 j).1
        · rw [show b = 27 by omega]; exact (hz2 j).2
      by_cases e3 : b ≤ 29
      · rw [(ht3.2 b (by omega)).2.1]
        by_cases e4 : b = 28
        · rw [e4]; exact (hz3 j).1
        · rw [show b = 29 by omega]; exact (hz3 j).2
      by_cases e4 : b ≤ 46
      · rw [(ht7.2 b (by omega)).2.1]; exact hz7 b j (by omega) e4
      by_cases e5 : b ≤ 52
      · rw [(ht8.2 b (by omega)).2.1]; exact hz8 b j (by omega) e5
      by_cases e6 : b ≤ 58
      · rw [(ht9.2 b (by omega)).2.1]; exact hz9 b j (by omega) e6
      by_cases e7 : b ≤ 64
      · rw [(ht10.2 b (by omega)).2.1]; exact hz10 b j (by omega) e7
      by_cases e8 : b ≤ 70
      · rw [(ht11.2 b (by omega)).2.1]; exact hz11 b j (by omega) e8
      by_cases e9 : b ≤ 76
      · exact hz12 b j (by omega) e9
      omega
    exact ⟨z, fun j j0 j1 => by rw [(ht1.2 23 (by omega)).2.1]; exact hl1 j j0 j1⟩
