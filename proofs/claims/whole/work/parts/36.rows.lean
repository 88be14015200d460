/-! ===== 36: System.arraycopy; Arrays.fill; Rows ===== -/
theorem qa_rows : Cond.methodLink "CourtWash$Rows" 38 arraycopyName ∈ AW := aw_mem (List.mem_of_getElem? (i := 402) (by decide +kernel)) (by decide +kernel)
theorem qa_cw : Cond.methodLink "CourtWash" 345 arraycopyName ∈ AW := aw_mem (List.mem_of_getElem? (i := 791) (by decide +kernel)) (by decide +kernel)
theorem qa_arr : Cond.methodLink "java/util/Arrays" 150 arraycopyName ∈ AW := aw_mem (List.mem_of_getElem? (i := 830) (by decide +kernel)) (by decide +kernel)
theorem qa_st : Cond.static arraycopyName ∈ AW := aw_mem (List.mem_of_getElem? (i := 403) (by decide +kernel)) (by decide +kernel)
theorem qa_nat : Cond.native arraycopyName ∈ AW := aw_mem (List.mem_of_getElem? (i := 404) (by decide +kernel)) (by decide +kernel)
theorem qa_sys : Cond.initialized "java/lang/System" ∈ AW := aw_mem (List.mem_of_getElem? (i := 94) (by decide +kernel)) (by decide +kernel)
section EVX
variable {G : Ctx} {mt : MT} {d kc ks : Nat} {Q : Option MV → Mem → Prop} {pc : Nat} {ls : List (Option MV)} {st : List MV} {M : Mem}
theorem i32_nn {i : Int32} {x : Int} (h : i.toInt = x) (h0 : 0 ≤ x) : ¬ i < 0 ∧ ((i.toNatClampNeg : Nat) : Int) = x := by
  refine ⟨by rw [Int32.lt_iff_toInt_lt, h]; show ¬ x < 0; omega, ?_⟩
  rw [i32_clamp h]; omega
theorem E_acopy {idx a b na nb : Nat} {sp dp n : Int} (hd : decode mt.2.1 pc = .ok (.invokestatic idx, 3)) (hlk : Cond.methodLink mt.1.cls idx arraycopyName ∈ AW) (ha : mS M a = (1, na)) (hb : mS M b = (1, nb)) (s0 : 0 ≤ sp) (d0 : 0 ≤ dp) (n0 : 0 ≤ n) (h1 : sp + n ≤ na) (h2 : dp + n ≤ nb) (hdd : 1 ≤ d) (hw : (st.map wd).sum ≤ 8)
    (kk : EV G mt d kc ks Q (pc + 3) ls st (mJ M (mov (mI M) b a sp dp n))) : EV G mt d kc ks Q pc ls (vI n :: vI dp :: vR b :: vI sp :: vR a :: st) M := by
  intro p l e R s m args below meth c H locs cells slots mc ms lsR stR C0 hR hkk hl hP hL hst
  obtain ⟨v1, r1, rfl, ⟨jn, rfl, hjn⟩, q1⟩ := hst.c
  obtain ⟨v2, r2, rfl, ⟨jd, rfl, hjd⟩, q2⟩ := q1.c
  obtain ⟨v3, r3, rfl, hv3, q3⟩ := q2.c
  obtain ⟨v4, r4, rfl, ⟨js, rfl, hjs⟩, q4⟩ := q3.c
  obtain ⟨v5, r5, rfl, hv5, q5⟩ := q4.c
  have hv3 : v3 = rfv G b := hv3
  have hv5 : v5 = rfv G a := hv5
  obtain ⟨ha21, -, f, hcA, hf⟩ := hP.arr ha
  obtain ⟨hb21, hnb, g, hcB, hg⟩ := hP.arr hb
  rw [rfv_hi hb21] at hv3
  rw [rfv_hi ha21] at hv5
  subst hv3
  subst hv5
  have hts := C0.2.2.2.2.1
  have hK := C0.2.2.2.2.2.2.2.2
  obtain ⟨hs1, hs2⟩ := i32_nn hjs s0
  obtain ⟨hd1, hd2⟩ := i32_nn hjd d0
  obtain ⟨hn1, hn2⟩ := i32_nn hjn n0
  have hnf : nativeFrameWords "java/lang/System" "arraycopy" 5 + 11 ≤ 56 := by decide +kernel
  have hsum := wd_sum hK q5
  obtain ⟨lv, hlv, -⟩ := id hL
  intro T hT X
  obtain ⟨-, k0, hk0, cm0, hkk0⟩ := hK.2.1.1 na (fun j => .int (f j))
  obtain ⟨-, k1, hk1, cm1, hkk1⟩ := hK.2.1.1 nb (fun j => .int (g j))
  obtain ⟨vm', X', step⟩ := X.arraycopy C0.1 C0.2.2.2.1 (hts _ hlk) (hts _ qa_nat) (hts _ qa_st) (hts _ qa_sys) (src := am G a) (dst := am G b) (cs := vp_cell (gI G) (na, .inl f)) (cd := vp_cell (gI G) (nb, .inl g)) (srcPos := js) (destPos := jd) (n := jn) (by rw [hT]; exact hcA) (by rw [hT]; exact hcB)
    (fun _ h => by cases h) (fun _ h => by cases h) (fun h => by cases h) (fun h => by cases h) hk0 hk1 hkk0 hkk1 (by simp [refKind]) hs1 hd1 hn1
    (by rw [hjs, hjn]; show ¬ _ > ((arrV (gI G) na (fun j => .int (f j))).slots.size : Int); rw [arrV_size]; omega)
    (by rw [hjd, hjn]; show ¬ _ > ((arrV (gI G) nb (fun j => .int (g j))).slots.size : Int); rw [arrV_size]; omega)
    (fun vm₁ _ i hi => by
      have e : (vp_cell (gI G) (na, .inl f)).slots.getD (js.toNatClampNeg + i) .null = .int (f (js.toNatClampNeg + i)) := by
        show (arrV (gI G) na (fun j => .int (f j))).slots.getD _ _ = _
        rw [Array.getD_eq_getD_getElem?, arrV_read _ _ (by omega)]
        rfl
      refine ⟨?_, ?_⟩
      · rw [e]
        rfl
      · rw [e]
        exact trivial)
    (g := F0 m pc lsR (.int jn :: .int jd :: .ref (am G b) :: .int js :: .ref (am G a) :: r5)) rfl (by rw [C0.2.2.1]; exact hlv.1) (rest := r5) rfl (by rw [C0.2.1]; exact hd) (by omega) (by show 2 * 0 + _ + _ ≤ _; omega)
  have e1 : copied (vp_cell (gI G) (na, .inl f)) (vp_cell (gI G) (nb, .inl g)) js jd jn = vp_cell (gI G) (nb, .inl (va_cpy f g js.toNatClampNeg jd.toNatClampNeg jn.toNatClampNeg)) := va_copied (fun z => .int z) (gI G) (gI G) f g (by omega)
  rw [e1] at X' step
  have hlt : am G b < H.size := (Array.getElem?_eq_some_iff.mp hcB).1
  have hheap : ((T.setVm vm').setCell (am G b) (vp_cell (gI G) (nb, .inl (va_cpy f g js.toNatClampNeg jd.toNatClampNeg jn.toNatClampNeg)))).heap = H.setIfInBounds (am G b) (vp_cell (gI G) (nb, .inl (va_cpy f g js.toNatClampNeg jd.toNatClampNeg jn.toNatClampNeg))) := by rw [← hT]; rfl
  have oq : ∀ q : Nat, q ≠ am G b → (H.setIfInBounds (am G b) (vp_cell (gI G) (nb, .inl (va_cpy f g js.toNatClampNeg jd.toNatClampNeg jn.toNatClampNeg))))[q]? = H[q]? := fun q hq => by simp [Array.getElem?_setIfInBounds, Ne.symm hq]
  have hP' : RepM G (mJ M (mov (mI M) b a sp dp n)) (H.setIfInBounds (am G b) (vp_cell (gI G) (nb, .inl (va_cpy f g js.toNatClampNeg jd.toNatClampNeg jn.toNatClampNeg)))) := by
    refine hP.write (a := b) hb21 rfl rfl (fun c j hc => mov_ne _ (fun z => hc z.1)) (fun _ _ _ => rfl) (by simp) oq ?_
    unfold CellR
    rw [show mS (mJ M (mov (mI M) b a sp dp n)) b = (1, nb) from hb]
    refine ⟨hnb, va_cpy f g js.toNatClampNeg jd.toNatClampNeg jn.toNatClampNeg, by simp [Array.getElem?_setIfInBounds, hlt, vp_cell], fun j hj => ?_⟩
    show _ = mov (mI M) b a sp dp n b (j : Int)
    unfold va_cpy mov
    by_cases hq : jd.toNatClampNeg ≤ j ∧ j < jd.toNatClampNeg + jn.toNatClampNeg
    · rw [if_pos hq, if_pos ⟨rfl, by omega, by omega⟩, hf _ (by omega)]
      congr 1
      omega
    · rw [if_neg hq, if_neg (by omega)]
      exact hg j hj
  obtain ⟨t, a1, b1⟩ := kk p l e R s m args below meth c _ _ cells slots mc ms lsR r5 C0 hR hkk (fun q hq => by
      rcases List.mem_append.mp hq with h | h
      · exact hl q h
      · obtain ⟨z, -, hz⟩ := List.mem_map.mp h
        rw [← hz]
        show gb G ≤ am G b
        rw [am_hi hb21]; omega) hP' hL q5 _ hheap X'
  exact ⟨t, step t a1, b1⟩
end EVX
set_option maxRecDepth 20000 in
theorem c_rangeCheck {G : Ctx} {M : Mem} {n f t : Int} (h1 : f ≤ t) (h2 : 0 ≤ f) (h3 : t ≤ n) : CT G m_J7_rangeCheck_23922 0 0 0 [vI n, vI f, vI t] M (fun r M' => r = none ∧ M' = M) := by
  refine CT.of k_J7_rangeCheck_23922 0 (ls := [some (vI n), some (vI f), some (vI t)]) rfl (Nat.le_of_ble_eq_true rfl) ?_
  refine E_iload_n dJ7_rangeCheck_23922_0 rfl ?_
  refine E_iload_n dJ7_rangeCheck_23922_1 rfl ?_
  refine E_icmp_le (tgt := 46) dJ7_rangeCheck_23922_2 (by decide) (fun h2 => ?_) (fun h2 => ?_)
  · refine E_iload_n dJ7_rangeCheck_23922_46 rfl ?_
    refine E_if_ge (tgt := 59) dJ7_rangeCheck_23922_47 (by decide) (fun h47 => ?_) (fun h47 => ?_)
    · refine E_iload_n dJ7_rangeCheck_23922_59 rfl ?_
      refine E_iload_n dJ7_rangeCheck_23922_60 rfl ?_
      refine E_icmp_le (tgt := 73) dJ7_rangeCheck_23922_61 (by decide) (fun h61 => ?_) (fun h61 => ?_)
      · refine E_vret dJ7_rangeCheck_23922_73 rfl ?_
        exact ⟨rfl, rfl⟩
      · exfalso; omega
    · exfalso; omega
  · exfalso; omega
set_option maxRecDepth 20000 in
set_option maxHeartbeats 3000000 in
theorem l_fillR {G : Ctx} {M : Mem} {a N : Nat} (hs : mS M a = (1, N)) {f t x : Int} (n : Nat) (hn : f + n = t) (f0 : 0 ≤ f) (t1 : t ≤ N) (t2 : t ≤ 1000000) : ∀ (k r : Nat) , r + k = n → EV G m_J7_fill_fda19 1 0 0 (fun y M' => y = none ∧ M' = mJ M (fil (mI M) a f t x)) 10 [some (vR a), some (vI f), some (vI t), some (vI x), some (vI (f + r))] [] (mJ M (fil (mI M) a f (f + r) x)) := by
  intro k
  induction k with
  | zero =>
    intro r  hr
    obtain rfl : r = n := by omega
    refine E_iload dJ7_fill_fda19_10 rfl ?_
    refine E_iload_n dJ7_fill_fda19_12 rfl ?_
    refine E_icmp_ge (tgt := 27) dJ7_fill_fda19_13 (by decide) (fun h13 => ?_) (fun h13 => ?_)
    · refine E_vret dJ7_fill_fda19_27 rfl ?_
      exact ⟨rfl, by rw [hn]⟩
    · exfalso; omega
  | succ k ih =>
    intro r  hr
    refine E_iload dJ7_fill_fda19_10 rfl ?_
    refine E_iload_n dJ7_fill_fda19_12 rfl ?_
    refine E_icmp_ge (tgt := 27) dJ7_fill_fda19_13 (by decide) (fun h13 => ?_) (fun h13 => ?_)
    · exfalso; omega
    · refine E_aload_n dJ7_fill_fda19_16 rfl ?_
      refine E_iload dJ7_fill_fda19_17 rfl ?_
      refine E_iload_n dJ7_fill_fda19_19 rfl ?_
      refine E_iast dJ7_fill_fda19_20 hs (by omega) (by omega) ?_
      refine E_iinc dJ7_fill_fda19_21 rfl (by omega) (by omega) (by decide) rfl (by decide) ?_
      try dsimp only [List.set]
      refine E_goto (tgt := 10) dJ7_fill_fda19_24 (by decide) ?_
      exact EV.mq (by rw [show f + ((r + 1 : Nat) : Int) = f + r + 1 by omega]) (by rw [show f + ((r + 1 : Nat) : Int) = f + r + 1 by omega, ← fil_step _ _ _ _ _ (by omega)]; rfl) (ih (r + 1) (by omega))
set_option maxRecDepth 20000 in
set_option maxHeartbeats 3000000 in
theorem c_fillR {G : Ctx} {M : Mem} {a N : Nat} (hs : mS M a = (1, N)) {f t x : Int} (h1 : f ≤ t) (f0 : 0 ≤ f) (t1 : t ≤ N) (t2 : t ≤ 1000000) : CT G m_J7_fill_fda19 1 0 0 [vR a, vI f, vI t, vI x] M (fun y M' => y = none ∧ M' = mJ M (fil (mI M) a f t x)) := by
  refine CT.of k_J7_fill_fda19 1 (ls := [some (vR a), some (vI f), some (vI t), some (vI x), none]) rfl (Nat.le_of_ble_eq_true rfl) ?_
  obtain ⟨n, hn⟩ := Int.eq_ofNat_of_zero_le (show 0 ≤ t - f by omega)
  refine E_aload_n dJ7_fill_fda19_0 rfl ?_
  refine E_alen dJ7_fill_fda19_1 hs ?_
  refine E_iload_n dJ7_fill_fda19_2 rfl ?_
  refine E_iload_n dJ7_fill_fda19_3 rfl ?_
  refine i_J7_13 rfl dJ7_fill_fda19_4 (c_rangeCheck h1 f0 t1) (by omega) (Nat.le_of_ble_eq_true rfl) rfl rfl ?_
  rintro _ _ ⟨rfl, rfl⟩
  try dsimp only [pu]
  refine E_iload_n dJ7_fill_fda19_7 rfl ?_
  refine E_istore dJ7_fill_fda19_8 rfl (by decide) ?_
  try dsimp only [List.set]
  exact EV.mq (by rw [show f + ((0 : Nat) : Int) = f by omega]) (by rw [show f + ((0 : Nat) : Int) = f by omega, fil_nil]; rfl) (l_fillR hs n (by omega) f0 t1 t2 n 0 (by omega))
set_option maxRecDepth 20000 in
set_option maxHeartbeats 3000000 in
theorem l_fill {G : Ctx} {M : Mem} {a : Nat} (N : Nat) (hs : mS M a = (1, N)) {x : Int} (t2 : N ≤ 1000000) : ∀ (k r : Nat) , r + k = N → EV G m_J7_fill_53178 0 0 0 (fun y M' => y = none ∧ M' = mJ M (fil (mI M) a 0 N x)) 5 [some (vR a), some (vI x), some (vI (r : Int)), some (vI (N : Int))] [] (mJ M (fil (mI M) a 0 r x)) := by
  intro k
  induction k with
  | zero =>
    intro r  hr
    obtain rfl : r = N := by omega
    refine E_iload_n dJ7_fill_53178_5 rfl ?_
    refine E_iload_n dJ7_fill_53178_6 rfl ?_
    refine E_icmp_ge (tgt := 20) dJ7_fill_53178_7 (by decide) (fun h7 => ?_) (fun h7 => ?_)
    · refine E_vret dJ7_fill_53178_20 rfl ?_
      exact ⟨rfl, rfl⟩
    · exfalso; omega
  | succ k ih =>
    intro r  hr
    refine E_iload_n dJ7_fill_53178_5 rfl ?_
    refine E_iload_n dJ7_fill_53178_6 rfl ?_
    refine E_icmp_ge (tgt := 20) dJ7_fill_53178_7 (by decide) (fun h7 => ?_) (fun h7 => ?_)
    · exfalso; omega
    · refine E_aload_n dJ7_fill_53178_10 rfl ?_
      refine E_iload_n dJ7_fill_53178_11 rfl ?_
      refine E_iload_n dJ7_fill_53178_12 rfl ?_
      refine E_iast dJ7_fill_53178_13 hs (by omega) (by omega) ?_
      refine E_iinc dJ7_fill_53178_14 rfl (by omega) (by omega) (by decide) rfl (by decide) ?_
      try dsimp only [List.set]
      refine E_goto (tgt := 5) dJ7_fill_53178_17 (by decide) ?_
      exact EV.mq rfl (by rw [show ((r + 1 : Nat) : Int) = (r : Int) + 1 by omega, ← fil_step _ _ _ _ _ (by omega)]; rfl) (ih (r + 1) (by omega))
set_option maxRecDepth 20000 in
set_option maxHeartbeats 3000000 in
theorem c_fill {G : Ctx} {M : Mem} {a : Nat} (N : Nat) (hs : mS M a = (1, N)) {x : Int} (t2 : N ≤ 1000000) : CT G m_J7_fill_53178 0 0 0 [vR a, vI x] M (fun y M' => y = none ∧ M' = mJ M (fil (mI M) a 0 N x)) := by
  refine CT.of k_J7_fill_53178 2 (ls := [some (vR a), some (vI x), none, none]) rfl (Nat.le_of_ble_eq_true rfl) ?_
  refine E_iconst dJ7_fill_53178_0 (by decide) ?_
  refine E_istore_n dJ7_fill_53178_1 rfl (by decide) ?_
  try dsimp only [List.set]
  refine E_aload_n dJ7_fill_53178_2 rfl ?_
  refine E_alen dJ7_fill_53178_3 hs ?_
  refine E_istore_n dJ7_fill_53178_4 rfl (by decide) ?_
  try dsimp only [List.set]
  exact EV.mq rfl (by rw [show ((0 : Nat) : Int) = 0 from rfl, fil_nil]; rfl) (l_fill N hs t2 N 0 (by omega))
/-- the rows -/
def RP (M : Mem) (a : Nat) : Prop := mS M a = (4, 4) ∧ 21 ≤ a ∧ (mR M a 0 = a + 1 ∧ mS M (a + 1) = (1, 8)) ∧ (mR M a 1 = a + 2 ∧ mS M (a + 2) = (1, 8)) ∧ (mR M a 2 = a + 3 ∧ mS M (a + 3) = (1, 320))
theorem RP.o {M : Mem} {a : Nat} (h : RP M a) : mS M a = (4, 4) := h.1
theorem RP.lo {M : Mem} {a : Nat} (h : RP M a) : 21 ≤ a := h.2.1
theorem RP.lanes {M : Mem} {a : Nat} (h : RP M a) : mR M a 0 = a + 1 := h.2.2.1.1
theorem RP.s_lanes {M : Mem} {a : Nat} (h : RP M a) : mS M (a + 1) = (1, 8) := h.2.2.1.2
theorem RP.sizes {M : Mem} {a : Nat} (h : RP M a) : mR M a 1 = a + 2 := h.2.2.2.1.1
theorem RP.s_sizes {M : Mem} {a : Nat} (h : RP M a) : mS M (a + 2) = (1, 8) := h.2.2.2.1.2
theorem RP.items {M : Mem} {a : Nat} (h : RP M a) : mR M a 2 = a + 3 := h.2.2.2.2.1
theorem RP.s_items {M : Mem} {a : Nat} (h : RP M a) : mS M (a + 3) = (1, 320) := h.2.2.2.2.2
theorem RP.j {M : Mem} {a : Nat} (I : AS) (h : RP M a) : RP (mJ M I) a := h
theorem RP.w {M : Mem} {a b : Nat} {j x : Int} (h : RP M a) : RP (mWI M b j x) a := h
set_option maxRecDepth 20000 in
set_option maxHeartbeats 3000000 in
theorem c_xIsRow {G : Ctx} {M : Mem} {a : Nat} (hP : RP M a) {r : Int} : CT G m_X5_isRow 1 0 0 [vR a, vI r] M (rI M (tB (decide (0 ≤ r ∧ r ≤ 7)))) := by
  refine CT.of k_X5_isRow 0 (ls := [some (vR a), some (vI r)]) rfl (Nat.le_of_ble_eq_true rfl) ?_
  refine E_iload_n dX5_isRow_0 rfl ?_
  refine E_iconst dX5_isRow_1 (by decide) ?_
  refine E_bipush dX5_isRow_2 (by decide) ?_
  refine i_X5_25 rfl dX5_isRow_4 c_isIn (by omega) (Nat.le_of_ble_eq_true rfl) rfl rfl ?_
  rintro _ _ ⟨rfl, rfl⟩
  try dsimp only [pu]
  refine E_zret dX5_isRow_7 rfl (tB_nar _) ?_
  exact ⟨rfl, rfl⟩
set_option maxRecDepth 20000 in
set_option maxHeartbeats 3000000 in
theorem c_isMissing {G : Ctx} {M : Mem} {a : Nat} (hP : RP M a) {r x : Int} (r0 : 0 ≤ r ∧ r ≤ 7) (hx : mI M (a + 1) r = x) : CT G m_X5_isMissing 0 0 0 [vR a, vI r] M (rI M (tB (decide (x = -1)))) := by
  refine CT.of k_X5_isMissing 0 (ls := [some (vR a), some (vI r)]) rfl (Nat.le_of_ble_eq_true rfl) ?_
  refine E_aload_n dX5_isMissing_0 rfl ?_
  refine g_X5_9 rfl dX5_isMissing_1 hP.o hP.lanes ?_
  refine E_iload_n dX5_isMissing_4 rfl ?_
  refine E_iald dX5_isMissing_5 hP.s_lanes (by omega) (by omega) hx ?_
  refine E_iconst dX5_isMissing_6 (by decide) ?_
  refine E_icmp_ne (tgt := 14) dX5_isMissing_7 (by decide) (fun h7 => ?_) (fun h7 => ?_)
  · refine E_iconst dX5_isMissing_14 (by decide) ?_
    refine E_zret dX5_isMissing_15 rfl (by decide) ?_
    refine ⟨?_, rfl⟩
    congr 2; first | (rw [decide_eq_true (by omega)]; rfl) | (rw [decide_eq_false (by omega)]; rfl)
  · refine E_iconst dX5_isMissing_10 (by decide) ?_
    refine E_goto (tgt := 15) dX5_isMissing_11 (by decide) ?_
    refine E_zret dX5_isMissing_15 rfl (by decide) ?_
    refine ⟨?_, rfl⟩
    congr 2; first | (rw [decide_eq_true (by omega)]; rfl) | (rw [decide_eq_false (by omega)]; rfl)
set_option maxRecDepth 20000 in
set_option maxHeartbeats 3000000 in
theorem c_areAlike {G : Ctx} {M : Mem} {a : Nat} (hP : RP M a) {r q x y : Int} (r0 : 0 ≤ r ∧ r ≤ 7) (q0 : 0 ≤ q ∧ q ≤ 7) (hx : mI M (a + 1) r = x) (hy : mI M (a + 1) q = y) : CT G m_X5_areAlike 0 0 0 [vR a, vI r, vI q] M (rI M (tB (decide (x = y)))) := by
  refine CT.of k_X5_areAlike 0 (ls := [some (vR a), some (vI r), some (vI q)]) rfl (Nat.le_of_ble_eq_true rfl) ?_
  refine E_aload_n dX5_areAlike_0 rfl ?_
  refine g_X5_9 rfl dX5_areAlike_1 hP.o hP.lanes ?_
  refine E_iload_n dX5_areAlike_4 rfl ?_
  refine E_iald dX5_areAlike_5 hP.s_lanes (by omega) (by omega) hx ?_
  refine E_aload_n dX5_areAlike_6 rfl ?_
  refine g_X5_9 rfl dX5_areAlike_7 hP.o hP.lanes ?_
  refine E_iload_n dX5_areAlike_10 rfl ?_
  refine E_iald dX5_areAlike_11 hP.s_lanes (by omega) (by omega) hy ?_
  refine E_icmp_ne (tgt := 19) dX5_areAlike_12 (by decide) (fun h12 => ?_) (fun h12 => ?_)
  · refine E_iconst dX5_areAlike_19 (by decide) ?_
    refine E_zret dX5_areAlike_20 rfl (by decide) ?_
    refine ⟨?_, rfl⟩
    congr 2; first | (rw [decide_eq_true (by omega)]; rfl) | (rw [decide_eq_false (by omega)]; rfl)
  · refine E_iconst dX5_areAlike_15 (by decide) ?_
    refine E_goto (tgt := 20) dX5_areAlike_16 (by decide) ?_
    refine E_zret dX5_areAlike_20 rfl (by decide) ?_
    refine ⟨?_, rfl⟩
    congr 2; first | (rw [decide_eq_true (by omega)]; rfl) | (rw [decide_eq_false (by omega)]; rfl)
set_option maxRecDepth 20000 in
set_option maxHeartbeats 3000000 in
theorem c_hasItems {G : Ctx} {M : Mem} {a : Nat} (hP : RP M a) {r f n z : Int} (r0 : 0 ≤ r ∧ r ≤ 7) (hz : mI M (a + 2) r = z) (z0 : 0 ≤ z ∧ z ≤ 40) (n0 : n ≤ 2147483647) : CT G m_X5_hasItems 0 0 0 [vR a, vI r, vI f, vI n] M (rI M (tB (decide (0 ≤ f ∧ 0 ≤ n ∧ f ≤ z - n)))) := by
  refine CT.of k_X5_hasItems 0 (ls := [some (vR a), some (vI r), some (vI f), some (vI n)]) rfl (Nat.le_of_ble_eq_true rfl) ?_
  refine E_iload_n dX5_hasItems_0 rfl ?_
  refine E_if_lt (tgt := 24) dX5_hasItems_1 (by decide) (fun h1 => ?_) (fun h1 => ?_)
  · refine E_iconst dX5_hasItems_24 (by decide) ?_
    refine E_zret dX5_hasItems_25 rfl (by decide) ?_
    refine ⟨?_, rfl⟩
    congr 2; first | (rw [decide_eq_true (by omega)]; rfl) | (rw [decide_eq_false (by omega)]; rfl)
  · refine E_iload_n dX5_hasItems_4 rfl ?_
    refine E_if_lt (tgt := 24) dX5_hasItems_5 (by decide) (fun h5 => ?_) (fun h5 => ?_)
    · refine E_iconst dX5_hasItems_24 (by decide) ?_
      refine E_zret dX5_hasItems_25 rfl (by decide) ?_
      refine ⟨?_, rfl⟩
      congr 2; first | (rw [decide_eq_true (by omega)]; rfl) | (rw [decide_eq_false (by omega)]; rfl)
    · refine E_iload_n dX5_hasItems_8 rfl ?_
      refine E_aload_n dX5_hasItems_9 rfl ?_
      refine g_X5_13 rfl dX5_hasItems_10 hP.o hP.sizes ?_
      refine E_iload_n dX5_hasItems_13 rfl ?_
      refine E_iald dX5_hasItems_14 hP.s_sizes (by omega) (by omega) hz ?_
      refine E_iload_n dX5_hasItems_15 rfl ?_
      refine E_isub dX5_hasItems_16 (by omega) (by omega) ?_
      refine E_icmp_gt (tgt := 24) dX5_hasItems_17 (by decide) (fun h17 => ?_) (fun h17 => ?_)
      · refine E_iconst dX5_hasItems_24 (by decide) ?_
        refine E_zret dX5_hasItems_25 rfl (by decide) ?_
        refine ⟨?_, rfl⟩
        congr 2; first | (rw [decide_eq_true (by omega)]; rfl) | (rw [decide_eq_false (by omega)]; rfl)
      · refine E_iconst dX5_hasItems_20 (by decide) ?_
        refine E_goto (tgt := 25) dX5_hasItems_21 (by decide) ?_
        refine E_zret dX5_hasItems_25 rfl (by decide) ?_
        refine ⟨?_, rfl⟩
        congr 2; first | (rw [decide_eq_true (by omega)]; rfl) | (rw [decide_eq_false (by omega)]; rfl)
set_option maxRecDepth 20000 in
set_option maxHeartbeats 3000000 in
theorem c_make {G : Ctx} {M : Mem} {a : Nat} (hP : RP M a) {r l n : Int} (r0 : 0 ≤ r ∧ r ≤ 7) (n0 : 0 ≤ n ∧ n ≤ 40) : CT G m_X5_make 2 0 0 [vR a, vI r, vI l, vI n] M (fun y M' => y = none ∧ M' = mJ M (fil (up2 (up2 (mI M) (a + 1) r l) (a + 2) r n) (a + 3) (40 * r) (40 * r + n) 0)) := by
  refine CT.of k_X5_make 0 (ls := [some (vR a), some (vI r), some (vI l), some (vI n)]) rfl (Nat.le_of_ble_eq_true rfl) ?_
  refine E_aload_n dX5_make_0 rfl ?_
  refine g_X5_9 rfl dX5_make_1 hP.o hP.lanes ?_
  refine E_iload_n dX5_make_4 rfl ?_
  refine E_iload_n dX5_make_5 rfl ?_
  refine E_iast dX5_make_6 hP.s_lanes (by omega) (by omega) ?_
  refine E_aload_n dX5_make_7 rfl ?_
  refine g_X5_13 rfl dX5_make_8 hP.o hP.sizes ?_
  refine E_iload_n dX5_make_11 rfl ?_
  refine E_iload_n dX5_make_12 rfl ?_
  refine E_iast dX5_make_13 hP.s_sizes (by omega) (by omega) ?_
  refine E_aload_n dX5_make_14 rfl ?_
  refine g_X5_16 rfl dX5_make_15 hP.o hP.items ?_
  refine E_iload_n dX5_make_18 rfl ?_
  refine E_bipush dX5_make_19 (by decide) ?_
  refine E_imul dX5_make_21 (by omega) (by omega) ?_
  refine E_iload_n dX5_make_22 rfl ?_
  refine E_bipush dX5_make_23 (by decide) ?_
  refine E_imul dX5_make_25 (by omega) (by omega) ?_
  refine E_iload_n dX5_make_26 rfl ?_
  refine E_iadd dX5_make_27 (by omega) (by omega) ?_
  refine E_iconst dX5_make_28 (by decide) ?_
  refine i_X5_31 rfl dX5_make_29 (c_fillR (N := 320) (by exact hP.s_items) (by omega) (by omega) (by omega) (by omega)) (by omega) (Nat.le_of_ble_eq_true rfl) rfl rfl ?_
  rintro _ _ ⟨rfl, rfl⟩
  try dsimp only [pu]
  refine E_vret dX5_make_32 rfl ?_
  exact ⟨rfl, by rw [Int.mul_comm r 40]; rfl⟩
set_option maxRecDepth 20000 in
set_option maxHeartbeats 3000000 in
theorem c_lose {G : Ctx} {M : Mem} {a : Nat} (hP : RP M a) {r : Int} (r0 : 0 ≤ r ∧ r ≤ 7) : CT G m_X5_lose 0 0 0 [vR a, vI r] M (fun y M' => y = some (vI (mI M (a + 2) r)) ∧ M' = mJ M (up2 (up2 (mI M) (a + 1) r (-1)) (a + 2) r 0)) := by
  refine CT.of k_X5_lose 1 (ls := [some (vR a), some (vI r), none]) rfl (Nat.le_of_ble_eq_true rfl) ?_
  refine E_aload_n dX5_lose_0 rfl ?_
  refine g_X5_13 rfl dX5_lose_1 hP.o hP.sizes ?_
  refine E_iload_n dX5_lose_4 rfl ?_
  refine E_iald dX5_lose_5 hP.s_sizes (by omega) (by omega) rfl ?_
  refine E_istore_n dX5_lose_6 rfl (by decide) ?_
  try dsimp only [List.set]
  refine E_aload_n dX5_lose_7 rfl ?_
  refine g_X5_9 rfl dX5_lose_8 hP.o hP.lanes ?_
  refine E_iload_n dX5_lose_11 rfl ?_
  refine E_iconst dX5_lose_12 (by decide) ?_
  refine E_iast dX5_lose_13 hP.s_lanes (by omega) (by omega) ?_
  refine E_aload_n dX5_lose_14 rfl ?_
  refine g_X5_13 rfl dX5_lose_15 hP.o hP.sizes ?_
  refine E_iload_n dX5_lose_18 rfl ?_
  refine E_iconst dX5_lose_19 (by decide) ?_
  refine E_iast dX5_lose_20 hP.s_sizes (by omega) (by omega) ?_
  refine E_iload_n dX5_lose_21 rfl ?_
  refine E_iret dX5_lose_22 rfl ?_
  exact ⟨rfl, rfl⟩
set_option maxRecDepth 20000 in
set_option maxHeartbeats 3000000 in
theorem c_item {G : Ctx} {M : Mem} {a : Nat} (hP : RP M a) {r i x : Int} (r0 : 0 ≤ r ∧ r ≤ 7) (i0 : 0 ≤ i ∧ i < 40) (hx : mI M (a + 3) (40 * r + i) = x) : CT G m_X5_item 0 0 0 [vR a, vI r, vI i] M (rI M x) := by
  refine CT.of k_X5_item 0 (ls := [some (vR a), some (vI r), some (vI i)]) rfl (Nat.le_of_ble_eq_true rfl) ?_
  rw [Int.mul_comm 40 r] at hx
  refine E_aload_n dX5_item_0 rfl ?_
  refine g_X5_16 rfl dX5_item_1 hP.o hP.items ?_
  refine E_iload_n dX5_item_4 rfl ?_
  refine E_bipush dX5_item_5 (by decide) ?_
  refine E_imul dX5_item_7 (by omega) (by omega) ?_
  refine E_iload_n dX5_item_8 rfl ?_
  refine E_iadd dX5_item_9 (by omega) (by omega) ?_
  refine E_iald dX5_item_10 hP.s_items (by omega) (by omega) hx ?_
  refine E_iret dX5_item_11 rfl ?_
  exact ⟨rfl, rfl⟩
set_option maxRecDepth 20000 in
set_option maxHeartbeats 3000000 in
theorem c_cut {G : Ctx} {M : Mem} {l v : Int} (l0 : 0 ≤ l ∧ l ≤ 2) : CT G m_X5_cutToLane 0 0 0 [vI l, vI v] M (rI M (cut l v)) := by
  refine CT.of k_X5_cutToLane 0 (ls := [some (vI l), some (vI v)]) rfl (Nat.le_of_ble_eq_true rfl) ?_
  refine E_iload_n dX5_cutToLane_0 rfl ?_
  by_cases q1_0 : l = 0
  · refine E_lookup (off := 27) (tgt := 28) dX5_cutToLane_1 (by decide) (by rw [q1_0]; rfl) (by decide) ?_
    refine E_iload_n dX5_cutToLane_28 rfl ?_
    refine E_i2b dX5_cutToLane_29 ?_
    refine E_iret dX5_cutToLane_30 rfl ?_
    exact ⟨by unfold cut; rw [if_pos q1_0], rfl⟩
  by_cases q1_1 : l = 1
  · refine E_lookup (off := 30) (tgt := 31) dX5_cutToLane_1 (by decide) (by rw [q1_1]; rfl) (by decide) ?_
    refine E_iload_n dX5_cutToLane_31 rfl ?_
    refine E_i2s dX5_cutToLane_32 ?_
    refine E_iret dX5_cutToLane_33 rfl ?_
    exact ⟨by unfold cut; rw [if_neg q1_0, if_pos q1_1], rfl⟩
  refine E_lookup (off := 33) (tgt := 34) dX5_cutToLane_1 (by decide) (by rw [show l = 2 by omega]; rfl) (by decide) ?_
  refine E_iload_n dX5_cutToLane_34 rfl ?_
  refine E_iret dX5_cutToLane_35 rfl ?_
  exact ⟨by unfold cut; rw [if_neg q1_0, if_neg q1_1], rfl⟩
set_option maxRecDepth 20000 in
set_option maxHeartbeats 3000000 in
theorem c_put {G : Ctx} {M : Mem} {a : Nat} (hP : RP M a) {r i v l : Int} (r0 : 0 ≤ r ∧ r ≤ 7) (i0 : 0 ≤ i ∧ i < 40) (hl : mI M (a + 1) r = l) (l0 : 0 ≤ l ∧ l ≤ 2) : CT G m_X5_put 1 0 0 [vR a, vI r, vI i, vI v] M (fun y M' => y = some (vI (cut l v)) ∧ M' = mWI M (a + 3) (40 * r + i) (cut l v)) := by
  refine CT.of k_X5_put 1 (ls := [some (vR a), some (vI r), some (vI i), some (vI v), none]) rfl (Nat.le_of_ble_eq_true rfl) ?_
  refine E_aload_n dX5_put_0 rfl ?_
  refine g_X5_9 rfl dX5_put_1 hP.o hP.lanes ?_
  refine E_iload_n dX5_put_4 rfl ?_
  refine E_iald dX5_put_5 hP.s_lanes (by omega) (by omega) hl ?_
  refine E_iload_n dX5_put_6 rfl ?_
  refine i_X5_34 rfl dX5_put_7 (c_cut l0) (by omega) (Nat.le_of_ble_eq_true rfl) rfl rfl ?_
  rintro _ _ ⟨rfl, rfl⟩
  try dsimp only [pu]
  refine E_istore dX5_put_10 rfl (by decide) ?_
  try dsimp only [List.set]
  refine E_aload_n dX5_put_12 rfl ?_
  refine g_X5_16 rfl dX5_put_13 hP.o hP.items ?_
  refine E_iload_n dX5_put_16 rfl ?_
  refine E_bipush dX5_put_17 (by decide) ?_
  refine E_imul dX5_put_19 (by omega) (by omega) ?_
  refine E_iload_n dX5_put_20 rfl ?_
  refine E_iadd dX5_put_21 (by omega) (by omega) ?_
  refine E_iload dX5_put_22 rfl ?_
  refine E_iast dX5_put_24 hP.s_items (by omega) (by omega) ?_
  refine E_iload dX5_put_25 rfl ?_
  refine E_iret dX5_put_27 rfl ?_
  exact ⟨rfl, by rw [Int.mul_comm 40 r]⟩
set_option maxRecDepth 20000 in
set_option maxHeartbeats 3000000 in
theorem c_move {G : Ctx} {M : Mem} {a : Nat} (hP : RP M a) {r i q j n : Int} (r0 : 0 ≤ r ∧ r ≤ 7) (q0 : 0 ≤ q ∧ q ≤ 7) (i0 : 0 ≤ i ∧ i + n ≤ 40) (j0 : 0 ≤ j ∧ j + n ≤ 40) (n0 : 0 ≤ n) : CT G m_X5_move 1 0 0 [vR a, vI r, vI i, vI q, vI j, vI n] M (fun y M' => y = none ∧ M' = mJ M (mov (mI M) (a + 3) (a + 3) (40 * r + i) (40 * q + j) n)) := by
  refine CT.of k_X5_move 0 (ls := [some (vR a), some (vI r), some (vI i), some (vI q), some (vI j), some (vI n)]) rfl (Nat.le_of_ble_eq_true rfl) ?_
  refine E_aload_n dX5_move_0 rfl ?_
  refine g_X5_16 rfl dX5_move_1 hP.o hP.items ?_
  refine E_iload_n dX5_move_4 rfl ?_
  refine E_bipush dX5_move_5 (by decide) ?_
  refine E_imul dX5_move_7 (by omega) (by omega) ?_
  refine E_iload_n dX5_move_8 rfl ?_
  refine E_iadd dX5_move_9 (by omega) (by omega) ?_
  refine E_aload_n dX5_move_10 rfl ?_
  refine g_X5_16 rfl dX5_move_11 hP.o hP.items ?_
  refine E_iload_n dX5_move_14 rfl ?_
  refine E_bipush dX5_move_15 (by decide) ?_
  refine E_imul dX5_move_17 (by omega) (by omega) ?_
  refine E_iload dX5_move_18 rfl ?_
  refine E_iadd dX5_move_20 (by omega) (by omega) ?_
  refine E_iload dX5_move_21 rfl ?_
  refine E_acopy (na := 320) (nb := 320) dX5_move_23 qa_rows hP.s_items hP.s_items (by omega) (by omega) (by omega) (by omega) (by omega) (by omega) (Nat.le_of_ble_eq_true rfl) ?_
  refine E_vret dX5_move_26 rfl ?_
  exact ⟨rfl, by rw [Int.mul_comm 40 r, Int.mul_comm 40 q]⟩
def fIn (f : Int → Int) (lo hi : Int) : Nat → Bool
  | 0 => true
  | k + 1 => fIn f lo hi k && decide (lo ≤ f k ∧ f k ≤ hi)
theorem fIn_mono {f : Int → Int} {lo hi : Int} {k n : Nat} (h : fIn f lo hi k = false) (hk : k ≤ n) : fIn f lo hi n = false := by
  induction hk with
  | refl => exact h
  | step _ ih => simp [fIn, ih]
/-- is x among the first k; are the first k all unlike -/
def fHas (f : Int → Int) (x : Int) : Nat → Bool
  | 0 => false
  | k + 1 => fHas f x k || decide (x = f k)
def fUn (f : Int → Int) : Nat → Bool
  | 0 => true
  | k + 1 => fUn f k && !fHas f (f k) k
theorem fHas_mono {f : Int → Int} {x : Int} {k n : Nat} (h : fHas f x k = true) (hk : k ≤ n) : fHas f x n = true := by
  induction hk with
  | refl => exact h
  | step _ ih => simp [fHas, ih]
theorem fUn_mono {f : Int → Int} {k n : Nat} (h : fUn f k = false) (hk : k ≤ n) : fUn f n = false := by
  induction hk with
  | refl => exact h
  | step _ ih => simp [fUn, ih]
set_option maxRecDepth 20000 in
set_option maxHeartbeats 3000000 in
theorem l_areIn {G : Ctx} {M : Mem} {a : Nat} (hP : RP M a) {q f lo hi : Int} {g : Int → Int} (r0 : 0 ≤ q ∧ q ≤ 7) (n : Nat) (f0 : 0 ≤ f ∧ f + n ≤ 40) (hg : ∀ k : Int, 0 ≤ k → k < n → mI M (a + 3) (40 * q + (f + k)) = g k) : ∀ (k r : Nat) , r + k = n → fIn g lo hi r = true → EV G m_X5_areIn 1 0 0 (rI M (tB (fIn g lo hi n))) 3 [some (vR a), some (vI q), some (vI f), some (vI (n : Int)), some (vI lo), some (vI hi), some (vI (r : Int))] [] M := by
  intro k
  induction k with
  | zero =>
    intro r  hr hi_
    obtain rfl : r = n := by omega
    refine E_iload dX5_areIn_3 rfl ?_
    refine E_iload_n dX5_areIn_5 rfl ?_
    refine E_icmp_ge (tgt := 36) dX5_areIn_6 (by decide) (fun h6 => ?_) (fun h6 => ?_)
    · refine E_iconst dX5_areIn_36 (by decide) ?_
      refine E_zret dX5_areIn_37 rfl (by decide) ?_
      refine ⟨?_, rfl⟩
      rw [hi_]; rfl
    · exfalso; omega
  | succ k ih =>
    intro r  hr hi_
    refine E_iload dX5_areIn_3 rfl ?_
    refine E_iload_n dX5_areIn_5 rfl ?_
    refine E_icmp_ge (tgt := 36) dX5_areIn_6 (by decide) (fun h6 => ?_) (fun h6 => ?_)
    · exfalso; omega
    · refine E_aload_n dX5_areIn_9 rfl ?_
      refine E_iload_n dX5_areIn_10 rfl ?_
      refine E_iload_n dX5_areIn_11 rfl ?_
      refine E_iload dX5_areIn_12 rfl ?_
      refine E_iadd dX5_areIn_14 (by omega) (by omega) ?_
      refine i_X5_44 rfl dX5_areIn_15 (by exact hP.o) (c_item hP r0 (by omega) (hg _ (by omega) (by omega))) (by omega) (Nat.le_of_ble_eq_true rfl) rfl rfl ?_
      rintro _ _ ⟨rfl, rfl⟩
      try dsimp only [pu]
      refine E_iload dX5_areIn_18 rfl ?_
      refine E_iload dX5_areIn_20 rfl ?_
      refine i_X5_25 rfl dX5_areIn_22 c_isIn (by omega) (Nat.le_of_ble_eq_true rfl) rfl rfl ?_
      rintro _ _ ⟨rfl, rfl⟩
      try dsimp only [pu]
      refine E_if_ne (tgt := 30) dX5_areIn_25 (by decide) (fun h25 => ?_) (fun h25 => ?_)
      · simp only [tB0, ne_eq, Bool.not_eq_false, Bool.not_eq_true, decide_eq_true_eq, decide_eq_false_iff_not, Classical.not_not] at h25
        refine E_iinc dX5_areIn_30 rfl (by omega) (by omega) (by decide) rfl (by decide) ?_
        try dsimp only [List.set]
        refine E_goto (tgt := 3) dX5_areIn_33 (by decide) ?_
        exact EV.lq rfl (ih (r + 1) (by omega) (by simp only [fIn, hi_, Bool.true_and]; rw [decide_eq_true h25]))
      · simp only [tB0, ne_eq, Bool.not_eq_false, Bool.not_eq_true, decide_eq_true_eq, decide_eq_false_iff_not, Classical.not_not] at h25
        refine E_iconst dX5_areIn_28 (by decide) ?_
        refine E_zret dX5_areIn_29 rfl (by decide) ?_
        refine ⟨?_, rfl⟩
        have hx : fIn g lo hi (r + 1) = false := by simp only [fIn, hi_, Bool.true_and]; rw [decide_eq_false h25]
        rw [fIn_mono hx (show r + 1 ≤ n by omega)]; rfl
set_option maxRecDepth 20000 in
set_option maxHeartbeats 3000000 in
theorem c_areIn {G : Ctx} {M : Mem} {a : Nat} (hP : RP M a) {q f lo hi : Int} {g : Int → Int} (r0 : 0 ≤ q ∧ q ≤ 7) (n : Nat) (f0 : 0 ≤ f ∧ f + n ≤ 40) (hg : ∀ k : Int, 0 ≤ k → k < n → mI M (a + 3) (40 * q + (f + k)) = g k) : CT G m_X5_areIn 1 0 0 [vR a, vI q, vI f, vI (n : Int), vI lo, vI hi] M (rI M (tB (fIn g lo hi n))) := by
  refine CT.of k_X5_areIn 1 (ls := [some (vR a), some (vI q), some (vI f), some (vI (n : Int)), some (vI lo), some (vI hi), none]) rfl (Nat.le_of_ble_eq_true rfl) ?_
  refine E_iconst dX5_areIn_0 (by decide) ?_
  refine E_istore dX5_areIn_1 rfl (by decide) ?_
  try dsimp only [List.set]
  exact l_areIn hP r0 n f0 hg n 0 (by omega) rfl
set_option maxRecDepth 20000 in
set_option maxHeartbeats 3000000 in
theorem l_areUnI {G : Ctx} {M : Mem} {a : Nat} (hP : RP M a) {q : Int} {g : Int → Int} (r0 : 0 ≤ q ∧ q ≤ 7) (n : Nat) (f0 : n ≤ 40) (hg : ∀ k : Int, 0 ≤ k → k < n → mI M (a + 3) (40 * q + k) = g k) (t : Nat) (ht : t < n) (K : fHas g (g t) t = false → EV G m_X5_areUnlike 1 0 0 (rI M (tB (fUn g n))) 40 [some (vR a), some (vI q), some (vI (n : Int)), some (vI (t : Int)), some (vI (t : Int))] [] M) : ∀ (k r : Nat) , r + k = t → fHas g (g t) r = false → EV G m_X5_areUnlike 1 0 0 (rI M (tB (fUn g n))) 10 [some (vR a), some (vI q), some (vI (n : Int)), some (vI (t : Int)), some (vI (r : Int))] [] M := by
  intro k
  induction k with
  | zero =>
    intro r  hr hi_
    obtain rfl : r = t := by omega
    refine E_iload dX5_areUnlike_10 rfl ?_
    refine E_iload_n dX5_areUnlike_12 rfl ?_
    refine E_icmp_ge (tgt := 40) dX5_areUnlike_13 (by decide) (fun h13 => ?_) (fun h13 => ?_)
    · exact K hi_
    · exfalso; omega
  | succ k ih =>
    intro r  hr hi_
    refine E_iload dX5_areUnlike_10 rfl ?_
    refine E_iload_n dX5_areUnlike_12 rfl ?_
    refine E_icmp_ge (tgt := 40) dX5_areUnlike_13 (by decide) (fun h13 => ?_) (fun h13 => ?_)
    · exfalso; omega
    · refine E_aload_n dX5_areUnlike_16 rfl ?_
      refine E_iload_n dX5_areUnlike_17 rfl ?_
      refine E_iload_n dX5_areUnlike_18 rfl ?_
      refine i_X5_44 rfl dX5_areUnlike_19 (by exact hP.o) (c_item hP r0 (by omega) (hg (t : Int) (by omega) (by omega))) (by omega) (Nat.le_of_ble_eq_true rfl) rfl rfl ?_
      rintro _ _ ⟨rfl, rfl⟩
      try dsimp only [pu]
      refine E_aload_n dX5_areUnlike_22 rfl ?_
      refine E_iload_n dX5_areUnlike_23 rfl ?_
      refine E_iload dX5_areUnlike_24 rfl ?_
      refine i_X5_44 rfl dX5_areUnlike_26 (by exact hP.o) (c_item hP r0 (by omega) (hg (r : Int) (by omega) (by omega))) (by omega) (Nat.le_of_ble_eq_true rfl) rfl rfl ?_
      rintro _ _ ⟨rfl, rfl⟩
      try dsimp only [pu]
      refine E_icmp_ne (tgt := 34) dX5_areUnlike_29 (by decide) (fun h29 => ?_) (fun h29 => ?_)
      · refine E_iinc dX5_areUnlike_34 rfl (by omega) (by omega) (by decide) rfl (by decide) ?_
        try dsimp only [List.set]
        refine E_goto (tgt := 10) dX5_areUnlike_37 (by decide) ?_
        exact EV.lq rfl (ih (r + 1) (by omega) (by simp only [fHas, hi_, Bool.false_or]; exact decide_eq_false (by omega)))
      · refine E_iconst dX5_areUnlike_32 (by decide) ?_
        refine E_zret dX5_areUnlike_33 rfl (by decide) ?_
        refine ⟨?_, rfl⟩
        have hx : fHas g (g t) (r + 1) = true := by simp only [fHas, hi_, Bool.false_or]; exact decide_eq_true (by omega)
        have hy : fUn g (t + 1) = false := by simp only [fUn]; rw [fHas_mono hx (show r + 1 ≤ t by omega)]; simp
        rw [fUn_mono hy (show t + 1 ≤ n by omega)]; rfl
set_option maxRecDepth 20000 in
set_option maxHeartbeats 3000000 in
theorem l_areUn {G : Ctx} {M : Mem} {a : Nat} (hP : RP M a) {q : Int} {g : Int → Int} (r0 : 0 ≤ q ∧ q ≤ 7) (n : Nat) (f0 : n ≤ 40) (hg : ∀ k : Int, 0 ≤ k → k < n → mI M (a + 3) (40 * q + k) = g k) : ∀ (k r : Nat) (z : Option MV), r + k = n → fUn g r = true → EV G m_X5_areUnlike 1 0 0 (rI M (tB (fUn g n))) 2 [some (vR a), some (vI q), some (vI (n : Int)), some (vI (r : Int)), z] [] M := by
  intro k
  induction k with
  | zero =>
    intro r z hr hi_
    obtain rfl : r = n := by omega
    refine E_iload_n dX5_areUnlike_2 rfl ?_
    refine E_iload_n dX5_areUnlike_3 rfl ?_
    refine E_icmp_ge (tgt := 46) dX5_areUnlike_4 (by decide) (fun h4 => ?_) (fun h4 => ?_)
    · refine E_iconst dX5_areUnlike_46 (by decide) ?_
      refine E_zret dX5_areUnlike_47 rfl (by decide) ?_
      refine ⟨?_, rfl⟩
      rw [hi_]; rfl
    · exfalso; omega
  | succ k ih =>
    intro r z hr hi_
    refine E_iload_n dX5_areUnlike_2 rfl ?_
    refine E_iload_n dX5_areUnlike_3 rfl ?_
    refine E_icmp_ge (tgt := 46) dX5_areUnlike_4 (by decide) (fun h4 => ?_) (fun h4 => ?_)
    · exfalso; omega
    · refine E_iconst dX5_areUnlike_7 (by decide) ?_
      refine E_istore dX5_areUnlike_8 rfl (by decide) ?_
      try dsimp only [List.set]
      refine l_areUnI hP r0 n f0 hg r (by omega) (fun hK => ?_) r 0 (by omega) rfl
      refine E_iinc dX5_areUnlike_40 rfl (by omega) (by omega) (by decide) rfl (by decide) ?_
      try dsimp only [List.set]
      refine E_goto (tgt := 2) dX5_areUnlike_43 (by decide) ?_
      exact EV.lq rfl (ih (r + 1) _ (by omega) (by simp only [fUn, hi_, hK]; rfl))
set_option maxRecDepth 20000 in
set_option maxHeartbeats 3000000 in
theorem c_areUnlike {G : Ctx} {M : Mem} {a : Nat} (hP : RP M a) {q : Int} {g : Int → Int} (r0 : 0 ≤ q ∧ q ≤ 7) (n : Nat) (f0 : n ≤ 40) (hg : ∀ k : Int, 0 ≤ k → k < n → mI M (a + 3) (40 * q + k) = g k) : CT G m_X5_areUnlike 1 0 0 [vR a, vI q, vI (n : Int)] M (rI M (tB (fUn g n))) := by
  refine CT.of k_X5_areUnlike 2 (ls := [some (vR a), some (vI q), some (vI (n : Int)), none, none]) rfl (Nat.le_of_ble_eq_true rfl) ?_
  refine E_iconst dX5_areUnlike_0 (by decide) ?_
  refine E_istore_n dX5_areUnlike_1 rfl (by decide) ?_
  try dsimp only [List.set]
  exact l_areUn hP r0 n f0 hg n 0 _ (by omega) rfl
set_option maxRecDepth 20000 in
set_option maxHeartbeats 3000000 in
theorem l_howMany {G : Ctx} {M : Mem} {a : Nat} (hP : RP M a) {g : Int → Int} (hg : ∀ k : Int, 0 ≤ k → k < 8 → mI M (a + 1) k = g k) (hl : ∀ k : Int, 0 ≤ k → k < 8 → -1 ≤ g k) : ∀ (k r : Nat) , r + k = 8 → EV G m_X5_howMany 1 0 0 (rI M (cnt (fun r => decide (0 ≤ g r)) 8)) 4 [some (vR a), some (vI (cnt (fun r => decide (0 ≤ g r)) r)), some (vI (r : Int))] [] M := by
  intro k
  induction k with
  | zero =>
    intro r  hr
    obtain rfl : r = 8 := by omega
    refine E_iload_n dX5_howMany_4 rfl ?_
    refine E_bipush dX5_howMany_5 (by decide) ?_
    refine E_icmp_ge (tgt := 32) dX5_howMany_7 (by decide) (fun h7 => ?_) (fun h7 => ?_)
    · refine E_iload_n dX5_howMany_32 rfl ?_
      refine E_iret dX5_howMany_33 rfl ?_
      exact ⟨rfl, rfl⟩
    · exfalso; omega
  | succ k ih =>
    intro r  hr
    have hc := cnt_b (fun r => decide (0 ≤ g r)) r
    have hlr := hl r (by omega) (by omega)
    refine E_iload_n dX5_howMany_4 rfl ?_
    refine E_bipush dX5_howMany_5 (by decide) ?_
    refine E_icmp_ge (tgt := 32) dX5_howMany_7 (by decide) (fun h7 => ?_) (fun h7 => ?_)
    · exfalso; omega
    · refine E_iload_n dX5_howMany_10 rfl ?_
      refine E_aload_n dX5_howMany_11 rfl ?_
      refine E_iload_n dX5_howMany_12 rfl ?_
      refine i_X5_51 rfl dX5_howMany_13 (by exact hP.o) (c_isMissing hP (by omega) (hg _ (by omega) (by omega))) (by omega) (Nat.le_of_ble_eq_true rfl) rfl rfl ?_
      rintro _ _ ⟨rfl, rfl⟩
      try dsimp only [pu]
      refine E_if_eq (tgt := 23) dX5_howMany_16 (by decide) (fun h16 => ?_) (fun h16 => ?_)
      · simp only [tB0, ne_eq, Bool.not_eq_false, Bool.not_eq_true, decide_eq_true_eq, decide_eq_false_iff_not, Classical.not_not] at h16
        refine E_iconst dX5_howMany_23 (by decide) ?_
        refine E_iadd dX5_howMany_24 (by omega) (by omega) ?_
        refine E_istore_n dX5_howMany_25 rfl (by decide) ?_
        try dsimp only [List.set]
        refine E_iinc dX5_howMany_26 rfl (by omega) (by omega) (by decide) rfl (by decide) ?_
        try dsimp only [List.set]
        refine E_goto (tgt := 4) dX5_howMany_29 (by decide) ?_
        exact EV.lq (by simp only [cnt]; rw [decide_eq_true (by omega)]; rfl) (ih (r + 1) (by omega))
      · simp only [tB0, ne_eq, Bool.not_eq_false, Bool.not_eq_true, decide_eq_true_eq, decide_eq_false_iff_not, Classical.not_not] at h16
        refine E_iconst dX5_howMany_19 (by decide) ?_
        refine E_goto (tgt := 24) dX5_howMany_20 (by decide) ?_
        refine E_iadd dX5_howMany_24 (by omega) (by omega) ?_
        refine E_istore_n dX5_howMany_25 rfl (by decide) ?_
        try dsimp only [List.set]
        refine E_iinc dX5_howMany_26 rfl (by omega) (by omega) (by decide) rfl (by decide) ?_
        try dsimp only [List.set]
        refine E_goto (tgt := 4) dX5_howMany_29 (by decide) ?_
        exact EV.lq (by simp only [cnt]; rw [decide_eq_false (by omega)]; rfl) (ih (r + 1) (by omega))
set_option maxRecDepth 20000 in
set_option maxHeartbeats 3000000 in
theorem c_howMany {G : Ctx} {M : Mem} {a : Nat} (hP : RP M a) {g : Int → Int} (hg : ∀ k : Int, 0 ≤ k → k < 8 → mI M (a + 1) k = g k) (hl : ∀ k : Int, 0 ≤ k → k < 8 → -1 ≤ g k) : CT G m_X5_howMany 1 0 0 [vR a] M (rI M (cnt (fun r => decide (0 ≤ g r)) 8)) := by
  refine CT.of k_X5_howMany 2 (ls := [some (vR a), none, none]) rfl (Nat.le_of_ble_eq_true rfl) ?_
  refine E_iconst dX5_howMany_0 (by decide) ?_
  refine E_istore_n dX5_howMany_1 rfl (by decide) ?_
  try dsimp only [List.set]
  refine E_iconst dX5_howMany_2 (by decide) ?_
  refine E_istore_n dX5_howMany_3 rfl (by decide) ?_
  try dsimp only [List.set]
  exact l_howMany hP hg hl 8 0 (by omega)
