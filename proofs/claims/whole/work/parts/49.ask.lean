theorem tw_983 : Cond.methodLink "CourtWash" 288 ⟨"CourtWash$Piece", "size", "()I"⟩ ∈ AW := aw_mem (List.mem_of_getElem? (i := 983) (by decide +kernel)) (by decide +kernel)
theorem tw_985 : Cond.sameMethod "CourtWash$Piece" "CourtWash$Piece" "size" "()I" ∈ AW := aw_mem (List.mem_of_getElem? (i := 985) (by decide +kernel)) (by decide +kernel)
theorem tw_1011 : Cond.selects "CourtWash$Red" ⟨"CourtWash$Piece", "size", "()I"⟩ yX4_size ∈ AW := aw_mem (List.mem_of_getElem? (i := 1011) (by decide +kernel)) (by decide +kernel)
theorem tw_994 : Cond.instanceMethod yX4_size ∈ AW := aw_mem (List.mem_of_getElem? (i := 994) (by decide +kernel)) (by decide +kernel)
theorem tw_984 : Cond.instanceMethod ⟨"CourtWash$Piece", "size", "()I"⟩ ∈ AW := aw_mem (List.mem_of_getElem? (i := 984) (by decide +kernel)) (by decide +kernel)
theorem tw_1024 : Cond.methodLink "CourtWash" 293 ⟨"CourtWash$Piece", "mark", "()I"⟩ ∈ AW := aw_mem (List.mem_of_getElem? (i := 1024) (by decide +kernel)) (by decide +kernel)
theorem tw_1483 : Cond.sameMethod "CourtWash$Piece" "CourtWash$Piece" "mark" "()I" ∈ AW := aw_mem (List.mem_of_getElem? (i := 1483) (by decide +kernel)) (by decide +kernel)
theorem tw_1486 : Cond.selects "CourtWash$Red" ⟨"CourtWash$Piece", "mark", "()I"⟩ yX4_mark ∈ AW := aw_mem (List.mem_of_getElem? (i := 1486) (by decide +kernel)) (by decide +kernel)
theorem tw_999 : Cond.instanceMethod yX4_mark ∈ AW := aw_mem (List.mem_of_getElem? (i := 999) (by decide +kernel)) (by decide +kernel)
theorem tw_1008 : Cond.instanceMethod ⟨"CourtWash$Piece", "mark", "()I"⟩ ∈ AW := aw_mem (List.mem_of_getElem? (i := 1008) (by decide +kernel)) (by decide +kernel)
theorem tw_986 : Cond.selects "CourtWash$Black" ⟨"CourtWash$Piece", "size", "()I"⟩ yX0_size ∈ AW := aw_mem (List.mem_of_getElem? (i := 986) (by decide +kernel)) (by decide +kernel)
theorem tw_987 : Cond.instanceMethod yX0_size ∈ AW := aw_mem (List.mem_of_getElem? (i := 987) (by decide +kernel)) (by decide +kernel)
theorem tw_1485 : Cond.selects "CourtWash$Black" ⟨"CourtWash$Piece", "mark", "()I"⟩ yX0_mark ∈ AW := aw_mem (List.mem_of_getElem? (i := 1485) (by decide +kernel)) (by decide +kernel)
theorem tw_1003 : Cond.instanceMethod yX0_mark ∈ AW := aw_mem (List.mem_of_getElem? (i := 1003) (by decide +kernel)) (by decide +kernel)
theorem tw_1022 : Cond.selects "CourtWash$Wool" ⟨"CourtWash$Piece", "size", "()I"⟩ yX10_size ∈ AW := aw_mem (List.mem_of_getElem? (i := 1022) (by decide +kernel)) (by decide +kernel)
theorem tw_1018 : Cond.instanceMethod yX10_size ∈ AW := aw_mem (List.mem_of_getElem? (i := 1018) (by decide +kernel)) (by decide +kernel)
theorem tw_1490 : Cond.selects "CourtWash$Wool" ⟨"CourtWash$Piece", "mark", "()I"⟩ yX2_mark ∈ AW := aw_mem (List.mem_of_getElem? (i := 1490) (by decide +kernel)) (by decide +kernel)
theorem tw_1012 : Cond.selects "CourtWash$Sheet" ⟨"CourtWash$Piece", "size", "()I"⟩ yX2_size ∈ AW := aw_mem (List.mem_of_getElem? (i := 1012) (by decide +kernel)) (by decide +kernel)
theorem tw_1487 : Cond.selects "CourtWash$Sheet" ⟨"CourtWash$Piece", "mark", "()I"⟩ yX6_mark ∈ AW := aw_mem (List.mem_of_getElem? (i := 1487) (by decide +kernel)) (by decide +kernel)
theorem tw_1025 : Cond.instanceMethod yX6_mark ∈ AW := aw_mem (List.mem_of_getElem? (i := 1025) (by decide +kernel)) (by decide +kernel)
theorem tw_1013 : Cond.selects "CourtWash$Sock" ⟨"CourtWash$Piece", "size", "()I"⟩ yX7_size ∈ AW := aw_mem (List.mem_of_getElem? (i := 1013) (by decide +kernel)) (by decide +kernel)
theorem tw_1014 : Cond.instanceMethod yX7_size ∈ AW := aw_mem (List.mem_of_getElem? (i := 1014) (by decide +kernel)) (by decide +kernel)
theorem tw_1488 : Cond.selects "CourtWash$Sock" ⟨"CourtWash$Piece", "mark", "()I"⟩ yX7_mark ∈ AW := aw_mem (List.mem_of_getElem? (i := 1488) (by decide +kernel)) (by decide +kernel)
theorem tw_1033 : Cond.instanceMethod yX7_mark ∈ AW := aw_mem (List.mem_of_getElem? (i := 1033) (by decide +kernel)) (by decide +kernel)
/-! ===== 49: ask of the class ===== -/
theorem bgA_ne {c : Nat} {j : Int} (h1 : ¬ (c = 0 ∧ j = 27)) (h2 : c ≠ 14) : ∀ (L : List Int) (I : AS), bgA I L c j = I c j
  | [], _ => rfl
  | b :: L, I => (bgA_ne h1 h2 L (trI I 0 0 14 27 b)).trans (trI_ne I h1 h2)
theorem bgA_b : ∀ (L : List Int) (I : AS), (0 ≤ I 0 27 ∧ I 0 27 ≤ 16) → 0 ≤ bgA I L 0 27 ∧ bgA I L 0 27 ≤ 16
  | [], _, h => h
  | b :: L, I, h => bgA_b L (trI I 0 0 14 27 b) (trI_b h)
theorem QC.tr {I A : AS} (h : QC I A) (hb : 0 ≤ A 0 27) (b : Int) : QC (trI I 28 0 (28 + 1) 1 b) (trI A 0 0 14 27 b) := by
  obtain ⟨h1, h2⟩ := h
  unfold trI
  rw [h1]
  split
  · refine ⟨by rw [up2_self, up2_self], fun j j0 j1 => ?_⟩
    rw [up2_self] at j1
    have e1 : up2 (up2 I (28 + 1) (A 0 27) b) 28 1 (A 0 27 + 1) 29 j = up2 I 29 (A 0 27) b 29 j := up2_ne _ _ (by omega)
    have e2 : up2 (up2 A 14 (A 0 27) b) 0 27 (A 0 27 + 1) 14 j = up2 A 14 (A 0 27) b 14 j := up2_ne _ _ (by omega)
    rw [e1, e2]
    by_cases hj : j = A 0 27
    · rw [hj, up2_self, up2_self]
    · rw [up2_ne _ _ (by omega), up2_ne _ _ (by omega)]; exact h2 j j0 (by omega)
  · exact ⟨h1, h2⟩
theorem QC.bg : ∀ (L : List Int) {I A : AS}, QC I A → (0 ≤ A 0 27 ∧ A 0 27 ≤ 16) → QC (bgI I L) (bgA A L)
  | [], _, _, h, _ => h
  | b :: L, _, _, h, hb => QC.bg L (h.tr hb.1 b) (trI_b hb)
theorem CI.bg {M : Mem} {A : AS} (h : CI M A) (hb : 0 ≤ A 0 27 ∧ A 0 27 ≤ 16) (L : List Int) : CI (mJ M (bgI (mI M) L)) (bgA A L) :=
  h.j (fun b j hb => bgI_ne (by omega) (by omega) _ _ _) (h.2.2.1.cg (fun j => bgI_ne (by omega) (by omega) _ _ _) (fun j => bgI_ne (by omega) (by omega) _ _ _) (fun j => bgI_ne (by omega) (by omega) _ _ _) (fun j => bgA_ne (by omega) (by omega) _ _) (fun j => bgA_ne (by omega) (by omega) _ _) (fun j => bgA_ne (by omega) (by omega) _ _)) (h.2.2.2.1.cg (bgI_ne (by omega) (by omega) _ _ _) (fun j => bgI_ne (by omega) (by omega) _ _ _) (bgA_ne (by omega) (by omega) _ _) (fun j => bgA_ne (by omega) (by omega) _ _)) (QC.bg L h.2.2.2.2.1 hb) (h.2.2.2.2.2.1.cg (bgI_ne (by omega) (by omega) _ _ _) (bgI_ne (by omega) (by omega) _ _ _) (bgA_ne (by omega) (by omega) _ _) (bgA_ne (by omega) (by omega) _ _)) (fun j => bgA_ne (by omega) (by omega) _ _) (fun j => bgA_ne (by omega) (by omega) _ _)
theorem CI.tr0 {M : Mem} {A : AS} (h : CI M A) : CI (mJ M (up2 (mI M) 28 1 0)) (up2 A 0 27 0) :=
  h.j (fun b j hb => up2_ne _ _ (by omega)) (h.2.2.1.cg (fun j => up2_ne _ _ (by omega)) (fun j => up2_ne _ _ (by omega)) (fun j => up2_ne _ _ (by omega)) (fun j => up2_ne _ _ (by omega)) (fun j => up2_ne _ _ (by omega)) (fun j => up2_ne _ _ (by omega))) (h.2.2.2.1.cg (up2_ne _ _ (by omega)) (fun j => up2_ne _ _ (by omega)) (up2_ne _ _ (by omega)) (fun j => up2_ne _ _ (by omega))) ⟨by rw [up2_self, up2_self], fun j j0 j1 => by rw [up2_self] at j1; omega⟩ (h.2.2.2.2.2.1.cg (up2_ne _ _ (by omega)) (up2_ne _ _ (by omega)) (up2_ne _ _ (by omega)) (up2_ne _ _ (by omega))) (fun j => up2_ne _ _ (by omega)) (fun j => up2_ne _ _ (by omega))
theorem GA.ask {A : AS} {B : Int} (h : GA A B) (p w : Int) : GA (t_ask A p w) B := by
  unfold t_ask
  split
  · have hb : 0 ≤ up2 A 0 27 0 0 27 ∧ up2 A 0 27 0 0 27 ≤ 16 := by rw [up2_self]; omega
    have e : ∀ k (j : Int), k ≠ 14 → ¬ (k = 0 ∧ j = 27) → bgA (up2 A 0 27 0) (askL (A 4 (84 + 6 * p)) w) k j = A k j := fun k j q1 q2 => (bgA_ne q2 q1 _ _).trans (up2_ne _ _ q2)
    exact h.cg (fun r r0 r1 => by rw [e _ _ (by omega) (by omega)]; exact h.ln r0 r1) (fun r r0 r1 => by rw [e _ _ (by omega) (by omega)]; exact h.sz r0 r1) (fun j => e _ _ (by omega) (by omega)) (e _ _ (by omega) (by omega)) (by rw [e _ _ (by omega) (by omega)]; exact h.tn) (fun j j0 j1 => by rw [e _ _ (by omega) (by omega)] at j1 ⊢; exact h.tp j0 j1) (bgA_b _ _ hb) (fun j => e _ _ (by omega) (by omega)) (fun j => e _ _ (by omega) (by omega))
  · exact h
theorem GA.as {A : AS} {B : Int} (h : GA A B) (p f : Int) : GA (t_as A p f) B := by
  unfold t_as
  split
  · split
    · exact h.st (fun k j _ hk => up2_ne _ _ (by omega))
    · exact h.st (fun k j _ hk => (up2_ne _ _ (by omega)).trans (up2_ne _ _ (by omega)))
  · exact h
set_option maxRecDepth 20000 in
set_option maxHeartbeats 3000000 in
theorem x_ask1 {G : Ctx} {M : Mem} {A : AS} {B : Int} (hI : CI M A) (hG : GA A B) (hB : B ≤ 900000) {p w : Int} (p0 : 0 ≤ p ∧ p ≤ A 4 2 - 1) (w0 : 0 ≤ w ∧ w ≤ 1) (hk : A 4 (84 + 6 * p) = 1) : CT G m_X11_ask 6 1 4 [vR 21, vI p, vI w] M (xM M (s_ask A p w) (t_ask A p w)) := by
  refine CT.of k_X11_ask 1 (ls := [some (vR 21), some (vI p), some (vI w), none]) rfl (Nat.le_of_ble_eq_true rfl) ?_
  obtain ⟨hX, hN, hR, hT, hK, hS, hW0, hW1, hW2⟩ := id hI
  obtain ⟨a, hRc, hC, ha, haN, hD, hH, hE, hSn, hg, hZ⟩ := hW0
  have hW := hG.w.c
  have hpn := hW.pn
  have hl8 := hW.ln
  have hr8 := hW.rn
  have hgg := hG.w.g
  have hth := hG.th
  have hV := hG.w.hv
  refine E_aload_n dX11_ask_0 rfl ?_
  refine E_iload_n dX11_ask_1 rfl ?_
  refine i_X11_134 rfl dX11_ask_2 (by exact hX.o) (c_isPiece hX hRc hC hD hW) (by omega) (Nat.le_of_ble_eq_true rfl) rfl rfl ?_
  rintro _ _ ⟨rfl, rfl⟩
  try dsimp only [pu]
  refine E_if_eq (tgt := 17) dX11_ask_5 (by decide) (fun h5 => ?_) (fun h5 => ?_)
  · exfalso; rw [decide_eq_true (by omega)] at h5; exact absurd h5 (by decide)
  · simp only [tB0, ne_eq, Bool.not_eq_false, Bool.not_eq_true, decide_eq_true_eq, decide_eq_false_iff_not, Classical.not_not] at h5
    refine E_iload_n dX11_ask_8 rfl ?_
    refine E_iconst dX11_ask_9 (by decide) ?_
    refine E_iconst dX11_ask_10 (by decide) ?_
    refine i_X11_68 rfl dX11_ask_11 c_isIn (by omega) (Nat.le_of_ble_eq_true rfl) rfl rfl ?_
    rintro _ _ ⟨rfl, rfl⟩
    try dsimp only [pu]
    refine E_if_ne (tgt := 20) dX11_ask_14 (by decide) (fun h14 => ?_) (fun h14 => ?_)
    · simp only [tB0, ne_eq, Bool.not_eq_false, Bool.not_eq_true, decide_eq_true_eq, decide_eq_false_iff_not, Classical.not_not] at h14
      refine E_aload_n dX11_ask_20 rfl ?_
      refine g_X11_26 rfl dX11_ask_21 hX.o hX.trace ?_
      refine i_X11_285 rfl dX11_ask_24 (by exact hX.tq.o) (c_tEmpty (by exact hX.tq.o)) (by omega) (Nat.le_of_ble_eq_true rfl) rfl rfl ?_
      rintro _ _ ⟨rfl, J, rfl, rfl⟩
      have hD1 : CC (up2 (mI M) 28 1 0) a (A 4) := hD.off (fun b j b0 b1 => up2_ne _ _ (by omega))
      have hE1 : EC (up2 (mI M) 28 1 0) 47 (A 4) (cWe (A 4)) := fun q q0 q1 => (up2_ne _ _ (by omega)).trans (hE q q0 q1)
      have hw9 := hG.w.we p (by omega) (by omega)
      have hya := hW.ya (p := p) (by omega) (by omega)
      try dsimp only [pu]
      refine E_aload_n dX11_ask_27 rfl ?_
      refine E_iload_n dX11_ask_28 rfl ?_
      refine i_X11_277 rfl dX11_ask_29 (by exact hX.o) (c_pieceAsked1 (by exact hX) (by exact hRc) (by exact hC) (by exact hD1) hW (by exact hE1) (by omega) (by omega) (by exact hN) hk) (by omega) (Nat.le_of_ble_eq_true rfl) rfl rfl ?_
      rintro _ M9 ⟨rfl, hM9⟩
      have hE9 : EX (mJ M (up2 (mI M) 28 1 0)) M9 := by rw [hM9]; exact mPc_ex _ _ _ _ _
      have hP9 : PQ M9 (mN M) 3 p (cWe (A 4) p) (A 4 (87 + 6 * p)) := by rw [hM9]; exact mPc_pq hN hX.tq (by show 0 ≤ up2 (mI M) 28 1 0 28 1 ∧ up2 (mI M) 28 1 0 28 1 ≤ 16; rw [up2_self]; omega) (by omega) hw9 hya
      have hI9 := hI.tr0.ex hE9
      have hF9 : FX M M9 := ((FX.rfl' M).j (J := up2 (mI M) 28 1 0) (fun b j b0 b1 => up2_ne _ _ (by omega))).tr (FX.ex hN hE9)
      have hb9 : 0 ≤ up2 A 0 27 0 0 27 ∧ up2 A 0 27 0 0 27 ≤ 16 := by rw [up2_self]; omega
      clear hM9
      try dsimp only [pu]
      refine E_astore_n dX11_ask_32 rfl (by decide) ?_
      try dsimp only [List.set]
      refine E_iload_n dX11_ask_33 rfl ?_
      refine E_if_ne (tgt := 44) dX11_ask_34 (by decide) (fun h34 => ?_) (fun h34 => ?_)
      · refine E_aload_n dX11_ask_44 rfl ?_
        refine E_callO (mt' := m_X4_mark) (ci := 3) (x := ⟨"CourtWash$Piece", "mark", "()I"⟩) (owner := "CourtWash$Piece") k_X2_mark.1 tw_1024 tw_1483 tw_1008 tw_1486 tw_999 (by decide +kernel) rfl (by exact hP9.o) dX11_ask_45 k_X4_mark (c_X4_mark_3 hP9) (by omega) (Nat.le_of_ble_eq_true rfl) ?_
        rintro _ _ ⟨rfl, rfl⟩
        try dsimp only [pu]
        refine E_iret dX11_ask_48 rfl ?_
        refine ⟨?_, ?_, hF9.j (fun b j b0 b1 => bgI_ne (by omega) (by omega) _ _ _)⟩
        · unfold s_ask askV; rw [if_pos (by omega), hk]; rw [if_neg (by omega)]; rfl
        · have e : askL (A 4 (84 + 6 * p)) w = [21, 20] := by unfold askL; rw [hk, if_neg (by omega)]; rfl
          unfold t_ask; rw [if_pos (by omega), e]; exact hI9.bg hb9 _
      · refine E_aload_n dX11_ask_37 rfl ?_
        refine E_callO (mt' := m_X4_size) (ci := 3) (x := ⟨"CourtWash$Piece", "size", "()I"⟩) (owner := "CourtWash$Piece") k_X2_size.1 tw_983 tw_985 tw_984 tw_1011 tw_994 (by decide +kernel) rfl (by exact hP9.o) dX11_ask_38 k_X4_size (c_X4_size_3 hP9) (by omega) (Nat.le_of_ble_eq_true rfl) ?_
        rintro _ _ ⟨rfl, rfl⟩
        try dsimp only [pu]
        refine E_goto (tgt := 48) dX11_ask_41 (by decide) ?_
        refine E_iret dX11_ask_48 rfl ?_
        refine ⟨?_, ?_, hF9.j (fun b j b0 b1 => bgI_ne (by omega) (by omega) _ _ _)⟩
        · unfold s_ask askV; rw [if_pos (by omega), hk]; rw [if_pos (by omega)]; rfl
        · have e : askL (A 4 (84 + 6 * p)) w = [11, 10, 21, 20] := by unfold askL; rw [hk, if_pos (by omega)]; rfl
          unfold t_ask; rw [if_pos (by omega), e]; exact hI9.bg hb9 _
    · exfalso; rw [decide_eq_true (by omega)] at h14; exact h14 (by decide)
set_option maxRecDepth 20000 in
set_option maxHeartbeats 3000000 in
theorem x_ask2 {G : Ctx} {M : Mem} {A : AS} {B : Int} (hI : CI M A) (hG : GA A B) (hB : B ≤ 900000) {p w : Int} (p0 : 0 ≤ p ∧ p ≤ A 4 2 - 1) (w0 : 0 ≤ w ∧ w ≤ 1) (hk : A 4 (84 + 6 * p) = 2) : CT G m_X11_ask 6 1 4 [vR 21, vI p, vI w] M (xM M (s_ask A p w) (t_ask A p w)) := by
  refine CT.of k_X11_ask 1 (ls := [some (vR 21), some (vI p), some (vI w), none]) rfl (Nat.le_of_ble_eq_true rfl) ?_
  obtain ⟨hX, hN, hR, hT, hK, hS, hW0, hW1, hW2⟩ := id hI
  obtain ⟨a, hRc, hC, ha, haN, hD, hH, hE, hSn, hg, hZ⟩ := hW0
  have hW := hG.w.c
  have hpn := hW.pn
  have hl8 := hW.ln
  have hr8 := hW.rn
  have hgg := hG.w.g
  have hth := hG.th
  have hV := hG.w.hv
  refine E_aload_n dX11_ask_0 rfl ?_
  refine E_iload_n dX11_ask_1 rfl ?_
  refine i_X11_134 rfl dX11_ask_2 (by exact hX.o) (c_isPiece hX hRc hC hD hW) (by omega) (Nat.le_of_ble_eq_true rfl) rfl rfl ?_
  rintro _ _ ⟨rfl, rfl⟩
  try dsimp only [pu]
  refine E_if_eq (tgt := 17) dX11_ask_5 (by decide) (fun h5 => ?_) (fun h5 => ?_)
  · exfalso; rw [decide_eq_true (by omega)] at h5; exact absurd h5 (by decide)
  · simp only [tB0, ne_eq, Bool.not_eq_false, Bool.not_eq_true, decide_eq_true_eq, decide_eq_false_iff_not, Classical.not_not] at h5
    refine E_iload_n dX11_ask_8 rfl ?_
    refine E_iconst dX11_ask_9 (by decide) ?_
    refine E_iconst dX11_ask_10 (by decide) ?_
    refine i_X11_68 rfl dX11_ask_11 c_isIn (by omega) (Nat.le_of_ble_eq_true rfl) rfl rfl ?_
    rintro _ _ ⟨rfl, rfl⟩
    try dsimp only [pu]
    refine E_if_ne (tgt := 20) dX11_ask_14 (by decide) (fun h14 => ?_) (fun h14 => ?_)
    · simp only [tB0, ne_eq, Bool.not_eq_false, Bool.not_eq_true, decide_eq_true_eq, decide_eq_false_iff_not, Classical.not_not] at h14
      refine E_aload_n dX11_ask_20 rfl ?_
      refine g_X11_26 rfl dX11_ask_21 hX.o hX.trace ?_
      refine i_X11_285 rfl dX11_ask_24 (by exact hX.tq.o) (c_tEmpty (by exact hX.tq.o)) (by omega) (Nat.le_of_ble_eq_true rfl) rfl rfl ?_
      rintro _ _ ⟨rfl, J, rfl, rfl⟩
      have hD1 : CC (up2 (mI M) 28 1 0) a (A 4) := hD.off (fun b j b0 b1 => up2_ne _ _ (by omega))
      have hE1 : EC (up2 (mI M) 28 1 0) 47 (A 4) (cWe (A 4)) := fun q q0 q1 => (up2_ne _ _ (by omega)).trans (hE q q0 q1)
      have hw9 := hG.w.we p (by omega) (by omega)
      have hya := hW.ya (p := p) (by omega) (by omega)
      try dsimp only [pu]
      refine E_aload_n dX11_ask_27 rfl ?_
      refine E_iload_n dX11_ask_28 rfl ?_
      refine i_X11_277 rfl dX11_ask_29 (by exact hX.o) (c_pieceAsked2 (by exact hX) (by exact hRc) (by exact hC) (by exact hD1) hW (by exact hE1) (by omega) (by omega) (by exact hN) hk) (by omega) (Nat.le_of_ble_eq_true rfl) rfl rfl ?_
      rintro _ M9 ⟨rfl, hM9⟩
      have hE9 : EX (mJ M (up2 (mI M) 28 1 0)) M9 := by rw [hM9]; exact mPc_ex _ _ _ _ _
      have hP9 : PQ M9 (mN M) 0 p (cWe (A 4) p) (A 4 (87 + 6 * p)) := by rw [hM9]; exact mPc_pq hN hX.tq (by show 0 ≤ up2 (mI M) 28 1 0 28 1 ∧ up2 (mI M) 28 1 0 28 1 ≤ 16; rw [up2_self]; omega) (by omega) hw9 hya
      have hI9 := hI.tr0.ex hE9
      have hF9 : FX M M9 := ((FX.rfl' M).j (J := up2 (mI M) 28 1 0) (fun b j b0 b1 => up2_ne _ _ (by omega))).tr (FX.ex hN hE9)
      have hb9 : 0 ≤ up2 A 0 27 0 0 27 ∧ up2 A 0 27 0 0 27 ≤ 16 := by rw [up2_self]; omega
      clear hM9
      try dsimp only [pu]
      refine E_astore_n dX11_ask_32 rfl (by decide) ?_
      try dsimp only [List.set]
      refine E_iload_n dX11_ask_33 rfl ?_
      refine E_if_ne (tgt := 44) dX11_ask_34 (by decide) (fun h34 => ?_) (fun h34 => ?_)
      · refine E_aload_n dX11_ask_44 rfl ?_
        refine E_callO (mt' := m_X0_mark) (ci := 0) (x := ⟨"CourtWash$Piece", "mark", "()I"⟩) (owner := "CourtWash$Piece") k_X2_mark.1 tw_1024 tw_1483 tw_1008 tw_1485 tw_1003 (by decide +kernel) rfl (by exact hP9.o) dX11_ask_45 k_X0_mark (c_X0_mark_0 hP9) (by omega) (Nat.le_of_ble_eq_true rfl) ?_
        rintro _ _ ⟨rfl, rfl⟩
        try dsimp only [pu]
        refine E_iret dX11_ask_48 rfl ?_
        refine ⟨?_, ?_, hF9.j (fun b j b0 b1 => bgI_ne (by omega) (by omega) _ _ _)⟩
        · unfold s_ask askV; rw [if_pos (by omega), hk]; rw [if_neg (by omega)]; rfl
        · have e : askL (A 4 (84 + 6 * p)) w = [24, 21, 20] := by unfold askL; rw [hk, if_neg (by omega)]; rfl
          unfold t_ask; rw [if_pos (by omega), e]; exact hI9.bg hb9 _
      · refine E_aload_n dX11_ask_37 rfl ?_
        refine E_callO (mt' := m_X0_size) (ci := 0) (x := ⟨"CourtWash$Piece", "size", "()I"⟩) (owner := "CourtWash$Piece") k_X2_size.1 tw_983 tw_985 tw_984 tw_986 tw_987 (by decide +kernel) rfl (by exact hP9.o) dX11_ask_38 k_X0_size (c_X0_size_0 hP9) (by omega) (Nat.le_of_ble_eq_true rfl) ?_
        rintro _ _ ⟨rfl, rfl⟩
        try dsimp only [pu]
        refine E_goto (tgt := 48) dX11_ask_41 (by decide) ?_
        refine E_iret dX11_ask_48 rfl ?_
        refine ⟨?_, ?_, hF9.j (fun b j b0 b1 => bgI_ne (by omega) (by omega) _ _ _)⟩
        · unfold s_ask askV; rw [if_pos (by omega), hk]; rw [if_pos (by omega)]; rfl
        · have e : askL (A 4 (84 + 6 * p)) w = [12, 11, 10, 24, 21, 20] := by unfold askL; rw [hk, if_pos (by omega)]; rfl
          unfold t_ask; rw [if_pos (by omega), e]; exact hI9.bg hb9 _
    · exfalso; rw [decide_eq_true (by omega)] at h14; exact h14 (by decide)
set_option maxRecDepth 20000 in
set_option maxHeartbeats 3000000 in
theorem x_ask3 {G : Ctx} {M : Mem} {A : AS} {B : Int} (hI : CI M A) (hG : GA A B) (hB : B ≤ 900000) {p w : Int} (p0 : 0 ≤ p ∧ p ≤ A 4 2 - 1) (w0 : 0 ≤ w ∧ w ≤ 1) (hk : A 4 (84 + 6 * p) = 3) : CT G m_X11_ask 6 1 4 [vR 21, vI p, vI w] M (xM M (s_ask A p w) (t_ask A p w)) := by
  refine CT.of k_X11_ask 1 (ls := [some (vR 21), some (vI p), some (vI w), none]) rfl (Nat.le_of_ble_eq_true rfl) ?_
  obtain ⟨hX, hN, hR, hT, hK, hS, hW0, hW1, hW2⟩ := id hI
  obtain ⟨a, hRc, hC, ha, haN, hD, hH, hE, hSn, hg, hZ⟩ := hW0
  have hW := hG.w.c
  have hpn := hW.pn
  have hl8 := hW.ln
  have hr8 := hW.rn
  have hgg := hG.w.g
  have hth := hG.th
  have hV := hG.w.hv
  refine E_aload_n dX11_ask_0 rfl ?_
  refine E_iload_n dX11_ask_1 rfl ?_
  refine i_X11_134 rfl dX11_ask_2 (by exact hX.o) (c_isPiece hX hRc hC hD hW) (by omega) (Nat.le_of_ble_eq_true rfl) rfl rfl ?_
  rintro _ _ ⟨rfl, rfl⟩
  try dsimp only [pu]
  refine E_if_eq (tgt := 17) dX11_ask_5 (by decide) (fun h5 => ?_) (fun h5 => ?_)
  · exfalso; rw [decide_eq_true (by omega)] at h5; exact absurd h5 (by decide)
  · simp only [tB0, ne_eq, Bool.not_eq_false, Bool.not_eq_true, decide_eq_true_eq, decide_eq_false_iff_not, Classical.not_not] at h5
    refine E_iload_n dX11_ask_8 rfl ?_
    refine E_iconst dX11_ask_9 (by decide) ?_
    refine E_iconst dX11_ask_10 (by decide) ?_
    refine i_X11_68 rfl dX11_ask_11 c_isIn (by omega) (Nat.le_of_ble_eq_true rfl) rfl rfl ?_
    rintro _ _ ⟨rfl, rfl⟩
    try dsimp only [pu]
    refine E_if_ne (tgt := 20) dX11_ask_14 (by decide) (fun h14 => ?_) (fun h14 => ?_)
    · simp only [tB0, ne_eq, Bool.not_eq_false, Bool.not_eq_true, decide_eq_true_eq, decide_eq_false_iff_not, Classical.not_not] at h14
      refine E_aload_n dX11_ask_20 rfl ?_
      refine g_X11_26 rfl dX11_ask_21 hX.o hX.trace ?_
      refine i_X11_285 rfl dX11_ask_24 (by exact hX.tq.o) (c_tEmpty (by exact hX.tq.o)) (by omega) (Nat.le_of_ble_eq_true rfl) rfl rfl ?_
      rintro _ _ ⟨rfl, J, rfl, rfl⟩
      have hD1 : CC (up2 (mI M) 28 1 0) a (A 4) := hD.off (fun b j b0 b1 => up2_ne _ _ (by omega))
      have hE1 : EC (up2 (mI M) 28 1 0) 47 (A 4) (cWe (A 4)) := fun q q0 q1 => (up2_ne _ _ (by omega)).trans (hE q q0 q1)
      have hw9 := hG.w.we p (by omega) (by omega)
      have hya := hW.ya (p := p) (by omega) (by omega)
      try dsimp only [pu]
      refine E_aload_n dX11_ask_27 rfl ?_
      refine E_iload_n dX11_ask_28 rfl ?_
      refine i_X11_277 rfl dX11_ask_29 (by exact hX.o) (c_pieceAsked3 (by exact hX) (by exact hRc) (by exact hC) (by exact hD1) hW (by exact hE1) (by omega) (by omega) (by exact hN) hk) (by omega) (Nat.le_of_ble_eq_true rfl) rfl rfl ?_
      rintro _ M9 ⟨rfl, hM9⟩
      have hE9 : EX (mJ M (up2 (mI M) 28 1 0)) M9 := by rw [hM9]; exact mPc_ex _ _ _ _ _
      have hP9 : PQ M9 (mN M) 9 p (cWe (A 4) p) (A 4 (87 + 6 * p)) := by rw [hM9]; exact mPc_pq hN hX.tq (by show 0 ≤ up2 (mI M) 28 1 0 28 1 ∧ up2 (mI M) 28 1 0 28 1 ≤ 16; rw [up2_self]; omega) (by omega) hw9 hya
      have hI9 := hI.tr0.ex hE9
      have hF9 : FX M M9 := ((FX.rfl' M).j (J := up2 (mI M) 28 1 0) (fun b j b0 b1 => up2_ne _ _ (by omega))).tr (FX.ex hN hE9)
      have hb9 : 0 ≤ up2 A 0 27 0 0 27 ∧ up2 A 0 27 0 0 27 ≤ 16 := by rw [up2_self]; omega
      clear hM9
      try dsimp only [pu]
      refine E_astore_n dX11_ask_32 rfl (by decide) ?_
      try dsimp only [List.set]
      refine E_iload_n dX11_ask_33 rfl ?_
      refine E_if_ne (tgt := 44) dX11_ask_34 (by decide) (fun h34 => ?_) (fun h34 => ?_)
      · refine E_aload_n dX11_ask_44 rfl ?_
        refine E_callU (mt' := m_X2_mark) (ci := 9) (x := ⟨"CourtWash$Piece", "mark", "()I"⟩) (owner := "CourtWash$Piece") rfl tw_1024 tw_1483 tw_1490 tw_1008 (by decide +kernel) rfl (by exact hP9.o) dX11_ask_45 k_X2_mark (c_X2_mark_9 hP9) (by omega) (Nat.le_of_ble_eq_true rfl) ?_
        rintro _ _ ⟨rfl, rfl⟩
        try dsimp only [pu]
        refine E_iret dX11_ask_48 rfl ?_
        refine ⟨?_, ?_, hF9.j (fun b j b0 b1 => bgI_ne (by omega) (by omega) _ _ _)⟩
        · unfold s_ask askV; rw [if_pos (by omega), hk]; rw [if_neg (by omega)]; rfl
        · have e : askL (A 4 (84 + 6 * p)) w = [20] := by unfold askL; rw [hk, if_neg (by omega)]; rfl
          unfold t_ask; rw [if_pos (by omega), e]; exact hI9.bg hb9 _
      · refine E_aload_n dX11_ask_37 rfl ?_
        refine E_callO (mt' := m_X10_size) (ci := 9) (x := ⟨"CourtWash$Piece", "size", "()I"⟩) (owner := "CourtWash$Piece") k_X2_size.1 tw_983 tw_985 tw_984 tw_1022 tw_1018 (by decide +kernel) rfl (by exact hP9.o) dX11_ask_38 k_X10_size (c_X10_size_9 hP9) (by omega) (Nat.le_of_ble_eq_true rfl) ?_
        rintro _ _ ⟨rfl, rfl⟩
        try dsimp only [pu]
        refine E_goto (tgt := 48) dX11_ask_41 (by decide) ?_
        refine E_iret dX11_ask_48 rfl ?_
        refine ⟨?_, ?_, hF9.j (fun b j b0 b1 => bgI_ne (by omega) (by omega) _ _ _)⟩
        · unfold s_ask askV; rw [if_pos (by omega), hk]; rw [if_pos (by omega)]; rfl
        · have e : askL (A 4 (84 + 6 * p)) w = [13, 10] := by unfold askL; rw [hk, if_pos (by omega)]; rfl
          unfold t_ask; rw [if_pos (by omega), e]; exact hI9.bg hb9 _
    · exfalso; rw [decide_eq_true (by omega)] at h14; exact h14 (by decide)
set_option maxRecDepth 20000 in
set_option maxHeartbeats 3000000 in
theorem x_ask4 {G : Ctx} {M : Mem} {A : AS} {B : Int} (hI : CI M A) (hG : GA A B) (hB : B ≤ 900000) {p w : Int} (p0 : 0 ≤ p ∧ p ≤ A 4 2 - 1) (w0 : 0 ≤ w ∧ w ≤ 1) (hk : A 4 (84 + 6 * p) = 4) : CT G m_X11_ask 6 1 4 [vR 21, vI p, vI w] M (xM M (s_ask A p w) (t_ask A p w)) := by
  refine CT.of k_X11_ask 1 (ls := [some (vR 21), some (vI p), some (vI w), none]) rfl (Nat.le_of_ble_eq_true rfl) ?_
  obtain ⟨hX, hN, hR, hT, hK, hS, hW0, hW1, hW2⟩ := id hI
  obtain ⟨a, hRc, hC, ha, haN, hD, hH, hE, hSn, hg, hZ⟩ := hW0
  have hW := hG.w.c
  have hpn := hW.pn
  have hl8 := hW.ln
  have hr8 := hW.rn
  have hgg := hG.w.g
  have hth := hG.th
  have hV := hG.w.hv
  refine E_aload_n dX11_ask_0 rfl ?_
  refine E_iload_n dX11_ask_1 rfl ?_
  refine i_X11_134 rfl dX11_ask_2 (by exact hX.o) (c_isPiece hX hRc hC hD hW) (by omega) (Nat.le_of_ble_eq_true rfl) rfl rfl ?_
  rintro _ _ ⟨rfl, rfl⟩
  try dsimp only [pu]
  refine E_if_eq (tgt := 17) dX11_ask_5 (by decide) (fun h5 => ?_) (fun h5 => ?_)
  · exfalso; rw [decide_eq_true (by omega)] at h5; exact absurd h5 (by decide)
  · simp only [tB0, ne_eq, Bool.not_eq_false, Bool.not_eq_true, decide_eq_true_eq, decide_eq_false_iff_not, Classical.not_not] at h5
    refine E_iload_n dX11_ask_8 rfl ?_
    refine E_iconst dX11_ask_9 (by decide) ?_
    refine E_iconst dX11_ask_10 (by decide) ?_
    refine i_X11_68 rfl dX11_ask_11 c_isIn (by omega) (Nat.le_of_ble_eq_true rfl) rfl rfl ?_
    rintro _ _ ⟨rfl, rfl⟩
    try dsimp only [pu]
    refine E_if_ne (tgt := 20) dX11_ask_14 (by decide) (fun h14 => ?_) (fun h14 => ?_)
    · simp only [tB0, ne_eq, Bool.not_eq_false, Bool.not_eq_true, decide_eq_true_eq, decide_eq_false_iff_not, Classical.not_not] at h14
      refine E_aload_n dX11_ask_20 rfl ?_
      refine g_X11_26 rfl dX11_ask_21 hX.o hX.trace ?_
      refine i_X11_285 rfl dX11_ask_24 (by exact hX.tq.o) (c_tEmpty (by exact hX.tq.o)) (by omega) (Nat.le_of_ble_eq_true rfl) rfl rfl ?_
      rintro _ _ ⟨rfl, J, rfl, rfl⟩
      have hD1 : CC (up2 (mI M) 28 1 0) a (A 4) := hD.off (fun b j b0 b1 => up2_ne _ _ (by omega))
      have hE1 : EC (up2 (mI M) 28 1 0) 47 (A 4) (cWe (A 4)) := fun q q0 q1 => (up2_ne _ _ (by omega)).trans (hE q q0 q1)
      have hw9 := hG.w.we p (by omega) (by omega)
      have hya := hW.ya (p := p) (by omega) (by omega)
      try dsimp only [pu]
      refine E_aload_n dX11_ask_27 rfl ?_
      refine E_iload_n dX11_ask_28 rfl ?_
      refine i_X11_277 rfl dX11_ask_29 (by exact hX.o) (c_pieceAsked4 (by exact hX) (by exact hRc) (by exact hC) (by exact hD1) hW (by exact hE1) (by omega) (by omega) (by exact hN) hk) (by omega) (Nat.le_of_ble_eq_true rfl) rfl rfl ?_
      rintro _ M9 ⟨rfl, hM9⟩
      have hE9 : EX (mJ M (up2 (mI M) 28 1 0)) M9 := by rw [hM9]; exact mPc_ex _ _ _ _ _
      have hP9 : PQ M9 (mN M) 5 p (cWe (A 4) p) (A 4 (87 + 6 * p)) := by rw [hM9]; exact mPc_pq hN hX.tq (by show 0 ≤ up2 (mI M) 28 1 0 28 1 ∧ up2 (mI M) 28 1 0 28 1 ≤ 16; rw [up2_self]; omega) (by omega) hw9 hya
      have hI9 := hI.tr0.ex hE9
      have hF9 : FX M M9 := ((FX.rfl' M).j (J := up2 (mI M) 28 1 0) (fun b j b0 b1 => up2_ne _ _ (by omega))).tr (FX.ex hN hE9)
      have hb9 : 0 ≤ up2 A 0 27 0 0 27 ∧ up2 A 0 27 0 0 27 ≤ 16 := by rw [up2_self]; omega
      clear hM9
      try dsimp only [pu]
      refine E_astore_n dX11_ask_32 rfl (by decide) ?_
      try dsimp only [List.set]
      refine E_iload_n dX11_ask_33 rfl ?_
      refine E_if_ne (tgt := 44) dX11_ask_34 (by decide) (fun h34 => ?_) (fun h34 => ?_)
      · refine E_aload_n dX11_ask_44 rfl ?_
        refine E_callO (mt' := m_X6_mark) (ci := 5) (x := ⟨"CourtWash$Piece", "mark", "()I"⟩) (owner := "CourtWash$Piece") k_X2_mark.1 tw_1024 tw_1483 tw_1008 tw_1487 tw_1025 (by decide +kernel) rfl (by exact hP9.o) dX11_ask_45 k_X6_mark (c_X6_mark_5 hP9) (by omega) (Nat.le_of_ble_eq_true rfl) ?_
        rintro _ _ ⟨rfl, rfl⟩
        try dsimp only [pu]
        refine E_iret dX11_ask_48 rfl ?_
        refine ⟨?_, ?_, hF9.j (fun b j b0 b1 => bgI_ne (by omega) (by omega) _ _ _)⟩
        · unfold s_ask askV; rw [if_pos (by omega), hk]; rw [if_neg (by omega)]; rfl
        · have e : askL (A 4 (84 + 6 * p)) w = [22, 20, 10] := by unfold askL; rw [hk, if_neg (by omega)]; rfl
          unfold t_ask; rw [if_pos (by omega), e]; exact hI9.bg hb9 _
      · refine E_aload_n dX11_ask_37 rfl ?_
        refine E_callU (mt' := m_X2_size) (ci := 5) (x := ⟨"CourtWash$Piece", "size", "()I"⟩) (owner := "CourtWash$Piece") rfl tw_983 tw_985 tw_1012 tw_984 (by decide +kernel) rfl (by exact hP9.o) dX11_ask_38 k_X2_size (c_X2_size_5 hP9) (by omega) (Nat.le_of_ble_eq_true rfl) ?_
        rintro _ _ ⟨rfl, rfl⟩
        try dsimp only [pu]
        refine E_goto (tgt := 48) dX11_ask_41 (by decide) ?_
        refine E_iret dX11_ask_48 rfl ?_
        refine ⟨?_, ?_, hF9.j (fun b j b0 b1 => bgI_ne (by omega) (by omega) _ _ _)⟩
        · unfold s_ask askV; rw [if_pos (by omega), hk]; rw [if_pos (by omega)]; rfl
        · have e : askL (A 4 (84 + 6 * p)) w = [10] := by unfold askL; rw [hk, if_pos (by omega)]; rfl
          unfold t_ask; rw [if_pos (by omega), e]; exact hI9.bg hb9 _
    · exfalso; rw [decide_eq_true (by omega)] at h14; exact h14 (by decide)
set_option maxRecDepth 20000 in
set_option maxHeartbeats 3000000 in
theorem x_ask5 {G : Ctx} {M : Mem} {A : AS} {B : Int} (hI : CI M A) (hG : GA A B) (hB : B ≤ 900000) {p w : Int} (p0 : 0 ≤ p ∧ p ≤ A 4 2 - 1) (w0 : 0 ≤ w ∧ w ≤ 1) (hk : A 4 (84 + 6 * p) = 5) : CT G m_X11_ask 6 1 4 [vR 21, vI p, vI w] M (xM M (s_ask A p w) (t_ask A p w)) := by
  refine CT.of k_X11_ask 1 (ls := [some (vR 21), some (vI p), some (vI w), none]) rfl (Nat.le_of_ble_eq_true rfl) ?_
  obtain ⟨hX, hN, hR, hT, hK, hS, hW0, hW1, hW2⟩ := id hI
  obtain ⟨a, hRc, hC, ha, haN, hD, hH, hE, hSn, hg, hZ⟩ := hW0
  have hW := hG.w.c
  have hpn := hW.pn
  have hl8 := hW.ln
  have hr8 := hW.rn
  have hgg := hG.w.g
  have hth := hG.th
  have hV := hG.w.hv
  refine E_aload_n dX11_ask_0 rfl ?_
  refine E_iload_n dX11_ask_1 rfl ?_
  refine i_X11_134 rfl dX11_ask_2 (by exact hX.o) (c_isPiece hX hRc hC hD hW) (by omega) (Nat.le_of_ble_eq_true rfl) rfl rfl ?_
  rintro _ _ ⟨rfl, rfl⟩
  try dsimp only [pu]
  refine E_if_eq (tgt := 17) dX11_ask_5 (by decide) (fun h5 => ?_) (fun h5 => ?_)
  · exfalso; rw [decide_eq_true (by omega)] at h5; exact absurd h5 (by decide)
  · simp only [tB0, ne_eq, Bool.not_eq_false, Bool.not_eq_true, decide_eq_true_eq, decide_eq_false_iff_not, Classical.not_not] at h5
    refine E_iload_n dX11_ask_8 rfl ?_
    refine E_iconst dX11_ask_9 (by decide) ?_
    refine E_iconst dX11_ask_10 (by decide) ?_
    refine i_X11_68 rfl dX11_ask_11 c_isIn (by omega) (Nat.le_of_ble_eq_true rfl) rfl rfl ?_
    rintro _ _ ⟨rfl, rfl⟩
    try dsimp only [pu]
    refine E_if_ne (tgt := 20) dX11_ask_14 (by decide) (fun h14 => ?_) (fun h14 => ?_)
    · simp only [tB0, ne_eq, Bool.not_eq_false, Bool.not_eq_true, decide_eq_true_eq, decide_eq_false_iff_not, Classical.not_not] at h14
      refine E_aload_n dX11_ask_20 rfl ?_
      refine g_X11_26 rfl dX11_ask_21 hX.o hX.trace ?_
      refine i_X11_285 rfl dX11_ask_24 (by exact hX.tq.o) (c_tEmpty (by exact hX.tq.o)) (by omega) (Nat.le_of_ble_eq_true rfl) rfl rfl ?_
      rintro _ _ ⟨rfl, J, rfl, rfl⟩
      have hD1 : CC (up2 (mI M) 28 1 0) a (A 4) := hD.off (fun b j b0 b1 => up2_ne _ _ (by omega))
      have hE1 : EC (up2 (mI M) 28 1 0) 47 (A 4) (cWe (A 4)) := fun q q0 q1 => (up2_ne _ _ (by omega)).trans (hE q q0 q1)
      have hw9 := hG.w.we p (by omega) (by omega)
      have hya := hW.ya (p := p) (by omega) (by omega)
      try dsimp only [pu]
      refine E_aload_n dX11_ask_27 rfl ?_
      refine E_iload_n dX11_ask_28 rfl ?_
      refine i_X11_277 rfl dX11_ask_29 (by exact hX.o) (c_pieceAsked5 (by exact hX) (by exact hRc) (by exact hC) (by exact hD1) hW (by exact hE1) (by omega) (by omega) (by exact hN) hk) (by omega) (Nat.le_of_ble_eq_true rfl) rfl rfl ?_
      rintro _ M9 ⟨rfl, hM9⟩
      have hE9 : EX (mJ M (up2 (mI M) 28 1 0)) M9 := by rw [hM9]; exact mPc_ex _ _ _ _ _
      have hP9 : PQ M9 (mN M) 6 p (cWe (A 4) p) (A 4 (87 + 6 * p)) := by rw [hM9]; exact mPc_pq hN hX.tq (by show 0 ≤ up2 (mI M) 28 1 0 28 1 ∧ up2 (mI M) 28 1 0 28 1 ≤ 16; rw [up2_self]; omega) (by omega) hw9 hya
      have hI9 := hI.tr0.ex hE9
      have hF9 : FX M M9 := ((FX.rfl' M).j (J := up2 (mI M) 28 1 0) (fun b j b0 b1 => up2_ne _ _ (by omega))).tr (FX.ex hN hE9)
      have hb9 : 0 ≤ up2 A 0 27 0 0 27 ∧ up2 A 0 27 0 0 27 ≤ 16 := by rw [up2_self]; omega
      clear hM9
      try dsimp only [pu]
      refine E_astore_n dX11_ask_32 rfl (by decide) ?_
      try dsimp only [List.set]
      refine E_iload_n dX11_ask_33 rfl ?_
      refine E_if_ne (tgt := 44) dX11_ask_34 (by decide) (fun h34 => ?_) (fun h34 => ?_)
      · refine E_aload_n dX11_ask_44 rfl ?_
        refine E_callO (mt' := m_X7_mark) (ci := 6) (x := ⟨"CourtWash$Piece", "mark", "()I"⟩) (owner := "CourtWash$Piece") k_X2_mark.1 tw_1024 tw_1483 tw_1008 tw_1488 tw_1033 (by decide +kernel) rfl (by exact hP9.o) dX11_ask_45 k_X7_mark (c_X7_mark_6 hP9) (by omega) (Nat.le_of_ble_eq_true rfl) ?_
        rintro _ _ ⟨rfl, rfl⟩
        try dsimp only [pu]
        refine E_iret dX11_ask_48 rfl ?_
        refine ⟨?_, ?_, hF9.j (fun b j b0 b1 => bgI_ne (by omega) (by omega) _ _ _)⟩
        · unfold s_ask askV; rw [if_pos (by omega), hk]; rw [if_neg (by omega)]; rfl
        · have e : askL (A 4 (84 + 6 * p)) w = [23, 20, 14, 13, 10] := by unfold askL; rw [hk, if_neg (by omega)]; rfl
          unfold t_ask; rw [if_pos (by omega), e]; exact hI9.bg hb9 _
      · refine E_aload_n dX11_ask_37 rfl ?_
        refine E_callO (mt' := m_X7_size) (ci := 6) (x := ⟨"CourtWash$Piece", "size", "()I"⟩) (owner := "CourtWash$Piece") k_X2_size.1 tw_983 tw_985 tw_984 tw_1013 tw_1014 (by decide +kernel) rfl (by exact hP9.o) dX11_ask_38 k_X7_size (c_X7_size_6 hP9) (by omega) (Nat.le_of_ble_eq_true rfl) ?_
        rintro _ _ ⟨rfl, rfl⟩
        try dsimp only [pu]
        refine E_goto (tgt := 48) dX11_ask_41 (by decide) ?_
        refine E_iret dX11_ask_48 rfl ?_
        refine ⟨?_, ?_, hF9.j (fun b j b0 b1 => bgI_ne (by omega) (by omega) _ _ _)⟩
        · unfold s_ask askV; rw [if_pos (by omega), hk]; rw [if_pos (by omega)]; rfl
        · have e : askL (A 4 (84 + 6 * p)) w = [14, 13, 10] := by unfold askL; rw [hk, if_pos (by omega)]; rfl
          unfold t_ask; rw [if_pos (by omega), e]; exact hI9.bg hb9 _
    · exfalso; rw [decide_eq_true (by omega)] at h14; exact h14 (by decide)
theorem EV.room {G : Ctx} {mt : MT} {d kc ks kc' ks' : Nat} {Q : Option MV → Mem → Prop} {pc : Nat} {ls : List (Option MV)} {st : List MV} {M : Mem} (h1 : kc ≤ kc') (h2 : ks ≤ ks') (k : EV G mt d kc ks Q pc ls st M) : EV G mt d kc' ks' Q pc ls st M := by
  intro p l e R s m args below meth c H locs cells slots mc ms lsR stR C hR hk
  exact k p l e R s m args below meth c H locs cells slots mc ms lsR stR C hR ⟨by omega, by omega⟩
set_option maxRecDepth 20000 in
set_option maxHeartbeats 3000000 in
theorem x_askN {G : Ctx} {M : Mem} {A : AS} {B : Int} (hI : CI M A) (hG : GA A B) (hB : B ≤ 900000) {p w : Int} (hn : ¬ ((0 ≤ p ∧ p ≤ A 4 2 - 1) ∧ (0 ≤ w ∧ w ≤ 1))) : CT G m_X11_ask 6 1 4 [vR 21, vI p, vI w] M (xM M (s_ask A p w) (t_ask A p w)) := by
  refine CT.of k_X11_ask 1 (ls := [some (vR 21), some (vI p), some (vI w), none]) rfl (Nat.le_of_ble_eq_true rfl) ?_
  refine EV.room (kc := 0) (ks := 0) (by omega) (by omega) ?_
  obtain ⟨hX, hN, hR, hT, hK, hS, hW0, hW1, hW2⟩ := id hI
  obtain ⟨a, hRc, hC, ha, haN, hD, hH, hE, hSn, hg, hZ⟩ := hW0
  have hW := hG.w.c
  have hpn := hW.pn
  have hl8 := hW.ln
  have hr8 := hW.rn
  have hgg := hG.w.g
  have hth := hG.th
  have hV := hG.w.hv
  refine E_aload_n dX11_ask_0 rfl ?_
  refine E_iload_n dX11_ask_1 rfl ?_
  refine i_X11_134 rfl dX11_ask_2 (by exact hX.o) (c_isPiece hX hRc hC hD hW) (by omega) (Nat.le_of_ble_eq_true rfl) rfl rfl ?_
  rintro _ _ ⟨rfl, rfl⟩
  try dsimp only [pu]
  refine E_if_eq (tgt := 17) dX11_ask_5 (by decide) (fun h5 => ?_) (fun h5 => ?_)
  · simp only [tB0, ne_eq, Bool.not_eq_false, Bool.not_eq_true, decide_eq_true_eq, decide_eq_false_iff_not, Classical.not_not] at h5
    refine c_X11_72 rfl dX11_ask_17 ?_
    refine E_iret dX11_ask_19 rfl ?_
    refine ⟨?_, ?_, (FX.rfl' M)⟩
    · congr 2; unfold s_ask; rw [if_neg (by omega)]; try rfl
    · unfold t_ask; rw [if_neg (by omega)]; exact hI
  · simp only [tB0, ne_eq, Bool.not_eq_false, Bool.not_eq_true, decide_eq_true_eq, decide_eq_false_iff_not, Classical.not_not] at h5
    refine E_iload_n dX11_ask_8 rfl ?_
    refine E_iconst dX11_ask_9 (by decide) ?_
    refine E_iconst dX11_ask_10 (by decide) ?_
    refine i_X11_68 rfl dX11_ask_11 c_isIn (by omega) (Nat.le_of_ble_eq_true rfl) rfl rfl ?_
    rintro _ _ ⟨rfl, rfl⟩
    try dsimp only [pu]
    refine E_if_ne (tgt := 20) dX11_ask_14 (by decide) (fun h14 => ?_) (fun h14 => ?_)
    · simp only [tB0, ne_eq, Bool.not_eq_false, Bool.not_eq_true, decide_eq_true_eq, decide_eq_false_iff_not, Classical.not_not] at h14
      exfalso; omega
    · simp only [tB0, ne_eq, Bool.not_eq_false, Bool.not_eq_true, decide_eq_true_eq, decide_eq_false_iff_not, Classical.not_not] at h14
      refine c_X11_72 rfl dX11_ask_17 ?_
      refine E_iret dX11_ask_19 rfl ?_
      refine ⟨?_, ?_, (FX.rfl' M)⟩
      · congr 2; unfold s_ask; rw [if_neg (by omega)]; try rfl
      · unfold t_ask; rw [if_neg (by omega)]; exact hI
theorem x_ask {G : Ctx} {M : Mem} {A : AS} {B : Int} (hI : CI M A) (hG : GA A B) (hB : B ≤ 900000) {p w : Int} : CT G m_X11_ask 6 1 4 [vR 21, vI p, vI w] M (xM M (s_ask A p w) (t_ask A p w)) := by
  by_cases hn : (0 ≤ p ∧ p ≤ A 4 2 - 1) ∧ (0 ≤ w ∧ w ≤ 1)
  · have hk := hG.w.c.ki (p := p) (by omega) (by omega)
    by_cases h1 : A 4 (84 + 6 * p) = 1
    · exact x_ask1 hI hG hB hn.1 hn.2 h1
    · by_cases h2 : A 4 (84 + 6 * p) = 2
      · exact x_ask2 hI hG hB hn.1 hn.2 h2
      · by_cases h3 : A 4 (84 + 6 * p) = 3
        · exact x_ask3 hI hG hB hn.1 hn.2 h3
        · by_cases h4 : A 4 (84 + 6 * p) = 4
          · exact x_ask4 hI hG hB hn.1 hn.2 h4
          · exact x_ask5 hI hG hB hn.1 hn.2 (by omega)
  · exact x_askN hI hG hB hn
set_option maxRecDepth 20000 in
set_option maxHeartbeats 3000000 in
theorem x_asN {G : Ctx} {M : Mem} {A : AS} {B : Int} (hI : CI M A) (hG : GA A B) (hB : B ≤ 900000) {p f : Int} (hn : ¬ ((0 ≤ p ∧ p ≤ A 4 2 - 1) ∧ (0 ≤ f ∧ f ≤ 5))) : CT G m_X11_as 5 1 4 [vR 21, vI p, vI f] M (xM M (s_as A p f) (t_as A p f)) := by
  refine CT.of k_X11_as 0 (ls := [some (vR 21), some (vI p), some (vI f)]) rfl (Nat.le_of_ble_eq_true rfl) ?_
  refine EV.room (kc := 0) (ks := 0) (by omega) (by omega) ?_
  obtain ⟨hX, hN, hR, hT, hK, hS, hW0, hW1, hW2⟩ := id hI
  obtain ⟨a, hRc, hC, ha, haN, hD, hH, hE, hSn, hg, hZ⟩ := hW0
  have hW := hG.w.c
  have hpn := hW.pn
  have hl8 := hW.ln
  have hr8 := hW.rn
  have hgg := hG.w.g
  have hth := hG.th
  have hV := hG.w.hv
  refine E_aload_n dX11_as_0 rfl ?_
  refine E_iload_n dX11_as_1 rfl ?_
  refine i_X11_134 rfl dX11_as_2 (by exact hX.o) (c_isPiece hX hRc hC hD hW) (by omega) (Nat.le_of_ble_eq_true rfl) rfl rfl ?_
  rintro _ _ ⟨rfl, rfl⟩
  try dsimp only [pu]
  refine E_if_eq (tgt := 17) dX11_as_5 (by decide) (fun h5 => ?_) (fun h5 => ?_)
  · simp only [tB0, ne_eq, Bool.not_eq_false, Bool.not_eq_true, decide_eq_true_eq, decide_eq_false_iff_not, Classical.not_not] at h5
    refine c_X11_72 rfl dX11_as_17 ?_
    refine E_iret dX11_as_19 rfl ?_
    refine ⟨?_, ?_, (FX.rfl' M)⟩
    · congr 2; unfold s_as; rw [if_neg (by omega)]; try rfl
    · unfold t_as; rw [if_neg (by omega)]; exact hI
  · simp only [tB0, ne_eq, Bool.not_eq_false, Bool.not_eq_true, decide_eq_true_eq, decide_eq_false_iff_not, Classical.not_not] at h5
    refine E_iload_n dX11_as_8 rfl ?_
    refine E_iconst dX11_as_9 (by decide) ?_
    refine E_iconst dX11_as_10 (by decide) ?_
    refine i_X11_68 rfl dX11_as_11 c_isIn (by omega) (Nat.le_of_ble_eq_true rfl) rfl rfl ?_
    rintro _ _ ⟨rfl, rfl⟩
    try dsimp only [pu]
    refine E_if_ne (tgt := 20) dX11_as_14 (by decide) (fun h14 => ?_) (fun h14 => ?_)
    · simp only [tB0, ne_eq, Bool.not_eq_false, Bool.not_eq_true, decide_eq_true_eq, decide_eq_false_iff_not, Classical.not_not] at h14
      exfalso; omega
    · simp only [tB0, ne_eq, Bool.not_eq_false, Bool.not_eq_true, decide_eq_true_eq, decide_eq_false_iff_not, Classical.not_not] at h14
      refine c_X11_72 rfl dX11_as_17 ?_
      refine E_iret dX11_as_19 rfl ?_
      refine ⟨?_, ?_, (FX.rfl' M)⟩
      · congr 2; unfold s_as; rw [if_neg (by omega)]; try rfl
      · unfold t_as; rw [if_neg (by omega)]; exact hI
theorem x_as {G : Ctx} {M : Mem} {A : AS} {B : Int} (hI : CI M A) (hG : GA A B) (hB : B ≤ 900000) {p f : Int} : CT G m_X11_as 5 1 4 [vR 21, vI p, vI f] M (xM M (s_as A p f) (t_as A p f)) := by
  by_cases hn : (0 ≤ p ∧ p ≤ A 4 2 - 1) ∧ (0 ≤ f ∧ f ≤ 5)
  · have hk := hG.w.c.ki (p := p) (by omega) (by omega)
    by_cases h1 : A 4 (84 + 6 * p) = 1
    · exact x_as1 hI hG hB hn.1 hn.2 h1
    · by_cases h2 : A 4 (84 + 6 * p) = 2
      · exact x_as2 hI hG hB hn.1 hn.2 h2
      · by_cases h3 : A 4 (84 + 6 * p) = 3
        · exact x_as3 hI hG hB hn.1 hn.2 h3
        · by_cases h4 : A 4 (84 + 6 * p) = 4
          · exact x_as4 hI hG hB hn.1 hn.2 h4
          · exact x_as5 hI hG hB hn.1 hn.2 (by omega)
  · exact x_asN hI hG hB hn
