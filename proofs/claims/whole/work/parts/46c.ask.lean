set_option maxRecDepth 20000 in
set_option maxHeartbeats 3000000 in
theorem r_ask1 {G : Ctx} {M : Mem} {m : Nat} {A : AS} {B : Int} (hO : MO M m) (hV : MA (mI M) m A) (hG : GA A B) (hB : B ≤ 900000) {p w : Int} (p0 : 0 ≤ p ∧ p ≤ A 4 2 - 1) (w0 : 0 ≤ w ∧ w ≤ 1) (hk : A 4 (84 + 6 * p) = 1) : CT G m_X12_ask 4 0 0 [vR m, vI p, vI w] M (rM M m (s_ask A p w) (t_ask A p w)) := by
  refine CT.of k_X12_ask 0 (ls := [some (vR m), some (vI p), some (vI w)]) rfl (Nat.le_of_ble_eq_true rfl) ?_
  refine E_aload_n dX12_ask_0 rfl ?_
  refine E_iconst dX12_ask_1 (by decide) ?_
  refine p_X12_53 rfl dX12_ask_2 hO.o ?_
  obtain ⟨M1, e1, hO, hV, hF⟩ := thr hO hV
  refine EV.mq rfl e1.symm ?_
  clear e1
  have hQ := hV.mc
  have hW := hG.w.c
  have hpn := hW.pn
  have hl8 := hW.ln
  have hr8 := hW.rn
  have hgg := hG.w.g
  have hth := hG.th
  refine E_aload_n dX12_ask_5 rfl ?_
  refine E_iload_n dX12_ask_6 rfl ?_
  refine i_X12_215 rfl dX12_ask_7 (by exact hO.o) (c_mIsPiece hO hQ hW) (by omega) (Nat.le_of_ble_eq_true rfl) rfl rfl ?_
  rintro _ _ ⟨rfl, rfl⟩
  try dsimp only [pu]
  refine E_if_eq (tgt := 23) dX12_ask_10 (by decide) (fun h10 => ?_) (fun h10 => ?_)
  · exfalso; revert h10; rw [decide_eq_true (by omega)]; decide
  · simp only [tB0, ne_eq, Bool.not_eq_false, Bool.not_eq_true, decide_eq_true_eq, decide_eq_false_iff_not, Classical.not_not] at h10
    refine E_iload_n dX12_ask_13 rfl ?_
    refine E_i2l dX12_ask_14 ?_
    refine E_lconst (x := 0) dX12_ask_15 (by decide) ?_
    refine E_lconst (x := 1) dX12_ask_16 (by decide) ?_
    refine i_X12_63 rfl dX12_ask_17 c_in (by omega) (Nat.le_of_ble_eq_true rfl) rfl rfl ?_
    rintro _ _ ⟨rfl, rfl⟩
    try dsimp only [pu]
    refine E_if_ne (tgt := 26) dX12_ask_20 (by decide) (fun h20 => ?_) (fun h20 => ?_)
    · simp only [tB0, ne_eq, Bool.not_eq_false, Bool.not_eq_true, decide_eq_true_eq, decide_eq_false_iff_not, Classical.not_not] at h20
      refine E_aload_n dX12_ask_26 rfl ?_
      refine E_iconst dX12_ask_27 (by decide) ?_
      refine p_X12_291 rfl dX12_ask_28 hO.o ?_
      obtain ⟨M2, e2, hO, hV, hF⟩ := gen (M1 := mWI M1 m 27 0) hO.w (hV.up0 27 0) (hF.w (b := m) (by omega) 27 0)
      refine EV.mq rfl e2.symm ?_
      clear e2
      have hQ : MC (mI M2) m (A 4) := fun k k0 k1 => (hV.1 4 k (by unfold SA; omega)).trans (up2_ne _ _ (by omega))
      have hT : 0 ≤ mI M2 m 27 ∧ mI M2 m 27 ≤ 16 := by rw [hV.2 27 (by unfold SJ; omega), up2_self]; omega
      have hw9 := hG.w.we p (by omega) (by omega)
      refine E_iload_n dX12_ask_31 rfl ?_
      refine E_if_ne (tgt := 43) dX12_ask_32 (by decide) (fun h32 => ?_) (fun h32 => ?_)
      · refine E_aload_n dX12_ask_43 rfl ?_
        refine E_iload_n dX12_ask_44 rfl ?_
        refine i_X12_306 rfl dX12_ask_45 (by exact hO.o) (c_markOf1 hO hQ hW hT (by omega) (by omega) hk rfl hw9) (by omega) (Nat.le_of_ble_eq_true rfl) rfl rfl ?_
        rintro _ _ ⟨rfl, rfl⟩
        try dsimp only [pu]
        refine E_iret dX12_ask_48 rfl ?_
        refine ⟨?_, hF.j (fun b j hb => bgR_ne (by omega) (by omega) _ _), ?_⟩
        · unfold s_ask askV; rw [if_pos (by omega), hk]; rw [if_neg (by omega)]; rfl
        · have e : askL (A 4 (84 + 6 * p)) w = [21, 20] := by unfold askL; rw [hk, if_neg (by omega)]; rfl
          unfold t_ask; rw [if_pos (by omega), e]; exact hV.bg _
      · refine E_aload_n dX12_ask_35 rfl ?_
        refine E_iload_n dX12_ask_36 rfl ?_
        refine i_X12_303 rfl dX12_ask_37 (by exact hO.o) (c_sizeOf1 hO hQ hW hT (by omega) (by omega) hk rfl hw9) (by omega) (Nat.le_of_ble_eq_true rfl) rfl rfl ?_
        rintro _ _ ⟨rfl, rfl⟩
        try dsimp only [pu]
        refine E_goto (tgt := 48) dX12_ask_40 (by decide) ?_
        refine E_iret dX12_ask_48 rfl ?_
        refine ⟨?_, hF.j (fun b j hb => bgR_ne (by omega) (by omega) _ _), ?_⟩
        · unfold s_ask askV; rw [if_pos (by omega), hk]; rw [if_pos (by omega)]; rfl
        · have e : askL (A 4 (84 + 6 * p)) w = [11, 10, 21, 20] := by unfold askL; rw [hk, if_pos (by omega)]; rfl
          unfold t_ask; rw [if_pos (by omega), e]; exact hV.bg _
    · exfalso; revert h20; rw [decide_eq_true (by omega)]; decide
set_option maxRecDepth 20000 in
set_option maxHeartbeats 3000000 in
theorem r_ask2 {G : Ctx} {M : Mem} {m : Nat} {A : AS} {B : Int} (hO : MO M m) (hV : MA (mI M) m A) (hG : GA A B) (hB : B ≤ 900000) {p w : Int} (p0 : 0 ≤ p ∧ p ≤ A 4 2 - 1) (w0 : 0 ≤ w ∧ w ≤ 1) (hk : A 4 (84 + 6 * p) = 2) : CT G m_X12_ask 4 0 0 [vR m, vI p, vI w] M (rM M m (s_ask A p w) (t_ask A p w)) := by
  refine CT.of k_X12_ask 0 (ls := [some (vR m), some (vI p), some (vI w)]) rfl (Nat.le_of_ble_eq_true rfl) ?_
  refine E_aload_n dX12_ask_0 rfl ?_
  refine E_iconst dX12_ask_1 (by decide) ?_
  refine p_X12_53 rfl dX12_ask_2 hO.o ?_
  obtain ⟨M1, e1, hO, hV, hF⟩ := thr hO hV
  refine EV.mq rfl e1.symm ?_
  clear e1
  have hQ := hV.mc
  have hW := hG.w.c
  have hpn := hW.pn
  have hl8 := hW.ln
  have hr8 := hW.rn
  have hgg := hG.w.g
  have hth := hG.th
  refine E_aload_n dX12_ask_5 rfl ?_
  refine E_iload_n dX12_ask_6 rfl ?_
  refine i_X12_215 rfl dX12_ask_7 (by exact hO.o) (c_mIsPiece hO hQ hW) (by omega) (Nat.le_of_ble_eq_true rfl) rfl rfl ?_
  rintro _ _ ⟨rfl, rfl⟩
  try dsimp only [pu]
  refine E_if_eq (tgt := 23) dX12_ask_10 (by decide) (fun h10 => ?_) (fun h10 => ?_)
  · exfalso; revert h10; rw [decide_eq_true (by omega)]; decide
  · simp only [tB0, ne_eq, Bool.not_eq_false, Bool.not_eq_true, decide_eq_true_eq, decide_eq_false_iff_not, Classical.not_not] at h10
    refine E_iload_n dX12_ask_13 rfl ?_
    refine E_i2l dX12_ask_14 ?_
    refine E_lconst (x := 0) dX12_ask_15 (by decide) ?_
    refine E_lconst (x := 1) dX12_ask_16 (by decide) ?_
    refine i_X12_63 rfl dX12_ask_17 c_in (by omega) (Nat.le_of_ble_eq_true rfl) rfl rfl ?_
    rintro _ _ ⟨rfl, rfl⟩
    try dsimp only [pu]
    refine E_if_ne (tgt := 26) dX12_ask_20 (by decide) (fun h20 => ?_) (fun h20 => ?_)
    · simp only [tB0, ne_eq, Bool.not_eq_false, Bool.not_eq_true, decide_eq_true_eq, decide_eq_false_iff_not, Classical.not_not] at h20
      refine E_aload_n dX12_ask_26 rfl ?_
      refine E_iconst dX12_ask_27 (by decide) ?_
      refine p_X12_291 rfl dX12_ask_28 hO.o ?_
      obtain ⟨M2, e2, hO, hV, hF⟩ := gen (M1 := mWI M1 m 27 0) hO.w (hV.up0 27 0) (hF.w (b := m) (by omega) 27 0)
      refine EV.mq rfl e2.symm ?_
      clear e2
      have hQ : MC (mI M2) m (A 4) := fun k k0 k1 => (hV.1 4 k (by unfold SA; omega)).trans (up2_ne _ _ (by omega))
      have hT : 0 ≤ mI M2 m 27 ∧ mI M2 m 27 ≤ 16 := by rw [hV.2 27 (by unfold SJ; omega), up2_self]; omega
      have hw9 := hG.w.we p (by omega) (by omega)
      refine E_iload_n dX12_ask_31 rfl ?_
      refine E_if_ne (tgt := 43) dX12_ask_32 (by decide) (fun h32 => ?_) (fun h32 => ?_)
      · refine E_aload_n dX12_ask_43 rfl ?_
        refine E_iload_n dX12_ask_44 rfl ?_
        refine i_X12_306 rfl dX12_ask_45 (by exact hO.o) (c_markOf2 hO hQ hW hT (by omega) (by omega) hk rfl hw9) (by omega) (Nat.le_of_ble_eq_true rfl) rfl rfl ?_
        rintro _ _ ⟨rfl, rfl⟩
        try dsimp only [pu]
        refine E_iret dX12_ask_48 rfl ?_
        refine ⟨?_, hF.j (fun b j hb => bgR_ne (by omega) (by omega) _ _), ?_⟩
        · unfold s_ask askV; rw [if_pos (by omega), hk]; rw [if_neg (by omega)]; rfl
        · have e : askL (A 4 (84 + 6 * p)) w = [24, 21, 20] := by unfold askL; rw [hk, if_neg (by omega)]; rfl
          unfold t_ask; rw [if_pos (by omega), e]; exact hV.bg _
      · refine E_aload_n dX12_ask_35 rfl ?_
        refine E_iload_n dX12_ask_36 rfl ?_
        refine i_X12_303 rfl dX12_ask_37 (by exact hO.o) (c_sizeOf2 hO hQ hW hT (by omega) (by omega) hk rfl hw9) (by omega) (Nat.le_of_ble_eq_true rfl) rfl rfl ?_
        rintro _ _ ⟨rfl, rfl⟩
        try dsimp only [pu]
        refine E_goto (tgt := 48) dX12_ask_40 (by decide) ?_
        refine E_iret dX12_ask_48 rfl ?_
        refine ⟨?_, hF.j (fun b j hb => bgR_ne (by omega) (by omega) _ _), ?_⟩
        · unfold s_ask askV; rw [if_pos (by omega), hk]; rw [if_pos (by omega)]; rfl
        · have e : askL (A 4 (84 + 6 * p)) w = [12, 11, 10, 24, 21, 20] := by unfold askL; rw [hk, if_pos (by omega)]; rfl
          unfold t_ask; rw [if_pos (by omega), e]; exact hV.bg _
    · exfalso; revert h20; rw [decide_eq_true (by omega)]; decide
set_option maxRecDepth 20000 in
set_option maxHeartbeats 3000000 in
theorem r_ask3 {G : Ctx} {M : Mem} {m : Nat} {A : AS} {B : Int} (hO : MO M m) (hV : MA (mI M) m A) (hG : GA A B) (hB : B ≤ 900000) {p w : Int} (p0 : 0 ≤ p ∧ p ≤ A 4 2 - 1) (w0 : 0 ≤ w ∧ w ≤ 1) (hk : A 4 (84 + 6 * p) = 3) : CT G m_X12_ask 4 0 0 [vR m, vI p, vI w] M (rM M m (s_ask A p w) (t_ask A p w)) := by
  refine CT.of k_X12_ask 0 (ls := [some (vR m), some (vI p), some (vI w)]) rfl (Nat.le_of_ble_eq_true rfl) ?_
  refine E_aload_n dX12_ask_0 rfl ?_
  refine E_iconst dX12_ask_1 (by decide) ?_
  refine p_X12_53 rfl dX12_ask_2 hO.o ?_
  obtain ⟨M1, e1, hO, hV, hF⟩ := thr hO hV
  refine EV.mq rfl e1.symm ?_
  clear e1
  have hQ := hV.mc
  have hW := hG.w.c
  have hpn := hW.pn
  have hl8 := hW.ln
  have hr8 := hW.rn
  have hgg := hG.w.g
  have hth := hG.th
  refine E_aload_n dX12_ask_5 rfl ?_
  refine E_iload_n dX12_ask_6 rfl ?_
  refine i_X12_215 rfl dX12_ask_7 (by exact hO.o) (c_mIsPiece hO hQ hW) (by omega) (Nat.le_of_ble_eq_true rfl) rfl rfl ?_
  rintro _ _ ⟨rfl, rfl⟩
  try dsimp only [pu]
  refine E_if_eq (tgt := 23) dX12_ask_10 (by decide) (fun h10 => ?_) (fun h10 => ?_)
  · exfalso; revert h10; rw [decide_eq_true (by omega)]; decide
  · simp only [tB0, ne_eq, Bool.not_eq_false, Bool.not_eq_true, decide_eq_true_eq, decide_eq_false_iff_not, Classical.not_not] at h10
    refine E_iload_n dX12_ask_13 rfl ?_
    refine E_i2l dX12_ask_14 ?_
    refine E_lconst (x := 0) dX12_ask_15 (by decide) ?_
    refine E_lconst (x := 1) dX12_ask_16 (by decide) ?_
    refine i_X12_63 rfl dX12_ask_17 c_in (by omega) (Nat.le_of_ble_eq_true rfl) rfl rfl ?_
    rintro _ _ ⟨rfl, rfl⟩
    try dsimp only [pu]
    refine E_if_ne (tgt := 26) dX12_ask_20 (by decide) (fun h20 => ?_) (fun h20 => ?_)
    · simp only [tB0, ne_eq, Bool.not_eq_false, Bool.not_eq_true, decide_eq_true_eq, decide_eq_false_iff_not, Classical.not_not] at h20
      refine E_aload_n dX12_ask_26 rfl ?_
      refine E_iconst dX12_ask_27 (by decide) ?_
      refine p_X12_291 rfl dX12_ask_28 hO.o ?_
      obtain ⟨M2, e2, hO, hV, hF⟩ := gen (M1 := mWI M1 m 27 0) hO.w (hV.up0 27 0) (hF.w (b := m) (by omega) 27 0)
      refine EV.mq rfl e2.symm ?_
      clear e2
      have hQ : MC (mI M2) m (A 4) := fun k k0 k1 => (hV.1 4 k (by unfold SA; omega)).trans (up2_ne _ _ (by omega))
      have hT : 0 ≤ mI M2 m 27 ∧ mI M2 m 27 ≤ 16 := by rw [hV.2 27 (by unfold SJ; omega), up2_self]; omega
      have hw9 := hG.w.we p (by omega) (by omega)
      refine E_iload_n dX12_ask_31 rfl ?_
      refine E_if_ne (tgt := 43) dX12_ask_32 (by decide) (fun h32 => ?_) (fun h32 => ?_)
      · refine E_aload_n dX12_ask_43 rfl ?_
        refine E_iload_n dX12_ask_44 rfl ?_
        refine i_X12_306 rfl dX12_ask_45 (by exact hO.o) (c_markOf3 hO hQ hW hT (by omega) (by omega) hk rfl hw9) (by omega) (Nat.le_of_ble_eq_true rfl) rfl rfl ?_
        rintro _ _ ⟨rfl, rfl⟩
        try dsimp only [pu]
        refine E_iret dX12_ask_48 rfl ?_
        refine ⟨?_, hF.j (fun b j hb => bgR_ne (by omega) (by omega) _ _), ?_⟩
        · unfold s_ask askV; rw [if_pos (by omega), hk]; rw [if_neg (by omega)]; rfl
        · have e : askL (A 4 (84 + 6 * p)) w = [20] := by unfold askL; rw [hk, if_neg (by omega)]; rfl
          unfold t_ask; rw [if_pos (by omega), e]; exact hV.bg _
      · refine E_aload_n dX12_ask_35 rfl ?_
        refine E_iload_n dX12_ask_36 rfl ?_
        refine i_X12_303 rfl dX12_ask_37 (by exact hO.o) (c_sizeOf3 hO hQ hW hT (by omega) (by omega) hk rfl hw9) (by omega) (Nat.le_of_ble_eq_true rfl) rfl rfl ?_
        rintro _ _ ⟨rfl, rfl⟩
        try dsimp only [pu]
        refine E_goto (tgt := 48) dX12_ask_40 (by decide) ?_
        refine E_iret dX12_ask_48 rfl ?_
        refine ⟨?_, hF.j (fun b j hb => bgR_ne (by omega) (by omega) _ _), ?_⟩
        · unfold s_ask askV; rw [if_pos (by omega), hk]; rw [if_pos (by omega)]; rfl
        · have e : askL (A 4 (84 + 6 * p)) w = [13, 10] := by unfold askL; rw [hk, if_pos (by omega)]; rfl
          unfold t_ask; rw [if_pos (by omega), e]; exact hV.bg _
    · exfalso; revert h20; rw [decide_eq_true (by omega)]; decide
set_option maxRecDepth 20000 in
set_option maxHeartbeats 3000000 in
theorem r_ask4 {G : Ctx} {M : Mem} {m : Nat} {A : AS} {B : Int} (hO : MO M m) (hV : MA (mI M) m A) (hG : GA A B) (hB : B ≤ 900000) {p w : Int} (p0 : 0 ≤ p ∧ p ≤ A 4 2 - 1) (w0 : 0 ≤ w ∧ w ≤ 1) (hk : A 4 (84 + 6 * p) = 4) : CT G m_X12_ask 4 0 0 [vR m, vI p, vI w] M (rM M m (s_ask A p w) (t_ask A p w)) := by
  refine CT.of k_X12_ask 0 (ls := [some (vR m), some (vI p), some (vI w)]) rfl (Nat.le_of_ble_eq_true rfl) ?_
  refine E_aload_n dX12_ask_0 rfl ?_
  refine E_iconst dX12_ask_1 (by decide) ?_
  refine p_X12_53 rfl dX12_ask_2 hO.o ?_
  obtain ⟨M1, e1, hO, hV, hF⟩ := thr hO hV
  refine EV.mq rfl e1.symm ?_
  clear e1
  have hQ := hV.mc
  have hW := hG.w.c
  have hpn := hW.pn
  have hl8 := hW.ln
  have hr8 := hW.rn
  have hgg := hG.w.g
  have hth := hG.th
  refine E_aload_n dX12_ask_5 rfl ?_
  refine E_iload_n dX12_ask_6 rfl ?_
  refine i_X12_215 rfl dX12_ask_7 (by exact hO.o) (c_mIsPiece hO hQ hW) (by omega) (Nat.le_of_ble_eq_true rfl) rfl rfl ?_
  rintro _ _ ⟨rfl, rfl⟩
  try dsimp only [pu]
  refine E_if_eq (tgt := 23) dX12_ask_10 (by decide) (fun h10 => ?_) (fun h10 => ?_)
  · exfalso; revert h10; rw [decide_eq_true (by omega)]; decide
  · simp only [tB0, ne_eq, Bool.not_eq_false, Bool.not_eq_true, decide_eq_true_eq, decide_eq_false_iff_not, Classical.not_not] at h10
    refine E_iload_n dX12_ask_13 rfl ?_
    refine E_i2l dX12_ask_14 ?_
    refine E_lconst (x := 0) dX12_ask_15 (by decide) ?_
    refine E_lconst (x := 1) dX12_ask_16 (by decide) ?_
    refine i_X12_63 rfl dX12_ask_17 c_in (by omega) (Nat.le_of_ble_eq_true rfl) rfl rfl ?_
    rintro _ _ ⟨rfl, rfl⟩
    try dsimp only [pu]
    refine E_if_ne (tgt := 26) dX12_ask_20 (by decide) (fun h20 => ?_) (fun h20 => ?_)
    · simp only [tB0, ne_eq, Bool.not_eq_false, Bool.not_eq_true, decide_eq_true_eq, decide_eq_false_iff_not, Classical.not_not] at h20
      refine E_aload_n dX12_ask_26 rfl ?_
      refine E_iconst dX12_ask_27 (by decide) ?_
      refine p_X12_291 rfl dX12_ask_28 hO.o ?_
      obtain ⟨M2, e2, hO, hV, hF⟩ := gen (M1 := mWI M1 m 27 0) hO.w (hV.up0 27 0) (hF.w (b := m) (by omega) 27 0)
      refine EV.mq rfl e2.symm ?_
      clear e2
      have hQ : MC (mI M2) m (A 4) := fun k k0 k1 => (hV.1 4 k (by unfold SA; omega)).trans (up2_ne _ _ (by omega))
      have hT : 0 ≤ mI M2 m 27 ∧ mI M2 m 27 ≤ 16 := by rw [hV.2 27 (by unfold SJ; omega), up2_self]; omega
      have hw9 := hG.w.we p (by omega) (by omega)
      refine E_iload_n dX12_ask_31 rfl ?_
      refine E_if_ne (tgt := 43) dX12_ask_32 (by decide) (fun h32 => ?_) (fun h32 => ?_)
      · refine E_aload_n dX12_ask_43 rfl ?_
        refine E_iload_n dX12_ask_44 rfl ?_
        refine i_X12_306 rfl dX12_ask_45 (by exact hO.o) (c_markOf4 hO hQ hW hT (by omega) (by omega) hk rfl hw9) (by omega) (Nat.le_of_ble_eq_true rfl) rfl rfl ?_
        rintro _ _ ⟨rfl, rfl⟩
        try dsimp only [pu]
        refine E_iret dX12_ask_48 rfl ?_
        refine ⟨?_, hF.j (fun b j hb => bgR_ne (by omega) (by omega) _ _), ?_⟩
        · unfold s_ask askV; rw [if_pos (by omega), hk]; rw [if_neg (by omega)]; rfl
        · have e : askL (A 4 (84 + 6 * p)) w = [22, 20, 10] := by unfold askL; rw [hk, if_neg (by omega)]; rfl
          unfold t_ask; rw [if_pos (by omega), e]; exact hV.bg _
      · refine E_aload_n dX12_ask_35 rfl ?_
        refine E_iload_n dX12_ask_36 rfl ?_
        refine i_X12_303 rfl dX12_ask_37 (by exact hO.o) (c_sizeOf4 hO hQ hW hT (by omega) (by omega) hk rfl hw9) (by omega) (Nat.le_of_ble_eq_true rfl) rfl rfl ?_
        rintro _ _ ⟨rfl, rfl⟩
        try dsimp only [pu]
        refine E_goto (tgt := 48) dX12_ask_40 (by decide) ?_
        refine E_iret dX12_ask_48 rfl ?_
        refine ⟨?_, hF.j (fun b j hb => bgR_ne (by omega) (by omega) _ _), ?_⟩
        · unfold s_ask askV; rw [if_pos (by omega), hk]; rw [if_pos (by omega)]; rfl
        · have e : askL (A 4 (84 + 6 * p)) w = [10] := by unfold askL; rw [hk, if_pos (by omega)]; rfl
          unfold t_ask; rw [if_pos (by omega), e]; exact hV.bg _
    · exfalso; revert h20; rw [decide_eq_true (by omega)]; decide
set_option maxRecDepth 20000 in
set_option maxHeartbeats 3000000 in
theorem r_ask5 {G : Ctx} {M : Mem} {m : Nat} {A : AS} {B : Int} (hO : MO M m) (hV : MA (mI M) m A) (hG : GA A B) (hB : B ≤ 900000) {p w : Int} (p0 : 0 ≤ p ∧ p ≤ A 4 2 - 1) (w0 : 0 ≤ w ∧ w ≤ 1) (hk : A 4 (84 + 6 * p) = 5) : CT G m_X12_ask 4 0 0 [vR m, vI p, vI w] M (rM M m (s_ask A p w) (t_ask A p w)) := by
  refine CT.of k_X12_ask 0 (ls := [some (vR m), some (vI p), some (vI w)]) rfl (Nat.le_of_ble_eq_true rfl) ?_
  refine E_aload_n dX12_ask_0 rfl ?_
  refine E_iconst dX12_ask_1 (by decide) ?_
  refine p_X12_53 rfl dX12_ask_2 hO.o ?_
  obtain ⟨M1, e1, hO, hV, hF⟩ := thr hO hV
  refine EV.mq rfl e1.symm ?_
  clear e1
  have hQ := hV.mc
  have hW := hG.w.c
  have hpn := hW.pn
  have hl8 := hW.ln
  have hr8 := hW.rn
  have hgg := hG.w.g
  have hth := hG.th
  refine E_aload_n dX12_ask_5 rfl ?_
  refine E_iload_n dX12_ask_6 rfl ?_
  refine i_X12_215 rfl dX12_ask_7 (by exact hO.o) (c_mIsPiece hO hQ hW) (by omega) (Nat.le_of_ble_eq_true rfl) rfl rfl ?_
  rintro _ _ ⟨rfl, rfl⟩
  try dsimp only [pu]
  refine E_if_eq (tgt := 23) dX12_ask_10 (by decide) (fun h10 => ?_) (fun h10 => ?_)
  · exfalso; revert h10; rw [decide_eq_true (by omega)]; decide
  · simp only [tB0, ne_eq, Bool.not_eq_false, Bool.not_eq_true, decide_eq_true_eq, decide_eq_false_iff_not, Classical.not_not] at h10
    refine E_iload_n dX12_ask_13 rfl ?_
    refine E_i2l dX12_ask_14 ?_
    refine E_lconst (x := 0) dX12_ask_15 (by decide) ?_
    refine E_lconst (x := 1) dX12_ask_16 (by decide) ?_
    refine i_X12_63 rfl dX12_ask_17 c_in (by omega) (Nat.le_of_ble_eq_true rfl) rfl rfl ?_
    rintro _ _ ⟨rfl, rfl⟩
    try dsimp only [pu]
    refine E_if_ne (tgt := 26) dX12_ask_20 (by decide) (fun h20 => ?_) (fun h20 => ?_)
    · simp only [tB0, ne_eq, Bool.not_eq_false, Bool.not_eq_true, decide_eq_true_eq, decide_eq_false_iff_not, Classical.not_not] at h20
      refine E_aload_n dX12_ask_26 rfl ?_
      refine E_iconst dX12_ask_27 (by decide) ?_
      refine p_X12_291 rfl dX12_ask_28 hO.o ?_
      obtain ⟨M2, e2, hO, hV, hF⟩ := gen (M1 := mWI M1 m 27 0) hO.w (hV.up0 27 0) (hF.w (b := m) (by omega) 27 0)
      refine EV.mq rfl e2.symm ?_
      clear e2
      have hQ : MC (mI M2) m (A 4) := fun k k0 k1 => (hV.1 4 k (by unfold SA; omega)).trans (up2_ne _ _ (by omega))
      have hT : 0 ≤ mI M2 m 27 ∧ mI M2 m 27 ≤ 16 := by rw [hV.2 27 (by unfold SJ; omega), up2_self]; omega
      have hw9 := hG.w.we p (by omega) (by omega)
      refine E_iload_n dX12_ask_31 rfl ?_
      refine E_if_ne (tgt := 43) dX12_ask_32 (by decide) (fun h32 => ?_) (fun h32 => ?_)
      · refine E_aload_n dX12_ask_43 rfl ?_
        refine E_iload_n dX12_ask_44 rfl ?_
        refine i_X12_306 rfl dX12_ask_45 (by exact hO.o) (c_markOf5 hO hQ hW hT (by omega) (by omega) hk rfl hw9) (by omega) (Nat.le_of_ble_eq_true rfl) rfl rfl ?_
        rintro _ _ ⟨rfl, rfl⟩
        try dsimp only [pu]
        refine E_iret dX12_ask_48 rfl ?_
        refine ⟨?_, hF.j (fun b j hb => bgR_ne (by omega) (by omega) _ _), ?_⟩
        · unfold s_ask askV; rw [if_pos (by omega), hk]; rw [if_neg (by omega)]; rfl
        · have e : askL (A 4 (84 + 6 * p)) w = [23, 20, 14, 13, 10] := by unfold askL; rw [hk, if_neg (by omega)]; rfl
          unfold t_ask; rw [if_pos (by omega), e]; exact hV.bg _
      · refine E_aload_n dX12_ask_35 rfl ?_
        refine E_iload_n dX12_ask_36 rfl ?_
        refine i_X12_303 rfl dX12_ask_37 (by exact hO.o) (c_sizeOf5 hO hQ hW hT (by omega) (by omega) hk rfl hw9) (by omega) (Nat.le_of_ble_eq_true rfl) rfl rfl ?_
        rintro _ _ ⟨rfl, rfl⟩
        try dsimp only [pu]
        refine E_goto (tgt := 48) dX12_ask_40 (by decide) ?_
        refine E_iret dX12_ask_48 rfl ?_
        refine ⟨?_, hF.j (fun b j hb => bgR_ne (by omega) (by omega) _ _), ?_⟩
        · unfold s_ask askV; rw [if_pos (by omega), hk]; rw [if_pos (by omega)]; rfl
        · have e : askL (A 4 (84 + 6 * p)) w = [14, 13, 10] := by unfold askL; rw [hk, if_pos (by omega)]; rfl
          unfold t_ask; rw [if_pos (by omega), e]; exact hV.bg _
    · exfalso; revert h20; rw [decide_eq_true (by omega)]; decide
set_option maxRecDepth 20000 in
set_option maxHeartbeats 3000000 in
theorem r_askN {G : Ctx} {M : Mem} {m : Nat} {A : AS} {B : Int} (hO : MO M m) (hV : MA (mI M) m A) (hG : GA A B) (hB : B ≤ 900000) {p w : Int} (hn : ¬ ((0 ≤ p ∧ p ≤ A 4 2 - 1) ∧ (0 ≤ w ∧ w ≤ 1))) : CT G m_X12_ask 4 0 0 [vR m, vI p, vI w] M (rM M m (s_ask A p w) (t_ask A p w)) := by
  refine CT.of k_X12_ask 0 (ls := [some (vR m), some (vI p), some (vI w)]) rfl (Nat.le_of_ble_eq_true rfl) ?_
  refine E_aload_n dX12_ask_0 rfl ?_
  refine E_iconst dX12_ask_1 (by decide) ?_
  refine p_X12_53 rfl dX12_ask_2 hO.o ?_
  obtain ⟨M1, e1, hO, hV, hF⟩ := thr hO hV
  refine EV.mq rfl e1.symm ?_
  clear e1
  have hQ := hV.mc
  have hW := hG.w.c
  have hpn := hW.pn
  have hl8 := hW.ln
  have hr8 := hW.rn
  have hgg := hG.w.g
  have hth := hG.th
  refine E_aload_n dX12_ask_5 rfl ?_
  refine E_iload_n dX12_ask_6 rfl ?_
  refine i_X12_215 rfl dX12_ask_7 (by exact hO.o) (c_mIsPiece hO hQ hW) (by omega) (Nat.le_of_ble_eq_true rfl) rfl rfl ?_
  rintro _ _ ⟨rfl, rfl⟩
  try dsimp only [pu]
  refine E_if_eq (tgt := 23) dX12_ask_10 (by decide) (fun h10 => ?_) (fun h10 => ?_)
  · simp only [tB0, ne_eq, Bool.not_eq_false, Bool.not_eq_true, decide_eq_true_eq, decide_eq_false_iff_not, Classical.not_not] at h10
    refine c_X12_73 rfl dX12_ask_23 ?_
    refine E_iret dX12_ask_25 rfl ?_
    refine ⟨?_, hF, ?_⟩
    · congr 2; unfold s_ask; rw [if_neg (by omega)]; try rfl
    · unfold t_ask; rw [if_neg (by omega)]; exact hV
  · simp only [tB0, ne_eq, Bool.not_eq_false, Bool.not_eq_true, decide_eq_true_eq, decide_eq_false_iff_not, Classical.not_not] at h10
    refine E_iload_n dX12_ask_13 rfl ?_
    refine E_i2l dX12_ask_14 ?_
    refine E_lconst (x := 0) dX12_ask_15 (by decide) ?_
    refine E_lconst (x := 1) dX12_ask_16 (by decide) ?_
    refine i_X12_63 rfl dX12_ask_17 c_in (by omega) (Nat.le_of_ble_eq_true rfl) rfl rfl ?_
    rintro _ _ ⟨rfl, rfl⟩
    try dsimp only [pu]
    refine E_if_ne (tgt := 26) dX12_ask_20 (by decide) (fun h20 => ?_) (fun h20 => ?_)
    · simp only [tB0, ne_eq, Bool.not_eq_false, Bool.not_eq_true, decide_eq_true_eq, decide_eq_false_iff_not, Classical.not_not] at h20
      exfalso; omega
    · simp only [tB0, ne_eq, Bool.not_eq_false, Bool.not_eq_true, decide_eq_true_eq, decide_eq_false_iff_not, Classical.not_not] at h20
      refine c_X12_73 rfl dX12_ask_23 ?_
      refine E_iret dX12_ask_25 rfl ?_
      refine ⟨?_, hF, ?_⟩
      · congr 2; unfold s_ask; rw [if_neg (by omega)]; try rfl
      · unfold t_ask; rw [if_neg (by omega)]; exact hV
theorem r_ask {G : Ctx} {M : Mem} {m : Nat} {A : AS} {B : Int} (hO : MO M m) (hV : MA (mI M) m A) (hG : GA A B) (hB : B ≤ 900000) {p w : Int} : CT G m_X12_ask 4 0 0 [vR m, vI p, vI w] M (rM M m (s_ask A p w) (t_ask A p w)) := by
  by_cases hn : (0 ≤ p ∧ p ≤ A 4 2 - 1) ∧ (0 ≤ w ∧ w ≤ 1)
  · have hk := hG.w.c.ki (p := p) (by omega) (by omega)
    by_cases h1 : A 4 (84 + 6 * p) = 1
    · exact r_ask1 hO hV hG hB hn.1 hn.2 h1
    · by_cases h2 : A 4 (84 + 6 * p) = 2
      · exact r_ask2 hO hV hG hB hn.1 hn.2 h2
      · by_cases h3 : A 4 (84 + 6 * p) = 3
        · exact r_ask3 hO hV hG hB hn.1 hn.2 h3
        · by_cases h4 : A 4 (84 + 6 * p) = 4
          · exact r_ask4 hO hV hG hB hn.1 hn.2 h4
          · exact r_ask5 hO hV hG hB hn.1 hn.2 (by omega)
  · exact r_askN hO hV hG hB hn
set_option maxRecDepth 20000 in
set_option maxHeartbeats 3000000 in
theorem c_isOf {G : Ctx} {M : Mem} {k f : Int} : CT G m_X12_isOf 0 0 0 [vI k, vI f] M (rI M (tB (isO k f))) := by
  refine CT.of k_X12_isOf 0 (ls := [some (vI k), some (vI f)]) rfl (Nat.le_of_ble_eq_true rfl) ?_
  refine E_iload_n dX12_isOf_0 rfl ?_
  refine E_if_eq (tgt := 29) dX12_isOf_1 (by decide) (fun h1 => ?_) (fun h1 => ?_)
  · refine E_iconst dX12_isOf_29 (by decide) ?_
    refine E_goto (tgt := 34) dX12_isOf_30 (by decide) ?_
    refine E_zret dX12_isOf_34 rfl (by decide) ?_
    refine ⟨?_, rfl⟩
    congr 2; unfold isO; first | (rw [decide_eq_true (by omega)]; rfl) | (rw [decide_eq_false (by omega)]; rfl)
  · refine E_iload_n dX12_isOf_4 rfl ?_
    refine E_iload_n dX12_isOf_5 rfl ?_
    refine E_icmp_eq (tgt := 29) dX12_isOf_6 (by decide) (fun h6 => ?_) (fun h6 => ?_)
    · refine E_iconst dX12_isOf_29 (by decide) ?_
      refine E_goto (tgt := 34) dX12_isOf_30 (by decide) ?_
      refine E_zret dX12_isOf_34 rfl (by decide) ?_
      refine ⟨?_, rfl⟩
      congr 2; unfold isO; first | (rw [decide_eq_true (by omega)]; rfl) | (rw [decide_eq_false (by omega)]; rfl)
    · refine E_iload_n dX12_isOf_9 rfl ?_
      refine E_iconst dX12_isOf_10 (by decide) ?_
      refine E_icmp_ne (tgt := 19) dX12_isOf_11 (by decide) (fun h11 => ?_) (fun h11 => ?_)
      · refine E_iload_n dX12_isOf_19 rfl ?_
        refine E_iconst dX12_isOf_20 (by decide) ?_
        refine E_icmp_ne (tgt := 33) dX12_isOf_21 (by decide) (fun h21 => ?_) (fun h21 => ?_)
        · refine E_iconst dX12_isOf_33 (by decide) ?_
          refine E_zret dX12_isOf_34 rfl (by decide) ?_
          refine ⟨?_, rfl⟩
          congr 2; unfold isO; first | (rw [decide_eq_true (by omega)]; rfl) | (rw [decide_eq_false (by omega)]; rfl)
        · refine E_iload_n dX12_isOf_24 rfl ?_
          refine E_iconst dX12_isOf_25 (by decide) ?_
          refine E_icmp_ne (tgt := 33) dX12_isOf_26 (by decide) (fun h26 => ?_) (fun h26 => ?_)
          · refine E_iconst dX12_isOf_33 (by decide) ?_
            refine E_zret dX12_isOf_34 rfl (by decide) ?_
            refine ⟨?_, rfl⟩
            congr 2; unfold isO; first | (rw [decide_eq_true (by omega)]; rfl) | (rw [decide_eq_false (by omega)]; rfl)
          · refine E_iconst dX12_isOf_29 (by decide) ?_
            refine E_goto (tgt := 34) dX12_isOf_30 (by decide) ?_
            refine E_zret dX12_isOf_34 rfl (by decide) ?_
            refine ⟨?_, rfl⟩
            congr 2; unfold isO; first | (rw [decide_eq_true (by omega)]; rfl) | (rw [decide_eq_false (by omega)]; rfl)
      · refine E_iload_n dX12_isOf_14 rfl ?_
        refine E_iconst dX12_isOf_15 (by decide) ?_
        refine E_icmp_eq (tgt := 29) dX12_isOf_16 (by decide) (fun h16 => ?_) (fun h16 => ?_)
        · refine E_iconst dX12_isOf_29 (by decide) ?_
          refine E_goto (tgt := 34) dX12_isOf_30 (by decide) ?_
          refine E_zret dX12_isOf_34 rfl (by decide) ?_
          refine ⟨?_, rfl⟩
          congr 2; unfold isO; first | (rw [decide_eq_true (by omega)]; rfl) | (rw [decide_eq_false (by omega)]; rfl)
        · refine E_iload_n dX12_isOf_19 rfl ?_
          refine E_iconst dX12_isOf_20 (by decide) ?_
          refine E_icmp_ne (tgt := 33) dX12_isOf_21 (by decide) (fun h21 => ?_) (fun h21 => ?_)
          · refine E_iconst dX12_isOf_33 (by decide) ?_
            refine E_zret dX12_isOf_34 rfl (by decide) ?_
            refine ⟨?_, rfl⟩
            congr 2; unfold isO; first | (rw [decide_eq_true (by omega)]; rfl) | (rw [decide_eq_false (by omega)]; rfl)
          · refine E_iload_n dX12_isOf_24 rfl ?_
            refine E_iconst dX12_isOf_25 (by decide) ?_
            refine E_icmp_ne (tgt := 33) dX12_isOf_26 (by decide) (fun h26 => ?_) (fun h26 => ?_)
            · refine E_iconst dX12_isOf_33 (by decide) ?_
              refine E_zret dX12_isOf_34 rfl (by decide) ?_
              refine ⟨?_, rfl⟩
              congr 2; unfold isO; first | (rw [decide_eq_true (by omega)]; rfl) | (rw [decide_eq_false (by omega)]; rfl)
            · refine E_iconst dX12_isOf_29 (by decide) ?_
              refine E_goto (tgt := 34) dX12_isOf_30 (by decide) ?_
              refine E_zret dX12_isOf_34 rfl (by decide) ?_
              refine ⟨?_, rfl⟩
              congr 2; unfold isO; first | (rw [decide_eq_true (by omega)]; rfl) | (rw [decide_eq_false (by omega)]; rfl)
set_option maxRecDepth 20000 in
set_option maxHeartbeats 3000000 in
theorem r_as {G : Ctx} {M : Mem} {m : Nat} {A : AS} {B : Int} (hO : MO M m) (hV : MA (mI M) m A) (hG : GA A B) (hB : B ≤ 900000) {p f : Int} : CT G m_X12_as 2 0 0 [vR m, vI p, vI f] M (rM M m (s_as A p f) (t_as A p f)) := by
  refine CT.of k_X12_as 0 (ls := [some (vR m), some (vI p), some (vI f)]) rfl (Nat.le_of_ble_eq_true rfl) ?_
  refine E_aload_n dX12_as_0 rfl ?_
  refine E_iconst dX12_as_1 (by decide) ?_
  refine p_X12_53 rfl dX12_as_2 hO.o ?_
  obtain ⟨M1, e1, hO, hV, hF⟩ := thr hO hV
  refine EV.mq rfl e1.symm ?_
  clear e1
  have hQ := hV.mc
  have hW := hG.w.c
  have hpn := hW.pn
  have hl8 := hW.ln
  have hr8 := hW.rn
  have hgg := hG.w.g
  have hth := hG.th
  refine E_aload_n dX12_as_5 rfl ?_
  refine E_iload_n dX12_as_6 rfl ?_
  refine i_X12_215 rfl dX12_as_7 (by exact hO.o) (c_mIsPiece hO hQ hW) (by omega) (Nat.le_of_ble_eq_true rfl) rfl rfl ?_
  rintro _ _ ⟨rfl, rfl⟩
  try dsimp only [pu]
  refine E_if_eq (tgt := 25) dX12_as_10 (by decide) (fun h10 => ?_) (fun h10 => ?_)
  · simp only [tB0, ne_eq, Bool.not_eq_false, Bool.not_eq_true, decide_eq_true_eq, decide_eq_false_iff_not, Classical.not_not] at h10
    refine c_X12_73 rfl dX12_as_25 ?_
    refine E_iret dX12_as_27 rfl ?_
    refine ⟨?_, hF, ?_⟩
    · congr 2; unfold s_as; rw [if_neg (by omega)]; try rfl
    · unfold t_as; rw [if_neg (by omega)]; exact hV
  · simp only [tB0, ne_eq, Bool.not_eq_false, Bool.not_eq_true, decide_eq_true_eq, decide_eq_false_iff_not, Classical.not_not] at h10
    refine E_iload_n dX12_as_13 rfl ?_
    refine E_i2l dX12_as_14 ?_
    refine E_lconst (x := 0) dX12_as_15 (by decide) ?_
    refine c_X12_252 rfl dX12_as_16 ?_
    refine i_X12_63 rfl dX12_as_19 c_in (by omega) (Nat.le_of_ble_eq_true rfl) rfl rfl ?_
    rintro _ _ ⟨rfl, rfl⟩
    try dsimp only [pu]
    refine E_if_ne (tgt := 28) dX12_as_22 (by decide) (fun h22 => ?_) (fun h22 => ?_)
    · simp only [tB0, ne_eq, Bool.not_eq_false, Bool.not_eq_true, decide_eq_true_eq, decide_eq_false_iff_not, Classical.not_not] at h22
      refine E_aload_n dX12_as_28 rfl ?_
      refine E_iconst dX12_as_29 (by decide) ?_
      refine p_X12_57 rfl dX12_as_30 hO.o ?_
      obtain ⟨M2, e2, hO, hV, hF, hR⟩ := stz hO hV hF
      refine EV.mq rfl e2.symm ?_
      clear e2
      have hQ : MC (mI M2) m (A 4) := fun k k0 k1 => hR 4 k (by unfold SA; omega)
      refine E_aload_n dX12_as_33 rfl ?_
      refine E_iload_n dX12_as_34 rfl ?_
      refine E_iconst dX12_as_35 (by decide) ?_
      refine i_X12_202 rfl dX12_as_36 (by exact hO.o) (c_of hO hQ (j := 84 + 6 * p) (by omega) (by omega) (by omega)) (by omega) (Nat.le_of_ble_eq_true rfl) rfl rfl ?_
      rintro _ _ ⟨rfl, rfl⟩
      try dsimp only [pu]
      refine E_iload_n dX12_as_39 rfl ?_
      refine i_X12_288 rfl dX12_as_40 c_isOf (by omega) (Nat.le_of_ble_eq_true rfl) rfl rfl ?_
      rintro _ _ ⟨rfl, rfl⟩
      try dsimp only [pu]
      refine E_if_eq (tgt := 50) dX12_as_43 (by decide) (fun h43 => ?_) (fun h43 => ?_)
      · simp only [tB0, ne_eq, Bool.not_eq_false, Bool.not_eq_true, decide_eq_true_eq, decide_eq_false_iff_not, Classical.not_not] at h43
        refine E_aload_n dX12_as_50 rfl ?_
        refine E_iconst dX12_as_51 (by decide) ?_
        refine i_X12_74 rfl dX12_as_52 (by exact hO.o) (c_finding hO.o (by omega) (by omega)) (by omega) (Nat.le_of_ble_eq_true rfl) rfl rfl ?_
        rintro _ _ ⟨rfl, rfl⟩
        try dsimp only [pu]
        refine E_iret dX12_as_55 rfl ?_
        refine ⟨?_, hF.w (b := m) (by omega) 1 3, ?_⟩
        · congr 2; unfold s_as; rw [if_pos (by omega), if_neg (by rw [h43]; simp)]; try rfl
        · unfold t_as; rw [if_pos (by omega), if_neg (by rw [h43]; simp)]; exact hV.up0 1 3
      · simp only [tB0, ne_eq, Bool.not_eq_false, Bool.not_eq_true, decide_eq_true_eq, decide_eq_false_iff_not, Classical.not_not] at h43
        refine E_iload_n dX12_as_46 rfl ?_
        refine E_goto (tgt := 55) dX12_as_47 (by decide) ?_
        refine E_iret dX12_as_55 rfl ?_
        refine ⟨?_, hF, ?_⟩
        · congr 2; unfold s_as; rw [if_pos (by omega), if_pos h43]; try rfl
        · unfold t_as; rw [if_pos (by omega), if_pos h43]; exact hV
    · simp only [tB0, ne_eq, Bool.not_eq_false, Bool.not_eq_true, decide_eq_true_eq, decide_eq_false_iff_not, Classical.not_not] at h22
      refine c_X12_73 rfl dX12_as_25 ?_
      refine E_iret dX12_as_27 rfl ?_
      refine ⟨?_, hF, ?_⟩
      · congr 2; unfold s_as; rw [if_neg (by omega)]; try rfl
      · unfold t_as; rw [if_neg (by omega)]; exact hV
