/-! ===== 20: the reference: its picture, reads of the court ===== -/
/-- the reference and its rows -/
def MO (M : Mem) (m : Nat) : Prop := mS M m = (4, 11) ∧ 21 ≤ m ∧ (mR M m 2 = m + 1 ∧ mS M (m + 1) = (1, 8)) ∧ (mR M m 3 = m + 2 ∧ mS M (m + 2) = (1, 8)) ∧ (mR M m 4 = m + 3 ∧ mS M (m + 3) = (1, 320)) ∧ (mR M m 5 = m + 4 ∧ mS M (m + 4) = (1, 144)) ∧ (mR M m 6 = m + 5 ∧ mS M (m + 5) = (1, 144)) ∧ (mR M m 8 = m + 6 ∧ mS M (m + 6) = (1, 500)) ∧ (mR M m 18 = m + 7 ∧ mS M (m + 7) = (1, 10)) ∧ (mR M m 19 = m + 8 ∧ mS M (m + 8) = (1, 10)) ∧ (mR M m 21 = m + 9 ∧ mS M (m + 9) = (1, 6)) ∧ (mR M m 22 = m + 10 ∧ mS M (m + 10) = (1, 6)) ∧ (mR M m 23 = m + 11 ∧ mS M (m + 11) = (1, 6)) ∧ (mR M m 24 = m + 12 ∧ mS M (m + 12) = (3, 2)) ∧ (mR M m 25 = m + 13 ∧ mS M (m + 13) = (1, 288)) ∧ (mR M m 26 = m + 14 ∧ mS M (m + 14) = (1, 16))
theorem MO.o {M : Mem} {m : Nat} (h : MO M m) : mS M m = (4, 11) := h.1
theorem MO.lo {M : Mem} {m : Nat} (h : MO M m) : 21 ≤ m := h.2.1
theorem MO.lane {M : Mem} {m : Nat} (h : MO M m) : mR M m 2 = m + 1 := h.2.2.1.1
theorem MO.s_lane {M : Mem} {m : Nat} (h : MO M m) : mS M (m + 1) = (1, 8) := h.2.2.1.2
theorem MO.many {M : Mem} {m : Nat} (h : MO M m) : mR M m 3 = m + 2 := h.2.2.2.1.1
theorem MO.s_many {M : Mem} {m : Nat} (h : MO M m) : mS M (m + 2) = (1, 8) := h.2.2.2.1.2
theorem MO.item {M : Mem} {m : Nat} (h : MO M m) : mR M m 4 = m + 3 := h.2.2.2.2.1.1
theorem MO.s_item {M : Mem} {m : Nat} (h : MO M m) : mS M (m + 3) = (1, 320) := h.2.2.2.2.1.2
theorem MO.court {M : Mem} {m : Nat} (h : MO M m) : mR M m 5 = m + 4 := h.2.2.2.2.2.1.1
theorem MO.s_court {M : Mem} {m : Nat} (h : MO M m) : mS M (m + 4) = (1, 144) := h.2.2.2.2.2.1.2
theorem MO.fresh {M : Mem} {m : Nat} (h : MO M m) : mR M m 6 = m + 5 := h.2.2.2.2.2.2.1.1
theorem MO.s_fresh {M : Mem} {m : Nat} (h : MO M m) : mS M (m + 5) = (1, 144) := h.2.2.2.2.2.2.1.2
theorem MO.tape {M : Mem} {m : Nat} (h : MO M m) : mR M m 8 = m + 6 := h.2.2.2.2.2.2.2.1.1
theorem MO.s_tape {M : Mem} {m : Nat} (h : MO M m) : mS M (m + 6) = (1, 500) := h.2.2.2.2.2.2.2.1.2
theorem MO.hung {M : Mem} {m : Nat} (h : MO M m) : mR M m 18 = m + 7 := h.2.2.2.2.2.2.2.2.1.1
theorem MO.s_hung {M : Mem} {m : Nat} (h : MO M m) : mS M (m + 7) = (1, 10) := h.2.2.2.2.2.2.2.2.1.2
theorem MO.wet {M : Mem} {m : Nat} (h : MO M m) : mR M m 19 = m + 8 := h.2.2.2.2.2.2.2.2.2.1.1
theorem MO.s_wet {M : Mem} {m : Nat} (h : MO M m) : mS M (m + 8) = (1, 10) := h.2.2.2.2.2.2.2.2.2.1.2
theorem MO.has {M : Mem} {m : Nat} (h : MO M m) : mR M m 21 = m + 9 := h.2.2.2.2.2.2.2.2.2.2.1.1
theorem MO.s_has {M : Mem} {m : Nat} (h : MO M m) : mS M (m + 9) = (1, 6) := h.2.2.2.2.2.2.2.2.2.2.1.2
theorem MO.gets {M : Mem} {m : Nat} (h : MO M m) : mR M m 22 = m + 10 := h.2.2.2.2.2.2.2.2.2.2.2.1.1
theorem MO.s_gets {M : Mem} {m : Nat} (h : MO M m) : mS M (m + 10) = (1, 6) := h.2.2.2.2.2.2.2.2.2.2.2.1.2
theorem MO.points {M : Mem} {m : Nat} (h : MO M m) : mR M m 23 = m + 11 := h.2.2.2.2.2.2.2.2.2.2.2.2.1.1
theorem MO.s_points {M : Mem} {m : Nat} (h : MO M m) : mS M (m + 11) = (1, 6) := h.2.2.2.2.2.2.2.2.2.2.2.2.1.2
theorem MO.isKept {M : Mem} {m : Nat} (h : MO M m) : mR M m 24 = m + 12 := h.2.2.2.2.2.2.2.2.2.2.2.2.2.1.1
theorem MO.s_isKept {M : Mem} {m : Nat} (h : MO M m) : mS M (m + 12) = (3, 2) := h.2.2.2.2.2.2.2.2.2.2.2.2.2.1.2
theorem MO.kept {M : Mem} {m : Nat} (h : MO M m) : mR M m 25 = m + 13 := h.2.2.2.2.2.2.2.2.2.2.2.2.2.2.1.1
theorem MO.s_kept {M : Mem} {m : Nat} (h : MO M m) : mS M (m + 13) = (1, 288) := h.2.2.2.2.2.2.2.2.2.2.2.2.2.2.1.2
theorem MO.trace {M : Mem} {m : Nat} (h : MO M m) : mR M m 26 = m + 14 := h.2.2.2.2.2.2.2.2.2.2.2.2.2.2.2.1
theorem MO.s_trace {M : Mem} {m : Nat} (h : MO M m) : mS M (m + 14) = (1, 16) := h.2.2.2.2.2.2.2.2.2.2.2.2.2.2.2.2
theorem MO.j {M : Mem} {m : Nat} (I : Nat → Int → Int) (h : MO M m) : MO (mJ M I) m := h
/-- the reference's court is cd -/
def MC (I : Nat → Int → Int) (m : Nat) (cd : CD) : Prop := ∀ k, 0 ≤ k → k < 144 → I (m + 4) k = cd k
theorem MC.at {I : Nat → Int → Int} {m : Nat} {cd : CD} (h : MC I m cd) {i j : Int} (e : i = j) (h0 : 0 ≤ j) (h1 : j < 144) : I (m + 4) i = cd j := by rw [e]; exact h j h0 h1
theorem bOr_0 {x : Int} (h1 : -2147483648 ≤ x) (h2 : x ≤ 2147483647) : bOr x 0 = x := by
  unfold bOr
  rw [show Int32.ofInt 0 = 0 from rfl, Int32.or_zero, i32_to h1 h2]
theorem bOr_ran (x y : Int) : -2147483648 ≤ bOr x y ∧ bOr x y ≤ 2147483647 := ⟨i32_lo _, i32_hi _⟩
theorem fHold_ran (cd : CD) (l q : Int) : ∀ k : Nat, -2147483648 ≤ fHold cd l q k ∧ fHold cd l q k ≤ 2147483647
  | 0 => by simp [fHold]
  | k + 1 => by
    simp only [fHold]; split
    · exact bOr_ran _ _
    · exact fHold_ran cd l q k
set_option maxRecDepth 20000 in
set_option maxHeartbeats 1600000 in
theorem c_in {G : Ctx} {M : Mem} {v a b : Int} : CT G m_X12_in 0 0 0 [vL v, vL a, vL b] M (rI M (tB (decide (a ≤ v ∧ v ≤ b)))) := by
  refine CT.of k_X12_in 0 (ls := [some (vL v), none, some (vL a), none, some (vL b), none]) rfl (Nat.le_of_ble_eq_true rfl) ?_
  refine E_lload_n dX12_in_0 rfl ?_
  refine E_lload_n dX12_in_1 rfl ?_
  refine E_lcmp dX12_in_2 (fun h2 => ?_) (fun h2 => ?_) (fun h2 => ?_)
  · refine E_if_lt (tgt := 17) dX12_in_3 (by decide) (fun h3 => ?_) (fun h3 => ?_)
    · refine E_iconst dX12_in_17 (by decide) ?_
      refine E_zret dX12_in_18 rfl (by decide) ?_
      refine ⟨?_, rfl⟩
      congr 2; first | (rw [decide_eq_true (by omega)]; rfl) | (rw [decide_eq_false (by omega)]; rfl)
    · refine E_lload_n dX12_in_6 rfl ?_
      refine E_lload dX12_in_7 rfl ?_
      refine E_lcmp dX12_in_9 (fun h9 => ?_) (fun h9 => ?_) (fun h9 => ?_)
      · refine E_if_gt (tgt := 17) dX12_in_10 (by decide) (fun h10 => ?_) (fun h10 => ?_)
        · refine E_iconst dX12_in_17 (by decide) ?_
          refine E_zret dX12_in_18 rfl (by decide) ?_
          refine ⟨?_, rfl⟩
          congr 2; first | (rw [decide_eq_true (by omega)]; rfl) | (rw [decide_eq_false (by omega)]; rfl)
        · refine E_iconst dX12_in_13 (by decide) ?_
          refine E_goto (tgt := 18) dX12_in_14 (by decide) ?_
          refine E_zret dX12_in_18 rfl (by decide) ?_
          refine ⟨?_, rfl⟩
          congr 2; first | (rw [decide_eq_true (by omega)]; rfl) | (rw [decide_eq_false (by omega)]; rfl)
      · refine E_if_gt (tgt := 17) dX12_in_10 (by decide) (fun h10 => ?_) (fun h10 => ?_)
        · refine E_iconst dX12_in_17 (by decide) ?_
          refine E_zret dX12_in_18 rfl (by decide) ?_
          refine ⟨?_, rfl⟩
          congr 2; first | (rw [decide_eq_true (by omega)]; rfl) | (rw [decide_eq_false (by omega)]; rfl)
        · refine E_iconst dX12_in_13 (by decide) ?_
          refine E_goto (tgt := 18) dX12_in_14 (by decide) ?_
          refine E_zret dX12_in_18 rfl (by decide) ?_
          refine ⟨?_, rfl⟩
          congr 2; first | (rw [decide_eq_true (by omega)]; rfl) | (rw [decide_eq_false (by omega)]; rfl)
      · refine E_if_gt (tgt := 17) dX12_in_10 (by decide) (fun h10 => ?_) (fun h10 => ?_)
        · refine E_iconst dX12_in_17 (by decide) ?_
          refine E_zret dX12_in_18 rfl (by decide) ?_
          refine ⟨?_, rfl⟩
          congr 2; first | (rw [decide_eq_true (by omega)]; rfl) | (rw [decide_eq_false (by omega)]; rfl)
        · refine E_iconst dX12_in_13 (by decide) ?_
          refine E_goto (tgt := 18) dX12_in_14 (by decide) ?_
          refine E_zret dX12_in_18 rfl (by decide) ?_
          refine ⟨?_, rfl⟩
          congr 2; first | (rw [decide_eq_true (by omega)]; rfl) | (rw [decide_eq_false (by omega)]; rfl)
  · refine E_if_lt (tgt := 17) dX12_in_3 (by decide) (fun h3 => ?_) (fun h3 => ?_)
    · refine E_iconst dX12_in_17 (by decide) ?_
      refine E_zret dX12_in_18 rfl (by decide) ?_
      refine ⟨?_, rfl⟩
      congr 2; first | (rw [decide_eq_true (by omega)]; rfl) | (rw [decide_eq_false (by omega)]; rfl)
    · refine E_lload_n dX12_in_6 rfl ?_
      refine E_lload dX12_in_7 rfl ?_
      refine E_lcmp dX12_in_9 (fun h9 => ?_) (fun h9 => ?_) (fun h9 => ?_)
      · refine E_if_gt (tgt := 17) dX12_in_10 (by decide) (fun h10 => ?_) (fun h10 => ?_)
        · refine E_iconst dX12_in_17 (by decide) ?_
          refine E_zret dX12_in_18 rfl (by decide) ?_
          refine ⟨?_, rfl⟩
          congr 2; first | (rw [decide_eq_true (by omega)]; rfl) | (rw [decide_eq_false (by omega)]; rfl)
        · refine E_iconst dX12_in_13 (by decide) ?_
          refine E_goto (tgt := 18) dX12_in_14 (by decide) ?_
          refine E_zret dX12_in_18 rfl (by decide) ?_
          refine ⟨?_, rfl⟩
          congr 2; first | (rw [decide_eq_true (by omega)]; rfl) | (rw [decide_eq_false (by omega)]; rfl)
      · refine E_if_gt (tgt := 17) dX12_in_10 (by decide) (fun h10 => ?_) (fun h10 => ?_)
        · refine E_iconst dX12_in_17 (by decide) ?_
          refine E_zret dX12_in_18 rfl (by decide) ?_
          refine ⟨?_, rfl⟩
          congr 2; first | (rw [decide_eq_true (by omega)]; rfl) | (rw [decide_eq_false (by omega)]; rfl)
        · refine E_iconst dX12_in_13 (by decide) ?_
          refine E_goto (tgt := 18) dX12_in_14 (by decide) ?_
          refine E_zret dX12_in_18 rfl (by decide) ?_
          refine ⟨?_, rfl⟩
          congr 2; first | (rw [decide_eq_true (by omega)]; rfl) | (rw [decide_eq_false (by omega)]; rfl)
      · refine E_if_gt (tgt := 17) dX12_in_10 (by decide) (fun h10 => ?_) (fun h10 => ?_)
        · refine E_iconst dX12_in_17 (by decide) ?_
          refine E_zret dX12_in_18 rfl (by decide) ?_
          refine ⟨?_, rfl⟩
          congr 2; first | (rw [decide_eq_true (by omega)]; rfl) | (rw [decide_eq_false (by omega)]; rfl)
        · refine E_iconst dX12_in_13 (by decide) ?_
          refine E_goto (tgt := 18) dX12_in_14 (by decide) ?_
          refine E_zret dX12_in_18 rfl (by decide) ?_
          refine ⟨?_, rfl⟩
          congr 2; first | (rw [decide_eq_true (by omega)]; rfl) | (rw [decide_eq_false (by omega)]; rfl)
  · refine E_if_lt (tgt := 17) dX12_in_3 (by decide) (fun h3 => ?_) (fun h3 => ?_)
    · refine E_iconst dX12_in_17 (by decide) ?_
      refine E_zret dX12_in_18 rfl (by decide) ?_
      refine ⟨?_, rfl⟩
      congr 2; first | (rw [decide_eq_true (by omega)]; rfl) | (rw [decide_eq_false (by omega)]; rfl)
    · refine E_lload_n dX12_in_6 rfl ?_
      refine E_lload dX12_in_7 rfl ?_
      refine E_lcmp dX12_in_9 (fun h9 => ?_) (fun h9 => ?_) (fun h9 => ?_)
      · refine E_if_gt (tgt := 17) dX12_in_10 (by decide) (fun h10 => ?_) (fun h10 => ?_)
        · refine E_iconst dX12_in_17 (by decide) ?_
          refine E_zret dX12_in_18 rfl (by decide) ?_
          refine ⟨?_, rfl⟩
          congr 2; first | (rw [decide_eq_true (by omega)]; rfl) | (rw [decide_eq_false (by omega)]; rfl)
        · refine E_iconst dX12_in_13 (by decide) ?_
          refine E_goto (tgt := 18) dX12_in_14 (by decide) ?_
          refine E_zret dX12_in_18 rfl (by decide) ?_
          refine ⟨?_, rfl⟩
          congr 2; first | (rw [decide_eq_true (by omega)]; rfl) | (rw [decide_eq_false (by omega)]; rfl)
      · refine E_if_gt (tgt := 17) dX12_in_10 (by decide) (fun h10 => ?_) (fun h10 => ?_)
        · refine E_iconst dX12_in_17 (by decide) ?_
          refine E_zret dX12_in_18 rfl (by decide) ?_
          refine ⟨?_, rfl⟩
          congr 2; first | (rw [decide_eq_true (by omega)]; rfl) | (rw [decide_eq_false (by omega)]; rfl)
        · refine E_iconst dX12_in_13 (by decide) ?_
          refine E_goto (tgt := 18) dX12_in_14 (by decide) ?_
          refine E_zret dX12_in_18 rfl (by decide) ?_
          refine ⟨?_, rfl⟩
          congr 2; first | (rw [decide_eq_true (by omega)]; rfl) | (rw [decide_eq_false (by omega)]; rfl)
      · refine E_if_gt (tgt := 17) dX12_in_10 (by decide) (fun h10 => ?_) (fun h10 => ?_)
        · refine E_iconst dX12_in_17 (by decide) ?_
          refine E_zret dX12_in_18 rfl (by decide) ?_
          refine ⟨?_, rfl⟩
          congr 2; first | (rw [decide_eq_true (by omega)]; rfl) | (rw [decide_eq_false (by omega)]; rfl)
        · refine E_iconst dX12_in_13 (by decide) ?_
          refine E_goto (tgt := 18) dX12_in_14 (by decide) ?_
          refine E_zret dX12_in_18 rfl (by decide) ?_
          refine ⟨?_, rfl⟩
          congr 2; first | (rw [decide_eq_true (by omega)]; rfl) | (rw [decide_eq_false (by omega)]; rfl)
set_option maxRecDepth 20000 in
set_option maxHeartbeats 1600000 in
theorem c_mIsLine {G : Ctx} {M : Mem} {m : Nat} {cd : CD} (hO : MO M m) (hQ : MC (mI M) m cd) (hW : WFc cd) {l : Int} : CT G m_X12_isLine 1 0 0 [vR m, vI l] M (rI M (tB (decide (0 ≤ l ∧ l ≤ cd 0 - 1)))) := by
  refine CT.of k_X12_isLine 0 (ls := [some (vR m), some (vI l)]) rfl (Nat.le_of_ble_eq_true rfl) ?_
  have hpn := hW.pn
  have hl8 := hW.ln
  have hr8 := hW.rn
  refine E_iload_n dX12_isLine_0 rfl ?_
  refine E_i2l dX12_isLine_1 ?_
  refine E_lconst (x := 0) dX12_isLine_2 (by decide) ?_
  refine E_aload_n dX12_isLine_3 rfl ?_
  refine g_X12_19 rfl dX12_isLine_4 hO.o hO.court ?_
  refine E_iconst dX12_isLine_7 (by decide) ?_
  refine E_iald dX12_isLine_8 hO.s_court (by omega) (by omega) (hQ.at (j := 0) (by omega) (by omega) (by omega)) ?_
  refine E_iconst dX12_isLine_9 (by decide) ?_
  refine E_isub dX12_isLine_10 (by omega) (by omega) ?_
  refine E_i2l dX12_isLine_11 ?_
  refine i_X12_63 rfl dX12_isLine_12 c_in (by omega) (Nat.le_of_ble_eq_true rfl) rfl rfl ?_
  rintro _ _ ⟨rfl, rfl⟩
  try dsimp only [pu]
  refine E_zret dX12_isLine_15 rfl (tB_nar _) ?_
  exact ⟨rfl, rfl⟩
set_option maxRecDepth 20000 in
set_option maxHeartbeats 1600000 in
theorem c_mIsPiece {G : Ctx} {M : Mem} {m : Nat} {cd : CD} (hO : MO M m) (hQ : MC (mI M) m cd) (hW : WFc cd) {l : Int} : CT G m_X12_isPiece 1 0 0 [vR m, vI l] M (rI M (tB (decide (0 ≤ l ∧ l ≤ cd 2 - 1)))) := by
  refine CT.of k_X12_isPiece 0 (ls := [some (vR m), some (vI l)]) rfl (Nat.le_of_ble_eq_true rfl) ?_
  have hpn := hW.pn
  have hl8 := hW.ln
  have hr8 := hW.rn
  refine E_iload_n dX12_isPiece_0 rfl ?_
  refine E_i2l dX12_isPiece_1 ?_
  refine E_lconst (x := 0) dX12_isPiece_2 (by decide) ?_
  refine E_aload_n dX12_isPiece_3 rfl ?_
  refine g_X12_19 rfl dX12_isPiece_4 hO.o hO.court ?_
  refine E_iconst dX12_isPiece_7 (by decide) ?_
  refine E_iald dX12_isPiece_8 hO.s_court (by omega) (by omega) (hQ.at (j := 2) (by omega) (by omega) (by omega)) ?_
  refine E_iconst dX12_isPiece_9 (by decide) ?_
  refine E_isub dX12_isPiece_10 (by omega) (by omega) ?_
  refine E_i2l dX12_isPiece_11 ?_
  refine i_X12_63 rfl dX12_isPiece_12 c_in (by omega) (Nat.le_of_ble_eq_true rfl) rfl rfl ?_
  rintro _ _ ⟨rfl, rfl⟩
  try dsimp only [pu]
  refine E_zret dX12_isPiece_15 rfl (tB_nar _) ?_
  exact ⟨rfl, rfl⟩
set_option maxRecDepth 20000 in
set_option maxHeartbeats 1600000 in
theorem c_of {G : Ctx} {M : Mem} {m : Nat} {cd : CD} (hO : MO M m) (hQ : MC (mI M) m cd) {p k j : Int} (e : 84 + 6 * p + k = j) (h0 : 0 ≤ p ∧ p < 10) (h1 : 0 ≤ k ∧ k < 6) : CT G m_X12_of 0 0 0 [vR m, vI p, vI k] M (rI M (cd j)) := by
  refine CT.of k_X12_of 0 (ls := [some (vR m), some (vI p), some (vI k)]) rfl (Nat.le_of_ble_eq_true rfl) ?_
  refine E_aload_n dX12_of_0 rfl ?_
  refine g_X12_19 rfl dX12_of_1 hO.o hO.court ?_
  refine E_bipush dX12_of_4 (by decide) ?_
  refine E_bipush dX12_of_6 (by decide) ?_
  refine E_iload_n dX12_of_8 rfl ?_
  refine E_imul dX12_of_9 (by omega) (by omega) ?_
  refine E_iadd dX12_of_10 (by omega) (by omega) ?_
  refine E_iload_n dX12_of_11 rfl ?_
  refine E_iadd dX12_of_12 (by omega) (by omega) ?_
  refine E_iald dX12_of_13 hO.s_court (by omega) (by omega) (hQ.at (j := j) (by omega) (by omega) (by omega)) ?_
  refine E_iret dX12_of_14 rfl ?_
  exact ⟨rfl, rfl⟩
set_option maxRecDepth 20000 in
set_option maxHeartbeats 1600000 in
theorem c_floor {G : Ctx} {M : Mem} {m : Nat} {cd : CD} (hO : MO M m) (hQ : MC (mI M) m cd) {l : Int} (h0 : 0 ≤ l ∧ l < 8) : CT G m_X12_floor 0 0 0 [vR m, vI l] M (rI M (cd (28 + 3 * l))) := by
  refine CT.of k_X12_floor 0 (ls := [some (vR m), some (vI l)]) rfl (Nat.le_of_ble_eq_true rfl) ?_
  refine E_aload_n dX12_floor_0 rfl ?_
  refine g_X12_19 rfl dX12_floor_1 hO.o hO.court ?_
  refine E_bipush dX12_floor_4 (by decide) ?_
  refine E_iconst dX12_floor_6 (by decide) ?_
  refine E_iload_n dX12_floor_7 rfl ?_
  refine E_imul dX12_floor_8 (by omega) (by omega) ?_
  refine E_iadd dX12_floor_9 (by omega) (by omega) ?_
  refine E_iald dX12_floor_10 hO.s_court (by omega) (by omega) (hQ.at (j := 28 + 3 * l) (by omega) (by omega) (by omega)) ?_
  refine E_iret dX12_floor_11 rfl ?_
  exact ⟨rfl, rfl⟩
set_option maxRecDepth 20000 in
set_option maxHeartbeats 1600000 in
theorem l_below {G : Ctx} {M : Mem} {m : Nat} {cd : CD} (hO : MO M m) (hQ : MC (mI M) m cd) (hW : WFc cd) {l : Int} (l0 : 0 ≤ l) (l1 : l < cd 0) (n : Nat) (hn : cd 0 = n) : ∀ (k r : Nat) (z : Option MV), r + k = n → EV G m_X12_below 1 0 0 (rI M (fBel cd l n)) 5 [some (vR m), some (vI l), some (vI (fBel cd l r)), some (vI (r : Int)), z] [] M := by
  intro k
  induction k with
  | zero =>
    intro r z hr
    obtain rfl : r = n := by omega
    have hpn := hW.pn
    have hl8 := hW.ln
    have hr8 := hW.rn
    refine E_iload_n dX12_below_5 rfl ?_
    refine E_aload_n dX12_below_6 rfl ?_
    refine g_X12_19 rfl dX12_below_7 hO.o hO.court ?_
    refine E_iconst dX12_below_10 (by decide) ?_
    refine E_iald dX12_below_11 hO.s_court (by omega) (by omega) (hQ.at (j := 0) (by omega) (by omega) (by omega)) ?_
    refine E_icmp_ge (tgt := 100) dX12_below_12 (by decide) (fun h12 => ?_) (fun h12 => ?_)
    · refine E_iload_n dX12_below_100 rfl ?_
      refine E_iret dX12_below_101 rfl ?_
      exact ⟨rfl, rfl⟩
    · exfalso; omega
  | succ k ih =>
    intro r z hr
    have hpn := hW.pn
    have hl8 := hW.ln
    have hr8 := hW.rn
    have hb := fBel_r cd l r
    refine E_iload_n dX12_below_5 rfl ?_
    refine E_aload_n dX12_below_6 rfl ?_
    refine g_X12_19 rfl dX12_below_7 hO.o hO.court ?_
    refine E_iconst dX12_below_10 (by decide) ?_
    refine E_iald dX12_below_11 hO.s_court (by omega) (by omega) (hQ.at (j := 0) (by omega) (by omega) (by omega)) ?_
    refine E_icmp_ge (tgt := 100) dX12_below_12 (by decide) (fun h12 => ?_) (fun h12 => ?_)
    · exfalso; omega
    · refine E_aload_n dX12_below_15 rfl ?_
      refine g_X12_19 rfl dX12_below_16 hO.o hO.court ?_
      refine E_bipush dX12_below_19 (by decide) ?_
      refine E_iconst dX12_below_21 (by decide) ?_
      refine E_iload_n dX12_below_22 rfl ?_
      refine E_imul dX12_below_23 (by omega) (by omega) ?_
      refine E_iadd dX12_below_24 (by omega) (by omega) ?_
      refine E_iconst dX12_below_25 (by decide) ?_
      refine E_iadd dX12_below_26 (by omega) (by omega) ?_
      refine E_iald dX12_below_27 hO.s_court (by omega) (by omega) (hQ.at (j := 29 + 3 * ↑r) (by omega) (by omega) (by omega)) ?_
      refine E_aload_n dX12_below_28 rfl ?_
      refine g_X12_19 rfl dX12_below_29 hO.o hO.court ?_
      refine E_bipush dX12_below_32 (by decide) ?_
      refine E_iconst dX12_below_34 (by decide) ?_
      refine E_iload_n dX12_below_35 rfl ?_
      refine E_imul dX12_below_36 (by omega) (by omega) ?_
      refine E_iadd dX12_below_37 (by omega) (by omega) ?_
      refine E_iconst dX12_below_38 (by decide) ?_
      refine E_iadd dX12_below_39 (by omega) (by omega) ?_
      refine E_iald dX12_below_40 hO.s_court (by omega) (by omega) (hQ.at (j := 29 + 3 * l) (by omega) (by omega) (by omega)) ?_
      refine E_icmp_ne (tgt := 61) dX12_below_41 (by decide) (fun h41 => ?_) (fun h41 => ?_)
      · refine E_iconst dX12_below_61 (by decide) ?_
        refine E_istore dX12_below_62 rfl (by decide) ?_
        try dsimp only [List.set]
        refine E_iload dX12_below_64 rfl ?_
        refine E_if_eq (tgt := 92) dX12_below_66 (by decide) (fun h66 => ?_) (fun h66 => ?_)
        · refine E_iload_n dX12_below_92 rfl ?_
          refine E_istore_n dX12_below_93 rfl (by decide) ?_
          try dsimp only [List.set]
          refine E_iinc dX12_below_94 rfl (by omega) (by omega) (by decide) rfl (by decide) ?_
          try dsimp only [List.set]
          refine E_goto (tgt := 5) dX12_below_97 (by decide) ?_
          exact EV.lq (by simp only [fBel]; (first | rw [if_pos (by omega)] | rw [if_neg (by omega)]); rfl) (ih (r + 1) _ (by omega))
        · exfalso; omega
      · refine E_aload_n dX12_below_44 rfl ?_
        refine E_iload_n dX12_below_45 rfl ?_
        refine i_X12_196 rfl dX12_below_46 (by exact hO.o) (c_floor hO hQ (l := ↑r) (by omega)) (by omega) (Nat.le_of_ble_eq_true rfl) rfl rfl ?_
        rintro _ _ ⟨rfl, rfl⟩
        try dsimp only [pu]
        refine E_aload_n dX12_below_49 rfl ?_
        refine E_iload_n dX12_below_50 rfl ?_
        refine i_X12_196 rfl dX12_below_51 (by exact hO.o) (c_floor hO hQ (l := l) (by omega)) (by omega) (Nat.le_of_ble_eq_true rfl) rfl rfl ?_
        rintro _ _ ⟨rfl, rfl⟩
        try dsimp only [pu]
        refine E_icmp_ge (tgt := 61) dX12_below_54 (by decide) (fun h54 => ?_) (fun h54 => ?_)
        · refine E_iconst dX12_below_61 (by decide) ?_
          refine E_istore dX12_below_62 rfl (by decide) ?_
          try dsimp only [List.set]
          refine E_iload dX12_below_64 rfl ?_
          refine E_if_eq (tgt := 92) dX12_below_66 (by decide) (fun h66 => ?_) (fun h66 => ?_)
          · refine E_iload_n dX12_below_92 rfl ?_
            refine E_istore_n dX12_below_93 rfl (by decide) ?_
            try dsimp only [List.set]
            refine E_iinc dX12_below_94 rfl (by omega) (by omega) (by decide) rfl (by decide) ?_
            try dsimp only [List.set]
            refine E_goto (tgt := 5) dX12_below_97 (by decide) ?_
            exact EV.lq (by simp only [fBel]; (first | rw [if_pos (by omega)] | rw [if_neg (by omega)]); rfl) (ih (r + 1) _ (by omega))
          · exfalso; omega
        · refine E_iconst dX12_below_57 (by decide) ?_
          refine E_goto (tgt := 62) dX12_below_58 (by decide) ?_
          refine E_istore dX12_below_62 rfl (by decide) ?_
          try dsimp only [List.set]
          refine E_iload dX12_below_64 rfl ?_
          refine E_if_eq (tgt := 92) dX12_below_66 (by decide) (fun h66 => ?_) (fun h66 => ?_)
          · exfalso; omega
          · refine E_iload_n dX12_below_69 rfl ?_
            refine c_X12_89 rfl dX12_below_70 ?_
            refine E_icmp_eq (tgt := 88) dX12_below_72 (by decide) (fun h72 => ?_) (fun h72 => ?_)
            · refine E_iload_n dX12_below_88 rfl ?_
              refine E_goto (tgt := 93) dX12_below_89 (by decide) ?_
              refine E_istore_n dX12_below_93 rfl (by decide) ?_
              try dsimp only [List.set]
              refine E_iinc dX12_below_94 rfl (by omega) (by omega) (by decide) rfl (by decide) ?_
              try dsimp only [List.set]
              refine E_goto (tgt := 5) dX12_below_97 (by decide) ?_
              exact EV.lq (by simp only [fBel]; (first | rw [if_pos (by omega)] | rw [if_neg (by omega)]); rfl) (ih (r + 1) _ (by omega))
            · refine E_aload_n dX12_below_75 rfl ?_
              refine E_iload_n dX12_below_76 rfl ?_
              refine i_X12_196 rfl dX12_below_77 (by exact hO.o) (c_floor hO hQ (l := ↑r) (by omega)) (by omega) (Nat.le_of_ble_eq_true rfl) rfl rfl ?_
              rintro _ _ ⟨rfl, rfl⟩
              try dsimp only [pu]
              refine E_aload_n dX12_below_80 rfl ?_
              refine E_iload_n dX12_below_81 rfl ?_
              refine i_X12_196 rfl dX12_below_82 (by exact hO.o) (c_floor hO hQ (l := (fBel cd l r)) (by omega)) (by omega) (Nat.le_of_ble_eq_true rfl) rfl rfl ?_
              rintro _ _ ⟨rfl, rfl⟩
              try dsimp only [pu]
              refine E_icmp_le (tgt := 92) dX12_below_85 (by decide) (fun h85 => ?_) (fun h85 => ?_)
              · refine E_iload_n dX12_below_92 rfl ?_
                refine E_istore_n dX12_below_93 rfl (by decide) ?_
                try dsimp only [List.set]
                refine E_iinc dX12_below_94 rfl (by omega) (by omega) (by decide) rfl (by decide) ?_
                try dsimp only [List.set]
                refine E_goto (tgt := 5) dX12_below_97 (by decide) ?_
                exact EV.lq (by simp only [fBel]; (first | rw [if_pos (by omega)] | rw [if_neg (by omega)]); rfl) (ih (r + 1) _ (by omega))
              · refine E_iload_n dX12_below_88 rfl ?_
                refine E_goto (tgt := 93) dX12_below_89 (by decide) ?_
                refine E_istore_n dX12_below_93 rfl (by decide) ?_
                try dsimp only [List.set]
                refine E_iinc dX12_below_94 rfl (by omega) (by omega) (by decide) rfl (by decide) ?_
                try dsimp only [List.set]
                refine E_goto (tgt := 5) dX12_below_97 (by decide) ?_
                exact EV.lq (by simp only [fBel]; (first | rw [if_pos (by omega)] | rw [if_neg (by omega)]); rfl) (ih (r + 1) _ (by omega))
set_option maxRecDepth 20000 in
set_option maxHeartbeats 1600000 in
theorem c_below {G : Ctx} {M : Mem} {m : Nat} {cd : CD} (hO : MO M m) (hQ : MC (mI M) m cd) (hW : WFc cd) {l : Int} (l0 : 0 ≤ l) (l1 : l < cd 0) : CT G m_X12_below 1 0 0 [vR m, vI l] M (rI M (bel cd l)) := by
  refine CT.of k_X12_below 3 (ls := [some (vR m), some (vI l), none, none, none]) rfl (Nat.le_of_ble_eq_true rfl) ?_
  have hl8 := hW.ln
  obtain ⟨n, hn⟩ := Int.eq_ofNat_of_zero_le (show 0 ≤ cd 0 by omega)
  have e : bel cd l = fBel cd l n := by unfold bel; rw [hn]; rfl
  rw [e]
  refine c_X12_89 rfl dX12_below_0 ?_
  refine E_istore_n dX12_below_2 rfl (by decide) ?_
  try dsimp only [List.set]
  refine E_iconst dX12_below_3 (by decide) ?_
  refine E_istore_n dX12_below_4 rfl (by decide) ?_
  try dsimp only [List.set]
  exact l_below hO hQ hW l0 l1 n hn n 0 _ (by omega)
set_option maxRecDepth 20000 in
set_option maxHeartbeats 1600000 in
theorem l_rights {G : Ctx} {M : Mem} {m : Nat} {cd : CD} (hO : MO M m) (hQ : MC (mI M) m cd) (hW : WFc cd) (g0 : 0 ≤ cd 3) (g1 : cd 3 ≤ 1000000) {l : Int} (n : Nat) (hn : cd 1 = n) : ∀ (k r : Nat) (z : Option MV), r + k = n → EV G m_X12_rightsTo 1 0 0 (rI M (fHold cd l (Int.tmod (cd 3) 24) n)) 15 [some (vR m), some (vI l), some (vI (Int.tmod (cd 3) 24)), some (vI (fHold cd l (Int.tmod (cd 3) 24) r)), some (vI (r : Int)), z] [] M := by
  intro k
  induction k with
  | zero =>
    intro r z hr
    obtain rfl : r = n := by omega
    have hpn := hW.pn
    have hl8 := hW.ln
    have hr8 := hW.rn
    refine E_iload dX12_rightsTo_15 rfl ?_
    refine E_aload_n dX12_rightsTo_17 rfl ?_
    refine g_X12_19 rfl dX12_rightsTo_18 hO.o hO.court ?_
    refine E_iconst dX12_rightsTo_21 (by decide) ?_
    refine E_iald dX12_rightsTo_22 hO.s_court (by omega) (by omega) (hQ.at (j := 1) (by omega) (by omega) (by omega)) ?_
    refine E_icmp_ge (tgt := 98) dX12_rightsTo_23 (by decide) (fun h23 => ?_) (fun h23 => ?_)
    · refine E_iload_n dX12_rightsTo_98 rfl ?_
      refine E_iret dX12_rightsTo_99 rfl ?_
      exact ⟨rfl, rfl⟩
    · exfalso; omega
  | succ k ih =>
    intro r z hr
    have hpn := hW.pn
    have hl8 := hW.ln
    have hr8 := hW.rn
    have hfr := fHold_ran cd l (Int.tmod (cd 3) 24) r
    refine E_iload dX12_rightsTo_15 rfl ?_
    refine E_aload_n dX12_rightsTo_17 rfl ?_
    refine g_X12_19 rfl dX12_rightsTo_18 hO.o hO.court ?_
    refine E_iconst dX12_rightsTo_21 (by decide) ?_
    refine E_iald dX12_rightsTo_22 hO.s_court (by omega) (by omega) (hQ.at (j := 1) (by omega) (by omega) (by omega)) ?_
    refine E_icmp_ge (tgt := 98) dX12_rightsTo_23 (by decide) (fun h23 => ?_) (fun h23 => ?_)
    · exfalso; omega
    · refine E_bipush dX12_rightsTo_26 (by decide) ?_
      refine E_iconst dX12_rightsTo_28 (by decide) ?_
      refine E_iload dX12_rightsTo_29 rfl ?_
      refine E_imul dX12_rightsTo_31 (by omega) (by omega) ?_
      refine E_iadd dX12_rightsTo_32 (by omega) (by omega) ?_
      refine E_istore dX12_rightsTo_33 rfl (by decide) ?_
      try dsimp only [List.set]
      refine E_iload_n dX12_rightsTo_35 rfl ?_
      refine E_aload_n dX12_rightsTo_36 rfl ?_
      refine g_X12_19 rfl dX12_rightsTo_37 hO.o hO.court ?_
      refine E_iload dX12_rightsTo_40 rfl ?_
      refine E_iald dX12_rightsTo_42 hO.s_court (by omega) (by omega) (hQ.at (j := 52 + 4 * ↑r) (by omega) (by omega) (by omega)) ?_
      refine E_iload_n dX12_rightsTo_43 rfl ?_
      refine E_icmp_ne (tgt := 89) dX12_rightsTo_44 (by decide) (fun h44 => ?_) (fun h44 => ?_)
      · refine E_iconst dX12_rightsTo_89 (by decide) ?_
        refine E_ior dX12_rightsTo_90 ?_
        refine E_istore_n dX12_rightsTo_91 rfl (by decide) ?_
        try dsimp only [List.set]
        refine E_iinc dX12_rightsTo_92 rfl (by omega) (by omega) (by decide) rfl (by decide) ?_
        try dsimp only [List.set]
        refine E_goto (tgt := 15) dX12_rightsTo_95 (by decide) ?_
        exact EV.lq (by simp only [fHold]; rw [if_neg (by omega), bOr_0 hfr.1 hfr.2]; rfl) (ih (r + 1) _ (by omega))
      · refine E_iload_n dX12_rightsTo_47 rfl ?_
        refine E_i2l dX12_rightsTo_48 ?_
        refine E_aload_n dX12_rightsTo_49 rfl ?_
        refine g_X12_19 rfl dX12_rightsTo_50 hO.o hO.court ?_
        refine E_iload dX12_rightsTo_53 rfl ?_
        refine E_iconst dX12_rightsTo_55 (by decide) ?_
        refine E_iadd dX12_rightsTo_56 (by omega) (by omega) ?_
        refine E_iald dX12_rightsTo_57 hO.s_court (by omega) (by omega) (hQ.at (j := 53 + 4 * ↑r) (by omega) (by omega) (by omega)) ?_
        refine E_i2l dX12_rightsTo_58 ?_
        refine E_aload_n dX12_rightsTo_59 rfl ?_
        refine g_X12_19 rfl dX12_rightsTo_60 hO.o hO.court ?_
        refine E_iload dX12_rightsTo_63 rfl ?_
        refine E_iconst dX12_rightsTo_65 (by decide) ?_
        refine E_iadd dX12_rightsTo_66 (by omega) (by omega) ?_
        refine E_iald dX12_rightsTo_67 hO.s_court (by omega) (by omega) (hQ.at (j := 54 + 4 * ↑r) (by omega) (by omega) (by omega)) ?_
        refine E_i2l dX12_rightsTo_68 ?_
        refine i_X12_63 rfl dX12_rightsTo_69 c_in (by omega) (Nat.le_of_ble_eq_true rfl) rfl rfl ?_
        rintro _ _ ⟨rfl, rfl⟩
        try dsimp only [pu]
        refine E_if_eq (tgt := 89) dX12_rightsTo_72 (by decide) (fun h72 => ?_) (fun h72 => ?_)
        · simp only [tB0, ne_eq, Bool.not_eq_false, Bool.not_eq_true, decide_eq_true_eq, decide_eq_false_iff_not, Classical.not_not] at h72
          refine E_iconst dX12_rightsTo_89 (by decide) ?_
          refine E_ior dX12_rightsTo_90 ?_
          refine E_istore_n dX12_rightsTo_91 rfl (by decide) ?_
          try dsimp only [List.set]
          refine E_iinc dX12_rightsTo_92 rfl (by omega) (by omega) (by decide) rfl (by decide) ?_
          try dsimp only [List.set]
          refine E_goto (tgt := 15) dX12_rightsTo_95 (by decide) ?_
          exact EV.lq (by simp only [fHold]; rw [if_neg (by omega), bOr_0 hfr.1 hfr.2]; rfl) (ih (r + 1) _ (by omega))
        · simp only [tB0, ne_eq, Bool.not_eq_false, Bool.not_eq_true, decide_eq_true_eq, decide_eq_false_iff_not, Classical.not_not] at h72
          refine E_iconst dX12_rightsTo_75 (by decide) ?_
          refine E_aload_n dX12_rightsTo_76 rfl ?_
          refine g_X12_19 rfl dX12_rightsTo_77 hO.o hO.court ?_
          refine E_iload dX12_rightsTo_80 rfl ?_
          refine E_iconst dX12_rightsTo_82 (by decide) ?_
          refine E_iadd dX12_rightsTo_83 (by omega) (by omega) ?_
          refine E_iald dX12_rightsTo_84 hO.s_court (by omega) (by omega) (hQ.at (j := 55 + 4 * ↑r) (by omega) (by omega) (by omega)) ?_
          refine E_ishl dX12_rightsTo_85 ?_
          refine E_goto (tgt := 90) dX12_rightsTo_86 (by decide) ?_
          refine E_ior dX12_rightsTo_90 ?_
          refine E_istore_n dX12_rightsTo_91 rfl (by decide) ?_
          try dsimp only [List.set]
          refine E_iinc dX12_rightsTo_92 rfl (by omega) (by omega) (by decide) rfl (by decide) ?_
          try dsimp only [List.set]
          refine E_goto (tgt := 15) dX12_rightsTo_95 (by decide) ?_
          exact EV.lq (by simp only [fHold]; rw [if_pos (by omega)]; rfl) (ih (r + 1) _ (by omega))
set_option maxRecDepth 20000 in
set_option maxHeartbeats 1600000 in
theorem c_rightsTo {G : Ctx} {M : Mem} {m : Nat} {cd : CD} (hO : MO M m) (hQ : MC (mI M) m cd) (hW : WFc cd) (g0 : 0 ≤ cd 3) (g1 : cd 3 ≤ 1000000) {l : Int} (n : Nat) (hn : cd 1 = n) : CT G m_X12_rightsTo 1 0 0 [vR m, vI l] M (rI M (fHold cd l (Int.tmod (cd 3) 24) n)) := by
  refine CT.of k_X12_rightsTo 4 (ls := [some (vR m), some (vI l), none, none, none, none]) rfl (Nat.le_of_ble_eq_true rfl) ?_
  have hq : 0 ≤ Int.tdiv (cd 3) 24 ∧ Int.tdiv (cd 3) 24 ≤ 1000000 := by rw [Int.tdiv_eq_ediv_of_nonneg g0]; omega
  refine E_aload_n dX12_rightsTo_0 rfl ?_
  refine g_X12_19 rfl dX12_rightsTo_1 hO.o hO.court ?_
  refine E_iconst dX12_rightsTo_4 (by decide) ?_
  refine E_iald dX12_rightsTo_5 hO.s_court (by omega) (by omega) (hQ.at (j := 3) (by omega) (by omega) (by omega)) ?_
  refine E_bipush dX12_rightsTo_6 (by decide) ?_
  refine E_irem dX12_rightsTo_8 (by omega) (by omega) (by omega) ?_
  refine E_istore_n dX12_rightsTo_9 rfl (by decide) ?_
  try dsimp only [List.set]
  refine E_iconst dX12_rightsTo_10 (by decide) ?_
  refine E_istore_n dX12_rightsTo_11 rfl (by decide) ?_
  try dsimp only [List.set]
  refine E_iconst dX12_rightsTo_12 (by decide) ?_
  refine E_istore dX12_rightsTo_13 rfl (by decide) ?_
  try dsimp only [List.set]
  exact l_rights hO hQ hW g0 g1 n hn n 0 _ (by omega)
set_option maxRecDepth 20000 in
set_option maxHeartbeats 1600000 in
theorem l_yardsOn {G : Ctx} {M : Mem} {m : Nat} {cd : CD} (hO : MO M m) (hQ : MC (mI M) m cd) (hW : WFc cd) {hu : Int → Int} (hH : ∀ p, 0 ≤ p → p < cd 2 → mI M (m + 7) p = hu p) {l : Int} (n : Nat) (hn : cd 2 = n) : ∀ (k r : Nat) , r + k = n → EV G m_X12_yardsOn 1 0 0 (rI M (fY cd hu l n)) 4 [some (vR m), some (vI l), some (vI (fY cd hu l r)), some (vI (r : Int))] [] M := by
  intro k
  induction k with
  | zero =>
    intro r  hr
    obtain rfl : r = n := by omega
    have hpn := hW.pn
    have hl8 := hW.ln
    have hr8 := hW.rn
    refine E_iload_n dX12_yardsOn_4 rfl ?_
    refine E_aload_n dX12_yardsOn_5 rfl ?_
    refine g_X12_19 rfl dX12_yardsOn_6 hO.o hO.court ?_
    refine E_iconst dX12_yardsOn_9 (by decide) ?_
    refine E_iald dX12_yardsOn_10 hO.s_court (by omega) (by omega) (hQ.at (j := 2) (by omega) (by omega) (by omega)) ?_
    refine E_icmp_ge (tgt := 43) dX12_yardsOn_11 (by decide) (fun h11 => ?_) (fun h11 => ?_)
    · refine E_iload_n dX12_yardsOn_43 rfl ?_
      refine E_iret dX12_yardsOn_44 rfl ?_
      exact ⟨rfl, rfl⟩
    · exfalso; omega
  | succ k ih =>
    intro r  hr
    have hpn := hW.pn
    have hl8 := hW.ln
    have hr8 := hW.rn
    have hy := fY_b hW hu l r (by omega)
    have hyr := hW.ya (p := r) (by omega) (by omega)
    refine E_iload_n dX12_yardsOn_4 rfl ?_
    refine E_aload_n dX12_yardsOn_5 rfl ?_
    refine g_X12_19 rfl dX12_yardsOn_6 hO.o hO.court ?_
    refine E_iconst dX12_yardsOn_9 (by decide) ?_
    refine E_iald dX12_yardsOn_10 hO.s_court (by omega) (by omega) (hQ.at (j := 2) (by omega) (by omega) (by omega)) ?_
    refine E_icmp_ge (tgt := 43) dX12_yardsOn_11 (by decide) (fun h11 => ?_) (fun h11 => ?_)
    · exfalso; omega
    · refine E_iload_n dX12_yardsOn_14 rfl ?_
      refine E_aload_n dX12_yardsOn_15 rfl ?_
      refine g_X12_28 rfl dX12_yardsOn_16 hO.o hO.hung ?_
      refine E_iload_n dX12_yardsOn_19 rfl ?_
      refine E_iald dX12_yardsOn_20 hO.s_hung (by omega) (by omega) (hH _ (by omega) (by omega)) ?_
      refine E_iload_n dX12_yardsOn_21 rfl ?_
      refine E_icmp_ne (tgt := 34) dX12_yardsOn_22 (by decide) (fun h22 => ?_) (fun h22 => ?_)
      · refine E_iconst dX12_yardsOn_34 (by decide) ?_
        refine E_iadd dX12_yardsOn_35 (by omega) (by omega) ?_
        refine E_istore_n dX12_yardsOn_36 rfl (by decide) ?_
        try dsimp only [List.set]
        refine E_iinc dX12_yardsOn_37 rfl (by omega) (by omega) (by decide) rfl (by decide) ?_
        try dsimp only [List.set]
        refine E_goto (tgt := 4) dX12_yardsOn_40 (by decide) ?_
        exact EV.lq (by simp only [fY]; (first | rw [if_pos (by omega)] | rw [if_neg (by omega)]); rfl) (ih (r + 1) (by omega))
      · refine E_aload_n dX12_yardsOn_25 rfl ?_
        refine E_iload_n dX12_yardsOn_26 rfl ?_
        refine E_iconst dX12_yardsOn_27 (by decide) ?_
        refine i_X12_202 rfl dX12_yardsOn_28 (by exact hO.o) (c_of hO hQ (j := 87 + 6 * ↑r) (by omega) (by omega) (by omega)) (by omega) (Nat.le_of_ble_eq_true rfl) rfl rfl ?_
        rintro _ _ ⟨rfl, rfl⟩
        try dsimp only [pu]
        refine E_goto (tgt := 35) dX12_yardsOn_31 (by decide) ?_
        refine E_iadd dX12_yardsOn_35 (by omega) (by omega) ?_
        refine E_istore_n dX12_yardsOn_36 rfl (by decide) ?_
        try dsimp only [List.set]
        refine E_iinc dX12_yardsOn_37 rfl (by omega) (by omega) (by decide) rfl (by decide) ?_
        try dsimp only [List.set]
        refine E_goto (tgt := 4) dX12_yardsOn_40 (by decide) ?_
        exact EV.lq (by simp only [fY]; (first | rw [if_pos (by omega)] | rw [if_neg (by omega)]); rfl) (ih (r + 1) (by omega))
set_option maxRecDepth 20000 in
set_option maxHeartbeats 1600000 in
theorem c_yardsOn {G : Ctx} {M : Mem} {m : Nat} {cd : CD} (hO : MO M m) (hQ : MC (mI M) m cd) (hW : WFc cd) {hu : Int → Int} (hH : ∀ p, 0 ≤ p → p < cd 2 → mI M (m + 7) p = hu p) {l : Int} (n : Nat) (hn : cd 2 = n) : CT G m_X12_yardsOn 1 0 0 [vR m, vI l] M (rI M (fY cd hu l n)) := by
  refine CT.of k_X12_yardsOn 2 (ls := [some (vR m), some (vI l), none, none]) rfl (Nat.le_of_ble_eq_true rfl) ?_
  refine E_iconst dX12_yardsOn_0 (by decide) ?_
  refine E_istore_n dX12_yardsOn_1 rfl (by decide) ?_
  try dsimp only [List.set]
  refine E_iconst dX12_yardsOn_2 (by decide) ?_
  refine E_istore_n dX12_yardsOn_3 rfl (by decide) ?_
  try dsimp only [List.set]
  exact l_yardsOn hO hQ hW hH n hn n 0 (by omega)
set_option maxRecDepth 20000 in
set_option maxHeartbeats 1600000 in
theorem l_hasSheet {G : Ctx} {M : Mem} {m : Nat} {cd : CD} (hO : MO M m) (hQ : MC (mI M) m cd) (hW : WFc cd) {hu : Int → Int} (hH : ∀ p, 0 ≤ p → p < cd 2 → mI M (m + 7) p = hu p) {l : Int} (n : Nat) (hn : cd 2 = n) : ∀ (k r : Nat) , r + k = n → EV G m_X12_hasSheet 1 0 0 (rI M (tB (fBar cd hu l false n))) 4 [some (vR m), some (vI l), some (vI (tB (fBar cd hu l false r))), some (vI (r : Int))] [] M := by
  intro k
  induction k with
  | zero =>
    intro r  hr
    obtain rfl : r = n := by omega
    have hpn := hW.pn
    have hl8 := hW.ln
    have hr8 := hW.rn
    refine E_iload_n dX12_hasSheet_4 rfl ?_
    refine E_aload_n dX12_hasSheet_5 rfl ?_
    refine g_X12_19 rfl dX12_hasSheet_6 hO.o hO.court ?_
    refine E_iconst dX12_hasSheet_9 (by decide) ?_
    refine E_iald dX12_hasSheet_10 hO.s_court (by omega) (by omega) (hQ.at (j := 2) (by omega) (by omega) (by omega)) ?_
    refine E_icmp_ge (tgt := 50) dX12_hasSheet_11 (by decide) (fun h11 => ?_) (fun h11 => ?_)
    · refine E_iload_n dX12_hasSheet_50 rfl ?_
      refine E_zret dX12_hasSheet_51 rfl (tB_nar _) ?_
      exact ⟨rfl, rfl⟩
    · exfalso; omega
  | succ k ih =>
    intro r  hr
    have hpn := hW.pn
    have hl8 := hW.ln
    have hr8 := hW.rn
    refine E_iload_n dX12_hasSheet_4 rfl ?_
    refine E_aload_n dX12_hasSheet_5 rfl ?_
    refine g_X12_19 rfl dX12_hasSheet_6 hO.o hO.court ?_
    refine E_iconst dX12_hasSheet_9 (by decide) ?_
    refine E_iald dX12_hasSheet_10 hO.s_court (by omega) (by omega) (hQ.at (j := 2) (by omega) (by omega) (by omega)) ?_
    refine E_icmp_ge (tgt := 50) dX12_hasSheet_11 (by decide) (fun h11 => ?_) (fun h11 => ?_)
    · exfalso; omega
    · refine E_iload_n dX12_hasSheet_14 rfl ?_
      refine E_if_ne (tgt := 38) dX12_hasSheet_15 (by decide) (fun h15 => ?_) (fun h15 => ?_)
      · simp only [tB0, ne_eq, Bool.not_eq_false, Bool.not_eq_true, decide_eq_true_eq, decide_eq_false_iff_not, Classical.not_not] at h15
        refine E_iconst dX12_hasSheet_38 (by decide) ?_
        refine E_goto (tgt := 43) dX12_hasSheet_39 (by decide) ?_
        refine E_istore_n dX12_hasSheet_43 rfl (by decide) ?_
        try dsimp only [List.set]
        refine E_iinc dX12_hasSheet_44 rfl (by omega) (by omega) (by decide) rfl (by decide) ?_
        try dsimp only [List.set]
        refine E_goto (tgt := 4) dX12_hasSheet_47 (by decide) ?_
        exact EV.lq (by simp only [fBar, h15, Bool.true_or]; rfl) (ih (r + 1) (by omega))
      · simp only [tB0, ne_eq, Bool.not_eq_false, Bool.not_eq_true, decide_eq_true_eq, decide_eq_false_iff_not, Classical.not_not] at h15
        refine E_aload_n dX12_hasSheet_18 rfl ?_
        refine g_X12_28 rfl dX12_hasSheet_19 hO.o hO.hung ?_
        refine E_iload_n dX12_hasSheet_22 rfl ?_
        refine E_iald dX12_hasSheet_23 hO.s_hung (by omega) (by omega) (hH _ (by omega) (by omega)) ?_
        refine E_iload_n dX12_hasSheet_24 rfl ?_
        refine E_icmp_ne (tgt := 42) dX12_hasSheet_25 (by decide) (fun h25 => ?_) (fun h25 => ?_)
        · refine E_iconst dX12_hasSheet_42 (by decide) ?_
          refine E_istore_n dX12_hasSheet_43 rfl (by decide) ?_
          try dsimp only [List.set]
          refine E_iinc dX12_hasSheet_44 rfl (by omega) (by omega) (by decide) rfl (by decide) ?_
          try dsimp only [List.set]
          refine E_goto (tgt := 4) dX12_hasSheet_47 (by decide) ?_
          exact EV.lq (by simp only [fBar, h15, Bool.false_or]; rw [decide_eq_false (by simp only [Bool.false_eq_true, or_false]; omega)]; rfl) (ih (r + 1) (by omega))
        · refine E_aload_n dX12_hasSheet_28 rfl ?_
          refine E_iload_n dX12_hasSheet_29 rfl ?_
          refine E_iconst dX12_hasSheet_30 (by decide) ?_
          refine i_X12_202 rfl dX12_hasSheet_31 (by exact hO.o) (c_of hO hQ (j := 84 + 6 * ↑r) (by omega) (by omega) (by omega)) (by omega) (Nat.le_of_ble_eq_true rfl) rfl rfl ?_
          rintro _ _ ⟨rfl, rfl⟩
          try dsimp only [pu]
          refine E_iconst dX12_hasSheet_34 (by decide) ?_
          refine E_icmp_ne (tgt := 42) dX12_hasSheet_35 (by decide) (fun h35 => ?_) (fun h35 => ?_)
          · refine E_iconst dX12_hasSheet_42 (by decide) ?_
            refine E_istore_n dX12_hasSheet_43 rfl (by decide) ?_
            try dsimp only [List.set]
            refine E_iinc dX12_hasSheet_44 rfl (by omega) (by omega) (by decide) rfl (by decide) ?_
            try dsimp only [List.set]
            refine E_goto (tgt := 4) dX12_hasSheet_47 (by decide) ?_
            exact EV.lq (by simp only [fBar, h15, Bool.false_or]; rw [decide_eq_false (by simp only [Bool.false_eq_true, or_false]; omega)]; rfl) (ih (r + 1) (by omega))
          · refine E_iconst dX12_hasSheet_38 (by decide) ?_
            refine E_goto (tgt := 43) dX12_hasSheet_39 (by decide) ?_
            refine E_istore_n dX12_hasSheet_43 rfl (by decide) ?_
            try dsimp only [List.set]
            refine E_iinc dX12_hasSheet_44 rfl (by omega) (by omega) (by decide) rfl (by decide) ?_
            try dsimp only [List.set]
            refine E_goto (tgt := 4) dX12_hasSheet_47 (by decide) ?_
            exact EV.lq (by simp only [fBar, h15, Bool.false_or]; rw [decide_eq_true (by simp only [Bool.false_eq_true, or_false]; omega)]; rfl) (ih (r + 1) (by omega))
set_option maxRecDepth 20000 in
set_option maxHeartbeats 1600000 in
theorem c_hasSheet {G : Ctx} {M : Mem} {m : Nat} {cd : CD} (hO : MO M m) (hQ : MC (mI M) m cd) (hW : WFc cd) {hu : Int → Int} (hH : ∀ p, 0 ≤ p → p < cd 2 → mI M (m + 7) p = hu p) {l : Int} (n : Nat) (hn : cd 2 = n) : CT G m_X12_hasSheet 1 0 0 [vR m, vI l] M (rI M (tB (fBar cd hu l false n))) := by
  refine CT.of k_X12_hasSheet 2 (ls := [some (vR m), some (vI l), none, none]) rfl (Nat.le_of_ble_eq_true rfl) ?_
  refine E_iconst dX12_hasSheet_0 (by decide) ?_
  refine E_istore_n dX12_hasSheet_1 rfl (by decide) ?_
  try dsimp only [List.set]
  refine E_iconst dX12_hasSheet_2 (by decide) ?_
  refine E_istore_n dX12_hasSheet_3 rfl (by decide) ?_
  try dsimp only [List.set]
  exact l_hasSheet hO hQ hW hH n hn n 0 (by omega)
