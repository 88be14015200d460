/-! ===== 63: plans of the reference: what its bits and rows say ===== -/
theorem powB {L r : Nat} (hL : L ≤ 8) (hr : r ≤ 4) : L ^ r ≤ 4096 := by
  have a : L ^ r ≤ 8 ^ r := Nat.pow_le_pow_left hL r
  have b : 8 ^ r ≤ 8 ^ 4 := Nat.pow_le_pow_right (by decide) hr
  exact Nat.le_trans a (Nat.le_trans b (by decide))
/-- the set of the first n pieces -/
theorem some_eq : ∀ n : Nat, n ≤ 4 → bShl 1 n - 1 = ((2 ^ n - 1 : Nat) : Int) := by
  intro n hn
  rcases (by omega : n = 0 ∨ n = 1 ∨ n = 2 ∨ n = 3 ∨ n = 4) with rfl | rfl | rfl | rfl | rfl <;> decide
theorem BS.low {n np : Nat} (hn : n ≤ 4) (hnp : n ≤ np) : BS (bShl 1 n - 1) np (fun p => decide (p < n)) := by
  refine ⟨2 ^ n - 1, some_eq n hn, ?_, fun p => ?_⟩
  · have : 2 ^ n ≤ 2 ^ 4 := Nat.pow_le_pow_right (by decide) hn
    omega
  · rw [Nat.testBit_two_pow_sub_one]
    by_cases h : p < n
    · simp [h, Nat.lt_of_lt_of_le h hnp]
    · simp [h]
theorem fDrB_low {we : Int → Int} {n : Nat} (h0 : ∀ p : Nat, p < n → 0 ≤ we p) : ∀ np : Nat, fDrB (fun p => decide (p < n)) we np = fDr we 0 (min np n)
  | 0 => by rw [Nat.zero_min]; rfl
  | k + 1 => by
    have ih := fDrB_low h0 k
    simp only [fDrB]
    rw [ih]
    by_cases h : k < n
    · rw [show min k n = k by omega, show min (k + 1) n = k + 1 by omega]
      simp only [fDr, h, decide_true, Bool.not_true, Bool.false_or, Int.zero_add]
      have := h0 k h
      congr 1
      simp only [decide_eq_decide]
      omega
    · rw [show min k n = n by omega, show min (k + 1) n = n by omega]
      simp [h]
