/-! ===== 63: plans of the reference: what its bits and rows say ===== -/
theorem powB {L r : Nat} (hL : L ≤ 8) (hr : r ≤ 4) : L ^ r ≤ 4096 := by
  have a : L ^ r ≤ 8 ^ r := Nat.pow_le_pow_left hL r
  have b : 8 ^ r ≤ 8 ^ 4 := Nat.pow_le_pow_right (by decide) hr
  exact Nat.le_trans a (Nat.le_trans b (by decide))
/-- the set of the first n pieces -/
theorem some_eq : ∀ n : Nat, n ≤ 4 → bShl 1 n - 1 = ((2 ^ n - 1 : Nat) : Int) := by
  intro n hn
  rcases (by omega : n = 0 ∨ n = 1 ∨ n = 2 ∨ n = 3 ∨ n = 4) with rfl | rfl | rfl | rfl | rfl <;> decide
theorem BS.low {n np : Nat} (hn : n ≤ 4) (hnp : n ≤ np) : BS (bShl 1 n - 1) np (fun p => decide (p < n)) := by
  refine ⟨2 ^ n - 1, some_eq n hn, ?_, fun p => ?_⟩
  · have : 2 ^ n ≤ 2 ^ 4 := Nat.pow_le_pow_right (by decide) hn
    omega
  · rw [Nat.testBit_two_pow_sub_one]
    by_cases h : p < n
    · simp [h, Nat.lt_of_lt_of_le h hnp]
    · simp [h]
theorem fDrB_low {we : Int → Int} {n : Nat} (h0 : ∀ p : Nat, p < n → 0 ≤ we p) : ∀ np : Nat, fDrB (fun p => decide (p < n)) we np = fDr we 0 (min np n)
  | 0 => by rw [Nat.zero_min]; rfl
  | k + 1 => by
    have ih := fDrB_low h0 k
    simp only [fDrB]
    rw [ih]
    by_cases h : k < n
    · rw [show min k n = k by omega, show min (k + 1) n = k + 1 by omega]
      simp only [fDr, h, decide_true, Bool.not_true, Bool.false_or, Int.zero_add]
      have := h0 k h
      congr 1
      simp only [decide_eq_decide]
      omega
    · rw [show min k n = n by omega, show min (k + 1) n = n by omega]
      simp [h]
theorem BS.and {s t : Int} {n : Nat} {b c : Nat → Bool} (h : BS s n b) (g : BS t n c) : BS (bAnd s t) n (fun p => b p && c p) := by
  obtain ⟨x, rfl, hx, hb⟩ := h
  obtain ⟨y, rfl, hy, hc⟩ := g
  refine ⟨x &&& y, bAnd_nat hx, Nat.lt_of_le_of_lt Nat.and_le_left hx, fun p => ?_⟩
  rw [Nat.testBit_and, hb p, hc p]
  show _ = (decide (p < n) && (b p && c p))
  cases decide (p < n) <;> cases b p <;> cases c p <;> rfl
theorem BS.at {s : Int} {n : Nat} {b c : Nat → Bool} (h : BS s n b) (g : BS s n c) {p : Nat} (hp : p < n) : b p = c p := by
  obtain ⟨x, rfl, hx, hb⟩ := h
  obtain ⟨y, e, hy, hc⟩ := g
  have exy : x = y := by omega
  subst exy
  have z := hb p
  rw [hc p, decide_eq_true hp, Bool.true_and, Bool.true_and] at z
  exact z.symm
theorem BS.same {s s0 : Int} {n np : Nat} {b b0 : Nat → Bool} (h : BS s np b) (h0 : BS s0 np b0) (hn : n ≤ 4) (hnp : n ≤ np) : bAnd s (bShl 1 n - 1) = bAnd s0 (bShl 1 n - 1) ↔ ∀ p, p < n → b p = b0 p := by
  have g := h.and (BS.low hn hnp)
  have g0 := h0.and (BS.low hn hnp)
  constructor
  · intro e p hp
    rw [e] at g
    have z := g.at g0 (p := p) (by omega)
    simpa [hp] using z
  · intro e
    refine BS.uniq g (g0.congr (fun p _ => ?_))
    by_cases hp : p < n
    · simp [hp, e p hp]
    · simp [hp]
theorem itS_grow {cd : CD} {hu : Int → Int} {np : Nat} {we sn : Int → Int} {g : Int} {q : Int} (h : sn q ≠ 0) : ∀ t : Nat, itS cd hu np we sn g t q ≠ 0
  | 0 => h
  | t + 1 => itS_keep (itS_grow h t)
/-- none is newly stained: the sets are the same -/
theorem new_same {cd : CD} {hu : Int → Int} {np : Nat} {we sn : Int → Int} {g : Int} {n t : Nat} (hnp : (n : Int) ≤ cd 2) (h01 : ∀ p, 0 ≤ p → p < cd 2 → sn p = 0 ∨ sn p = 1) : (∀ p : Nat, p < n → decide (itS cd hu np we sn g t p = 1) = decide (sn p = 1)) ↔ fNew (itS cd hu np we sn g t) sn 0 n = false := by
  rw [fNew_iff]
  constructor
  · intro h k hk z
    have a := h k hk
    rw [Int.zero_add] at z
    have b := itS_b (cd := cd) (hu := hu) (n := np) (we := we) (g := g) h01 t k (by omega) (by omega)
    rw [decide_eq_true (show itS cd hu np we sn g t k = 1 by omega), decide_eq_false (by omega)] at a
    exact absurd a (by simp)
  · intro h p hp
    have a := h p hp
    rw [Int.zero_add] at a
    have b := itS_b (cd := cd) (hu := hu) (n := np) (we := we) (g := g) h01 t p (by omega) (by omega)
    have c := h01 p (by omega) (by omega)
    apply decide_eq_decide.mpr
    by_cases e : sn p = 0
    · have : itS cd hu np we sn g t p = 0 := by
        rcases b with b | b
        · exact b
        · exact absurd ⟨by rw [b]; decide, e⟩ a
      omega
    · have := itS_grow (cd := cd) (hu := hu) (np := np) (we := we) (g := g) (sn := sn) (q := (p : Int)) e t
      omega
