/-! ===== 22: bits ===== -/
theorem oI (n : Nat) : Int32.ofInt (n : Int) = nI n := rfl
theorem nI_orN (a b : Nat) : nI a ||| nI b = nI (a ||| b) := by
  apply Int32.toBitVec_inj.mp
  simp [nI, Int32.toBitVec_or, BitVec.ofNat_or]
theorem nI_andN (a b : Nat) : nI a &&& nI b = nI (a &&& b) := by
  apply Int32.toBitVec_inj.mp
  simp [nI, Int32.toBitVec_and, BitVec.ofNat_and]
theorem sh_l : ∀ p, p < 32 → ((nI p &&& 31).toBitVec.smod 32).toNat = p := by decide
theorem bOr_nat {x y : Nat} (hx : x < 2 ^ 31) (hy : y < 2 ^ 31) : bOr (x : Int) (y : Int) = ((x ||| y : Nat) : Int) := by
  unfold bOr
  rw [oI, oI, nI_orN, nI_toInt (Nat.or_lt_two_pow hx hy)]
theorem bAnd_nat {x y : Nat} (hx : x < 2 ^ 31) : bAnd (x : Int) (y : Int) = ((x &&& y : Nat) : Int) := by
  unfold bAnd
  rw [oI, oI, nI_andN, nI_toInt (Nat.lt_of_le_of_lt Nat.and_le_left hx)]
theorem bShl_nat {x p : Nat} (hp : p < 32) (h : x * 2 ^ p < 2 ^ 31) : bShl (x : Int) (p : Int) = ((x * 2 ^ p : Nat) : Int) := by
  unfold bShl
  rw [oI, oI, pk_shlN (nI p &&& 31) p (sh_l p hp) (by omega), nI_toInt h]
theorem bShr_nat {x p : Nat} (hp : p < 32) (h : x < 2 ^ 31) : bShr (x : Int) (p : Int) = ((x / 2 ^ p : Nat) : Int) := by
  unfold bShr
  rw [oI, oI, pk_shrN h (nI p &&& 31) p (sh_l p hp), nI_toInt (Nat.lt_of_le_of_lt (Nat.div_le_self _ _) h)]
/-- bit p of a number -/
theorem bit_at {x p : Nat} (hp : p < 32) (h : x < 2 ^ 31) : bAnd (bShr (x : Int) (p : Int)) 1 = tB (x.testBit p) := by
  rw [bShr_nat hp h, show (1 : Int) = ((1 : Nat) : Int) from rfl, bAnd_nat (Nat.lt_of_le_of_lt (Nat.div_le_self _ _) h), Nat.and_one_is_mod]
  rw [Nat.testBit_eq_decide_div_mod_eq]
  by_cases q : x / 2 ^ p % 2 = 1
  · rw [q]; simp [tB]
  · have : x / 2 ^ p % 2 = 0 := by omega
    rw [this]; simp [tB]
theorem pow_lt {p : Nat} (h : p < 10) : 1 * 2 ^ p < 2 ^ 31 := by
  rw [Nat.one_mul]; exact Nat.pow_lt_pow_right (by decide) (by omega)
/-- s is the set of the first n places where b holds -/
def BS (s : Int) (n : Nat) (b : Nat → Bool) : Prop := ∃ x : Nat, s = (x : Int) ∧ x < 2 ^ 31 ∧ ∀ p, x.testBit p = (decide (p < n) && b p)
theorem BS.nil (b : Nat → Bool) : BS 0 0 b := ⟨0, rfl, by decide, fun p => by simp⟩
theorem BS.add {s : Int} {n : Nat} {b : Nat → Bool} (h : BS s n b) (hn : n < 10) (hb : b n = true) : BS (bOr s (bShl 1 n)) (n + 1) b := by
  obtain ⟨x, rfl, hx, ht⟩ := h
  rw [show (1 : Int) = ((1 : Nat) : Int) from rfl, bShl_nat (by omega) (pow_lt hn), bOr_nat hx (pow_lt hn)]
  refine ⟨_, rfl, Nat.or_lt_two_pow hx (pow_lt hn), fun p => ?_⟩
  rw [Nat.testBit_or, ht, Nat.one_mul, Nat.testBit_two_pow]
  by_cases hp : p = n
  · subst hp; simp [hb]
  · have e : decide (n = p) = false := decide_eq_false (fun q => hp q.symm)
    rw [e, Bool.or_false]
    by_cases hq : p < n
    · rw [decide_eq_true hq, decide_eq_true (show p < n + 1 by omega)]
    · rw [decide_eq_false hq, decide_eq_false (show ¬ p < n + 1 by omega)]
theorem BS.skip {s : Int} {n : Nat} {b : Nat → Bool} (h : BS s n b) (hb : b n = false) : BS s (n + 1) b := by
  obtain ⟨x, rfl, hx, ht⟩ := h
  refine ⟨_, rfl, hx, fun p => ?_⟩
  rw [ht]
  by_cases hp : p = n
  · subst hp; simp [hb]
  · by_cases hq : p < n
    · rw [decide_eq_true hq, decide_eq_true (show p < n + 1 by omega)]
    · rw [decide_eq_false hq, decide_eq_false (show ¬ p < n + 1 by omega)]
theorem BS.ran {s : Int} {n : Nat} {b : Nat → Bool} (h : BS s n b) : 0 ≤ s ∧ s ≤ 2147483647 := by
  obtain ⟨x, rfl, hx, ht⟩ := h
  omega
theorem BS.bit {s : Int} {n : Nat} {b : Nat → Bool} (h : BS s n b) {p : Nat} (hp : p < n) (hp2 : p < 32) : bAnd (bShr s p) 1 = tB (b p) := by
  obtain ⟨x, rfl, hx, ht⟩ := h
  rw [bit_at hp2 hx, ht, decide_eq_true hp, Bool.true_and]
theorem BS.set {s : Int} {n : Nat} {b : Nat → Bool} (h : BS s n b) {k : Nat} (hk : k < n) (hk2 : k < 10) : BS (bOr s (bShl 1 k)) n (fun p => b p || decide (p = k)) := by
  obtain ⟨x, rfl, hx, ht⟩ := h
  rw [show (1 : Int) = ((1 : Nat) : Int) from rfl, bShl_nat (by omega) (pow_lt hk2), bOr_nat hx (pow_lt hk2)]
  refine ⟨_, rfl, Nat.or_lt_two_pow hx (pow_lt hk2), fun p => ?_⟩
  rw [Nat.testBit_or, ht, Nat.one_mul, Nat.testBit_two_pow]
  by_cases hp : p = k
  · subst hp; simp [hk]
  · have e : decide (k = p) = false := decide_eq_false (fun q => hp q.symm)
    simp [e, hp]
theorem BS.congr {s : Int} {n : Nat} {b c : Nat → Bool} (h : BS s n b) (e : ∀ p, p < n → b p = c p) : BS s n c := by
  obtain ⟨x, rfl, hx, ht⟩ := h
  refine ⟨x, rfl, hx, fun p => ?_⟩
  rw [ht]
  by_cases hp : p < n
  · rw [e p hp]
  · simp [hp]
theorem BS.uniq {s t : Int} {n : Nat} {b : Nat → Bool} (h : BS s n b) (g : BS t n b) : s = t := by
  obtain ⟨x, rfl, -, hx⟩ := h
  obtain ⟨y, rfl, -, hy⟩ := g
  have : x = y := Nat.eq_of_testBit_eq (fun i => by rw [hx, hy])
  rw [this]
