/-! ===== 42: rain ===== -/
/-- of those told the one with most yards, the first of them; none -/
def nx (cd : CD) (b : Nat → Bool) : Nat → Int
  | 0 => -1000000
  | k + 1 => if b k = true ∧ (nx cd b k = -1000000 ∨ cd (87 + 6 * nx cd b k) < cd (87 + 6 * k)) then (k : Int) else nx cd b k
theorem nx_r (cd : CD) (b : Nat → Bool) : ∀ k : Nat, nx cd b k = -1000000 ∨ (0 ≤ nx cd b k ∧ nx cd b k < k)
  | 0 => Or.inl rfl
  | k + 1 => by
    have h := nx_r cd b k
    simp only [nx]
    split <;> omega
theorem nx_b (cd : CD) (b : Nat → Bool) : ∀ k j : Nat, nx cd b k = (j : Int) → b j = true
  | 0, j, h => by simp only [nx] at h; omega
  | k + 1, j, h => by
    simp only [nx] at h
    split at h
    · rename_i hc
      have e : k = j := by omega
      rw [← e]; exact hc.1
    · exact nx_b cd b k j h
theorem nx_n (cd : CD) (b : Nat → Bool) : ∀ k : Nat, (∀ j, j < k → b j = false) → nx cd b k = -1000000
  | 0, _ => rfl
  | k + 1, h => by
    simp only [nx]
    rw [if_neg (fun q => by rw [h k (by omega)] at q; exact absurd q.1 (by simp))]
    exact nx_n cd b k (fun j hj => h j (by omega))
theorem nx_cg (cd : CD) {b c : Nat → Bool} : ∀ k : Nat, (∀ j, j < k → b j = c j) → nx cd b k = nx cd c k
  | 0, _ => rfl
  | k + 1, h => by simp only [nx]; rw [nx_cg cd k (fun j hj => h j (by omega)), h k (by omega)]
def nxM (cd : CD) (b : Nat → Bool) (k : Nat) : Int := if nx cd b k = -1000000 then 0 else cd (87 + 6 * nx cd b k)
/-- those told but one -/
def wo (b : Nat → Bool) (x : Int) : Nat → Bool := fun q => b q && !decide ((q : Int) = x)
/-- yards that get wet, times a million: so many taken in at most, those told, how likely it stays dry, what is summed up -/
def rnS (cd : CD) (n : Nat) (p : Int) : Nat → (Nat → Bool) → Int → Int → Int
  | 0, _, _, s => s
  | f + 1, b, st, s => if nx cd b n = -1000000 then s else rnS cd n p f (wo b (nx cd b n)) (Int.tdiv (st * (100 - p)) 100) (s + cd (87 + 6 * nx cd b n) * (1000000 - st))
theorem rnS_cg (cd : CD) (n : Nat) (p : Int) : ∀ (f : Nat) (b c : Nat → Bool) (st s : Int), (∀ j, j < n → b j = c j) → rnS cd n p f b st s = rnS cd n p f c st s
  | 0, _, _, _, _, _ => rfl
  | f + 1, b, c, st, s, h => by
    simp only [rnS]
    rw [nx_cg cd n h]
    split
    · rfl
    · exact rnS_cg cd n p f _ _ _ _ (fun j hj => by unfold wo; rw [h j hj])
theorem cnt_cg {b c : Nat → Bool} : ∀ n : Nat, (∀ j, j < n → b j = c j) → cnt b n = cnt c n
  | 0, _ => rfl
  | n + 1, h => by simp only [cnt]; rw [cnt_cg n (fun j hj => h j (by omega)), h n (by omega)]
theorem cnt_wo (b : Nat → Bool) (j : Nat) : ∀ n : Nat, j < n → b j = true → cnt (wo b j) n = cnt b n - 1
  | 0, h, _ => by omega
  | n + 1, h, hb => by
    simp only [cnt]
    by_cases e : n = j
    · subst e
      have h1 : cnt (wo b (n : Int)) n = cnt b n := cnt_cg n (fun q hq => by unfold wo; rw [decide_eq_false (by omega)]; simp)
      have h2 : wo b (n : Int) n = false := by unfold wo; simp
      rw [h1, h2, hb]
      show cnt b n + 0 = cnt b n + 1 - 1
      omega
    · have h1 := cnt_wo b j n (by omega) hb
      have h2 : wo b (j : Int) n = b n := by unfold wo; rw [decide_eq_false (by omega)]; simp
      rw [h1, h2]; omega
theorem cnt_0 {b : Nat → Bool} : ∀ n : Nat, cnt b n ≤ 0 → ∀ j, j < n → b j = false
  | 0, _, j, hj => by omega
  | n + 1, h, j, hj => by
    simp only [cnt] at h
    have h1 := cnt_b b n
    have h2 := tB_ran (b n)
    by_cases e : j = n
    · subst e
      cases hb : b j
      · rfl
      · rw [hb] at h; simp [tB] at h; omega
    · exact cnt_0 n (by omega) j (by omega)
def hg_ (cd : CD) : Nat → Bool := fun p => decide (cHu cd p ≠ -1000000)
def s_rain (A : AS) (p w : Int) (n : Nat) : Int := if A 0 7 = 0 then -1000002 else if (0 ≤ p ∧ p ≤ 100) ∧ (0 ≤ w ∧ w ≤ 1) then (if w = 1 then nx (A 4) (hg_ (A 4)) n else rnS (A 4) n p n (hg_ (A 4)) 1000000 0) else -1000001
theorem clr10 : ∀ x : Nat, x < 1024 → ∀ k : Nat, k < 10 → bAnd (x : Int) (bXor (bShl 1 k) (-1)) = ((x &&& (1023 - 2 ^ k) : Nat) : Int) := by decide +kernel
theorem clr_t : ∀ k : Nat, k < 10 → ∀ p : Nat, p < 10 → Nat.testBit (1023 - 2 ^ k) p = !decide (p = k) := by decide +kernel
theorem BS.clear {s : Int} {n : Nat} {b : Nat → Bool} (h : BS s n b) (hn : n ≤ 10) {k : Nat} (hk : k < 10) : BS (bAnd s (bXor (bShl 1 k) (-1))) n (wo b k) := by
  obtain ⟨x, rfl, hx, ht⟩ := h
  have h10 : x < 1024 := by
    have : x < 2 ^ 10 := Nat.lt_pow_two_of_testBit x (fun i hi => by rw [ht i, decide_eq_false (by omega), Bool.false_and])
    exact this
  refine ⟨x &&& (1023 - 2 ^ k), clr10 x h10 k hk, Nat.lt_of_le_of_lt Nat.and_le_left hx, fun p => ?_⟩
  rw [Nat.testBit_and, ht p]
  by_cases hp : p < n
  · rw [decide_eq_true hp, clr_t k hk p (by omega)]
    unfold wo
    simp only [Bool.true_and]
    congr 2
    exact decide_eq_decide.mpr (by omega)
  · rw [decide_eq_false hp, Bool.false_and, Bool.false_and, Bool.false_and]
theorem rain_b {y st : Int} (h1 : 1 ≤ y ∧ y ≤ 9) (h2 : 0 ≤ st ∧ st ≤ 1000000) : 0 ≤ y * (1000000 - st) ∧ y * (1000000 - st) ≤ 9000000 := by
  refine ⟨Int.mul_nonneg (by omega) (by omega), ?_⟩
  have := Int.mul_le_mul_of_nonneg_right h1.2 (show 0 ≤ 1000000 - st by omega)
  omega
theorem rain_s {st p : Int} (h1 : 0 ≤ p ∧ p ≤ 100) (h2 : 0 ≤ st ∧ st ≤ 1000000) : (0 ≤ st * (100 - p) ∧ st * (100 - p) ≤ 100000000) ∧ 0 ≤ Int.tdiv (st * (100 - p)) 100 ∧ Int.tdiv (st * (100 - p)) 100 ≤ 1000000 := by
  have h3 : 0 ≤ st * (100 - p) := Int.mul_nonneg h2.1 (by omega)
  have h4 := Int.mul_le_mul_of_nonneg_right h2.2 (show 0 ≤ 100 - p by omega)
  rw [Int.tdiv_eq_ediv_of_nonneg h3]
  omega
