/-! ===== 54: plans, as numbers: more that hangs never dries sooner ===== -/
theorem gCnt_mono (cd : CD) {hu hu2 v v2 : Int → Int} (l : Int) : ∀ n : Nat, (∀ q : Nat, q < n → hu q ≠ -1000000 → hu2 q = hu q ∧ v q ≤ v2 q) → gCnt cd hu v l n ≤ gCnt cd hu2 v2 l n
  | 0, _ => Int.le_refl _
  | n + 1, h => by
    have ih := gCnt_mono cd l n (fun q hq => h q (by omega))
    have hn := h n (by omega)
    simp only [gCnt]
    by_cases hc : hu n ≠ -1000000 ∧ 30 < v n ∧ bel cd (hu n) = l
    · have h1 := hn hc.1
      rw [if_pos hc, if_pos ⟨by rw [h1.1]; exact hc.1, by omega, by rw [h1.1]; exact hc.2.2⟩]
      omega
    · rw [if_neg hc]
      split <;> omega
theorem gRed_mono (cd : CD) {hu hu2 v v2 : Int → Int} (l : Int) : ∀ n : Nat, (∀ q : Nat, q < n → hu q ≠ -1000000 → hu2 q = hu q ∧ v q ≤ v2 q) → gRed cd hu v l n = true → gRed cd hu2 v2 l n = true
  | 0, _, h => h
  | n + 1, h, hr => by
    have ih := gRed_mono cd l n (fun q hq => h q (by omega))
    have hn := h n (by omega)
    simp only [gRed, Bool.or_eq_true, decide_eq_true_eq] at hr ⊢
    rcases hr with hr | hr
    · exact Or.inl (ih hr)
    · have h1 := hn hr.1.1
      exact Or.inr ⟨⟨by rw [h1.1]; exact hr.1.1, by omega, by rw [h1.1]; exact hr.1.2.2⟩, hr.2⟩
/-- the second hangs all that the first hangs, where it hangs -/
def SubH (np : Nat) (hu hu2 : Int → Int) : Prop := ∀ q : Int, 0 ≤ q → q < np → hu q ≠ -1000000 → hu2 q = hu q
theorem SubH.rfl' (np : Nat) (hu : Int → Int) : SubH np hu hu := fun _ _ _ _ => rfl
theorem SubH.tr {np : Nat} {hu hu2 hu3 : Int → Int} (h : SubH np hu hu2) (g : SubH np hu2 hu3) : SubH np hu hu3 := fun q q0 q1 hq => (g q q0 q1 (by rw [h q q0 q1 hq]; exact hq)).trans (h q q0 q1 hq)
theorem SubH.up {np : Nat} {hu : Int → Int} {p : Int} (hp : hu p = -1000000) (l : Int) : SubH np hu (upH hu p l) := fun q _ _ hq => by
  unfold upH; rw [if_neg (fun e => hq (by rw [e]; exact hp))]
theorem it_mono {cd : CD} {hu hu2 : Int → Int} {np : Nat} {we sn : Int → Int} {g : Int} (hs : SubH np hu hu2) : ∀ (t : Nat) (q : Int), 0 ≤ q → q < np → hu q ≠ -1000000 → itW cd hu np we g t q ≤ itW cd hu2 np we g t q ∧ (itS cd hu np we sn g t q ≠ 0 → itS cd hu2 np we sn g t q ≠ 0)
  | 0, _, _, _, _ => ⟨Int.le_refl _, fun h => h⟩
  | t + 1, q, q0, q1, hq => by
    have ih := it_mono (cd := cd) (we := we) (sn := sn) (g := g) hs t
    have e := hs q q0 q1 hq
    have hv : ∀ p : Int, 0 ≤ p → p < np → hu p ≠ -1000000 → qW1 cd hu (itW cd hu np we g t) (Int.tmod (g + t) 24) p ≤ qW1 cd hu2 (itW cd hu2 np we g t) (Int.tmod (g + t) 24) p := fun p p0 p1 hp => by
      have e1 := hs p p0 p1 hp
      have i1 := (ih p p0 p1 hp).1
      unfold qW1
      rw [if_neg hp, if_neg (by rw [e1]; exact hp), e1]
      omega
    have hall : ∀ p : Nat, p < np → hu p ≠ -1000000 → hu2 p = hu p ∧ qW1 cd hu (itW cd hu np we g t) (Int.tmod (g + t) 24) p ≤ qW1 cd hu2 (itW cd hu2 np we g t) (Int.tmod (g + t) 24) p := fun p hp hn => ⟨hs p (by omega) (by omega) hn, hv p (by omega) (by omega) hn⟩
    have hq2 : hu2 q ≠ -1000000 := by rw [e]; exact hq
    simp only [itW, itS]
    constructor
    · have hc := gCnt_mono cd (hu q) np hall
      have h1 := hv q q0 q1 hq
      unfold qW2
      rw [if_neg hq, if_neg hq2, e]
      omega
    · intro h1
      unfold qS2 at h1 ⊢
      by_cases hc : hu q ≠ -1000000 ∧ gRed cd hu (qW1 cd hu (itW cd hu np we g t) (Int.tmod (g + t) 24)) (hu q) np = true ∧ fTak cd q = true
      · rw [if_pos ⟨hq2, by rw [e]; exact gRed_mono cd (hu q) np hall hc.2.1, hc.2.2⟩]
        decide
      · rw [if_neg hc] at h1
        split
        · decide
        · exact (ih q q0 q1 hq).2 h1
theorem itS_keep {cd : CD} {hu : Int → Int} {np : Nat} {we sn : Int → Int} {g : Int} {t : Nat} {q : Int} (h : itS cd hu np we sn g t q ≠ 0) : itS cd hu np we sn g (t + 1) q ≠ 0 := by
  simp only [itS]
  unfold qS2
  split
  · decide
  · exact h
theorem fDr_iff {we : Int → Int} {f : Int} : ∀ m : Nat, fDr we f m = true ↔ ∀ k : Nat, k < m → we (f + k) ≤ 0
  | 0 => ⟨fun _ k hk => by omega, fun _ => rfl⟩
  | m + 1 => by
    simp only [fDr, Bool.and_eq_true, decide_eq_true_eq]
    rw [fDr_iff m]
    constructor
    · rintro ⟨h1, h2⟩ k hk
      by_cases e : k = m
      · rw [e]; exact h2
      · exact h1 k (by omega)
    · intro h
      exact ⟨fun k hk => h k (by omega), h m (by omega)⟩
theorem fNew_iff {sn s0 : Int → Int} {f : Int} : ∀ m : Nat, fNew sn s0 f m = false ↔ ∀ k : Nat, k < m → ¬ (sn (f + k) ≠ 0 ∧ s0 (f + k) = 0)
  | 0 => ⟨fun _ k hk => by omega, fun _ => rfl⟩
  | m + 1 => by
    simp only [fNew, Bool.or_eq_false_iff, decide_eq_false_iff_not]
    rw [fNew_iff m]
    constructor
    · rintro ⟨h1, h2⟩ k hk
      by_cases e : k = m
      · rw [e]; exact h2
      · exact h1 k (by omega)
    · intro h
      exact ⟨fun k hk => h k (by omega), h m (by omega)⟩
/-- at a time: pieces from f on, m of them, are dry, none is newly stained -/
def eD (cd : CD) (hu : Int → Int) (np : Nat) (we sn : Int → Int) (g f : Int) (m : Nat) : Nat → Bool := fun t => fDr (itW cd hu np we g t) f m && !fNew (itS cd hu np we sn g t) sn f m
theorem eD_mono {cd : CD} {hu hu2 : Int → Int} {np : Nat} {we sn : Int → Int} {g f f2 : Int} {m m2 : Nat} (hs : SubH np hu hu2) (h1 : f2 ≤ f) (h2 : f + m ≤ f2 + m2) (h3 : 0 ≤ f ∧ f + m ≤ np) (hh : ∀ q : Int, f ≤ q → q < f + m → hu q ≠ -1000000) {t : Nat} (h : eD cd hu2 np we sn g f2 m2 t = true) : eD cd hu np we sn g f m t = true := by
  unfold eD at h ⊢
  simp only [Bool.and_eq_true, Bool.not_eq_true'] at h ⊢
  rw [fDr_iff, fNew_iff] at h ⊢
  refine ⟨fun k hk => ?_, fun k hk z => ?_⟩
  · have i := (it_mono (cd := cd) (we := we) (sn := sn) (g := g) hs t (f + k) (by omega) (by omega) (hh _ (by omega) (by omega))).1
    have hq := h.1 (f + k - f2).toNat (by omega)
    rw [show f2 + (((f + k - f2).toNat : Nat) : Int) = f + k by omega] at hq
    omega
  · have i := (it_mono (cd := cd) (we := we) (sn := sn) (g := g) hs t (f + k) (by omega) (by omega) (hh _ (by omega) (by omega))).2 z.1
    have hq := h.2 (f + k - f2).toNat (by omega)
    rw [show f2 + (((f + k - f2).toNat : Nat) : Int) = f + k by omega] at hq
    exact hq ⟨i, z.2⟩
/-- the first time from t on, of k times, at which E holds; the time behind them if none -/
def ltE (E : Nat → Bool) : Nat → Nat → Int
  | 0, t => t
  | k + 1, t => if E t = true then (t : Int) else ltE E k (t + 1)
theorem ltE_b (E : Nat → Bool) : ∀ k t : Nat, (t : Int) ≤ ltE E k t ∧ ltE E k t ≤ t + k
  | 0, t => by simp [ltE]
  | k + 1, t => by
    have ih := ltE_b E k (t + 1)
    simp only [ltE]
    split <;> omega
theorem ltE_mono {E F : Nat → Bool} (h : ∀ j, F j = true → E j = true) : ∀ k t : Nat, ltE E k t ≤ ltE F k t
  | 0, _ => Int.le_refl _
  | k + 1, t => by
    have ih := ltE_mono h k (t + 1)
    have hb := ltE_b F k (t + 1)
    simp only [ltE]
    by_cases h1 : F t = true
    · rw [if_pos h1, if_pos (h t h1)]; omega
    · rw [if_neg h1]
      split
      · omega
      · exact ih
theorem ltE_min (E : Nat → Bool) : ∀ (k K t : Nat), k ≤ K → ltE E k t = min ((t : Int) + k) (ltE E K t)
  | 0, K, t, _ => by have := ltE_b E K t; simp only [ltE]; omega
  | k + 1, 0, t, h => by omega
  | k + 1, K + 1, t, h => by
    have ih := ltE_min E k K (t + 1) (by omega)
    simp only [ltE]
    split
    · omega
    · rw [ih]; omega
/-- refusals: what can be hung still could be hung with less -/
theorem fBar_sub {cd : CD} {hu hu2 : Int → Int} {l : Int} {sh : Bool} (l0 : 0 ≤ l) : ∀ n : Nat, (∀ q : Nat, q < n → hu q ≠ -1000000 → hu2 q = hu q) → fBar cd hu l sh n = true → fBar cd hu2 l sh n = true
  | 0, _, h => h
  | n + 1, h, hr => by
    have ih := fBar_sub (cd := cd) (sh := sh) l0 n (fun q hq => h q (by omega))
    simp only [fBar, Bool.or_eq_true, decide_eq_true_eq] at hr ⊢
    rcases hr with hr | hr
    · exact Or.inl (ih hr)
    · exact Or.inr ⟨by rw [h n (by omega) (by omega)]; exact hr.1, hr.2⟩
theorem fY_sub {cd : CD} (hW : WFc cd) {hu hu2 : Int → Int} {l : Int} (l0 : 0 ≤ l) : ∀ n : Nat, (n : Int) ≤ cd 2 → (∀ q : Nat, q < n → hu q ≠ -1000000 → hu2 q = hu q) → fY cd hu l n ≤ fY cd hu2 l n
  | 0, _, _ => Int.le_refl _
  | n + 1, hn, h => by
    have ih := fY_sub hW l0 n (by omega) (fun q hq => h q (by omega))
    have y := hW.ya (p := n) (by omega) (by omega)
    simp only [fY]
    by_cases h1 : hu n = l
    · rw [if_pos h1, if_pos (by rw [h n (by omega) (by omega)]; exact h1)]; omega
    · rw [if_neg h1]; split <;> omega
theorem fRef_sub {cd : CD} (hW : WFc cd) {hu hu2 : Int → Int} {np rn : Nat} {g p l : Int} (hn : cd 2 = np) (hs : SubH np hu hu2) (p0 : 0 ≤ p ∧ p < np) (l0 : 0 ≤ l) (h : fRef cd hu2 g p l np rn = 0) : fRef cd hu g p l np rn = 0 := by
  have hs' : ∀ q : Nat, q < np → hu q ≠ -1000000 → hu2 q = hu q := fun q hq hz => hs q (by omega) (by omega) hz
  unfold fRef at h ⊢
  split at h
  · omega
  · rename_i h1
    split at h
    · rename_i h2
      have hp : hu p = -1000000 := by
        by_cases hz : hu p = -1000000
        · exact hz
        · exact absurd (Or.inl (by rw [hs p p0.1 p0.2 hz]; exact hz)) h1
      rw [if_neg (fun z => by rcases z with z | z; (· exact z hp); (· exact h1 (Or.inr z)))]
      rw [if_pos]
      unfold fRoom at h2 ⊢
      simp only [Bool.and_eq_true, Bool.not_eq_true', decide_eq_true_eq] at h2 ⊢
      refine ⟨?_, ?_⟩
      · cases hb : fBar cd hu l (decide (cd (84 + 6 * p) = 4)) np
        · rfl
        · rw [fBar_sub l0 np hs' hb] at h2; exact absurd h2.1 (by simp)
      · have := fY_sub hW l0 np (by omega) hs' (l := l)
        omega
    · omega
