/-! ===== 47: rings, as numbers ===== -/
/-- how a person likes a line: more sun first, then the smaller number -/
def sunK (cd : CD) (k : Nat) (l : Int) : Int := 10 * fSunN cd l (4 * k) 0 4 - l
/-- whom a person points at, of the first q; none -/
def bst (cd : CD) (h g : Int → Int) (k : Nat) : Nat → Int
  | 0 => -1000000
  | q + 1 => if g q = -1000000 ∧ (bst cd h g k q = -1000000 ∨ sunK cd k (h (bst cd h g k q)) < sunK cd k (h q)) then (q : Int) else bst cd h g k q
theorem bst_r (cd : CD) (h g : Int → Int) (k : Nat) : ∀ q : Nat, bst cd h g k q = -1000000 ∨ (0 ≤ bst cd h g k q ∧ bst cd h g k q < q ∧ g (bst cd h g k q) = -1000000)
  | 0 => Or.inl rfl
  | q + 1 => by
    have ih := bst_r cd h g k q
    simp only [bst]
    split
    · rename_i hc
      exact Or.inr ⟨by omega, by omega, hc.1⟩
    · rcases ih with ih | ih
      · exact Or.inl ih
      · exact Or.inr ⟨ih.1, by omega, ih.2.2⟩
theorem bst_max (cd : CD) (h g : Int → Int) (k : Nat) : ∀ q j : Nat, j < q → g j = -1000000 → bst cd h g k q ≠ -1000000 ∧ sunK cd k (h j) ≤ sunK cd k (h (bst cd h g k q))
  | 0, j, hj, _ => by omega
  | q + 1, j, hj, hg => by
    simp only [bst]
    by_cases e : j = q
    · subst e
      split
      · exact ⟨by omega, Int.le_refl _⟩
      · rename_i hc
        have h1 : bst cd h g k j ≠ -1000000 := fun z => hc ⟨hg, Or.inl z⟩
        have h2 : ¬ sunK cd k (h (bst cd h g k j)) < sunK cd k (h j) := fun z => hc ⟨hg, Or.inr z⟩
        exact ⟨h1, by omega⟩
    · have ih := bst_max cd h g k q j (by omega) hg
      split
      · rename_i hc
        rcases hc.2 with z | z
        · exact absurd z ih.1
        · exact ⟨by omega, by omega⟩
      · exact ih
def lkm (cd : CD) (h g : Int → Int) (k : Nat) : Nat → Int
  | 0 => k
  | q + 1 => if g q = -1000000 ∧ sunK cd k (h (lkm cd h g k q)) < sunK cd k (h q) then (q : Int) else lkm cd h g k q
theorem lkm_r (cd : CD) (h g : Int → Int) (k : Nat) (hk : g k = -1000000) : ∀ q : Nat, (0 ≤ lkm cd h g k q ∧ (lkm cd h g k q = k ∨ lkm cd h g k q < q)) ∧ g (lkm cd h g k q) = -1000000 ∧ ∀ j : Nat, j < q → g j = -1000000 → sunK cd k (h j) ≤ sunK cd k (h (lkm cd h g k q))
  | 0 => ⟨⟨by simp only [lkm]; omega, Or.inl rfl⟩, hk, fun j hj => by omega⟩
  | q + 1 => by
    obtain ⟨i1, i2, i3⟩ := lkm_r cd h g k hk q
    simp only [lkm]
    split
    · rename_i hc
      refine ⟨⟨by omega, Or.inr (by omega)⟩, hc.1, fun j hj hg => ?_⟩
      by_cases e : j = q
      · rw [e]; exact Int.le_refl _
      · have := i3 j (by omega) hg; omega
    · rename_i hc
      refine ⟨⟨i1.1, by omega⟩, i2, fun j hj hg => ?_⟩
      by_cases e : j = q
      · subst e
        have h2 : ¬ sunK cd k (h (lkm cd h g k j)) < sunK cd k (h j) := fun z => hc ⟨hg, z⟩
        omega
      · exact i3 j (by omega) hg
theorem sunK_inj {cd : CD} {k : Nat} {a b : Int} (ha : 0 ≤ a ∧ a ≤ 7) (hb : 0 ≤ b ∧ b ≤ 7) (h : sunK cd k a = sunK cd k b) : a = b := by
  unfold sunK at h; omega
/-- lines that are told for n people -/
def HL (cd : CD) (h : Int → Int) (n : Nat) : Prop := (∀ i : Int, 0 ≤ i → i < n → 0 ≤ h i ∧ h i < cd 0) ∧ ∀ i j : Int, 0 ≤ i → i < n → 0 ≤ j → j < n → h i = h j → i = j
theorem lkm_bst {cd : CD} (hW : WFc cd) {h g : Int → Int} {n k : Nat} (hL : HL cd h n) (hk : k < n) (hg : g k = -1000000) : lkm cd h g k n = bst cd h g k n := by
  have hl := hW.ln
  obtain ⟨i1, i2, i3⟩ := lkm_r cd h g k hg n
  have hb := bst_max cd h g k n k hk hg
  have hr := bst_r cd h g k n
  have hr2 : 0 ≤ bst cd h g k n ∧ bst cd h g k n < n ∧ g (bst cd h g k n) = -1000000 := by
    rcases hr with z | z
    · exact absurd z hb.1
    · exact z
  obtain ⟨x, hx⟩ := Int.eq_ofNat_of_zero_le hr2.1
  obtain ⟨y, hy⟩ := Int.eq_ofNat_of_zero_le i1.1
  have h1 := i3 x (by omega) (by rw [← hx]; exact hr2.2.2)
  have h2 := (bst_max cd h g k n y (by omega) (by rw [← hy]; exact i2)).2
  rw [← hx] at h1
  rw [← hy] at h2
  have a1 := hL.1 _ hr2.1 hr2.2.1
  have a2 := hL.1 _ i1.1 (by omega)
  exact hL.2 _ _ i1.1 (by omega) hr2.1 hr2.2.1 (sunK_inj (cd := cd) (k := k) (by omega) (by omega) (by omega))
/-- steps along what is pointed at -/
def itP (f : Int → Int) (k : Int) : Nat → Int
  | 0 => k
  | j + 1 => f (itP f k j)
def inR (f : Int → Int) (k : Int) : Nat → Bool
  | 0 => false
  | j + 1 => inR f k j || decide (itP f k (j + 1) = k)
theorem inR_of {f : Int → Int} {k : Int} {j m : Nat} (h0 : 1 ≤ j) (h1 : j ≤ m) (h : itP f k j = k) : inR f k m = true := by
  induction m with
  | zero => omega
  | succ m ih =>
    simp only [inR, Bool.or_eq_true, decide_eq_true_eq]
    by_cases e : j = m + 1
    · exact Or.inr (by rw [← e]; exact h)
    · exact Or.inl (ih (by omega))
theorem inR_mono {f : Int → Int} {k : Int} {j m : Nat} (h : inR f k j = true) (hm : j ≤ m) : inR f k m = true := by
  induction hm with
  | refl => exact h
  | step _ ih => simp [inR, ih]
theorem itP_add (f : Int → Int) (k : Int) (i : Nat) : ∀ j : Nat, itP f k (i + j) = itP f (itP f k i) j
  | 0 => rfl
  | j + 1 => by
    show f (itP f k (i + j)) = f (itP f (itP f k i) j)
    rw [itP_add f k i j]
theorem pig : ∀ (n : Nat) (a : Nat → Int), (∀ i, i ≤ n → 0 ≤ a i ∧ a i < n) → ∃ i j, i < j ∧ j ≤ n ∧ a i = a j
  | 0, a, h => by have := h 0 (Nat.le_refl 0); omega
  | n + 1, a, h => by
    by_cases hex : ∃ i, i ≤ n ∧ a i = a (n + 1)
    · obtain ⟨i, hi, e⟩ := hex
      exact ⟨i, n + 1, by omega, Nat.le_refl _, e⟩
    · have hne : ∀ i, i ≤ n → a i ≠ a (n + 1) := fun i hi e => hex ⟨i, hi, e⟩
      have hlast := h (n + 1) (Nat.le_refl _)
      obtain ⟨i, j, hij, hj, e⟩ := pig n (fun i => if a i = n then a (n + 1) else a i) (fun i hi => by
        have h1 := h i (by omega)
        have h2 := hne i hi
        try dsimp only
        split
        · omega
        · omega)
      refine ⟨i, j, hij, by omega, ?_⟩
      have hi2 := hne i (by omega)
      have hj2 := hne j hj
      try dsimp only at e
      split at e
      · split at e
        · omega
        · exact absurd e.symm hj2
      · split at e
        · exact absurd e hi2
        · exact e
theorem inR_succ {f : Int → Int} {k : Int} {n : Nat} (hr : ∀ j, 0 ≤ itP f k j ∧ itP f k j < n) : inR f k (n + 1) = inR f k n := by
  by_cases h : itP f k (n + 1) = k
  · obtain ⟨i, j, hij, hj, e⟩ := pig n (itP f k) (fun i _ => hr i)
    have e1 : itP f k (j + (n + 1 - j)) = itP f k (i + (n + 1 - j)) := by rw [itP_add, itP_add, e]
    rw [show j + (n + 1 - j) = n + 1 by omega, h] at e1
    rw [inR_of (m := n) (j := i + (n + 1 - j)) (by omega) (by omega) e1.symm, inR_of (m := n + 1) (j := n + 1) (by omega) (Nat.le_refl _) h]
  · simp [inR, h]
/-- a set that is kept has a ring in it -/
theorem ring_ex {f : Int → Int} {n : Nat} {U : Int → Prop} (hU : ∀ x, U x → (0 ≤ x ∧ x < n) ∧ U (f x)) {k : Int} (hk : U k) : ∃ x, U x ∧ inR f x n = true := by
  have ho : ∀ j, U (itP f k j) := fun j => by
    induction j with
    | zero => exact hk
    | succ j ih => exact (hU _ ih).2
  obtain ⟨i, j, hij, hj, e⟩ := pig n (itP f k) (fun i _ => (hU _ (ho i)).1)
  refine ⟨itP f k i, ho i, inR_of (j := j - i) (by omega) (by omega) ?_⟩
  rw [← itP_add, show i + (j - i) = j by omega, ← e]
def pt (cd : CD) (h g : Int → Int) (n : Nat) : Int → Int := fun x => bst cd h g x.toNat n
/-- rings go -/
def rgT (cd : CD) (h : Int → Int) (n : Nat) (g : Int → Int) : Int → Int := fun k => if (0 ≤ k ∧ k < n) ∧ g k = -1000000 ∧ inR (pt cd h g n) k n = true then h (pt cd h g n k) else g k
def rgI (cd : CD) (h : Int → Int) (n : Nat) : Nat → (Int → Int) → Int → Int
  | 0, g => g
  | t + 1, g => rgI cd h n t (rgT cd h n g)
theorem pt_u {cd : CD} {h g : Int → Int} {n : Nat} {x : Int} (hx : (0 ≤ x ∧ x < n) ∧ g x = -1000000) : (0 ≤ pt cd h g n x ∧ pt cd h g n x < n) ∧ g (pt cd h g n x) = -1000000 := by
  obtain ⟨k, rfl⟩ := Int.eq_ofNat_of_zero_le hx.1.1
  have hb := bst_max cd h g k n k (by omega) hx.2
  have hr := bst_r cd h g k n
  have e : pt cd h g n (k : Int) = bst cd h g k n := rfl
  rw [e]
  rcases hr with z | z
  · exact absurd z hb.1
  · exact ⟨⟨z.1, z.2.1⟩, z.2.2⟩
theorem orb {f : Int → Int} {U : Int → Prop} (hU : ∀ x, U x → U (f x)) {k : Int} (hk : U k) : ∀ j, U (itP f k j)
  | 0 => hk
  | j + 1 => hU _ (orb hU hk j)
/-- only what is pointed at by those on the way counts -/
theorem itP_cg {f e : Int → Int} {U : Int → Prop} (hU : ∀ x, U x → U (f x)) (he : ∀ x, U x → e x = f x) {k : Int} (hk : U k) : ∀ j, itP e k j = itP f k j
  | 0 => rfl
  | j + 1 => by
    show e (itP e k j) = f (itP f k j)
    rw [itP_cg hU he hk j]
    exact he _ (orb hU hk j)
theorem inR_cg {f e : Int → Int} {k : Int} (h : ∀ j, itP e k j = itP f k j) : ∀ n, inR e k n = inR f k n
  | 0 => rfl
  | n + 1 => by simp only [inR]; rw [inR_cg h n, h (n + 1)]
def ung (g : Int → Int) : Nat → Bool := fun k => decide (g k = -1000000)
theorem rgT_id {cd : CD} {h : Int → Int} {n : Nat} {g : Int → Int} (hz : cnt (ung g) n ≤ 0) : rgT cd h n g = g := by
  funext k
  unfold rgT
  rw [if_neg]
  rintro ⟨hk, hg, -⟩
  obtain ⟨q, rfl⟩ := Int.eq_ofNat_of_zero_le hk.1
  have := cnt_0 n hz q (by omega)
  unfold ung at this
  rw [decide_eq_true hg] at this
  exact absurd this (by simp)
theorem rgI_id {cd : CD} {h : Int → Int} {n : Nat} {g : Int → Int} (hz : cnt (ung g) n ≤ 0) : ∀ t, rgI cd h n t g = g
  | 0 => rfl
  | t + 1 => by simp only [rgI]; rw [rgT_id hz]; exact rgI_id hz t
theorem cnt_le {b c : Nat → Bool} : ∀ n : Nat, (∀ j, j < n → c j = true → b j = true) → cnt c n ≤ cnt b n
  | 0, _ => Int.le_refl _
  | n + 1, hb => by
    have ih := cnt_le n (fun j hj => hb j (by omega))
    have h := hb n (by omega)
    simp only [cnt]
    cases hc : c n
    · have := tB_ran (b n); show _ + 0 ≤ _; omega
    · rw [h hc]; show _ + 1 ≤ _ + 1; omega
theorem cnt_ls {b c : Nat → Bool} {x : Nat} : ∀ n : Nat, x < n → (∀ j, j < n → c j = true → b j = true) → b x = true → c x = false → cnt c n + 1 ≤ cnt b n
  | 0, hx, _, _, _ => by omega
  | n + 1, hx, hb, h1, h2 => by
    simp only [cnt]
    by_cases e : x = n
    · subst e
      have ih := cnt_le x (fun j hj => hb j (by omega))
      rw [h1, h2]
      show _ + 0 + 1 ≤ _ + 1
      omega
    · have ih := cnt_ls n (by omega) (fun j hj => hb j (by omega)) h1 h2
      have h := hb n (by omega)
      cases hc : c n
      · have := tB_ran (b n); show _ + 0 + 1 ≤ _; omega
      · rw [h hc]; show _ + 1 + 1 ≤ _ + 1; omega
/-- somebody gets a line as long as somebody is left -/
theorem rg_less {cd : CD} {h g : Int → Int} {n : Nat} (hL : HL cd h n) (hp : 1 ≤ cnt (ung g) n) : cnt (ung (rgT cd h n g)) n + 1 ≤ cnt (ung g) n := by
  have hex : ∃ k : Nat, k < n ∧ g k = -1000000 := by
    by_cases hq : ∃ k : Nat, k < n ∧ g k = -1000000
    · exact hq
    · exfalso
      have : cnt (ung g) n = cnt (fun _ => false) n := cnt_cg n (fun j hj => by unfold ung; exact decide_eq_false (fun e => hq ⟨j, hj, e⟩))
      have hz : ∀ m : Nat, cnt (fun _ => false) m = 0 := fun m => by
        induction m with
        | zero => rfl
        | succ m ih => simp only [cnt, ih]; rfl
      rw [this, hz] at hp
      omega
  obtain ⟨k, hk, hg⟩ := hex
  obtain ⟨x, hx, hr⟩ := ring_ex (f := pt cd h g n) (n := n) (U := fun x => (0 ≤ x ∧ x < n) ∧ g x = -1000000) (fun x hx => ⟨hx.1, pt_u hx⟩) (k := k) ⟨⟨by omega, by omega⟩, hg⟩
  obtain ⟨q, rfl⟩ := Int.eq_ofNat_of_zero_le hx.1.1
  have hpu := pt_u (cd := cd) (h := h) hx
  have hl := hL.1 _ hpu.1.1 hpu.1.2
  refine cnt_ls (x := q) n (by omega) (fun j hj hc => ?_) (decide_eq_true hx.2) ?_
  · unfold ung at hc ⊢
    have hc := of_decide_eq_true hc
    refine decide_eq_true ?_
    unfold rgT at hc
    split at hc
    · rename_i hq
      exact hq.2.1
    · exact hc
  · unfold ung
    refine decide_eq_false ?_
    unfold rgT
    rw [if_pos ⟨hx.1, hx.2, hr⟩]
    omega
/-- once nobody is left, more turns change nothing -/
theorem rgI_more {cd : CD} {h : Int → Int} {n : Nat} (hL : HL cd h n) : ∀ (t : Nat) (g : Int → Int), cnt (ung g) n ≤ t → cnt (ung (rgI cd h n t g)) n ≤ 0
  | 0, g, hz => hz
  | t + 1, g, hz => by
    simp only [rgI]
    by_cases hp : 1 ≤ cnt (ung g) n
    · have := rg_less hL hp
      exact rgI_more hL t _ (by omega)
    · rw [rgT_id (by omega)]
      exact rgI_more hL t g (by omega)
