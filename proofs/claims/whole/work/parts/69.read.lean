/-! ===== 69: the reader, as numbers: tokens ===== -/
/-- of what sort a token is that begins with a byte: 5 blank, 1 name, 2 number, 3 sign, 4 none -/
def sB (c : Int) : Int := if c = 32 ∨ c = 10 then 5 else if 97 ≤ c ∧ c ≤ 122 then 1 else if 48 ≤ c ∧ c ≤ 57 then 2 else if c = 59 then 3 else 4
theorem sB_b (c : Int) : 1 ≤ sB c ∧ sB c ≤ 5 := by
  unfold sB; repeat (first | omega | split)
theorem sB5 {c : Int} : sB c = 5 ↔ c = 32 ∨ c = 10 := by
  unfold sB; split
  · constructor <;> intro <;> omega
  · split
    · constructor <;> intro <;> omega
    · split
      · constructor <;> intro <;> omega
      · split <;> constructor <;> intro <;> omega
theorem sB1 {c : Int} : sB c = 1 ↔ 97 ≤ c ∧ c ≤ 122 := by
  unfold sB; split
  · constructor <;> intro <;> omega
  · split
    · constructor <;> intro <;> omega
    · split
      · constructor <;> intro <;> omega
      · split <;> constructor <;> intro <;> omega
theorem sB2 {c : Int} : sB c = 2 ↔ 48 ≤ c ∧ c ≤ 57 := by
  unfold sB; split
  · constructor <;> intro <;> omega
  · split
    · constructor <;> intro <;> omega
    · split
      · constructor <;> intro <;> omega
      · split <;> constructor <;> intro <;> omega
theorem sB3 {c : Int} : sB c = 3 ↔ c = 59 := by
  unfold sB; split
  · constructor <;> intro <;> omega
  · split
    · constructor <;> intro <;> omega
    · split
      · constructor <;> intro <;> omega
      · split <;> constructor <;> intro <;> omega
/-- on from a as long as the bytes are of sort q -/
def ruS (T : Int → Int) (N : Nat) (q : Int) : Nat → Nat → Nat
  | 0, a => a
  | k + 1, a => if a < N ∧ sB (T (a : Int)) = q then ruS T N q k (a + 1) else a
theorem ruS_ge (T : Int → Int) (N : Nat) (q : Int) : ∀ k a : Nat, a ≤ ruS T N q k a
  | 0, a => Nat.le_refl _
  | k + 1, a => by
    simp only [ruS]; split
    · have := ruS_ge T N q k (a + 1); omega
    · exact Nat.le_refl _
theorem ruS_le (T : Int → Int) (N : Nat) (q : Int) : ∀ k a : Nat, a ≤ N → ruS T N q k a ≤ N
  | 0, a, h => h
  | k + 1, a, h => by
    simp only [ruS]; split
    · exact ruS_le T N q k (a + 1) (by omega)
    · exact h
theorem ruS_all (T : Int → Int) (N : Nat) (q : Int) : ∀ (k a j : Nat), a ≤ j → j < ruS T N q k a → sB (T (j : Int)) = q
  | 0, a, j, h0, h1 => by simp only [ruS] at h1; omega
  | k + 1, a, j, h0, h1 => by
    simp only [ruS] at h1; split at h1
    · rename_i h
      by_cases e : j = a
      · rw [e]; exact h.2
      · exact ruS_all T N q k (a + 1) j (by omega) h1
    · omega
theorem ruS_end (T : Int → Int) (N : Nat) (q : Int) : ∀ (k a : Nat), N ≤ a + k → ruS T N q k a < N → sB (T (ruS T N q k a : Int)) ≠ q
  | 0, a, h0, h1 => by simp only [ruS] at h1; omega
  | k + 1, a, h0, h1 => by
    simp only [ruS] at h1 ⊢; split at h1
    · rename_i h
      rw [if_pos h]
      exact ruS_end T N q k (a + 1) (by omega) h1
    · rename_i h
      rw [if_neg h]
      exact fun z => h ⟨h1, z⟩
/-- a token: where it begins, where it ends, its sort: 0 end, 1 name, 2 number, 3 sign, 4 none -/
def tkF (T : Int → Int) (N t : Nat) : Nat := ruS T N 5 (N - t) t
def tkE (T : Int → Int) (N f : Nat) : Nat := if f < N then (if sB (T (f : Int)) = 1 ∨ sB (T (f : Int)) = 2 then ruS T N (sB (T (f : Int))) (N - (f + 1)) (f + 1) else f + 1) else f
def tkS (T : Int → Int) (N f : Nat) : Int := if f < N then (if sB (T (f : Int)) = 2 ∧ f + 3 < tkE T N f then 4 else sB (T (f : Int))) else 0
/-- a token as it can be -/
def TVs (T : Int → Int) (N : Nat) (s : Int) (f t : Nat) : Prop := f ≤ t ∧ t ≤ N ∧ (0 ≤ s ∧ s ≤ 4) ∧ ((s = 1 ∨ s = 2) → ∀ j : Nat, f ≤ j → j < t → sB (T (j : Int)) = s) ∧ (s = 2 → t ≤ f + 3) ∧ (s = 1 → f < t)
theorem tkF_le (T : Int → Int) {N t : Nat} (h : t ≤ N) : tkF T N t ≤ N := ruS_le T N 5 _ t h
theorem tkF_ge (T : Int → Int) (N t : Nat) : t ≤ tkF T N t := ruS_ge T N 5 _ t
theorem tkF_nb (T : Int → Int) {N t : Nat} (h : t ≤ N) (hf : tkF T N t < N) : sB (T (tkF T N t : Int)) ≠ 5 := ruS_end T N 5 (N - t) t (by omega) hf
theorem tk_v (T : Int → Int) {N f : Nat} (h : f ≤ N) (h5 : f < N → sB (T (f : Int)) ≠ 5) : TVs T N (tkS T N f) f (tkE T N f) := by
  have hb := sB_b (T (f : Int))
  by_cases hf : f < N
  · have h5 := h5 hf
    by_cases h12 : sB (T (f : Int)) = 1 ∨ sB (T (f : Int)) = 2
    · have e : tkE T N f = ruS T N (sB (T (f : Int))) (N - (f + 1)) (f + 1) := by unfold tkE; rw [if_pos hf, if_pos h12]
      have g1 := ruS_ge T N (sB (T (f : Int))) (N - (f + 1)) (f + 1)
      have g2 := ruS_le T N (sB (T (f : Int))) (N - (f + 1)) (f + 1) (by omega)
      have ga : ∀ j : Nat, f ≤ j → j < tkE T N f → sB (T (j : Int)) = sB (T (f : Int)) := fun j h0 h1 => by
        by_cases ej : j = f
        · rw [ej]
        · rw [e] at h1; exact ruS_all T N _ _ _ j (by omega) h1
      unfold tkS
      rw [if_pos hf]
      by_cases h4 : sB (T (f : Int)) = 2 ∧ f + 3 < tkE T N f
      · rw [if_pos h4]
        exact ⟨by omega, by omega, by omega, fun z => by omega, fun z => by omega, fun z => by omega⟩
      · rw [if_neg h4]
        exact ⟨by omega, by omega, by omega, fun _ => ga, fun z => by omega, fun z => by omega⟩
    · have e : tkE T N f = f + 1 := by unfold tkE; rw [if_pos hf, if_neg h12]
      unfold tkS
      rw [if_pos hf, if_neg (by omega), e]
      exact ⟨by omega, by omega, by omega, fun z => absurd z h12, fun z => by omega, fun z => by omega⟩
  · unfold tkS tkE
    rw [if_neg hf, if_neg hf]
    exact ⟨by omega, by omega, by omega, fun z => by omega, fun z => by omega, fun z => by omega⟩
/-- the reader: sort, from, to, fault, its place -/
abbrev PT : Type := Int × Nat × Nat × Int × Int
def pS (p : PT) : Int := p.1
def pF (p : PT) : Nat := p.2.1
def pT (p : PT) : Nat := p.2.2.1
def pE (p : PT) : Int := p.2.2.2.1
def pW (p : PT) : Int := p.2.2.2.2
def pN (T : Int → Int) (N : Nat) (p : PT) : PT := if pE p = 0 then (tkS T N (tkF T N (pT p)), tkF T N (pT p), tkE T N (tkF T N (pT p)), 0, 0) else p
def pX (k : Int) (p : PT) : PT := if pE p = 0 then (pS p, pF p, pT p, k, (pF p : Int)) else p
def PV (T : Int → Int) (N : Nat) (p : PT) : Prop := TVs T N (pS p) (pF p) (pT p)
theorem PV.n {T : Int → Int} {N : Nat} {p : PT} (h : PV T N p) : PV T N (pN T N p) := by
  unfold pN; split
  · exact tk_v T (tkF_le T h.2.1) (tkF_nb T h.2.1)
  · exact h
theorem PV.b {T : Int → Int} {N : Nat} {p : PT} (h : PV T N p) (k : Int) : PV T N (pX k p) := by
  unfold pX; split
  · exact h
  · exact h
theorem pX_e {k : Int} {p : PT} : pE (pX k p) = if pE p = 0 then k else pE p := by
  unfold pX; split <;> rfl
theorem pX_w {k : Int} {p : PT} : pW (pX k p) = if pE p = 0 then (pF p : Int) else pW p := by
  unfold pX; split <;> rfl
theorem pX_f {k : Int} {p : PT} (h : pE p ≠ 0) : pX k p = p := by unfold pX; rw [if_neg h]
theorem pN_f {T : Int → Int} {N : Nat} {p : PT} (h : pE p ≠ 0) : pN T N p = p := by unfold pN; rw [if_neg h]
theorem pN_e {T : Int → Int} {N : Nat} {p : PT} : pE (pN T N p) = pE p := by
  unfold pN; split
  · rename_i h; exact h.symm
  · rfl
theorem pN_w {T : Int → Int} {N : Nat} {p : PT} (h : pE p ≠ 0) : pW (pN T N p) = pW p := by rw [pN_f h]
/-- the bytes of a name, packed -/
def pk (T : Int → Int) (f : Nat) : Nat → Int
  | 0 => 0
  | n + 1 => 256 * pk T f n + T ((f + n : Nat) : Int)
theorem pk_pos {T : Int → Int} {f : Nat} : ∀ n : Nat, (∀ j, j < n → 1 ≤ T ((f + j : Nat) : Int) ∧ T ((f + j : Nat) : Int) ≤ 255) → 0 ≤ pk T f n ∧ (0 < n → 0 < pk T f n)
  | 0, _ => ⟨Int.le_refl _, fun h => by omega⟩
  | n + 1, h => by
    have a := (pk_pos n (fun j hj => h j (by omega))).1
    have b := h n (by omega)
    simp only [pk]
    exact ⟨by omega, fun _ => by omega⟩
theorem pk_inj {T U : Int → Int} {f g : Nat} : ∀ n m : Nat, (∀ j, j < n → 1 ≤ T ((f + j : Nat) : Int) ∧ T ((f + j : Nat) : Int) ≤ 255) → (∀ j, j < m → 1 ≤ U ((g + j : Nat) : Int) ∧ U ((g + j : Nat) : Int) ≤ 255) → (pk T f n = pk U g m ↔ n = m ∧ ∀ j, j < n → T ((f + j : Nat) : Int) = U ((g + j : Nat) : Int))
  | 0, 0, _, _ => ⟨fun _ => ⟨rfl, fun j hj => by omega⟩, fun _ => rfl⟩
  | 0, m + 1, _, hU => by
    have b := (pk_pos (m + 1) hU).2 (by omega)
    exact ⟨fun z => by rw [← z] at b; simp only [pk] at b; omega, fun z => by omega⟩
  | n + 1, 0, hT, _ => by
    have b := (pk_pos (n + 1) hT).2 (by omega)
    exact ⟨fun z => by rw [z] at b; simp only [pk] at b; omega, fun z => by omega⟩
  | n + 1, m + 1, hT, hU => by
    have ih := pk_inj (T := T) (U := U) (f := f) (g := g) n m (fun j hj => hT j (by omega)) (fun j hj => hU j (by omega))
    have a := hT n (by omega)
    have b := hU m (by omega)
    constructor
    · intro z
      simp only [pk] at z
      have z1 : pk T f n = pk U g m := by omega
      have z2 : T ((f + n : Nat) : Int) = U ((g + m : Nat) : Int) := by omega
      obtain ⟨e, hh⟩ := ih.mp z1
      refine ⟨by omega, fun j hj => ?_⟩
      by_cases ej : j = n
      · rw [ej]
        rw [← e] at z2; exact z2
      · exact hh j (by omega)
    · rintro ⟨e, hh⟩
      have e2 : n = m := by omega
      have z1 := ih.mpr ⟨e2, fun j hj => hh j (by omega)⟩
      have z2 := hh n (by omega)
      simp only [pk]
      rw [z1, z2, e2]
/-- the name that stands here, packed; 0: none, or one that is too long, or behind a fault -/
def nmV (T : Int → Int) (p : PT) : Int := if pE p = 0 ∧ pS p = 1 ∧ pT p - pF p < 8 then pk T (pF p) (pT p - pF p) else 0
/-- the words -/
def wV (i : Nat) : Int := pk (fun j => sCh i j.toNat) 0 (sLen.getD i 0)
theorem wV_is : wV 0 = 6578553 ∧ wV 1 = 1818848869 ∧ wV 2 = 491394656372 ∧ wV 3 = 482804589413 ∧ wV 4 = 7497060 ∧ wV 5 = 422725116779 ∧ wV 6 = 2003791724 ∧ wV 7 = 495672714612 ∧ wV 8 = 1936679787 := by decide +kernel
theorem TVs.let {T : Int → Int} {N : Nat} {f t : Nat} (h : TVs T N 1 f t) {j : Nat} (h0 : f ≤ j) (h1 : j < t) : 97 ≤ T (j : Int) ∧ T (j : Int) ≤ 122 := sB1.mp (h.2.2.2.1 (Or.inl rfl) j h0 h1)
theorem TVs.fig {T : Int → Int} {N : Nat} {f t : Nat} (h : TVs T N 2 f t) {j : Nat} (h0 : f ≤ j) (h1 : j < t) : 48 ≤ T (j : Int) ∧ T (j : Int) ≤ 57 := sB2.mp (h.2.2.2.1 (Or.inr rfl) j h0 h1)
theorem isW_iff {T : Int → Int} {N : Nat} {p : PT} (h : PV T N p) {i : Nat} (hi : i < 9) : nmV T p = wV i ↔ (pE p = 0 ∧ pS p = 1 ∧ pT p - pF p = sLen.getD i 0 ∧ ∀ j, j < sLen.getD i 0 → T ((pF p + j : Nat) : Int) = sCh i j) := by
  have hl : sLen.getD i 0 ≤ 5 ∧ 0 < sLen.getD i 0 := by
    have a := sLen_b i hi
    have b : ∀ i, i < 9 → 0 < sLen.getD i 0 := by decide
    exact ⟨a, b i hi⟩
  have hU : ∀ j, j < sLen.getD i 0 → 1 ≤ (fun j : Int => sCh i j.toNat) ((0 + j : Nat) : Int) ∧ (fun j : Int => sCh i j.toNat) ((0 + j : Nat) : Int) ≤ 255 := fun j hj => by
    have := sCh_b i hi j hj
    simp only [Nat.zero_add, Int.toNat_natCast]
    omega
  have hpos : 0 < wV i := (pk_pos _ hU).2 hl.2
  unfold nmV
  by_cases hc : pE p = 0 ∧ pS p = 1 ∧ pT p - pF p < 8
  · rw [if_pos hc]
    have hv : TVs T N 1 (pF p) (pT p) := by have := h; unfold PV at this; rw [hc.2.1] at this; exact this
    have hT : ∀ j, j < pT p - pF p → 1 ≤ T ((pF p + j : Nat) : Int) ∧ T ((pF p + j : Nat) : Int) ≤ 255 := fun j hj => by
      have := hv.let (j := pF p + j) (by omega) (by omega)
      omega
    have z := pk_inj (U := fun j : Int => sCh i j.toNat) (g := 0) (pT p - pF p) (sLen.getD i 0) hT hU
    unfold wV
    rw [z]
    constructor
    · rintro ⟨e, hh⟩
      refine ⟨hc.1, hc.2.1, e, fun j hj => ?_⟩
      have := hh j (by omega)
      simp only [Nat.zero_add, Int.toNat_natCast] at this
      exact this
    · rintro ⟨_, _, e, hh⟩
      refine ⟨e, fun j hj => ?_⟩
      simp only [Nat.zero_add, Int.toNat_natCast]
      exact hh j (by omega)
  · rw [if_neg hc]
    constructor
    · intro z; omega
    · rintro ⟨e1, e2, e3, _⟩
      exact absurd ⟨e1, e2, by omega⟩ hc
/-- the number that stands here -/
def dg (T : Int → Int) (f : Nat) : Nat → Int
  | 0 => 0
  | n + 1 => 10 * dg T f n + T ((f + n : Nat) : Int) - 48
theorem dg_b {T : Int → Int} {f : Nat} : ∀ n : Nat, (∀ j, j < n → 48 ≤ T ((f + j : Nat) : Int) ∧ T ((f + j : Nat) : Int) ≤ 57) → 0 ≤ dg T f n ∧ (n ≤ 1 → dg T f n ≤ 9) ∧ (n ≤ 2 → dg T f n ≤ 99) ∧ (n ≤ 3 → dg T f n ≤ 999)
  | 0, _ => by simp [dg]
  | n + 1, h => by
    have ih := dg_b n (fun j hj => h j (by omega))
    have a := h n (by omega)
    simp only [dg]
    refine ⟨by omega, fun z => ?_, fun z => ?_, fun z => ?_⟩
    · have e : n = 0 := by omega
      subst e
      simp only [dg]; omega
    · have := ih.2.1 (by omega); omega
    · have := ih.2.2.1 (by omega); omega
def fgV (T : Int → Int) (p : PT) : Int := if pS p = 2 then dg T (pF p) (pT p - pF p) else 0
theorem fg_v {T : Int → Int} {N : Nat} {f t : Nat} (h : TVs T N 2 f t) : ∀ n : Nat, n ≤ t - f → 0 ≤ dg T f n ∧ dg T f n ≤ 999 := fun n hn => by
  have h3 := h.2.2.2.2.1 rfl
  have z := dg_b (T := T) (f := f) n (fun j hj => h.fig (j := f + j) (by omega) (by omega))
  exact ⟨z.1, z.2.2.2 (by omega)⟩
theorem fgV_b {T : Int → Int} {N : Nat} {p : PT} (h : PV T N p) : 0 ≤ fgV T p ∧ fgV T p ≤ 999 := by
  unfold fgV; split
  · rename_i e
    have hv : TVs T N 2 (pF p) (pT p) := by have := h; unfold PV at this; rw [e] at this; exact this
    exact fg_v hv _ (Nat.le_refl _)
  · omega
/-- what a number, a sign, a word does -/
def pU (T : Int → Int) (N : Nat) (lo hi : Int) (p : PT) : PT := pN T N (if pS p = 2 then (if lo ≤ fgV T p ∧ fgV T p ≤ hi then p else pX 2 p) else pX 1 p)
def pG (T : Int → Int) (N : Nat) (p : PT) : PT := pN T N (if pS p = 3 then p else pX 1 p)
def pO (T : Int → Int) (N : Nat) (i : Nat) (p : PT) : PT := pN T N (if nmV T p = wV i then p else pX 1 p)
def pQ (T : Int → Int) (N : Nat) (full : Prop) [Decidable full] (p : PT) : PT := pN T N (if full then pX 3 p else p)
theorem PV.u {T : Int → Int} {N : Nat} {p : PT} (h : PV T N p) (lo hi : Int) : PV T N (pU T N lo hi p) := by
  unfold pU; apply PV.n; split
  · split
    · exact h
    · exact h.b 2
  · exact h.b 1
theorem PV.g {T : Int → Int} {N : Nat} {p : PT} (h : PV T N p) : PV T N (pG T N p) := by
  unfold pG; apply PV.n; split
  · exact h
  · exact h.b 1
theorem PV.o {T : Int → Int} {N : Nat} {p : PT} (h : PV T N p) (i : Nat) : PV T N (pO T N i p) := by
  unfold pO; apply PV.n; split
  · exact h
  · exact h.b 1
theorem PV.q {T : Int → Int} {N : Nat} {p : PT} (h : PV T N p) (full : Prop) [Decidable full] : PV T N (pQ T N full p) := by
  unfold pQ; apply PV.n; split
  · exact h.b 3
  · exact h
/-- behind a fault nothing changes -/
theorem pU_f {T : Int → Int} {N : Nat} {lo hi : Int} {p : PT} (h : pE p ≠ 0) : pU T N lo hi p = p := by
  have e : (if pS p = 2 then (if lo ≤ fgV T p ∧ fgV T p ≤ hi then p else pX 2 p) else pX 1 p) = p := by
    split
    · split
      · rfl
      · exact pX_f h
    · exact pX_f h
  unfold pU; rw [e, pN_f h]
theorem pG_f {T : Int → Int} {N : Nat} {p : PT} (h : pE p ≠ 0) : pG T N p = p := by
  have e : (if pS p = 3 then p else pX 1 p) = p := by
    split
    · rfl
    · exact pX_f h
  unfold pG; rw [e, pN_f h]
theorem pO_f {T : Int → Int} {N : Nat} {i : Nat} {p : PT} (h : pE p ≠ 0) : pO T N i p = p := by
  have e : (if nmV T p = wV i then p else pX 1 p) = p := by
    split
    · rfl
    · exact pX_f h
  unfold pO; rw [e, pN_f h]
theorem pQ_f {T : Int → Int} {N : Nat} {full : Prop} [Decidable full] {p : PT} (h : pE p ≠ 0) : pQ T N full p = p := by
  have e : (if full then pX 3 p else p) = p := by
    split
    · exact pX_f h
    · rfl
  unfold pQ; rw [e, pN_f h]
theorem pU_k {T : Int → Int} {N : Nat} {lo hi : Int} {p : PT} (h : pE (pU T N lo hi p) = 0) : pE p = 0 ∧ pS p = 2 ∧ lo ≤ fgV T p ∧ fgV T p ≤ hi := by
  unfold pU at h
  rw [pN_e] at h
  split at h
  · rename_i e
    split at h
    · rename_i e2; exact ⟨h, e, e2⟩
    · rw [pX_e] at h; split at h <;> omega
  · rw [pX_e] at h; split at h <;> omega
theorem pG_k {T : Int → Int} {N : Nat} {p : PT} (h : pE (pG T N p) = 0) : pE p = 0 := by
  unfold pG at h
  rw [pN_e] at h
  split at h
  · exact h
  · rw [pX_e] at h; split at h <;> omega
theorem pO_k {T : Int → Int} {N : Nat} {i : Nat} {p : PT} (h : pE (pO T N i p) = 0) : pE p = 0 := by
  unfold pO at h
  rw [pN_e] at h
  split at h
  · exact h
  · rw [pX_e] at h; split at h <;> omega
theorem pQ_k {T : Int → Int} {N : Nat} {full : Prop} [Decidable full] {p : PT} (h : pE (pQ T N full p) = 0) : pE p = 0 ∧ ¬ full := by
  unfold pQ at h
  rw [pN_e] at h
  split at h
  · rw [pX_e] at h; split at h <;> omega
  · rename_i e; exact ⟨h, e⟩
