/-! ===== 56: plans, as numbers: rows of lines, what may be left out ===== -/
/-- how soon pieces from f on, m of them, are dry and not newly stained; 49: not in time -/
def tmD (cd : CD) (hu : Int → Int) (np : Nat) (f : Int) (m : Nat) : Int := ltE (eD cd hu np (cWe cd) (cSn cd) (cd 3) f m) 49 0
/-- the row r of lines for m pieces from p on, put up one by one: how soon all n are dry; 49: one is refused, or not in time -/
def dL (cd : CD) (np rn n L : Nat) : Nat → Nat → (Int → Int) → Nat → Int
  | 0, _, hu, _ => tmD cd hu np 0 n
  | m + 1, p, hu, r => if fRef cd hu (cd 3) p ((r / L ^ m : Nat) : Int) np rn = 0 then dL cd np rn n L m (p + 1) (upH hu p ((r / L ^ m : Nat) : Int)) (r % L ^ m) else 49
def HG (p : Nat) (hu : Int → Int) : Prop := ∀ q : Int, 0 ≤ q → q < p → hu q ≠ -1000000
theorem HG.nil (hu : Int → Int) : HG 0 hu := fun q q0 q1 => by omega
theorem HG.up {p : Nat} {hu : Int → Int} (h : HG p hu) {l : Int} (l0 : 0 ≤ l) : HG (p + 1) (upH hu p l) := fun q q0 q1 => by
  unfold upH
  split
  · omega
  · exact h q q0 (by omega)
theorem tmD_b (cd : CD) (hu : Int → Int) (np : Nat) (f : Int) (m : Nat) : 0 ≤ tmD cd hu np f m ∧ tmD cd hu np f m ≤ 49 := by
  have := ltE_b (eD cd hu np (cWe cd) (cSn cd) (cd 3) f m) 49 0
  unfold tmD; omega
theorem tmD_mono {cd : CD} {hu hu2 : Int → Int} {np : Nat} {f f2 : Int} {m m2 : Nat} (hs : SubH np hu hu2) (h1 : f2 ≤ f) (h2 : f + m ≤ f2 + m2) (h3 : 0 ≤ f ∧ f + m ≤ np) (hh : ∀ q : Int, f ≤ q → q < f + m → hu q ≠ -1000000) : tmD cd hu np f m ≤ tmD cd hu2 np f2 m2 := ltE_mono (fun j h => eD_mono hs h1 h2 h3 hh h) 49 0
theorem fRef_h {cd : CD} {hu : Int → Int} {g p l : Int} {np rn : Nat} (h : fRef cd hu g p l np rn = 0) : hu p = -1000000 := by
  unfold fRef at h
  split at h
  · omega
  · rename_i h1
    exact Classical.byContradiction (fun z => h1 (Or.inl z))
theorem SubH.up2 {np : Nat} {hu hu2 : Int → Int} (h : SubH np hu hu2) (p l : Int) : SubH np (upH hu p l) (upH hu2 p l) := fun q q0 q1 hq => by
  unfold upH at hq ⊢
  by_cases e : q = p
  · rw [if_pos e, if_pos e]
  · rw [if_neg e] at hq
    rw [if_neg e, if_neg e]
    exact h q q0 q1 hq
theorem dL_lo {cd : CD} {np rn n L : Nat} (hn : n ≤ np) : ∀ (m p : Nat) (hu : Int → Int) (r : Nat), p + m = n → HG p hu → tmD cd hu np 0 p ≤ dL cd np rn n L m p hu r
  | 0, p, hu, r, e, _ => by
    have e1 : n = p := by omega
    show tmD cd hu np 0 p ≤ tmD cd hu np 0 n
    rw [e1]; exact Int.le_refl _
  | m + 1, p, hu, r, e, hH => by
    simp only [dL]
    split
    · rename_i h
      have ih := dL_lo (cd := cd) (rn := rn) (L := L) hn m (p + 1) (upH hu p ((r / L ^ m : Nat) : Int)) (r % L ^ m) (by omega) (hH.up (Int.natCast_nonneg _))
      have a := tmD_mono (cd := cd) (SubH.up (np := np) (fRef_h h) ((r / L ^ m : Nat) : Int)) (f := 0) (f2 := 0) (m := p) (m2 := p + 1) (by omega) (by omega) (by omega) (fun q q0 q1 => hH q q0 (by omega))
      omega
    · exact (tmD_b cd hu np 0 p).2
/-- a piece by itself, on a line -/
def taE (cd : CD) (hu : Int → Int) (np rn : Nat) (p l : Int) : Int := if fRef cd hu (cd 3) p l np rn = 0 then tmD cd (upH hu p l) np p 1 else 49
theorem taE_b (cd : CD) (hu : Int → Int) (np rn : Nat) (p l : Int) : 0 ≤ taE cd hu np rn p l ∧ taE cd hu np rn p l ≤ 49 := by
  unfold taE
  split
  · exact tmD_b _ _ _ _ _
  · omega
theorem dL_ta {cd : CD} (hW : WFc cd) {np rn n L : Nat} (hnp : cd 2 = np) (hn : n ≤ np) {hu0 hu : Int → Int} (hs : SubH np hu0 hu) {m p : Nat} (r : Nat) (e : p + (m + 1) = n) (hH : HG p hu) : taE cd hu0 np rn p ((r / L ^ m : Nat) : Int) ≤ dL cd np rn n L (m + 1) p hu r := by
  simp only [dL]
  split
  · rename_i h
    have l0 : (0 : Int) ≤ ((r / L ^ m : Nat) : Int) := Int.natCast_nonneg _
    unfold taE
    rw [if_pos (fRef_sub hW hnp hs ⟨by omega, by omega⟩ l0 h)]
    have a := tmD_mono (cd := cd) (hs.up2 (p : Int) ((r / L ^ m : Nat) : Int)) (f := p) (f2 := 0) (m := 1) (m2 := p + 1) (by omega) (by omega) (by omega) (fun q q0 q1 => by unfold upH; rw [if_pos (by omega)]; omega)
    have b := dL_lo (cd := cd) (rn := rn) (L := L) hn m (p + 1) (upH hu p ((r / L ^ m : Nat) : Int)) (r % L ^ m) (by omega) (hH.up l0)
    omega
  · exact (taE_b _ _ _ _ _ _).2
def nmE (t : Int → Int) : Nat → Int
  | 0 => 49
  | k + 1 => min (nmE t k) (t k)
theorem nmE_le (t : Int → Int) : ∀ k : Nat, nmE t k ≤ 49 ∧ ∀ j : Nat, j < k → nmE t k ≤ t j
  | 0 => ⟨Int.le_refl _, fun j hj => by omega⟩
  | k + 1 => by
    have ih := nmE_le t k
    simp only [nmE]
    refine ⟨by omega, fun j hj => ?_⟩
    by_cases e : j = k
    · rw [e]; omega
    · have := ih.2 j (by omega); omega
theorem dv {l X r L : Nat} (hr : r < X) (hl : l < L) : (l * X + r) / X = l ∧ (l * X + r) % X = r ∧ l * X + r < X * L := by
  have x0 : 0 < X := by omega
  refine ⟨?_, ?_, ?_⟩
  · rw [Nat.mul_comm, Nat.mul_add_div x0, Nat.div_eq_of_lt hr]; rfl
  · rw [Nat.mul_comm, Nat.mul_add_mod, Nat.mod_eq_of_lt hr]
  · have : (l + 1) * X ≤ L * X := Nat.mul_le_mul_right X hl
    rw [Nat.add_mul, Nat.one_mul] at this
    rw [Nat.mul_comm X L]; omega
theorem dL_nm {cd : CD} (hW : WFc cd) {np rn n L : Nat} (hnp : cd 2 = np) (hn : n ≤ np) {hu0 : Int → Int} : ∀ (m p : Nat) (hu : Int → Int) (r q : Nat), SubH np hu0 hu → p + m = n → HG p hu → p ≤ q → q < n → r < L ^ m → nmE (taE cd hu0 np rn q) L ≤ dL cd np rn n L m p hu r
  | 0, p, hu, r, q, _, e, _, h1, h2, _ => by omega
  | m + 1, p, hu, r, q, hs, e, hH, h1, h2, hr => by
    rw [Nat.pow_succ] at hr
    have x0 : 0 < L ^ m := by
      rcases Nat.eq_zero_or_pos (L ^ m) with z | z
      · rw [z] at hr; omega
      · exact z
    by_cases eq : q = p
    · have a := dL_ta hW (L := L) (rn := rn) hnp hn hs r e hH
      have b := (nmE_le (taE cd hu0 np rn q) L).2 (r / L ^ m) (Nat.div_lt_of_lt_mul hr)
      rw [eq] at b ⊢
      omega
    · simp only [dL]
      split
      · rename_i h
        exact dL_nm hW hnp hn m (p + 1) _ _ q (hs.tr (SubH.up (fRef_h h) _)) (by omega) (hH.up (Int.natCast_nonneg _)) (by omega) h2 (Nat.mod_lt _ x0)
      · exact (nmE_le _ L).1
def lxE (u : Nat → Int) : Nat → Int
  | 0 => 0
  | k + 1 => max (lxE u k) (u k)
theorem lxE_le {u : Nat → Int} {x : Int} (x0 : 0 ≤ x) : ∀ k : Nat, (∀ q, q < k → u q ≤ x) → lxE u k ≤ x
  | 0, _ => x0
  | k + 1, h => by
    have a := lxE_le x0 k (fun q hq => h q (by omega))
    have b := h k (by omega)
    simp only [lxE]; omega
/-- the best of the first R rows: how soon, its lines; 49: none yet -/
def BST (d : Nat → Int) (L n R : Nat) (b : Int) (bl : Int → Int) : Prop := b ≤ 49 ∧ (∀ r, r < R → b ≤ d r) ∧ (b = 49 ∨ ∃ r0, r0 < R ∧ d r0 = b ∧ (∀ r, r < r0 → b < d r) ∧ ∀ k : Nat, k < n → bl k = ((r0 / L ^ (n - 1 - k) % L : Nat) : Int))
theorem BST.nil (d : Nat → Int) (L n : Nat) (bl : Int → Int) : BST d L n 0 49 bl := ⟨Int.le_refl _, fun r h => by omega, Or.inl rfl⟩
theorem BST.skip {d : Nat → Int} {L n R R2 : Nat} {b : Int} {bl : Int → Int} (h : BST d L n R b bl) (hR : R ≤ R2) (hd : ∀ r, R ≤ r → r < R2 → b ≤ d r) : BST d L n R2 b bl := by
  refine ⟨h.1, fun r hr => ?_, ?_⟩
  · by_cases e : r < R
    · exact h.2.1 r e
    · exact hd r (by omega) hr
  · rcases h.2.2 with e | ⟨r0, h1, h2⟩
    · exact Or.inl e
    · exact Or.inr ⟨r0, by omega, h2⟩
theorem BST.put {d : Nat → Int} {L n R : Nat} {b : Int} {bl bl2 : Int → Int} (h : BST d L n R b bl) (hd : d R < b) (hl : ∀ k : Nat, k < n → bl2 k = ((R / L ^ (n - 1 - k) % L : Nat) : Int)) : BST d L n (R + 1) (d R) bl2 := by
  have h1 := h.1
  refine ⟨by omega, fun r hr => ?_, Or.inr ⟨R, by omega, rfl, fun r hr => ?_, hl⟩⟩
  · by_cases e : r = R
    · rw [e]; exact Int.le_refl _
    · have := h.2.1 r (by omega); omega
  · have := h.2.1 r hr; omega
theorem BST.one {d : Nat → Int} {L n R : Nat} {b b2 : Int} {bl bl2 : Int → Int} (h : BST d L n R b bl) (g : BST d L n R b2 bl2) : b = b2 ∧ (b < 49 → ∀ k : Nat, k < n → bl k = bl2 k) := by
  have h1 := h.1
  have g1 := g.1
  rcases h.2.2 with e | ⟨r0, h2, h3, h4, h5⟩
  · rcases g.2.2 with e2 | ⟨s0, g2, g3, g4, g5⟩
    · exact ⟨by omega, fun z => by omega⟩
    · have := h.2.1 s0 g2
      exact ⟨by omega, fun z => by omega⟩
  · rcases g.2.2 with e2 | ⟨s0, g2, g3, g4, g5⟩
    · have := g.2.1 r0 h2
      refine ⟨by omega, fun z => by omega⟩
    · have a := h.2.1 s0 g2
      have c := g.2.1 r0 h2
      have e : b = b2 := by omega
      refine ⟨e, fun _ k hk => ?_⟩
      have er : r0 = s0 := by
        rcases Nat.lt_trichotomy r0 s0 with z | z | z
        · have := g4 r0 z; omega
        · exact z
        · have := h4 s0 z; omega
      rw [h5 k hk, g5 k hk, er]
/-- the best of R rows, in their order -/
def bR (d : Nat → Int) : Nat → Int × Nat
  | 0 => (49, 0)
  | R + 1 => if d R < (bR d R).1 then (d R, R) else bR d R
theorem bR_b (d : Nat → Int) (L n : Nat) : ∀ R : Nat, BST d L n R (bR d R).1 (fun k => (((bR d R).2 / L ^ (n - 1 - k.toNat) % L : Nat) : Int))
  | 0 => BST.nil d L n _
  | R + 1 => by
    have ih := bR_b d L n R
    simp only [bR]
    by_cases h : d R < (bR d R).1
    · simp only [if_pos h]
      exact ih.put h (fun k _ => by simp only [Int.toNat_natCast])
    · simp only [if_neg h]
      exact ih.skip (by omega) (fun r h1 h2 => by rw [show r = R by omega]; omega)
/-- the first p pieces hang as the row P of lines says -/
def PRE (cd : CD) (np rn n L : Nat) (hu0 : Int → Int) (p P : Nat) (hu : Int → Int) : Prop := ∀ m r : Nat, p + m = n → r < L ^ m → dL cd np rn n L n 0 hu0 (P * L ^ m + r) = dL cd np rn n L m p hu r
theorem PRE.nil (cd : CD) (np rn n L : Nat) (hu0 : Int → Int) : PRE cd np rn n L hu0 0 0 hu0 := fun m r e hr => by
  rw [show m = n by omega, Nat.zero_mul, Nat.zero_add]
theorem rowE (P L l X r : Nat) : (P * L + l) * X + r = P * (X * L) + (l * X + r) := by
  rw [Nat.add_mul, Nat.mul_assoc, Nat.mul_comm L X, Nat.add_assoc]
theorem PRE.row {cd : CD} {np rn n L : Nat} {hu0 hu : Int → Int} {p P : Nat} (h : PRE cd np rn n L hu0 p P hu) {l m r : Nat} (hl : l < L) (e : p + (m + 1) = n) (hr : r < L ^ m) : dL cd np rn n L n 0 hu0 ((P * L + l) * L ^ m + r) = dL cd np rn n L (m + 1) p hu (l * L ^ m + r) := by
  have a := h (m + 1) (l * L ^ m + r) e (by rw [Nat.pow_succ]; exact (dv hr hl).2.2)
  rw [Nat.pow_succ] at a
  rw [rowE]; exact a
theorem PRE.step {cd : CD} {np rn n L : Nat} {hu0 hu : Int → Int} {p P : Nat} (h : PRE cd np rn n L hu0 p P hu) {l : Nat} (hl : l < L) (hf : fRef cd hu (cd 3) p (l : Int) np rn = 0) : PRE cd np rn n L hu0 (p + 1) (P * L + l) (upH hu p l) := fun m r e hr => by
  rw [h.row hl (by omega) hr]
  simp only [dL]
  rw [(dv hr hl).1, (dv hr hl).2.1, if_pos hf]
/-- a line is left out: nothing below it is better -/
theorem PRE.out {cd : CD} {np rn n L : Nat} {hu0 hu : Int → Int} {p P : Nat} (h : PRE cd np rn n L hu0 p P hu) {l m : Nat} (hl : l < L) (e : p + (m + 1) = n) {b : Int} {bl : Int → Int} (hb : BST (dL cd np rn n L n 0 hu0) L n ((P * L + l) * L ^ m) b bl) (hd : ∀ r, r < L ^ m → b ≤ dL cd np rn n L (m + 1) p hu (l * L ^ m + r)) : BST (dL cd np rn n L n 0 hu0) L n ((P * L + (l + 1)) * L ^ m) b bl := by
  have e1 : (P * L + (l + 1)) * L ^ m = (P * L + l) * L ^ m + L ^ m := by rw [← Nat.add_assoc, Nat.add_mul (P * L + l) 1, Nat.one_mul]
  refine hb.skip (by omega) (fun r h1 h2 => ?_)
  have a := h.row hl e (r := r - (P * L + l) * L ^ m) (by omega)
  rw [show (P * L + l) * L ^ m + (r - (P * L + l) * L ^ m) = r by omega] at a
  rw [a]
  exact hd _ (by omega)
/-- by itself it is too late -/
theorem PRE.ta {cd : CD} (hW : WFc cd) {np rn n L : Nat} (hnp : cd 2 = np) (hn : n ≤ np) {hu0 hu : Int → Int} {p P : Nat} (h : PRE cd np rn n L hu0 p P hu) (hs : SubH np hu0 hu) (hH : HG p hu) {l m : Nat} (hl : l < L) (e : p + (m + 1) = n) {b : Int} {bl : Int → Int} (hb : BST (dL cd np rn n L n 0 hu0) L n ((P * L + l) * L ^ m) b bl) (hd : b ≤ taE cd hu0 np rn p l) : BST (dL cd np rn n L n 0 hu0) L n ((P * L + (l + 1)) * L ^ m) b bl := h.out hl e hb (fun r hr => by
  have a := dL_ta hW (L := L) (rn := rn) hnp hn hs (l * L ^ m + r) e hH
  rw [(dv hr hl).1] at a
  omega)
/-- it is refused -/
theorem PRE.rf {cd : CD} {np rn n L : Nat} {hu0 hu : Int → Int} {p P : Nat} (h : PRE cd np rn n L hu0 p P hu) {l m : Nat} (hl : l < L) (e : p + (m + 1) = n) {b : Int} {bl : Int → Int} (hb : BST (dL cd np rn n L n 0 hu0) L n ((P * L + l) * L ^ m) b bl) (hf : fRef cd hu (cd 3) p (l : Int) np rn ≠ 0) : BST (dL cd np rn n L n 0 hu0) L n ((P * L + (l + 1)) * L ^ m) b bl := h.out hl e hb (fun r hr => by
  simp only [dL]
  rw [(dv hr hl).1, if_neg hf]
  exact hb.1)
/-- those that hang are too late already -/
theorem PRE.lo {cd : CD} {np rn n L : Nat} (hn : n ≤ np) {hu0 hu : Int → Int} {p P : Nat} (h : PRE cd np rn n L hu0 p P hu) (hH : HG p hu) {l m : Nat} (hl : l < L) (e : p + (m + 1) = n) {b : Int} {bl : Int → Int} (hb : BST (dL cd np rn n L n 0 hu0) L n ((P * L + l) * L ^ m) b bl) (hf : fRef cd hu (cd 3) p (l : Int) np rn = 0) (hd : b ≤ tmD cd (upH hu p l) np 0 (p + 1)) : BST (dL cd np rn n L n 0 hu0) L n ((P * L + (l + 1)) * L ^ m) b bl := h.out hl e hb (fun r hr => by
  simp only [dL]
  rw [(dv hr hl).1, (dv hr hl).2.1, if_pos hf]
  have a := dL_lo (cd := cd) (rn := rn) (L := L) hn m (p + 1) (upH hu p l) r (by omega) (hH.up (Int.natCast_nonneg _))
  omega)
/-- the last one is put up: a row is done -/
theorem PRE.leaf {cd : CD} {np rn n L : Nat} {hu0 hu : Int → Int} {p P : Nat} (h : PRE cd np rn n L hu0 p P hu) {l : Nat} (hl : l < L) (e : p + 1 = n) (hf : fRef cd hu (cd 3) p (l : Int) np rn = 0) : dL cd np rn n L n 0 hu0 (P * L + l) = tmD cd (upH hu p l) np 0 n := by
  have a := (h.step hl hf) 0 0 (by omega) (by simp)
  rw [Nat.pow_zero, Nat.mul_one, Nat.add_zero] at a
  exact a
/-- as good as can be: the rest is left out -/
theorem BST.all {cd : CD} (hW : WFc cd) {np rn n L : Nat} (hnp : cd 2 = np) (hn : n ≤ np) {hu0 : Int → Int} {R R2 : Nat} {b : Int} {bl : Int → Int} (hb : BST (dL cd np rn n L n 0 hu0) L n R b bl) (hR : R ≤ R2) (hR2 : R2 ≤ L ^ n) (hd : b ≤ lxE (fun q => nmE (taE cd hu0 np rn q) L) n) : BST (dL cd np rn n L n 0 hu0) L n R2 b bl := by
  refine hb.skip hR (fun r h1 h2 => ?_)
  have a := dL_lo (cd := cd) (rn := rn) (L := L) hn n 0 hu0 r (by omega) (HG.nil _)
  have c := tmD_b cd hu0 np 0 0
  have z := lxE_le (u := fun q => nmE (taE cd hu0 np rn q) L) (x := dL cd np rn n L n 0 hu0 r) (by omega) n (fun q hq => dL_nm hW hnp hn n 0 hu0 r q (SubH.rfl' _ _) (by omega) (HG.nil _) (by omega) hq (by omega))
  omega
/-- the lines tried so far -/
def TL (L p P : Nat) (tl : Int → Int) : Prop := ∀ k : Nat, k < p → tl k = ((P / L ^ (p - 1 - k) % L : Nat) : Int)
theorem TL.step {L p P : Nat} {tl : Int → Int} (h : TL L p P tl) {l : Nat} (hl : l < L) {tl2 : Int → Int} (h1 : tl2 p = l) (h2 : ∀ k : Nat, k < p → tl2 k = tl k) : TL L (p + 1) (P * L + l) tl2 := fun k hk => by
  by_cases e : k = p
  · rw [e, h1, show p + 1 - 1 - p = 0 by omega, Nat.pow_zero, Nat.div_one, Nat.mul_comm, Nat.mul_add_mod, Nat.mod_eq_of_lt hl]
  · rw [h2 k (by omega), h k (by omega), show p + 1 - 1 - k = (p - 1 - k) + 1 by omega, Nat.pow_succ, Nat.mul_comm (L ^ (p - 1 - k)) L, ← Nat.div_div_eq_div_mul, Nat.mul_comm P L, Nat.mul_add_div (by omega), Nat.div_eq_of_lt hl, Nat.add_zero]
