/-! ===== 72: courts as they are read ===== -/
/-- is there a line at a floor and a column -/
def tdB (fr : CD) (fl co : Int) : Nat → Bool
  | 0 => false
  | l + 1 => tdB fr fl co l || decide (fr (28 + 3 * (l : Int)) = fl ∧ fr (29 + 3 * (l : Int)) = co)
theorem tdB_up {fr : CD} {fl co : Int} {l : Nat} (h : tdB fr fl co l = true) : ∀ n : Nat, l ≤ n → tdB fr fl co n = true
  | 0, hn => by rw [show l = 0 by omega] at h; exact h
  | n + 1, hn => by
    by_cases e : l = n + 1
    · rw [e] at h; exact h
    · simp only [tdB]; rw [tdB_up h n (by omega)]; rfl
/-- a line, a right, a piece more -/
def upL (fr : CD) (x y z : Int) : CD := upC (upC (upC (upC fr (28 + 3 * fr 0) x) (29 + 3 * fr 0) y) (30 + 3 * fr 0) z) 0 (fr 0 + 1)
def upR (fr : CD) (x y z w : Int) : CD := upC (upC (upC (upC (upC fr (52 + 4 * fr 1) x) (53 + 4 * fr 1) y) (54 + 4 * fr 1) z) (55 + 4 * fr 1) w) 1 (fr 1 + 1)
def upP (fr : CD) (x y z w : Int) : CD := upC (upC (upC (upC (upC (upC fr (84 + 6 * fr 2) x) (85 + 6 * fr 2) y) (86 + 6 * fr 2) z) (87 + 6 * fr 2) w) (88 + 6 * fr 2) (-1000000)) 2 (fr 2 + 1)
theorem upL_0 (fr : CD) (x y z : Int) : upL fr x y z 0 = fr 0 + 1 := upC_self _ _ _
theorem upR_0 (fr : CD) (x y z w : Int) : upR fr x y z w 1 = fr 1 + 1 := upC_self _ _ _
theorem upP_0 (fr : CD) (x y z w : Int) : upP fr x y z w 2 = fr 2 + 1 := upC_self _ _ _
theorem upL_ne {fr : CD} {x y z j : Int} (h0 : j ≠ 0) (h : j < 28 + 3 * fr 0 ∨ 30 + 3 * fr 0 < j) : upL fr x y z j = fr j := by
  unfold upL; rw [upC_ne _ _ h0, upC_ne _ _ (by omega), upC_ne _ _ (by omega), upC_ne _ _ (by omega)]
theorem upR_ne {fr : CD} {x y z w j : Int} (h0 : j ≠ 1) (h : j < 52 + 4 * fr 1 ∨ 55 + 4 * fr 1 < j) : upR fr x y z w j = fr j := by
  unfold upR; rw [upC_ne _ _ h0, upC_ne _ _ (by omega), upC_ne _ _ (by omega), upC_ne _ _ (by omega), upC_ne _ _ (by omega)]
theorem upP_ne {fr : CD} {x y z w j : Int} (h0 : j ≠ 2) (h : j < 84 + 6 * fr 2 ∨ 88 + 6 * fr 2 < j) : upP fr x y z w j = fr j := by
  unfold upP; rw [upC_ne _ _ h0, upC_ne _ _ (by omega), upC_ne _ _ (by omega), upC_ne _ _ (by omega), upC_ne _ _ (by omega), upC_ne _ _ (by omega)]
theorem upL_at {fr : CD} {x y z : Int} (h : 0 ≤ fr 0) : upL fr x y z (28 + 3 * fr 0) = x ∧ upL fr x y z (29 + 3 * fr 0) = y ∧ upL fr x y z (30 + 3 * fr 0) = z := by
  unfold upL
  refine ⟨?_, ?_, ?_⟩
  · rw [upC_ne _ _ (by omega), upC_ne _ _ (by omega), upC_ne _ _ (by omega), upC_self]
  · rw [upC_ne _ _ (by omega), upC_ne _ _ (by omega), upC_self]
  · rw [upC_ne _ _ (by omega), upC_self]
theorem upR_at {fr : CD} {x y z w : Int} (h : 0 ≤ fr 1) : upR fr x y z w (52 + 4 * fr 1) = x ∧ upR fr x y z w (53 + 4 * fr 1) = y ∧ upR fr x y z w (54 + 4 * fr 1) = z ∧ upR fr x y z w (55 + 4 * fr 1) = w := by
  unfold upR
  refine ⟨?_, ?_, ?_, ?_⟩
  · rw [upC_ne _ _ (by omega), upC_ne _ _ (by omega), upC_ne _ _ (by omega), upC_ne _ _ (by omega), upC_self]
  · rw [upC_ne _ _ (by omega), upC_ne _ _ (by omega), upC_ne _ _ (by omega), upC_self]
  · rw [upC_ne _ _ (by omega), upC_ne _ _ (by omega), upC_self]
  · rw [upC_ne _ _ (by omega), upC_self]
theorem upP_at {fr : CD} {x y z w : Int} (h : 0 ≤ fr 2) : upP fr x y z w (84 + 6 * fr 2) = x ∧ upP fr x y z w (85 + 6 * fr 2) = y ∧ upP fr x y z w (86 + 6 * fr 2) = z ∧ upP fr x y z w (87 + 6 * fr 2) = w ∧ upP fr x y z w (88 + 6 * fr 2) = -1000000 := by
  unfold upP
  refine ⟨?_, ?_, ?_, ?_, ?_⟩
  · rw [upC_ne _ _ (by omega), upC_ne _ _ (by omega), upC_ne _ _ (by omega), upC_ne _ _ (by omega), upC_ne _ _ (by omega), upC_self]
  · rw [upC_ne _ _ (by omega), upC_ne _ _ (by omega), upC_ne _ _ (by omega), upC_ne _ _ (by omega), upC_self]
  · rw [upC_ne _ _ (by omega), upC_ne _ _ (by omega), upC_ne _ _ (by omega), upC_self]
  · rw [upC_ne _ _ (by omega), upC_ne _ _ (by omega), upC_self]
  · rw [upC_ne _ _ (by omega), upC_self]
/-- so many lines, rights, pieces there can be -/
def FB (fr : CD) : Prop := (0 ≤ fr 0 ∧ fr 0 ≤ 8) ∧ (0 ≤ fr 1 ∧ fr 1 ≤ 8) ∧ (0 ≤ fr 2 ∧ fr 2 ≤ 10)
/-- the Court at c is told as fr, but for its day -/
def CP (I : AS) (c : Nat) (fr : CD) : Prop := (I c 1 = fr 0 ∧ I c 6 = fr 1 ∧ I c 11 = fr 2) ∧ (∀ l : Int, 0 ≤ l → l < fr 0 → I (c + 2) l = fr (28 + 3 * l) ∧ I (c + 3) l = fr (29 + 3 * l) ∧ I (c + 4) l = fr (30 + 3 * l)) ∧ (∀ r : Int, 0 ≤ r → r < fr 1 → I (c + 6) r = fr (52 + 4 * r) ∧ I (c + 7) r = fr (53 + 4 * r) ∧ I (c + 8) r = fr (54 + 4 * r) ∧ I (c + 9) r = fr (55 + 4 * r)) ∧ (∀ q : Int, 0 ≤ q → q < fr 2 → I (c + 10) q = fr (84 + 6 * q) ∧ I (c + 11) q = fr (85 + 6 * q) ∧ I (c + 12) q = fr (86 + 6 * q) ∧ I (c + 13) q = fr (87 + 6 * q))
theorem CP.of {I J : AS} {c : Nat} {fr : CD} (h : CP I c fr) (e : ∀ b j, c ≤ b → b ≤ c + 13 → b ≠ c + 1 → b ≠ c + 5 → J b j = I b j) : CP J c fr := by
  obtain ⟨⟨h1, h2, h3⟩, h4, h5, h6⟩ := h
  refine ⟨⟨(e _ _ (by omega) (by omega) (by omega) (by omega)).trans h1, (e _ _ (by omega) (by omega) (by omega) (by omega)).trans h2, (e _ _ (by omega) (by omega) (by omega) (by omega)).trans h3⟩, fun l l0 l1 => ?_, fun l l0 l1 => ?_, fun l l0 l1 => ?_⟩
  · rw [e _ _ (by omega) (by omega) (by omega) (by omega), e _ _ (by omega) (by omega) (by omega) (by omega), e _ _ (by omega) (by omega) (by omega) (by omega)]; exact h4 l l0 l1
  · rw [e _ _ (by omega) (by omega) (by omega) (by omega), e _ _ (by omega) (by omega) (by omega) (by omega), e _ _ (by omega) (by omega) (by omega) (by omega), e _ _ (by omega) (by omega) (by omega) (by omega)]; exact h5 l l0 l1
  · rw [e _ _ (by omega) (by omega) (by omega) (by omega), e _ _ (by omega) (by omega) (by omega) (by omega), e _ _ (by omega) (by omega) (by omega) (by omega), e _ _ (by omega) (by omega) (by omega) (by omega)]; exact h6 l l0 l1
/-- the court's own change -/
def CW (M : Mem) (c : Nat) (I : AS) : Prop := ∀ b (j : Int), (b < c ∨ c + 13 < b ∨ b = c + 1 ∨ b = c + 5) → I b j = mI M b j
theorem CP.addL {M : Mem} {c : Nat} {fr : CD} (h : CP (mI M) c fr) (hb : FB fr) (hl : fr 0 < 8) {x y z : Int} : CP (up2 (up2 (up2 (up2 (mI M) (c + 2) (fr 0) x) (c + 3) (fr 0) y) (c + 4) (fr 0) z) c 1 (fr 0 + 1)) c (upL fr x y z) ∧ CW M c (up2 (up2 (up2 (up2 (mI M) (c + 2) (fr 0) x) (c + 3) (fr 0) y) (c + 4) (fr 0) z) c 1 (fr 0 + 1)) ∧ FB (upL fr x y z) := by
  have hb0 := hb.1; have hb1 := hb.2.1; have hb2 := hb.2.2
  obtain ⟨⟨h1, h2, h3⟩, h4, h5, h6⟩ := h
  have hat := upL_at (fr := fr) (x := x) (y := y) (z := z) (by omega)
  have hne : ∀ j : Int, j ≠ 0 → (j < 28 + 3 * fr 0 ∨ 30 + 3 * fr 0 < j) → upL fr x y z j = fr j := fun j g0 g1 => upL_ne g0 g1
  have h00 := upL_0 fr x y z
  refine ⟨⟨⟨?_, ?_, ?_⟩, fun l l0 l1 => ?_, fun l l0 l1 => ?_, fun l l0 l1 => ?_⟩, fun b j hb => by rw [up2_ne _ _ (by omega), up2_ne _ _ (by omega), up2_ne _ _ (by omega), up2_ne _ _ (by omega)], ?_⟩
  · rw [up2_self, h00]
  · rw [up2_ne _ _ (by omega), up2_ne _ _ (by omega), up2_ne _ _ (by omega), up2_ne _ _ (by omega), hne _ (by omega) (by omega)]; exact h2
  · rw [up2_ne _ _ (by omega), up2_ne _ _ (by omega), up2_ne _ _ (by omega), up2_ne _ _ (by omega), hne _ (by omega) (by omega)]; exact h3
  · rw [h00] at l1
    by_cases e : l = fr 0
    · rw [e]
      refine ⟨?_, ?_, ?_⟩
      · rw [up2_ne _ _ (by omega), up2_ne _ _ (by omega), up2_ne _ _ (by omega)]; rw [up2_self]; exact (hat.1).symm
      · rw [up2_ne _ _ (by omega), up2_ne _ _ (by omega)]; rw [up2_self]; exact (hat.2.1).symm
      · rw [up2_ne _ _ (by omega)]; rw [up2_self]; exact (hat.2.2).symm
    · have q := h4 l l0 (by omega)
      rw [up2_ne _ _ (by omega), up2_ne _ _ (by omega), up2_ne _ _ (by omega), up2_ne _ _ (by omega), up2_ne _ _ (by omega), up2_ne _ _ (by omega), up2_ne _ _ (by omega), up2_ne _ _ (by omega), up2_ne _ _ (by omega), up2_ne _ _ (by omega), up2_ne _ _ (by omega), up2_ne _ _ (by omega), hne _ (by omega) (by omega), hne _ (by omega) (by omega), hne _ (by omega) (by omega)]; exact q
  · rw [hne _ (by omega) (by omega)] at l1
    have q := h5 l l0 l1
    rw [up2_ne _ _ (by omega), up2_ne _ _ (by omega), up2_ne _ _ (by omega), up2_ne _ _ (by omega), up2_ne _ _ (by omega), up2_ne _ _ (by omega), up2_ne _ _ (by omega), up2_ne _ _ (by omega), up2_ne _ _ (by omega), up2_ne _ _ (by omega), up2_ne _ _ (by omega), up2_ne _ _ (by omega), up2_ne _ _ (by omega), up2_ne _ _ (by omega), up2_ne _ _ (by omega), up2_ne _ _ (by omega), hne _ (by omega) (by omega), hne _ (by omega) (by omega), hne _ (by omega) (by omega), hne _ (by omega) (by omega)]; exact q
  · rw [hne _ (by omega) (by omega)] at l1
    have q := h6 l l0 l1
    rw [up2_ne _ _ (by omega), up2_ne _ _ (by omega), up2_ne _ _ (by omega), up2_ne _ _ (by omega), up2_ne _ _ (by omega), up2_ne _ _ (by omega), up2_ne _ _ (by omega), up2_ne _ _ (by omega), up2_ne _ _ (by omega), up2_ne _ _ (by omega), up2_ne _ _ (by omega), up2_ne _ _ (by omega), up2_ne _ _ (by omega), up2_ne _ _ (by omega), up2_ne _ _ (by omega), up2_ne _ _ (by omega), hne _ (by omega) (by omega), hne _ (by omega) (by omega), hne _ (by omega) (by omega), hne _ (by omega) (by omega)]; exact q
  · unfold FB; rw [h00, hne 1 (by omega) (by omega), hne 2 (by omega) (by omega)]; exact ⟨by omega, by omega, by omega⟩
theorem CP.addR {M : Mem} {c : Nat} {fr : CD} (h : CP (mI M) c fr) (hb : FB fr) (hl : fr 1 < 8) {x y z w : Int} : CP (up2 (up2 (up2 (up2 (up2 (mI M) (c + 6) (fr 1) x) (c + 7) (fr 1) y) (c + 8) (fr 1) z) (c + 9) (fr 1) w) c 6 (fr 1 + 1)) c (upR fr x y z w) ∧ CW M c (up2 (up2 (up2 (up2 (up2 (mI M) (c + 6) (fr 1) x) (c + 7) (fr 1) y) (c + 8) (fr 1) z) (c + 9) (fr 1) w) c 6 (fr 1 + 1)) ∧ FB (upR fr x y z w) := by
  have hb0 := hb.1; have hb1 := hb.2.1; have hb2 := hb.2.2
  obtain ⟨⟨h1, h2, h3⟩, h4, h5, h6⟩ := h
  have hat := upR_at (fr := fr) (x := x) (y := y) (z := z) (w := w) (by omega)
  have hne : ∀ j : Int, j ≠ 1 → (j < 52 + 4 * fr 1 ∨ 55 + 4 * fr 1 < j) → upR fr x y z w j = fr j := fun j g0 g1 => upR_ne g0 g1
  have h00 := upR_0 fr x y z w
  refine ⟨⟨⟨?_, ?_, ?_⟩, fun l l0 l1 => ?_, fun l l0 l1 => ?_, fun l l0 l1 => ?_⟩, fun b j hb => by rw [up2_ne _ _ (by omega), up2_ne _ _ (by omega), up2_ne _ _ (by omega), up2_ne _ _ (by omega), up2_ne _ _ (by omega)], ?_⟩
  · rw [up2_ne _ _ (by omega), up2_ne _ _ (by omega), up2_ne _ _ (by omega), up2_ne _ _ (by omega), up2_ne _ _ (by omega), hne _ (by omega) (by omega)]; exact h1
  · rw [up2_self, h00]
  · rw [up2_ne _ _ (by omega), up2_ne _ _ (by omega), up2_ne _ _ (by omega), up2_ne _ _ (by omega), up2_ne _ _ (by omega), hne _ (by omega) (by omega)]; exact h3
  · rw [hne _ (by omega) (by omega)] at l1
    have q := h4 l l0 l1
    rw [up2_ne _ _ (by omega), up2_ne _ _ (by omega), up2_ne _ _ (by omega), up2_ne _ _ (by omega), up2_ne _ _ (by omega), up2_ne _ _ (by omega), up2_ne _ _ (by omega), up2_ne _ _ (by omega), up2_ne _ _ (by omega), up2_ne _ _ (by omega), up2_ne _ _ (by omega), up2_ne _ _ (by omega), up2_ne _ _ (by omega), up2_ne _ _ (by omega), up2_ne _ _ (by omega), hne _ (by omega) (by omega), hne _ (by omega) (by omega), hne _ (by omega) (by omega)]; exact q
  · rw [h00] at l1
    by_cases e : l = fr 1
    · rw [e]
      refine ⟨?_, ?_, ?_, ?_⟩
      · rw [up2_ne _ _ (by omega), up2_ne _ _ (by omega), up2_ne _ _ (by omega), up2_ne _ _ (by omega)]; rw [up2_self]; exact (hat.1).symm
      · rw [up2_ne _ _ (by omega), up2_ne _ _ (by omega), up2_ne _ _ (by omega)]; rw [up2_self]; exact (hat.2.1).symm
      · rw [up2_ne _ _ (by omega), up2_ne _ _ (by omega)]; rw [up2_self]; exact (hat.2.2.1).symm
      · rw [up2_ne _ _ (by omega)]; rw [up2_self]; exact (hat.2.2.2).symm
    · have q := h5 l l0 (by omega)
      rw [up2_ne _ _ (by omega), up2_ne _ _ (by omega), up2_ne _ _ (by omega), up2_ne _ _ (by omega), up2_ne _ _ (by omega), up2_ne _ _ (by omega), up2_ne _ _ (by omega), up2_ne _ _ (by omega), up2_ne _ _ (by omega), up2_ne _ _ (by omega), up2_ne _ _ (by omega), up2_ne _ _ (by omega), up2_ne _ _ (by omega), up2_ne _ _ (by omega), up2_ne _ _ (by omega), up2_ne _ _ (by omega), up2_ne _ _ (by omega), up2_ne _ _ (by omega), up2_ne _ _ (by omega), up2_ne _ _ (by omega), hne _ (by omega) (by omega), hne _ (by omega) (by omega), hne _ (by omega) (by omega), hne _ (by omega) (by omega)]; exact q
  · rw [hne _ (by omega) (by omega)] at l1
    have q := h6 l l0 l1
    rw [up2_ne _ _ (by omega), up2_ne _ _ (by omega), up2_ne _ _ (by omega), up2_ne _ _ (by omega), up2_ne _ _ (by omega), up2_ne _ _ (by omega), up2_ne _ _ (by omega), up2_ne _ _ (by omega), up2_ne _ _ (by omega), up2_ne _ _ (by omega), up2_ne _ _ (by omega), up2_ne _ _ (by omega), up2_ne _ _ (by omega), up2_ne _ _ (by omega), up2_ne _ _ (by omega), up2_ne _ _ (by omega), up2_ne _ _ (by omega), up2_ne _ _ (by omega), up2_ne _ _ (by omega), up2_ne _ _ (by omega), hne _ (by omega) (by omega), hne _ (by omega) (by omega), hne _ (by omega) (by omega), hne _ (by omega) (by omega)]; exact q
  · unfold FB; rw [hne 0 (by omega) (by omega), h00, hne 2 (by omega) (by omega)]; exact ⟨by omega, by omega, by omega⟩
theorem CP.addP {M : Mem} {c : Nat} {fr : CD} (h : CP (mI M) c fr) (hb : FB fr) (hl : fr 2 < 10) {x y z w : Int} : CP (up2 (up2 (up2 (up2 (up2 (mI M) (c + 10) (fr 2) x) (c + 11) (fr 2) y) (c + 12) (fr 2) z) (c + 13) (fr 2) w) c 11 (fr 2 + 1)) c (upP fr x y z w) ∧ CW M c (up2 (up2 (up2 (up2 (up2 (mI M) (c + 10) (fr 2) x) (c + 11) (fr 2) y) (c + 12) (fr 2) z) (c + 13) (fr 2) w) c 11 (fr 2 + 1)) ∧ FB (upP fr x y z w) := by
  have hb0 := hb.1; have hb1 := hb.2.1; have hb2 := hb.2.2
  obtain ⟨⟨h1, h2, h3⟩, h4, h5, h6⟩ := h
  have hat := upP_at (fr := fr) (x := x) (y := y) (z := z) (w := w) (by omega)
  have hne : ∀ j : Int, j ≠ 2 → (j < 84 + 6 * fr 2 ∨ 88 + 6 * fr 2 < j) → upP fr x y z w j = fr j := fun j g0 g1 => upP_ne g0 g1
  have h00 := upP_0 fr x y z w
  refine ⟨⟨⟨?_, ?_, ?_⟩, fun l l0 l1 => ?_, fun l l0 l1 => ?_, fun l l0 l1 => ?_⟩, fun b j hb => by rw [up2_ne _ _ (by omega), up2_ne _ _ (by omega), up2_ne _ _ (by omega), up2_ne _ _ (by omega), up2_ne _ _ (by omega)], ?_⟩
  · rw [up2_ne _ _ (by omega), up2_ne _ _ (by omega), up2_ne _ _ (by omega), up2_ne _ _ (by omega), up2_ne _ _ (by omega), hne _ (by omega) (by omega)]; exact h1
  · rw [up2_ne _ _ (by omega), up2_ne _ _ (by omega), up2_ne _ _ (by omega), up2_ne _ _ (by omega), up2_ne _ _ (by omega), hne _ (by omega) (by omega)]; exact h2
  · rw [up2_self, h00]
  · rw [hne _ (by omega) (by omega)] at l1
    have q := h4 l l0 l1
    rw [up2_ne _ _ (by omega), up2_ne _ _ (by omega), up2_ne _ _ (by omega), up2_ne _ _ (by omega), up2_ne _ _ (by omega), up2_ne _ _ (by omega), up2_ne _ _ (by omega), up2_ne _ _ (by omega), up2_ne _ _ (by omega), up2_ne _ _ (by omega), up2_ne _ _ (by omega), up2_ne _ _ (by omega), up2_ne _ _ (by omega), up2_ne _ _ (by omega), up2_ne _ _ (by omega), hne _ (by omega) (by omega), hne _ (by omega) (by omega), hne _ (by omega) (by omega)]; exact q
  · rw [hne _ (by omega) (by omega)] at l1
    have q := h5 l l0 l1
    rw [up2_ne _ _ (by omega), up2_ne _ _ (by omega), up2_ne _ _ (by omega), up2_ne _ _ (by omega), up2_ne _ _ (by omega), up2_ne _ _ (by omega), up2_ne _ _ (by omega), up2_ne _ _ (by omega), up2_ne _ _ (by omega), up2_ne _ _ (by omega), up2_ne _ _ (by omega), up2_ne _ _ (by omega), up2_ne _ _ (by omega), up2_ne _ _ (by omega), up2_ne _ _ (by omega), up2_ne _ _ (by omega), up2_ne _ _ (by omega), up2_ne _ _ (by omega), up2_ne _ _ (by omega), up2_ne _ _ (by omega), hne _ (by omega) (by omega), hne _ (by omega) (by omega), hne _ (by omega) (by omega), hne _ (by omega) (by omega)]; exact q
  · rw [h00] at l1
    by_cases e : l = fr 2
    · rw [e]
      refine ⟨?_, ?_, ?_, ?_⟩
      · rw [up2_ne _ _ (by omega), up2_ne _ _ (by omega), up2_ne _ _ (by omega), up2_ne _ _ (by omega)]; rw [up2_self]; exact (hat.1).symm
      · rw [up2_ne _ _ (by omega), up2_ne _ _ (by omega), up2_ne _ _ (by omega)]; rw [up2_self]; exact (hat.2.1).symm
      · rw [up2_ne _ _ (by omega), up2_ne _ _ (by omega)]; rw [up2_self]; exact (hat.2.2.1).symm
      · rw [up2_ne _ _ (by omega)]; rw [up2_self]; exact (hat.2.2.2.1).symm
    · have q := h6 l l0 (by omega)
      rw [up2_ne _ _ (by omega), up2_ne _ _ (by omega), up2_ne _ _ (by omega), up2_ne _ _ (by omega), up2_ne _ _ (by omega), up2_ne _ _ (by omega), up2_ne _ _ (by omega), up2_ne _ _ (by omega), up2_ne _ _ (by omega), up2_ne _ _ (by omega), up2_ne _ _ (by omega), up2_ne _ _ (by omega), up2_ne _ _ (by omega), up2_ne _ _ (by omega), up2_ne _ _ (by omega), up2_ne _ _ (by omega), up2_ne _ _ (by omega), up2_ne _ _ (by omega), up2_ne _ _ (by omega), up2_ne _ _ (by omega), hne _ (by omega) (by omega), hne _ (by omega) (by omega), hne _ (by omega) (by omega), hne _ (by omega) (by omega)]; exact q
  · unfold FB; rw [hne 0 (by omega) (by omega), hne 1 (by omega) (by omega), h00]; exact ⟨by omega, by omega, by omega⟩
set_option maxRecDepth 20000 in
set_option maxHeartbeats 3000000 in
theorem l_hasLineAt {G : Ctx} {M : Mem} {c : Nat} {fr : CD} (hC : CA M c) (hP : CP (mI M) c fr) (hb : FB fr) {fl co : Int} (n : Nat) (hn : fr 0 = n) : ∀ (k r : Nat) , r + k = n → tdB fr fl co r = false → EV G m_X1_hasLineAt 0 0 0 (rI M (tB (tdB fr fl co n))) 2 [some (vR c), some (vI fl), some (vI co), some (vI (r : Int))] [] M := by
  intro k
  induction k with
  | zero =>
    intro r  hr hi
    obtain rfl : r = n := by omega
    have hb0 := hb.1
    refine E_iload_n dX1_hasLineAt_2 rfl ?_
    refine E_aload_n dX1_hasLineAt_3 rfl ?_
    refine g_X1_51 rfl dX1_hasLineAt_4 hC.o (hP.1.1.trans hn) ?_
    refine E_icmp_ge (tgt := 38) dX1_hasLineAt_7 (by decide) (fun h7 => ?_) (fun h7 => ?_)
    · refine E_iconst dX1_hasLineAt_38 (by decide) ?_
      refine E_zret dX1_hasLineAt_39 rfl (by decide) ?_
      rw [hi]; exact ⟨rfl, rfl⟩
    · exfalso; omega
  | succ k ih =>
    intro r  hr hi
    have hb0 := hb.1
    refine E_iload_n dX1_hasLineAt_2 rfl ?_
    refine E_aload_n dX1_hasLineAt_3 rfl ?_
    refine g_X1_51 rfl dX1_hasLineAt_4 hC.o (hP.1.1.trans hn) ?_
    refine E_icmp_ge (tgt := 38) dX1_hasLineAt_7 (by decide) (fun h7 => ?_) (fun h7 => ?_)
    · exfalso; omega
    · refine E_aload_n dX1_hasLineAt_10 rfl ?_
      refine g_X1_15 rfl dX1_hasLineAt_11 hC.o hC.floors ?_
      refine E_iload_n dX1_hasLineAt_14 rfl ?_
      refine E_iald dX1_hasLineAt_15 hC.s_floors (by omega) (by omega) (hP.2.1 _ (by omega) (by omega)).1 ?_
      refine E_iload_n dX1_hasLineAt_16 rfl ?_
      refine E_icmp_ne (tgt := 32) dX1_hasLineAt_17 (by decide) (fun h17 => ?_) (fun h17 => ?_)
      · refine E_iinc dX1_hasLineAt_32 rfl (by omega) (by omega) (by decide) rfl (by decide) ?_
        try dsimp only [List.set]
        refine E_goto (tgt := 2) dX1_hasLineAt_35 (by decide) ?_
        exact EV.lq rfl (ih (r + 1) (by omega) (by simp only [tdB]; rw [hi, decide_eq_false (by omega)]; rfl))
      · refine E_aload_n dX1_hasLineAt_20 rfl ?_
        refine g_X1_18 rfl dX1_hasLineAt_21 hC.o hC.columns ?_
        refine E_iload_n dX1_hasLineAt_24 rfl ?_
        refine E_iald dX1_hasLineAt_25 hC.s_columns (by omega) (by omega) (hP.2.1 _ (by omega) (by omega)).2.1 ?_
        refine E_iload_n dX1_hasLineAt_26 rfl ?_
        refine E_icmp_ne (tgt := 32) dX1_hasLineAt_27 (by decide) (fun h27 => ?_) (fun h27 => ?_)
        · refine E_iinc dX1_hasLineAt_32 rfl (by omega) (by omega) (by decide) rfl (by decide) ?_
          try dsimp only [List.set]
          refine E_goto (tgt := 2) dX1_hasLineAt_35 (by decide) ?_
          exact EV.lq rfl (ih (r + 1) (by omega) (by simp only [tdB]; rw [hi, decide_eq_false (by omega)]; rfl))
        · refine E_iconst dX1_hasLineAt_30 (by decide) ?_
          refine E_zret dX1_hasLineAt_31 rfl (by decide) ?_
          have e : tdB fr fl co (r + 1) = true := by simp only [tdB]; rw [hi, decide_eq_true (by omega)]; rfl
          rw [tdB_up e n (by omega)]; exact ⟨rfl, rfl⟩
set_option maxRecDepth 20000 in
set_option maxHeartbeats 3000000 in
theorem c_hasLineAt {G : Ctx} {M : Mem} {c : Nat} {fr : CD} (hC : CA M c) (hP : CP (mI M) c fr) (hb : FB fr) {fl co : Int} : CT G m_X1_hasLineAt 0 0 0 [vR c, vI fl, vI co] M (rI M (tB (tdB fr fl co (fr 0).toNat))) := by
  refine CT.of k_X1_hasLineAt 1 (ls := [some (vR c), some (vI fl), some (vI co), none]) rfl (Nat.le_of_ble_eq_true rfl) ?_
  refine E_iconst dX1_hasLineAt_0 (by decide) ?_
  refine E_istore_n dX1_hasLineAt_1 rfl (by decide) ?_
  try dsimp only [List.set]
  have hb0 := hb.1
  exact EV.lq rfl (l_hasLineAt hC hP hb (fr 0).toNat (by omega) (fr 0).toNat 0 (by omega) rfl)
set_option maxRecDepth 20000 in
set_option maxHeartbeats 3000000 in
theorem c_addL {G : Ctx} {M : Mem} {c : Nat} {fr : CD} (hC : CA M c) (hP : CP (mI M) c fr) (hb : FB fr) (hl : fr 0 < 8) {x y z : Int} : CT G m_X1_addLine 0 0 0 [vR c, vI x, vI y, vI z] M (rJ M (fun I => CP I c (upL fr x y z) ∧ CW M c I ∧ FB (upL fr x y z))) := by
  refine CT.of k_X1_addLine 0 (ls := [some (vR c), some (vI x), some (vI y), some (vI z)]) rfl (Nat.le_of_ble_eq_true rfl) ?_
  have hb0 := hb.1
  have hb1 := hb.2.1
  have hb2 := hb.2.2
  refine E_aload_n dX1_addLine_0 rfl ?_
  refine g_X1_51 rfl dX1_addLine_1 (by exact hC.o) (hP.1.1) ?_
  refine E_bipush dX1_addLine_4 (by decide) ?_
  refine E_icmp_ge (tgt := 49) dX1_addLine_6 (by decide) (fun h6 => ?_) (fun h6 => ?_)
  · exfalso; omega
  · refine E_aload_n dX1_addLine_9 rfl ?_
    refine g_X1_15 rfl dX1_addLine_10 (by exact hC.o) (by exact hC.floors) ?_
    refine E_aload_n dX1_addLine_13 rfl ?_
    refine g_X1_51 rfl dX1_addLine_14 (by exact hC.o) (hP.1.1) ?_
    refine E_iload_n dX1_addLine_17 rfl ?_
    refine E_iast dX1_addLine_18 (by exact hC.s_floors) (by omega) (by omega) ?_
    refine E_aload_n dX1_addLine_19 rfl ?_
    refine g_X1_18 rfl dX1_addLine_20 (by exact hC.o) (by exact hC.columns) ?_
    refine E_aload_n dX1_addLine_23 rfl ?_
    refine g_X1_51 rfl dX1_addLine_24 (by exact hC.o) ((mI_ne (by omega)).trans (hP.1.1)) ?_
    refine E_iload_n dX1_addLine_27 rfl ?_
    refine E_iast dX1_addLine_28 (by exact hC.s_columns) (by omega) (by omega) ?_
    refine E_aload_n dX1_addLine_29 rfl ?_
    refine g_X1_21 rfl dX1_addLine_30 (by exact hC.o) (by exact hC.wides) ?_
    refine E_aload_n dX1_addLine_33 rfl ?_
    refine g_X1_51 rfl dX1_addLine_34 (by exact hC.o) ((mI_ne (by omega)).trans ((mI_ne (by omega)).trans (hP.1.1))) ?_
    refine E_iload_n dX1_addLine_37 rfl ?_
    refine E_iast dX1_addLine_38 (by exact hC.s_wides) (by omega) (by omega) ?_
    refine E_aload_n dX1_addLine_39 rfl ?_
    refine E_dup dX1_addLine_40 rfl ?_
    refine g_X1_51 rfl dX1_addLine_41 (by exact hC.o) ((mI_ne (by omega)).trans ((mI_ne (by omega)).trans ((mI_ne (by omega)).trans (hP.1.1)))) ?_
    refine E_iconst dX1_addLine_44 (by decide) ?_
    refine E_iadd dX1_addLine_45 (by omega) (by omega) ?_
    refine p_X1_51 rfl dX1_addLine_46 (by exact hC.o) ?_
    refine E_vret dX1_addLine_49 rfl ?_
    exact ⟨rfl, _, rfl, hP.addL hb hl⟩
set_option maxRecDepth 20000 in
set_option maxHeartbeats 3000000 in
theorem c_addR {G : Ctx} {M : Mem} {c : Nat} {fr : CD} (hC : CA M c) (hP : CP (mI M) c fr) (hb : FB fr) (hl : fr 1 < 8) {x y z w : Int} : CT G m_X1_addRight 0 0 0 [vR c, vI x, vI y, vI z, vI w] M (rJ M (fun I => CP I c (upR fr x y z w) ∧ CW M c I ∧ FB (upR fr x y z w))) := by
  refine CT.of k_X1_addRight 0 (ls := [some (vR c), some (vI x), some (vI y), some (vI z), some (vI w)]) rfl (Nat.le_of_ble_eq_true rfl) ?_
  have hb0 := hb.1
  have hb1 := hb.2.1
  have hb2 := hb.2.2
  refine E_aload_n dX1_addRight_0 rfl ?_
  refine g_X1_55 rfl dX1_addRight_1 (by exact hC.o) (hP.1.2.1) ?_
  refine E_bipush dX1_addRight_4 (by decide) ?_
  refine E_icmp_ge (tgt := 60) dX1_addRight_6 (by decide) (fun h6 => ?_) (fun h6 => ?_)
  · exfalso; omega
  · refine E_aload_n dX1_addRight_9 rfl ?_
    refine g_X1_27 rfl dX1_addRight_10 (by exact hC.o) (by exact hC.rightLines) ?_
    refine E_aload_n dX1_addRight_13 rfl ?_
    refine g_X1_55 rfl dX1_addRight_14 (by exact hC.o) (hP.1.2.1) ?_
    refine E_iload_n dX1_addRight_17 rfl ?_
    refine E_iast dX1_addRight_18 (by exact hC.s_rightLines) (by omega) (by omega) ?_
    refine E_aload_n dX1_addRight_19 rfl ?_
    refine g_X1_30 rfl dX1_addRight_20 (by exact hC.o) (by exact hC.rightFroms) ?_
    refine E_aload_n dX1_addRight_23 rfl ?_
    refine g_X1_55 rfl dX1_addRight_24 (by exact hC.o) ((mI_ne (by omega)).trans (hP.1.2.1)) ?_
    refine E_iload_n dX1_addRight_27 rfl ?_
    refine E_iast dX1_addRight_28 (by exact hC.s_rightFroms) (by omega) (by omega) ?_
    refine E_aload_n dX1_addRight_29 rfl ?_
    refine g_X1_33 rfl dX1_addRight_30 (by exact hC.o) (by exact hC.rightTos) ?_
    refine E_aload_n dX1_addRight_33 rfl ?_
    refine g_X1_55 rfl dX1_addRight_34 (by exact hC.o) ((mI_ne (by omega)).trans ((mI_ne (by omega)).trans (hP.1.2.1))) ?_
    refine E_iload_n dX1_addRight_37 rfl ?_
    refine E_iast dX1_addRight_38 (by exact hC.s_rightTos) (by omega) (by omega) ?_
    refine E_aload_n dX1_addRight_39 rfl ?_
    refine g_X1_36 rfl dX1_addRight_40 (by exact hC.o) (by exact hC.rightOwners) ?_
    refine E_aload_n dX1_addRight_43 rfl ?_
    refine g_X1_55 rfl dX1_addRight_44 (by exact hC.o) ((mI_ne (by omega)).trans ((mI_ne (by omega)).trans ((mI_ne (by omega)).trans (hP.1.2.1)))) ?_
    refine E_iload dX1_addRight_47 rfl ?_
    refine E_iast dX1_addRight_49 (by exact hC.s_rightOwners) (by omega) (by omega) ?_
    refine E_aload_n dX1_addRight_50 rfl ?_
    refine E_dup dX1_addRight_51 rfl ?_
    refine g_X1_55 rfl dX1_addRight_52 (by exact hC.o) ((mI_ne (by omega)).trans ((mI_ne (by omega)).trans ((mI_ne (by omega)).trans ((mI_ne (by omega)).trans (hP.1.2.1))))) ?_
    refine E_iconst dX1_addRight_55 (by decide) ?_
    refine E_iadd dX1_addRight_56 (by omega) (by omega) ?_
    refine p_X1_55 rfl dX1_addRight_57 (by exact hC.o) ?_
    refine E_vret dX1_addRight_60 rfl ?_
    exact ⟨rfl, _, rfl, hP.addR hb hl⟩
set_option maxRecDepth 20000 in
set_option maxHeartbeats 3000000 in
theorem c_addP {G : Ctx} {M : Mem} {c : Nat} {fr : CD} (hC : CA M c) (hP : CP (mI M) c fr) (hb : FB fr) (hl : fr 2 < 10) {x y z w : Int} : CT G m_X1_addPiece 0 0 0 [vR c, vI x, vI y, vI z, vI w] M (rJ M (fun I => CP I c (upP fr x y z w) ∧ CW M c I ∧ FB (upP fr x y z w))) := by
  refine CT.of k_X1_addPiece 0 (ls := [some (vR c), some (vI x), some (vI y), some (vI z), some (vI w)]) rfl (Nat.le_of_ble_eq_true rfl) ?_
  have hb0 := hb.1
  have hb1 := hb.2.1
  have hb2 := hb.2.2
  refine E_aload_n dX1_addPiece_0 rfl ?_
  refine g_X1_58 rfl dX1_addPiece_1 (by exact hC.o) (hP.1.2.2) ?_
  refine E_bipush dX1_addPiece_4 (by decide) ?_
  refine E_icmp_ge (tgt := 60) dX1_addPiece_6 (by decide) (fun h6 => ?_) (fun h6 => ?_)
  · exfalso; omega
  · refine E_aload_n dX1_addPiece_9 rfl ?_
    refine g_X1_39 rfl dX1_addPiece_10 (by exact hC.o) (by exact hC.kinds) ?_
    refine E_aload_n dX1_addPiece_13 rfl ?_
    refine g_X1_58 rfl dX1_addPiece_14 (by exact hC.o) (hP.1.2.2) ?_
    refine E_iload_n dX1_addPiece_17 rfl ?_
    refine E_iast dX1_addPiece_18 (by exact hC.s_kinds) (by omega) (by omega) ?_
    refine E_aload_n dX1_addPiece_19 rfl ?_
    refine g_X1_42 rfl dX1_addPiece_20 (by exact hC.o) (by exact hC.owners) ?_
    refine E_aload_n dX1_addPiece_23 rfl ?_
    refine g_X1_58 rfl dX1_addPiece_24 (by exact hC.o) ((mI_ne (by omega)).trans (hP.1.2.2)) ?_
    refine E_iload_n dX1_addPiece_27 rfl ?_
    refine E_iast dX1_addPiece_28 (by exact hC.s_owners) (by omega) (by omega) ?_
    refine E_aload_n dX1_addPiece_29 rfl ?_
    refine g_X1_45 rfl dX1_addPiece_30 (by exact hC.o) (by exact hC.firstWet) ?_
    refine E_aload_n dX1_addPiece_33 rfl ?_
    refine g_X1_58 rfl dX1_addPiece_34 (by exact hC.o) ((mI_ne (by omega)).trans ((mI_ne (by omega)).trans (hP.1.2.2))) ?_
    refine E_iload_n dX1_addPiece_37 rfl ?_
    refine E_iast dX1_addPiece_38 (by exact hC.s_firstWet) (by omega) (by omega) ?_
    refine E_aload_n dX1_addPiece_39 rfl ?_
    refine g_X1_48 rfl dX1_addPiece_40 (by exact hC.o) (by exact hC.yards) ?_
    refine E_aload_n dX1_addPiece_43 rfl ?_
    refine g_X1_58 rfl dX1_addPiece_44 (by exact hC.o) ((mI_ne (by omega)).trans ((mI_ne (by omega)).trans ((mI_ne (by omega)).trans (hP.1.2.2)))) ?_
    refine E_iload dX1_addPiece_47 rfl ?_
    refine E_iast dX1_addPiece_49 (by exact hC.s_yards) (by omega) (by omega) ?_
    refine E_aload_n dX1_addPiece_50 rfl ?_
    refine E_dup dX1_addPiece_51 rfl ?_
    refine g_X1_58 rfl dX1_addPiece_52 (by exact hC.o) ((mI_ne (by omega)).trans ((mI_ne (by omega)).trans ((mI_ne (by omega)).trans ((mI_ne (by omega)).trans (hP.1.2.2))))) ?_
    refine E_iconst dX1_addPiece_55 (by decide) ?_
    refine E_iadd dX1_addPiece_56 (by omega) (by omega) ?_
    refine p_X1_58 rfl dX1_addPiece_57 (by exact hC.o) ?_
    refine E_vret dX1_addPiece_60 rfl ?_
    exact ⟨rfl, _, rfl, hP.addP hb hl⟩
