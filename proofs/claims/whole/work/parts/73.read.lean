/-! ===== 73: reading, as numbers ===== -/
/-- a line, a right, a piece behind its word -/
def ln2 (T : Int → Int) (N : Nat) (q : PT) : PT := pU T N 0 9 q
def ln3 (T : Int → Int) (N : Nat) (q : PT) (fr : CD) : PT := if pE (ln2 T N q) = 0 ∧ pS (ln2 T N q) = 2 ∧ tdB fr (fgV T q) (fgV T (ln2 T N q)) (fr 0).toNat = true then pX 2 (ln2 T N q) else ln2 T N q
def ln4 (T : Int → Int) (N : Nat) (q : PT) (fr : CD) : PT := pU T N 0 3 (ln3 T N q fr)
def lnP (T : Int → Int) (N : Nat) (q : PT) (fr : CD) : PT := pG T N (pU T N 1 9 (ln4 T N q fr))
def lnF (T : Int → Int) (N : Nat) (q : PT) (fr : CD) : CD := if pE (lnP T N q fr) = 0 then upL fr (fgV T q) (fgV T (ln2 T N q)) (fgV T (ln4 T N q fr)) else fr
def rt2 (T : Int → Int) (N : Nat) (q : PT) (fr : CD) : PT := pU T N 0 (fr 0 - 1) q
def rt3 (T : Int → Int) (N : Nat) (q : PT) (fr : CD) : PT := pU T N 0 23 (rt2 T N q fr)
def rt4 (T : Int → Int) (N : Nat) (q : PT) (fr : CD) : PT := pU T N (fgV T (rt2 T N q fr)) 23 (rt3 T N q fr)
def rtP (T : Int → Int) (N : Nat) (q : PT) (fr : CD) : PT := pG T N (pU T N 0 5 (rt4 T N q fr))
def rtF (T : Int → Int) (N : Nat) (q : PT) (fr : CD) : CD := if pE (rtP T N q fr) = 0 then upR fr (fgV T q) (fgV T (rt2 T N q fr)) (fgV T (rt3 T N q fr)) (fgV T (rt4 T N q fr)) else fr
def pc2 (T : Int → Int) (N : Nat) (q : PT) : PT := pK T N q
def pc3 (T : Int → Int) (N : Nat) (q : PT) : PT := pU T N 0 5 (pc2 T N q)
def pc4 (T : Int → Int) (N : Nat) (q : PT) : PT := pU T N 0 99 (pc3 T N q)
def pcP (T : Int → Int) (N : Nat) (q : PT) : PT := pG T N (pU T N 1 9 (pc4 T N q))
def pcF (T : Int → Int) (N : Nat) (q : PT) (fr : CD) : CD := if pE (pcP T N q) = 0 then upP fr (kdV T q) (fgV T (pc2 T N q)) (fgV T (pc3 T N q)) (fgV T (pc4 T N q)) else fr
theorem pK_k {T : Int → Int} {N : Nat} {p : PT} (h : pE (pK T N p) = 0) : pE p = 0 ∧ kdV T p ≠ -1000000 := by
  unfold pK at h
  rw [pN_e] at h
  split at h
  · rename_i e; exact ⟨h, e⟩
  · rw [pX_e] at h; split at h <;> omega
theorem pK_f {T : Int → Int} {N : Nat} {p : PT} (h : pE p ≠ 0) : pK T N p = p := by
  have e : (if kdV T p ≠ -1000000 then p else pX 1 p) = p := by
    split
    · rfl
    · exact pX_f h
  unfold pK; rw [e, pN_f h]
theorem fgV_X {T : Int → Int} {k : Int} {p : PT} : fgV T (pX k p) = fgV T p := by
  unfold pX; split <;> rfl
theorem fgV_3 {T : Int → Int} {N : Nat} {q : PT} {fr : CD} : fgV T (ln3 T N q fr) = fgV T (ln2 T N q) := by
  unfold ln3; split
  · exact fgV_X
  · rfl
/-- what stands behind an unfaulted line -/
theorem ln_k {T : Int → Int} {N : Nat} {q : PT} {fr : CD} (h : pE (lnP T N q fr) = 0) : pE q = 0 ∧ pE (ln2 T N q) = 0 ∧ pE (ln4 T N q fr) = 0 ∧ (0 ≤ fgV T q ∧ fgV T q ≤ 9) ∧ (0 ≤ fgV T (ln2 T N q) ∧ fgV T (ln2 T N q) ≤ 3) ∧ (1 ≤ fgV T (ln4 T N q fr) ∧ fgV T (ln4 T N q fr) ≤ 9) := by
  have h1 := pU_k (pG_k h)
  have h2 := pU_k (T := T) (N := N) (lo := 0) (hi := 3) h1.1
  have h3 : pE (ln2 T N q) = 0 := by
    have z := h2.1
    unfold ln3 at z
    split at z
    · rw [pX_e] at z; split at z <;> omega
    · exact z
  have h4 := pU_k (T := T) (N := N) (lo := 0) (hi := 9) h3
  have h5 := h2.2.2
  rw [fgV_3] at h5
  exact ⟨h4.1, h3, h1.1, h4.2.2, h5, h1.2.2⟩
theorem rt_k {T : Int → Int} {N : Nat} {q : PT} {fr : CD} (h : pE (rtP T N q fr) = 0) : pE q = 0 ∧ pE (rt2 T N q fr) = 0 ∧ pE (rt3 T N q fr) = 0 ∧ pE (rt4 T N q fr) = 0 ∧ (0 ≤ fgV T (rt4 T N q fr) ∧ fgV T (rt4 T N q fr) ≤ 5) := by
  have h1 := pU_k (pG_k h)
  have h2 := pU_k (T := T) (N := N) h1.1
  have h3 := pU_k (T := T) (N := N) h2.1
  have h4 := pU_k (T := T) (N := N) h3.1
  exact ⟨h4.1, h3.1, h2.1, h1.1, h1.2.2⟩
theorem pc_k {T : Int → Int} {N : Nat} {q : PT} (h : pE (pcP T N q) = 0) : pE q = 0 ∧ pE (pc2 T N q) = 0 ∧ pE (pc3 T N q) = 0 ∧ pE (pc4 T N q) = 0 ∧ kdV T q ≠ -1000000 ∧ (0 ≤ fgV T (pc2 T N q) ∧ fgV T (pc2 T N q) ≤ 5) ∧ (0 ≤ fgV T (pc3 T N q) ∧ fgV T (pc3 T N q) ≤ 99) ∧ (1 ≤ fgV T (pc4 T N q) ∧ fgV T (pc4 T N q) ≤ 9) := by
  have h1 := pU_k (pG_k h)
  have h2 := pU_k (T := T) (N := N) h1.1
  have h3 := pU_k (T := T) (N := N) h2.1
  have h4 := pK_k (T := T) (N := N) h3.1
  exact ⟨h4.1, h3.1, h2.1, h1.1, h4.2, h3.2.2, h2.2.2, h1.2.2⟩
theorem kdV_b {T : Int → Int} {p : PT} (h : kdV T p ≠ -1000000) : 1 ≤ kdV T p ∧ kdV T p ≤ 5 := by
  unfold kdV at h ⊢
  repeat (first | omega | split)
/-- a court as far as it is read -/
def WP (fr : CD) : Prop := FB fr ∧ fr 3 = 0 ∧ (∀ l : Int, 0 ≤ l → l < fr 0 → (0 ≤ fr (28 + 3 * l) ∧ fr (28 + 3 * l) ≤ 9) ∧ (0 ≤ fr (29 + 3 * l) ∧ fr (29 + 3 * l) ≤ 3) ∧ (1 ≤ fr (30 + 3 * l) ∧ fr (30 + 3 * l) ≤ 9)) ∧ (∀ r : Int, 0 ≤ r → r < fr 1 → 0 ≤ fr (55 + 4 * r) ∧ fr (55 + 4 * r) ≤ 5) ∧ (∀ q : Int, 0 ≤ q → q < fr 2 → (1 ≤ fr (84 + 6 * q) ∧ fr (84 + 6 * q) ≤ 5) ∧ (0 ≤ fr (85 + 6 * q) ∧ fr (85 + 6 * q) ≤ 5) ∧ (0 ≤ fr (86 + 6 * q) ∧ fr (86 + 6 * q) ≤ 99) ∧ (1 ≤ fr (87 + 6 * q) ∧ fr (87 + 6 * q) ≤ 9) ∧ fr (88 + 6 * q) = -1000000) ∧ (∀ q : Int, 0 ≤ q → q < 10 → fr (89 + 6 * q) = 0)
theorem FB.l {fr : CD} (hb : FB fr) (h : fr 0 < 8) (x y z : Int) : FB (upL fr x y z) := by
  have hb0 := hb.1; have hb1 := hb.2.1; have hb2 := hb.2.2
  unfold FB
  rw [upL_0, upL_ne (by omega) (by omega), upL_ne (by omega) (by omega)]
  exact ⟨by omega, by omega, by omega⟩
theorem FB.r {fr : CD} (hb : FB fr) (h : fr 1 < 8) (x y z w : Int) : FB (upR fr x y z w) := by
  have hb0 := hb.1; have hb1 := hb.2.1; have hb2 := hb.2.2
  unfold FB
  rw [upR_0, upR_ne (by omega) (by omega), upR_ne (by omega) (by omega)]
  exact ⟨by omega, by omega, by omega⟩
theorem FB.p {fr : CD} (hb : FB fr) (h : fr 2 < 10) (x y z w : Int) : FB (upP fr x y z w) := by
  have hb0 := hb.1; have hb1 := hb.2.1; have hb2 := hb.2.2
  unfold FB
  rw [upP_0, upP_ne (by omega) (by omega), upP_ne (by omega) (by omega)]
  exact ⟨by omega, by omega, by omega⟩
theorem WP.l {fr : CD} (h : WP fr) (h8 : fr 0 < 8) {x y z : Int} (hx : 0 ≤ x ∧ x ≤ 9) (hy : 0 ≤ y ∧ y ≤ 3) (hz : 1 ≤ z ∧ z ≤ 9) : WP (upL fr x y z) := by
  obtain ⟨hb, h3, hl, hr, hp, hs⟩ := h
  have hb0 := hb.1; have hb1 := hb.2.1; have hb2 := hb.2.2
  have hat := upL_at (fr := fr) (x := x) (y := y) (z := z) (by omega)
  refine ⟨hb.l h8 x y z, by rw [upL_ne (by omega) (by omega)]; exact h3, fun l l0 l1 => ?_, fun l l0 l1 => ?_, fun l l0 l1 => ?_, fun l l0 l1 => ?_⟩
  · rw [upL_0] at l1
    by_cases e : l = fr 0
    · rw [e, hat.1, hat.2.1, hat.2.2]; exact ⟨hx, hy, hz⟩
    · rw [upL_ne (by omega) (by omega), upL_ne (by omega) (by omega), upL_ne (by omega) (by omega)]; exact hl l l0 (by omega)
  · rw [upL_ne (by omega) (by omega)] at l1
    rw [upL_ne (by omega) (by omega)]; exact hr l l0 l1
  · rw [upL_ne (by omega) (by omega)] at l1
    rw [upL_ne (by omega) (by omega), upL_ne (by omega) (by omega), upL_ne (by omega) (by omega), upL_ne (by omega) (by omega), upL_ne (by omega) (by omega)]; exact hp l l0 l1
  · rw [upL_ne (by omega) (by omega)]; exact hs l l0 l1
theorem WP.r {fr : CD} (h : WP fr) (h8 : fr 1 < 8) {x y z w : Int} (hw : 0 ≤ w ∧ w ≤ 5) : WP (upR fr x y z w) := by
  obtain ⟨hb, h3, hl, hr, hp, hs⟩ := h
  have hb0 := hb.1; have hb1 := hb.2.1; have hb2 := hb.2.2
  have hat := upR_at (fr := fr) (x := x) (y := y) (z := z) (w := w) (by omega)
  refine ⟨hb.r h8 x y z w, by rw [upR_ne (by omega) (by omega)]; exact h3, fun l l0 l1 => ?_, fun l l0 l1 => ?_, fun l l0 l1 => ?_, fun l l0 l1 => ?_⟩
  · rw [upR_ne (by omega) (by omega)] at l1
    rw [upR_ne (by omega) (by omega), upR_ne (by omega) (by omega), upR_ne (by omega) (by omega)]; exact hl l l0 l1
  · rw [upR_0] at l1
    by_cases e : l = fr 1
    · rw [e, hat.2.2.2]; exact hw
    · rw [upR_ne (by omega) (by omega)]; exact hr l l0 (by omega)
  · rw [upR_ne (by omega) (by omega)] at l1
    rw [upR_ne (by omega) (by omega), upR_ne (by omega) (by omega), upR_ne (by omega) (by omega), upR_ne (by omega) (by omega), upR_ne (by omega) (by omega)]; exact hp l l0 l1
  · rw [upR_ne (by omega) (by omega)]; exact hs l l0 l1
theorem WP.p {fr : CD} (h : WP fr) (h8 : fr 2 < 10) {x y z w : Int} (hx : 1 ≤ x ∧ x ≤ 5) (hy : 0 ≤ y ∧ y ≤ 5) (hz : 0 ≤ z ∧ z ≤ 99) (hw : 1 ≤ w ∧ w ≤ 9) : WP (upP fr x y z w) := by
  obtain ⟨hb, h3, hl, hr, hp, hs⟩ := h
  have hb0 := hb.1; have hb1 := hb.2.1; have hb2 := hb.2.2
  have hat := upP_at (fr := fr) (x := x) (y := y) (z := z) (w := w) (by omega)
  refine ⟨hb.p h8 x y z w, by rw [upP_ne (by omega) (by omega)]; exact h3, fun l l0 l1 => ?_, fun l l0 l1 => ?_, fun l l0 l1 => ?_, fun l l0 l1 => ?_⟩
  · rw [upP_ne (by omega) (by omega)] at l1
    rw [upP_ne (by omega) (by omega), upP_ne (by omega) (by omega), upP_ne (by omega) (by omega)]; exact hl l l0 l1
  · rw [upP_ne (by omega) (by omega)] at l1
    rw [upP_ne (by omega) (by omega)]; exact hr l l0 l1
  · rw [upP_0] at l1
    by_cases e : l = fr 2
    · rw [e, hat.1, hat.2.1, hat.2.2.1, hat.2.2.2.1, hat.2.2.2.2]; exact ⟨hx, hy, hz, hw, rfl⟩
    · rw [upP_ne (by omega) (by omega), upP_ne (by omega) (by omega), upP_ne (by omega) (by omega), upP_ne (by omega) (by omega), upP_ne (by omega) (by omega)]; exact hp l l0 (by omega)
  · rw [upP_ne (by omega) (by omega)]; exact hs l l0 l1
theorem lnF_w {T : Int → Int} {N : Nat} {q : PT} {fr : CD} (h : WP fr) (hq : pE q = 0 → fr 0 < 8) : WP (lnF T N q fr) := by
  unfold lnF; split
  · rename_i e
    have k := ln_k e
    exact h.l (hq k.1) k.2.2.2.1 k.2.2.2.2.1 k.2.2.2.2.2
  · exact h
theorem rtF_w {T : Int → Int} {N : Nat} {q : PT} {fr : CD} (h : WP fr) (hq : pE q = 0 → fr 1 < 8) : WP (rtF T N q fr) := by
  unfold rtF; split
  · rename_i e
    have k := rt_k e
    exact h.r (hq k.1) k.2.2.2.2
  · exact h
theorem pcF_w {T : Int → Int} {N : Nat} {q : PT} {fr : CD} (h : WP fr) (hq : pE q = 0 → fr 2 < 10) : WP (pcF T N q fr) := by
  unfold pcF; split
  · rename_i e
    have k := pc_k e
    exact h.p (hq k.1) (kdV_b k.2.2.2.2.1) k.2.2.2.2.2.1 k.2.2.2.2.2.2.1 k.2.2.2.2.2.2.2
  · exact h
/-- two lines at one place -/
theorem td_col {fr : CD} {fl co : Int} : ∀ n : Nat, tdB fr fl co n = true → ∃ l : Nat, l < n ∧ fr (29 + 3 * (l : Int)) = co
  | 0, h => by simp [tdB] at h
  | n + 1, h => by
    simp only [tdB, Bool.or_eq_true, decide_eq_true_eq] at h
    rcases h with h | h
    · obtain ⟨l, h1, h2⟩ := td_col n h
      exact ⟨l, by omega, h2⟩
    · exact ⟨n, by omega, h.2⟩
theorem ln_not {T : Int → Int} {N : Nat} {q : PT} {fr : CD} {v1 v2 : Int} (h1 : pE q = 0 → v1 = fgV T q) (h2 : pE (ln2 T N q) = 0 → v2 = fgV T (ln2 T N q)) (h : tdB fr v1 v2 (fr 0).toNat = false) : pU T N 0 3 (ln2 T N q) = ln4 T N q fr := by
  have e : ln3 T N q fr = ln2 T N q := by
    unfold ln3
    rw [if_neg]
    rintro ⟨a, b, c⟩
    have k := pU_k (T := T) (N := N) (lo := 0) (hi := 9) a
    rw [← h1 k.1, ← h2 a, h] at c
    exact absurd c (by decide)
  unfold ln4; rw [e]
theorem ln_dup {T : Int → Int} {N : Nat} {q : PT} {fr : CD} (hw : WP fr) {v1 v2 : Int} {f2 : Nat} (h1 : pE q = 0 → v1 = fgV T q) (h2 : pE (ln2 T N q) = 0 → v2 = fgV T (ln2 T N q)) (hf : pE (ln2 T N q) = 0 → f2 = pF (ln2 T N q)) (h : tdB fr v1 v2 (fr 0).toNat = true) : pE (ln4 T N q fr) = (if pE (pU T N 0 3 (ln2 T N q)) = 0 then 2 else pE (pU T N 0 3 (ln2 T N q))) ∧ pW (ln4 T N q fr) = (if pE (pU T N 0 3 (ln2 T N q)) = 0 then (f2 : Int) else pW (pU T N 0 3 (ln2 T N q))) := by
  have hb0 := hw.1.1
  by_cases he : pE (ln2 T N q) = 0
  · have k := pU_k (T := T) (N := N) (lo := 0) (hi := 9) he
    have h1 := h1 k.1
    have h2 := h2 he
    by_cases hs : pS (ln2 T N q) = 2
    · have e3 : ln3 T N q fr = pX 2 (ln2 T N q) := by
        unfold ln3; rw [if_pos ⟨he, hs, by rw [← h1, ← h2]; exact h⟩]
      have ne : pE (pX 2 (ln2 T N q)) ≠ 0 := by rw [pX_e, if_pos he]; decide
      have e4 : ln4 T N q fr = pX 2 (ln2 T N q) := by unfold ln4; rw [e3, pU_f ne]
      obtain ⟨l, l0, l1⟩ := td_col _ h
      have hc := (hw.2.2.1 (l : Int) (by omega) (by omega)).2.1
      have e0 : pU T N 0 3 (ln2 T N q) = pN T N (ln2 T N q) := (pU_0 (fun _ => ⟨hs, by omega, by omega⟩)).symm
      have z : pE (pU T N 0 3 (ln2 T N q)) = 0 := by rw [e0, pN_e]; exact he
      rw [if_pos z, if_pos z, e4, pX_e, pX_w, if_pos he, if_pos he, hf he]
      exact ⟨rfl, rfl⟩
    · have e3 : ln3 T N q fr = ln2 T N q := by
        unfold ln3; rw [if_neg (fun y => hs y.2.1)]
      have e4 : ln4 T N q fr = pU T N 0 3 (ln2 T N q) := by unfold ln4; rw [e3]
      have z : pE (pU T N 0 3 (ln2 T N q)) ≠ 0 := fun y => hs (pU_k y).2.1
      rw [if_neg z, if_neg z, e4]
      exact ⟨rfl, rfl⟩
  · have e3 : ln3 T N q fr = ln2 T N q := by
      unfold ln3; rw [if_neg (fun y => he y.1)]
    have e4 : ln4 T N q fr = pU T N 0 3 (ln2 T N q) := by unfold ln4; rw [e3]
    have z : pE (pU T N 0 3 (ln2 T N q)) ≠ 0 := fun y => he (pU_k y).1
    rw [if_neg z, if_neg z, e4]
    exact ⟨rfl, rfl⟩
/-- behind a fault -/
theorem lnP_f {T : Int → Int} {N : Nat} {q : PT} {fr : CD} (h : pE q ≠ 0) : lnP T N q fr = q ∧ lnF T N q fr = fr := by
  have e2 : ln2 T N q = q := pU_f h
  have e3 : ln3 T N q fr = q := by unfold ln3; rw [if_neg (fun y => h (by rw [← e2]; exact y.1)), e2]
  have e4 : ln4 T N q fr = q := by unfold ln4; rw [e3, pU_f h]
  have e5 : lnP T N q fr = q := by unfold lnP; rw [e4, pU_f h, pG_f h]
  exact ⟨e5, by unfold lnF; rw [if_neg (by rw [e5]; exact h)]⟩
/-- word by word -/
def itQ (T : Int → Int) (rd : PT × CD → PT × CD) (w : Nat) : Nat → PT × CD → PT × CD
  | 0, x => x
  | k + 1, x => if nmV T x.1 = wV w then itQ T rd w k (rd x) else x
def rdL (T : Int → Int) (N : Nat) (x : PT × CD) : PT × CD := (lnP T N (pQ T N (x.2 0 = 8) x.1) x.2, lnF T N (pQ T N (x.2 0 = 8) x.1) x.2)
def rdR (T : Int → Int) (N : Nat) (x : PT × CD) : PT × CD := (rtP T N (pQ T N (x.2 1 = 8) x.1) x.2, rtF T N (pQ T N (x.2 1 = 8) x.1) x.2)
def rdP (T : Int → Int) (N : Nat) (x : PT × CD) : PT × CD := (pcP T N (pQ T N (x.2 2 = 10) x.1), pcF T N (pQ T N (x.2 2 = 10) x.1) x.2)
theorem nmV_f {T : Int → Int} {p : PT} (h : pE p ≠ 0) {i : Nat} (hi : i < 9) : nmV T p ≠ wV i := by
  have h0 : nmV T p = 0 := by unfold nmV; rw [if_neg (fun q => h q.1)]
  have b : ∀ i, i < 9 → 0 < wV i := by decide +kernel
  have := b i hi
  omega
theorem nmV_e {T : Int → Int} {p : PT} {i : Nat} (hi : i < 9) (h : nmV T p = wV i) : pE p = 0 := Classical.byContradiction (fun z => nmV_f z hi h)
theorem rdL_w {T : Int → Int} {N : Nat} {x : PT × CD} (h : WP x.2) : WP (rdL T N x).2 := lnF_w h (fun z => by have := (pQ_k z).2; have := h.1.1; omega)
theorem rdR_w {T : Int → Int} {N : Nat} {x : PT × CD} (h : WP x.2) : WP (rdR T N x).2 := rtF_w h (fun z => by have := (pQ_k z).2; have := h.1.2.1; omega)
theorem rdP_w {T : Int → Int} {N : Nat} {x : PT × CD} (h : WP x.2) : WP (rdP T N x).2 := pcF_w h (fun z => by have := (pQ_k z).2; have := h.1.2.2; omega)
/-- the next one either faults or is one more -/
theorem rdL_c {T : Int → Int} {N : Nat} {x : PT × CD} : pE (rdL T N x).1 ≠ 0 ∨ (rdL T N x).2 0 = x.2 0 + 1 := by
  by_cases h : pE (rdL T N x).1 = 0
  · right
    show lnF T N _ x.2 0 = _
    unfold lnF
    rw [if_pos (show pE (lnP T N (pQ T N (x.2 0 = 8) x.1) x.2) = 0 from h), upL_0]
  · exact Or.inl h
theorem rdR_c {T : Int → Int} {N : Nat} {x : PT × CD} : pE (rdR T N x).1 ≠ 0 ∨ (rdR T N x).2 1 = x.2 1 + 1 := by
  by_cases h : pE (rdR T N x).1 = 0
  · right
    show rtF T N _ x.2 1 = _
    unfold rtF
    rw [if_pos (show pE (rtP T N (pQ T N (x.2 1 = 8) x.1) x.2) = 0 from h), upR_0]
  · exact Or.inl h
theorem rdP_c {T : Int → Int} {N : Nat} {x : PT × CD} : pE (rdP T N x).1 ≠ 0 ∨ (rdP T N x).2 2 = x.2 2 + 1 := by
  by_cases h : pE (rdP T N x).1 = 0
  · right
    show pcF T N _ x.2 2 = _
    unfold pcF
    rw [if_pos (show pE (pcP T N (pQ T N (x.2 2 = 10) x.1)) = 0 from h), upP_0]
  · exact Or.inl h
theorem rdL_d {T : Int → Int} {N : Nat} {x : PT × CD} (h : WP x.2) {j : Int} (j0 : 4 ≤ j) (j1 : j < 28) : (rdL T N x).2 j = x.2 j := by
  have := h.1.1
  show lnF T N _ x.2 j = _
  unfold lnF; split
  · rw [upL_ne (by omega) (by omega)]
  · rfl
theorem rdR_d {T : Int → Int} {N : Nat} {x : PT × CD} (h : WP x.2) {j : Int} (j1 : j ≠ 1) (j2 : j < 28) : (rdR T N x).2 j = x.2 j := by
  have := h.1.2.1
  show rtF T N _ x.2 j = _
  unfold rtF; split
  · rw [upR_ne j1 (by omega)]
  · rfl
theorem rdP_d {T : Int → Int} {N : Nat} {x : PT × CD} (h : WP x.2) {j : Int} (j1 : j ≠ 2) (j2 : j < 28) : (rdP T N x).2 j = x.2 j := by
  have := h.1.2.2
  show pcF T N _ x.2 j = _
  unfold pcF; split
  · rw [upP_ne j1 (by omega)]
  · rfl
/-- a fault stays -/
theorem rdL_f {T : Int → Int} {N : Nat} {x : PT × CD} (h : pE (rdL T N x).1 = 0) : pE x.1 = 0 := (pQ_k (ln_k (show pE (lnP T N (pQ T N (x.2 0 = 8) x.1) x.2) = 0 from h)).1).1
theorem rdR_f {T : Int → Int} {N : Nat} {x : PT × CD} (h : pE (rdR T N x).1 = 0) : pE x.1 = 0 := (pQ_k (rt_k (show pE (rtP T N (pQ T N (x.2 1 = 8) x.1) x.2) = 0 from h)).1).1
theorem rdP_f {T : Int → Int} {N : Nat} {x : PT × CD} (h : pE (rdP T N x).1 = 0) : pE x.1 = 0 := (pQ_k (pc_k (show pE (pcP T N (pQ T N (x.2 2 = 10) x.1)) = 0 from h)).1).1
theorem itQ_in {T : Int → Int} {rd : PT × CD → PT × CD} {w : Nat} {J : PT × CD → Prop} (hJ : ∀ x, J x → J (rd x)) : ∀ (k : Nat) (x : PT × CD), J x → J (itQ T rd w k x)
  | 0, x, h => h
  | k + 1, x, h => by
    simp only [itQ]; split
    · exact itQ_in hJ k (rd x) (hJ x h)
    · exact h
theorem itQ_f {T : Int → Int} {rd : PT × CD → PT × CD} {w : Nat} (hw : w < 9) {x : PT × CD} (h : pE x.1 ≠ 0) : ∀ k : Nat, itQ T rd w k x = x
  | 0 => rfl
  | k + 1 => by simp only [itQ]; rw [if_neg (nmV_f h hw)]
/-- the day -/
def dyP (T : Int → Int) (N : Nat) (p : PT) : Nat → PT
  | 0 => pO T N 0 p
  | q + 1 => pU T N 0 99 (dyP T N p q)
def dyF (T : Int → Int) (N : Nat) (p : PT) : Nat → CD
  | 0 => fun _ => 0
  | q + 1 => upC (dyF T N p q) (4 + (q : Int)) (if pE (dyP T N p q) = 0 then fgV T (dyP T N p q) else 0)
theorem dyF_o {T : Int → Int} {N : Nat} {p : PT} : ∀ (n : Nat) (j : Int), (j < 4 ∨ 4 + (n : Int) ≤ j) → dyF T N p n j = 0
  | 0, j, _ => rfl
  | n + 1, j, h => by
    simp only [dyF]
    rw [upC_ne _ _ (by omega)]
    exact dyF_o n j (by omega)
theorem dyP_k {T : Int → Int} {N : Nat} {p : PT} {n : Nat} (h : pE (dyP T N p n) = 0) : ∀ q : Nat, q ≤ n → pE (dyP T N p q) = 0 := by
  induction n with
  | zero => intro q hq; rw [show q = 0 by omega]; exact h
  | succ n ih =>
    intro q hq
    by_cases e : q = n + 1
    · rw [e]; exact h
    · exact ih (pU_k (T := T) (N := N) (lo := 0) (hi := 99) h).1 q (by omega)
theorem dyF_b {T : Int → Int} {N : Nat} {p : PT} : ∀ n : Nat, pE (dyP T N p n) = 0 → ∀ q : Int, 0 ≤ q → q < n → 0 ≤ dyF T N p n (4 + q) ∧ dyF T N p n (4 + q) ≤ 99
  | 0, _, q, q0, q1 => by omega
  | n + 1, h, q, q0, q1 => by
    have k := pU_k (T := T) (N := N) (lo := 0) (hi := 99) h
    simp only [dyF]
    by_cases e : q = n
    · rw [e, upC_self, if_pos k.1]; exact k.2.2
    · rw [upC_ne _ _ (by omega)]
      exact dyF_b n k.1 q q0 (by omega)
/-- ALL OF IT: what is read, and the court -/
def rd1 (T : Int → Int) (N : Nat) : PT × CD := (pG T N (dyP T N (pN T N (0, 0, 0, 0, 0)) 24), dyF T N (pN T N (0, 0, 0, 0, 0)) 24)
def rd2 (T : Int → Int) (N : Nat) : PT × CD := (if nmV T (rd1 T N).1 = wV 1 then (rd1 T N).1 else pX 1 (rd1 T N).1, (rd1 T N).2)
def rd3 (T : Int → Int) (N : Nat) : PT × CD := itQ T (rdL T N) 1 9 (rd2 T N)
def rd4 (T : Int → Int) (N : Nat) : PT × CD := itQ T (rdR T N) 2 9 (rd3 T N)
def rd5 (T : Int → Int) (N : Nat) : PT × CD := itQ T (rdP T N) 3 11 (rd4 T N)
def rdE (T : Int → Int) (N : Nat) : PT := if pS (rd5 T N).1 ≠ 0 then pX 1 (rd5 T N).1 else (rd5 T N).1
theorem WP.nil {T : Int → Int} {N : Nat} {p : PT} : WP (dyF T N p 24) := by
  have z : ∀ j : Int, (j < 4 ∨ 28 ≤ j) → dyF T N p 24 j = 0 := fun j hj => dyF_o 24 j (by omega)
  refine ⟨?_, z 3 (by omega), fun l l0 l1 => ?_, fun l l0 l1 => ?_, fun l l0 l1 => ?_, fun q q0 q1 => z _ (by omega)⟩
  · unfold FB; rw [z 0 (by omega), z 1 (by omega), z 2 (by omega)]; omega
  · rw [z 0 (by omega)] at l1; omega
  · rw [z 1 (by omega)] at l1; omega
  · rw [z 2 (by omega)] at l1; omega
/-- the day and what is in it; whether there is a fault already -/
def DYk (T : Int → Int) (N : Nat) (x : PT × CD) : Prop := WP x.2 ∧ (pE x.1 = 0 → pE (dyP T N (pN T N (0, 0, 0, 0, 0)) 24) = 0) ∧ ∀ j : Int, 4 ≤ j → j < 28 → x.2 j = dyF T N (pN T N (0, 0, 0, 0, 0)) 24 j
theorem DYk.one {T : Int → Int} {N : Nat} : DYk T N (rd2 T N) := by
  refine ⟨WP.nil, fun h => ?_, fun j _ _ => rfl⟩
  have h1 : pE (rd1 T N).1 = 0 := by
    unfold rd2 at h
    simp only at h
    split at h
    · exact h
    · rw [pX_e] at h; split at h <;> omega
  have e1 : (rd1 T N).1 = pG T N (dyP T N (pN T N (0, 0, 0, 0, 0)) 24) := by simp only [rd1]
  rw [e1] at h1
  exact pG_k h1
theorem DYk.l {T : Int → Int} {N : Nat} (x : PT × CD) (h : DYk T N x) : DYk T N (rdL T N x) := ⟨rdL_w h.1, fun z => h.2.1 (rdL_f z), fun j j0 j1 => (rdL_d h.1 j0 j1).trans (h.2.2 j j0 j1)⟩
theorem DYk.r {T : Int → Int} {N : Nat} (x : PT × CD) (h : DYk T N x) : DYk T N (rdR T N x) := ⟨rdR_w h.1, fun z => h.2.1 (rdR_f z), fun j j0 j1 => (rdR_d h.1 (by omega) j1).trans (h.2.2 j j0 j1)⟩
theorem DYk.p {T : Int → Int} {N : Nat} (x : PT × CD) (h : DYk T N x) : DYk T N (rdP T N x) := ⟨rdP_w h.1, fun z => h.2.1 (rdP_f z), fun j j0 j1 => (rdP_d h.1 (by omega) j1).trans (h.2.2 j j0 j1)⟩
theorem DYk.all {T : Int → Int} {N : Nat} : DYk T N (rd5 T N) := itQ_in DYk.p 11 _ (itQ_in DYk.r 9 _ (itQ_in DYk.l 9 _ DYk.one))
/-- there is a line -/
def OneL (x : PT × CD) : Prop := WP x.2 ∧ (pE x.1 = 0 → 1 ≤ x.2 0)
theorem rd_one {T : Int → Int} {N : Nat} (h : pE (rd5 T N).1 = 0) : 1 ≤ (rd5 T N).2 0 := by
  have j3 : OneL (rd3 T N) := by
    by_cases e : nmV T (rd1 T N).1 = wV 1
    · have e2 : rd2 T N = rd1 T N := by unfold rd2; rw [if_pos e]
      have e3 : rd3 T N = itQ T (rdL T N) 1 8 (rdL T N (rd1 T N)) := by
        unfold rd3; rw [e2]; simp only [itQ]; rw [if_pos e]
      rw [e3]
      have w : WP (rd1 T N).2 := WP.nil
      generalize rd1 T N = y at w ⊢
      have hs : ∀ x : PT × CD, OneL x → OneL (rdL T N x) := fun x hx => ⟨rdL_w hx.1, fun z => by
        rcases rdL_c (T := T) (N := N) (x := x) with q | q
        · exact absurd z q
        · have := hx.1.1.1; omega⟩
      have h0 : OneL (rdL T N y) := ⟨rdL_w w, fun z => by
        rcases rdL_c (T := T) (N := N) (x := y) with q | q
        · exact absurd z q
        · have := w.1.1; omega⟩
      exact itQ_in (T := T) (rd := rdL T N) (w := 1) (J := OneL) hs 8 (rdL T N y) h0
    · have ne : pE (rd2 T N).1 ≠ 0 := by
        unfold rd2; simp only; rw [if_neg e, pX_e]; split
        · decide
        · assumption
      have e3 : rd3 T N = rd2 T N := itQ_f (by omega) ne 9
      rw [e3]
      exact ⟨WP.nil, fun z => absurd z ne⟩
  have j4 : OneL (rd4 T N) := itQ_in (T := T) (rd := rdR T N) (w := 2) (J := OneL) (fun x hx => ⟨rdR_w hx.1, fun z => by rw [rdR_d hx.1 (by omega) (by omega)]; exact hx.2 (rdR_f z)⟩) 9 (rd3 T N) j3
  have j5 : OneL (rd5 T N) := itQ_in (T := T) (rd := rdP T N) (w := 3) (J := OneL) (fun x hx => ⟨rdP_w hx.1, fun z => by rw [rdP_d hx.1 (by omega) (by omega)]; exact hx.2 (rdP_f z)⟩) 11 (rd4 T N) j4
  exact j5.2 h
theorem rdE_k {T : Int → Int} {N : Nat} (h : pE (rdE T N) = 0) : pE (rd5 T N).1 = 0 := by
  unfold rdE at h; split at h
  · rw [pX_e] at h; split at h <;> omega
  · exact h
/-- what is read is well formed -/
theorem rd_wf {T : Int → Int} {N : Nat} (h : pE (rdE T N) = 0) : WFs (rd5 T N).2 0 ∧ 1 ≤ (rd5 T N).2 0 := by
  have h5 := rdE_k h
  obtain ⟨⟨hb, h3, hl, hr, hp, hs⟩, hd, hj⟩ := DYk.all (T := T) (N := N)
  have hd := hd h5
  refine ⟨⟨⟨hb.1, hb.2.1, hb.2.2, fun q q0 q1 => ?_, fun l l0 l1 => (hl l l0 l1).1, fun l l0 l1 => (hl l l0 l1).2.1, fun l l0 l1 => (hl l l0 l1).2.2, hr, fun p p0 p1 => (hp p p0 p1).1, fun p p0 p1 => (hp p p0 p1).2.1, fun p p0 p1 => (hp p p0 p1).2.2.2.1⟩, fun p p0 p1 => Or.inl (hp p p0 p1).2.2.2.2, fun p p0 p1 => (hp p p0 p1).2.2.1, fun p p0 p1 => Or.inl (hs p p0 (by have := hb.2.2; omega)), by omega⟩, rd_one h5⟩
  rw [hj _ (by omega) (by omega)]
  exact dyF_b 24 hd q q0 q1
