/-! ===== 25: the reference: what drips ===== -/
def sb2 (cd : CD) (hu v : Int → Int) (sb : Nat → Bool) (t : Nat) : Nat → Bool := fun k => sb k || (decide (hu k ≠ -1000000) && gRed cd hu v (hu k) t && fTak cd k)
def GO (M : Mem) (m : Nat) (I : Nat → Int → Int) : Prop := ∀ b (j : Int), b ≠ m + 8 → ¬ (b = m ∧ j = 20) → I b j = mI M b j
def GI3 (M : Mem) (m : Nat) (cd : CD) (hu v : Int → Int) (sb : Nat → Bool) (n t : Nat) (I : Nat → Int → Int) : Prop := GO M m I ∧ (∀ k : Int, 0 ≤ k → k < n → I (m + 8) k = qW2 cd hu v t k) ∧ BS (I m 20) n (sb2 cd hu v sb t)
def GI4 (M : Mem) (m : Nat) (cd : CD) (hu v : Int → Int) (sb : Nat → Bool) (n t : Nat) (on : Int) (s : Nat) (I : Nat → Int → Int) : Prop := GO M m I ∧ (∀ k : Int, 0 ≤ k → k < n → I (m + 8) k = if k < s ∧ hu k = on then min 99 (qW2 cd hu v t k + 3) else qW2 cd hu v t k) ∧ BS (I m 20) n (fun k => sb2 cd hu v sb t k || (decide (k < s) && decide (hu k = on) && decide (cd (84 + 6 * t) = 1) && fTak cd k))
theorem go4_0 {M : Mem} {m : Nat} {cd : CD} {hu v : Int → Int} {sb : Nat → Bool} {n t : Nat} {on : Int} {I : Nat → Int → Int} (h : GI3 M m cd hu v sb n t I) : GI4 M m cd hu v sb n t on 0 I := by
  refine ⟨h.1, fun k k0 k1 => ?_, h.2.2.congr (fun p hp => by simp)⟩
  rw [h.2.1 k k0 k1, if_neg (by omega)]
theorem go4_step {M : Mem} {m : Nat} {cd : CD} {hu v : Int → Int} {sb : Nat → Bool} {n t : Nat} {on : Int} {s : Nat} {I : Nat → Int → Int} {X S : Int} (h : GI4 M m cd hu v sb n t on s I) (hs : hu s = on) (hX : X = min 99 (qW2 cd hu v t s + 3)) (hS : BS S n (fun k => sb2 cd hu v sb t k || (decide (k < s + 1) && decide (hu k = on) && decide (cd (84 + 6 * t) = 1) && fTak cd k))) : GI4 M m cd hu v sb n t on (s + 1) (up2 (up2 I (m + 8) s X) m 20 S) := by
  obtain ⟨h1, h2, h3⟩ := h
  refine ⟨fun b j q1 q2 => ?_, fun k k0 k1 => ?_, ?_⟩
  · rw [up2_ne _ _ q2, up2_ne _ _ (fun q => q1 q.1)]; exact h1 b j q1 q2
  · rw [up2_ne _ _ (fun q => by omega)]
    by_cases hk : k = s
    · subst hk
      rw [up2_self, if_pos ⟨by omega, hs⟩, hX]
    · rw [up2_ne _ _ (fun q => hk q.2), h2 k k0 k1]
      by_cases hq : k < s ∧ hu k = on
      · rw [if_pos hq, if_pos ⟨by omega, hq.2⟩]
      · rw [if_neg hq, if_neg (by omega)]
  · rw [up2_self]; exact hS
theorem go4_skip {M : Mem} {m : Nat} {cd : CD} {hu v : Int → Int} {sb : Nat → Bool} {n t : Nat} {on : Int} {s : Nat} {I : Nat → Int → Int} (h : GI4 M m cd hu v sb n t on s I) (hs : hu s ≠ on) : GI4 M m cd hu v sb n t on (s + 1) I := by
  obtain ⟨h1, h2, h3⟩ := h
  refine ⟨h1, fun k k0 k1 => ?_, h3.congr (fun p hp => ?_)⟩
  · rw [h2 k k0 k1]
    by_cases hk : k = s
    · subst hk
      rw [if_neg (fun q => hs q.2), if_neg (fun q => hs q.2)]
    · by_cases hq : k < s ∧ hu k = on
      · rw [if_pos hq, if_pos ⟨by omega, hq.2⟩]
      · rw [if_neg hq, if_neg (by omega)]
  · by_cases hk : p = s
    · subst hk; simp [hs]
    · by_cases hq : p < s
      · simp [hq, show p < s + 1 by omega]
      · simp [hq, show ¬ p < s + 1 by omega]
theorem go4_bs {M : Mem} {m : Nat} {cd : CD} {hu v : Int → Int} {sb : Nat → Bool} {n t : Nat} {on : Int} {s : Nat} {I : Nat → Int → Int} (h : GI4 M m cd hu v sb n t on s I) (hs : hu s = on) (hn : s < n) (h10 : n ≤ 10) (hr : cd (84 + 6 * t) = 1) (hk : fTak cd s = true) : BS (bOr (I m 20) (bShl 1 s)) n (fun k => sb2 cd hu v sb t k || (decide (k < s + 1) && decide (hu k = on) && decide (cd (84 + 6 * t) = 1) && fTak cd k)) := by
  refine (h.2.2.set hn (by omega)).congr (fun p hp => ?_)
  by_cases hq : p = s
  · subst hq; simp [hs, hr, hk]
  · by_cases hq2 : p < s
    · simp [hq, hq2, show p < s + 1 by omega]
    · simp [hq, hq2, show ¬ p < s + 1 by omega]
theorem go4_bs0 {M : Mem} {m : Nat} {cd : CD} {hu v : Int → Int} {sb : Nat → Bool} {n t : Nat} {on : Int} {s : Nat} {I : Nat → Int → Int} (h : GI4 M m cd hu v sb n t on s I) (hk : cd (84 + 6 * t) ≠ 1 ∨ fTak cd s = false) : BS (bOr (I m 20) 0) n (fun k => sb2 cd hu v sb t k || (decide (k < s + 1) && decide (hu k = on) && decide (cd (84 + 6 * t) = 1) && fTak cd k)) := by
  have hr := h.2.2.ran
  rw [bOr_0 (by omega) (by omega)]
  refine h.2.2.congr (fun p hp => ?_)
  by_cases hq : p = s
  · subst hq; rcases hk with hk | hk <;> simp [hk]
  · by_cases hq2 : p < s
    · simp [hq2, show p < s + 1 by omega]
    · simp [hq2, show ¬ p < s + 1 by omega]
theorem go4_end {M : Mem} {m : Nat} {cd : CD} {hu v : Int → Int} {sb : Nat → Bool} {n t : Nat} {I : Nat → Int → Int} (hW : WFc cd) (h : GI4 M m cd hu v sb n t (bel cd (hu t)) n I) (h1 : hu t ≠ -1000000) (h2 : 30 < v t) (h3 : bel cd (hu t) ≠ -1000000) : GI3 M m cd hu v sb n (t + 1) I := by
  refine ⟨h.1, fun k k0 k1 => ?_, h.2.2.congr (fun p hp => ?_)⟩
  · rw [h.2.1 k k0 k1]
    have hb := gCnt_b cd hu v (hu k) t
    unfold qW2
    by_cases hk : hu k = -1000000
    · rw [if_neg (by omega), if_pos hk, if_pos hk]
    · rw [if_neg hk]
      simp only [gCnt]
      by_cases hq : hu k = bel cd (hu t)
      · rw [if_pos ⟨k1, hq⟩, if_neg hk, if_pos ⟨h1, h2, hq.symm⟩]; omega
      · rw [if_neg (fun z => hq z.2), if_neg hk, if_neg (fun z => hq z.2.2.symm)]; omega
  · simp only [sb2, gRed]
    by_cases hq : hu p = bel cd (hu t)
    · have e : ¬ hu p = -1000000 := by rw [hq]; exact h3
      simp only [hq, decide_eq_true hp, h1, h2, h3, ne_eq, not_false_eq_true, decide_true, Bool.true_and, true_and, and_self]
      cases sb p <;> cases gRed cd hu v (bel cd (hu t)) t <;> cases decide (cd (84 + 6 * t) = 1) <;> cases fTak cd p <;> rfl
    · have e2 : ¬ bel cd (hu t) = hu p := fun z => hq z.symm
      simp [hq, e2]
theorem go3_skip {M : Mem} {m : Nat} {cd : CD} {hu v : Int → Int} {sb : Nat → Bool} {n t : Nat} {I : Nat → Int → Int} (hW : WFc cd) (hV : HV cd hu) (hn : cd 2 = n) (h : GI3 M m cd hu v sb n t I) (h1 : hu t = -1000000 ∨ v t ≤ 30 ∨ bel cd (hu t) = -1000000) : GI3 M m cd hu v sb n (t + 1) I := by
  have hno : ∀ k : Int, hu k ≠ -1000000 → ¬ (hu t ≠ -1000000 ∧ 30 < v t ∧ bel cd (hu t) = hu k) := fun k hk => by omega
  refine ⟨h.1, fun k k0 k1 => ?_, h.2.2.congr (fun p hp => ?_)⟩
  · rw [h.2.1 k k0 k1]
    unfold qW2
    by_cases hk : hu k = -1000000
    · rw [if_pos hk, if_pos hk]
    · rw [if_neg hk, if_neg hk, gCnt, if_neg (hno k hk)]; omega
  · simp only [sb2, gRed]
    by_cases hk : hu p = -1000000
    · simp [hk]
    · have := hno p hk
      simp [this]
