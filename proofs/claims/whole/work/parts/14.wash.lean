/-! ===== 14: Wash: dry; as another one ===== -/
/-- some of the first n that hang are wet -/
def fWet (hu we : Int → Int) : Nat → Bool
  | 0 => false
  | k + 1 => fWet hu we k || decide (hu k ≠ -1000000 ∧ 0 < we k)
theorem fWet_mono {hu we : Int → Int} {k n : Nat} (h : fWet hu we k = true) (hk : k ≤ n) : fWet hu we n = true := by
  induction hk with
  | refl => exact h
  | step _ ih => simp [fWet, ih]
/-- of k pieces from f on all are dry; one is stained newly -/
def fDr (we : Int → Int) (f : Int) : Nat → Bool
  | 0 => true
  | k + 1 => fDr we f k && decide (we (f + k) ≤ 0)
def fNew (sn s0 : Int → Int) (f : Int) : Nat → Bool
  | 0 => false
  | k + 1 => fNew sn s0 f k || decide (sn (f + k) ≠ 0 ∧ s0 (f + k) = 0)
theorem fDr_mono {we : Int → Int} {f : Int} {k n : Nat} (h : fDr we f k = false) (hk : k ≤ n) : fDr we f n = false := by
  induction hk with
  | refl => exact h
  | step _ ih => simp [fDr, ih]
theorem fNew_mono {sn s0 : Int → Int} {f : Int} {k n : Nat} (h : fNew sn s0 f k = true) (hk : k ≤ n) : fNew sn s0 f n = true := by
  induction hk with
  | refl => exact h
  | step _ ih => simp [fNew, ih]
def mK (M : Mem) (w a : Nat) (I : Nat → Int → Int) : Mem := (M.1, (I, upN M.2.2 w 0 a))
theorem mR_wr {M : Mem} {w a b k : Nat} {I : Nat → Int → Int} (h : ¬ (b = w ∧ k = 0)) : mR (mK M w a I) b k = mR M b k := upN_ne _ _ h
theorem mR_wr0 {M : Mem} {w a : Nat} {I : Nat → Int → Int} : mR (mK M w a I) w 0 = a := upN_self _ _ _ _
theorem WA.k {M : Mem} {v : Nat} (w a : Nat) (I : Nat → Int → Int) (h : WA M v) : WA (mK M w a I) v := by
  refine ⟨h.o, h.lo, ⟨?_, h.s_wet⟩, ⟨?_, h.s_where⟩, ⟨?_, h.s_stained⟩, ⟨?_, h.s_dripsOn⟩, ?_, h.s_redOn⟩
  · rw [mR_wr (by omega)]; exact h.wet
  · rw [mR_wr (by omega)]; exact h.where
  · rw [mR_wr (by omega)]; exact h.stained
  · rw [mR_wr (by omega)]; exact h.dripsOn
  · rw [mR_wr (by omega)]; exact h.redOn
theorem CA.k {M : Mem} {c : Nat} (w a : Nat) (I : Nat → Int → Int) (hw : c ≠ w) (h : CA M c) : CA (mK M w a I) c := by
  have e : ∀ k, mR (mK M w a I) c k = mR M c k := fun k => mR_wr (fun q => hw q.1)
  exact ⟨h.o, h.lo, ⟨(e _).trans h.day, h.s_day⟩, ⟨(e _).trans h.floors, h.s_floors⟩, ⟨(e _).trans h.columns, h.s_columns⟩, ⟨(e _).trans h.wides, h.s_wides⟩, ⟨(e _).trans h.below, h.s_below⟩, ⟨(e _).trans h.rightLines, h.s_rightLines⟩, ⟨(e _).trans h.rightFroms, h.s_rightFroms⟩, ⟨(e _).trans h.rightTos, h.s_rightTos⟩, ⟨(e _).trans h.rightOwners, h.s_rightOwners⟩, ⟨(e _).trans h.kinds, h.s_kinds⟩, ⟨(e _).trans h.owners, h.s_owners⟩, ⟨(e _).trans h.firstWet, h.s_firstWet⟩, ⟨(e _).trans h.yards, h.s_yards⟩⟩
set_option maxRecDepth 20000 in
set_option maxHeartbeats 400000 in
theorem l_allDry {G : Ctx} {M : Mem} {w a : Nat} {cd : CD} (hA : WA M w) (hRc : mR M w 0 = a) (hC : CA M a) (hD : CC (mI M) a cd) (hW : WFc cd) {hu : Int → Int} (hV : HV cd hu) (hH : HC (mI M) w cd hu) {we : Int → Int} (hE : EC (mI M) w cd we) (n : Nat) (hn : cd 2 = n) : ∀ (k r : Nat) , r + k = n → fWet hu we r = false → EV G m_X9_allHungAreDry 1 0 0 (rI M (tB (!fWet hu we n))) 2 [some (vR w), some (vI (r : Int))] [] M := by
  intro k
  induction k with
  | zero =>
    intro r  hr hi
    obtain rfl : r = n := by omega
    have hpn := hW.pn
    have hl8 := hW.ln
    refine E_iload_n dX9_allHungAreDry_2 rfl ?_
    refine E_aload_n dX9_allHungAreDry_3 rfl ?_
    refine g_X9_30 rfl dX9_allHungAreDry_4 hA.o hRc ?_
    refine g_X9_47 rfl dX9_allHungAreDry_7 hC.o (hD.pnc.trans hn) ?_
    refine E_icmp_ge (tgt := 38) dX9_allHungAreDry_10 (by decide) (fun h10 => ?_) (fun h10 => ?_)
    · refine E_iconst dX9_allHungAreDry_38 (by decide) ?_
      refine E_zret dX9_allHungAreDry_39 rfl (by decide) ?_
      refine ⟨?_, rfl⟩
      rw [hi]; rfl
    · exfalso; omega
  | succ k ih =>
    intro r  hr hi
    have hpn := hW.pn
    have hl8 := hW.ln
    refine E_iload_n dX9_allHungAreDry_2 rfl ?_
    refine E_aload_n dX9_allHungAreDry_3 rfl ?_
    refine g_X9_30 rfl dX9_allHungAreDry_4 hA.o hRc ?_
    refine g_X9_47 rfl dX9_allHungAreDry_7 hC.o (hD.pnc.trans hn) ?_
    refine E_icmp_ge (tgt := 38) dX9_allHungAreDry_10 (by decide) (fun h10 => ?_) (fun h10 => ?_)
    · exfalso; omega
    · refine E_aload_n dX9_allHungAreDry_13 rfl ?_
      refine E_iload_n dX9_allHungAreDry_14 rfl ?_
      refine i_X9_54 rfl dX9_allHungAreDry_15 (by exact hA.o) (c_isHung hA hW hV hH (by omega) (by omega)) (by omega) (Nat.le_of_ble_eq_true rfl) rfl rfl ?_
      rintro _ _ ⟨rfl, rfl⟩
      try dsimp only [pu]
      refine E_if_eq (tgt := 32) dX9_allHungAreDry_18 (by decide) (fun h18 => ?_) (fun h18 => ?_)
      · simp only [tB0, ne_eq, Bool.not_eq_false, Bool.not_eq_true, decide_eq_true_eq, decide_eq_false_iff_not, Classical.not_not] at h18
        refine E_iinc dX9_allHungAreDry_32 rfl (by omega) (by omega) (by decide) rfl (by decide) ?_
        try dsimp only [List.set]
        refine E_goto (tgt := 2) dX9_allHungAreDry_35 (by decide) ?_
        exact EV.lq rfl (ih (r + 1) (by omega) (by simp only [fWet, hi, Bool.false_or, decide_eq_false_iff_not]; omega))
      · simp only [tB0, ne_eq, Bool.not_eq_false, Bool.not_eq_true, decide_eq_true_eq, decide_eq_false_iff_not, Classical.not_not] at h18
        refine E_aload_n dX9_allHungAreDry_21 rfl ?_
        refine g_X9_11 rfl dX9_allHungAreDry_22 hA.o hA.wet ?_
        refine E_iload_n dX9_allHungAreDry_25 rfl ?_
        refine E_iald dX9_allHungAreDry_26 hA.s_wet (by omega) (by omega) (hE _ (by omega) (by omega)) ?_
        refine E_if_le (tgt := 32) dX9_allHungAreDry_27 (by decide) (fun h27 => ?_) (fun h27 => ?_)
        · refine E_iinc dX9_allHungAreDry_32 rfl (by omega) (by omega) (by decide) rfl (by decide) ?_
          try dsimp only [List.set]
          refine E_goto (tgt := 2) dX9_allHungAreDry_35 (by decide) ?_
          exact EV.lq rfl (ih (r + 1) (by omega) (by simp only [fWet, hi, Bool.false_or, decide_eq_false_iff_not]; omega))
        · refine E_iconst dX9_allHungAreDry_30 (by decide) ?_
          refine E_zret dX9_allHungAreDry_31 rfl (by decide) ?_
          refine ⟨?_, rfl⟩
          have hx : fWet hu we (r + 1) = true := by simp only [fWet, hi, Bool.false_or, decide_eq_true_eq]; omega
          rw [fWet_mono hx (show r + 1 ≤ n by omega)]; rfl
set_option maxRecDepth 20000 in
set_option maxHeartbeats 400000 in
theorem c_allHungAreDry {G : Ctx} {M : Mem} {w a : Nat} {cd : CD} (hA : WA M w) (hRc : mR M w 0 = a) (hC : CA M a) (hD : CC (mI M) a cd) (hW : WFc cd) {hu : Int → Int} (hV : HV cd hu) (hH : HC (mI M) w cd hu) {we : Int → Int} (hE : EC (mI M) w cd we) (n : Nat) (hn : cd 2 = n) : CT G m_X9_allHungAreDry 1 0 0 [vR w] M (rI M (tB (!fWet hu we n))) := by
  refine CT.of k_X9_allHungAreDry 1 (ls := [some (vR w), none]) rfl (Nat.le_of_ble_eq_true rfl) ?_
  refine E_iconst dX9_allHungAreDry_0 (by decide) ?_
  refine E_istore_n dX9_allHungAreDry_1 rfl (by decide) ?_
  try dsimp only [List.set]
  exact l_allDry hA hRc hC hD hW hV hH hE n hn n 0 (by omega) rfl
set_option maxRecDepth 20000 in
set_option maxHeartbeats 400000 in
theorem l_areDry {G : Ctx} {M : Mem} {w : Nat} (hA : WA M w) {we : Int → Int} {f t : Int} (m : Nat) (hm : f + m = t + 1) (f0 : 0 ≤ f) (t1 : t < 10) (hE : ∀ p, f ≤ p → p ≤ t → mI M (w + 1) p = we p) : ∀ (k r : Nat) , r + k = m → fDr we f r = true → EV G m_X9_areDry 0 0 0 (rI M (tB (fDr we f m))) 2 [some (vR w), some (vI f), some (vI t), some (vI (f + r))] [] M := by
  intro k
  induction k with
  | zero =>
    intro r  hr hi
    obtain rfl : r = m := by omega
    refine E_iload_n dX9_areDry_2 rfl ?_
    refine E_iload_n dX9_areDry_3 rfl ?_
    refine E_icmp_gt (tgt := 24) dX9_areDry_4 (by decide) (fun h4 => ?_) (fun h4 => ?_)
    · refine E_iconst dX9_areDry_24 (by decide) ?_
      refine E_zret dX9_areDry_25 rfl (by decide) ?_
      refine ⟨?_, rfl⟩
      rw [hi]; rfl
    · exfalso; omega
  | succ k ih =>
    intro r  hr hi
    refine E_iload_n dX9_areDry_2 rfl ?_
    refine E_iload_n dX9_areDry_3 rfl ?_
    refine E_icmp_gt (tgt := 24) dX9_areDry_4 (by decide) (fun h4 => ?_) (fun h4 => ?_)
    · exfalso; omega
    · refine E_aload_n dX9_areDry_7 rfl ?_
      refine g_X9_11 rfl dX9_areDry_8 hA.o hA.wet ?_
      refine E_iload_n dX9_areDry_11 rfl ?_
      refine E_iald dX9_areDry_12 hA.s_wet (by omega) (by omega) (hE _ (by omega) (by omega)) ?_
      refine E_if_le (tgt := 18) dX9_areDry_13 (by decide) (fun h13 => ?_) (fun h13 => ?_)
      · refine E_iinc dX9_areDry_18 rfl (by omega) (by omega) (by decide) rfl (by decide) ?_
        try dsimp only [List.set]
        refine E_goto (tgt := 2) dX9_areDry_21 (by decide) ?_
        exact EV.lq (by simp [Int.add_assoc]) (ih (r + 1) (by omega) (by simp only [fDr, hi, Bool.true_and, decide_eq_true_eq]; omega))
      · refine E_iconst dX9_areDry_16 (by decide) ?_
        refine E_zret dX9_areDry_17 rfl (by decide) ?_
        refine ⟨?_, rfl⟩
        have hx : fDr we f (r + 1) = false := by simp only [fDr, hi, Bool.true_and, decide_eq_false_iff_not]; omega
        rw [fDr_mono hx (show r + 1 ≤ m by omega)]; rfl
set_option maxRecDepth 20000 in
set_option maxHeartbeats 400000 in
theorem c_areDry {G : Ctx} {M : Mem} {w : Nat} (hA : WA M w) {we : Int → Int} {f t : Int} (m : Nat) (hm : f + m = t + 1) (f0 : 0 ≤ f) (t1 : t < 10) (hE : ∀ p, f ≤ p → p ≤ t → mI M (w + 1) p = we p) : CT G m_X9_areDry 0 0 0 [vR w, vI f, vI t] M (rI M (tB (fDr we f m))) := by
  refine CT.of k_X9_areDry 1 (ls := [some (vR w), some (vI f), some (vI t), none]) rfl (Nat.le_of_ble_eq_true rfl) ?_
  refine E_iload_n dX9_areDry_0 rfl ?_
  refine E_istore_n dX9_areDry_1 rfl (by decide) ?_
  try dsimp only [List.set]
  exact EV.lq (by simp) (l_areDry hA m hm f0 t1 hE m 0 (by omega) rfl)
set_option maxRecDepth 20000 in
set_option maxHeartbeats 400000 in
theorem l_stained {G : Ctx} {M : Mem} {w v : Nat} (hA : WA M w) (hB : WA M v) {sn s0 : Int → Int} {f t : Int} (m : Nat) (hm : f + m = t + 1) (f0 : 0 ≤ f) (t1 : t < 10) (hS : ∀ p, f ≤ p → p ≤ t → mI M (w + 3) p = sn p) (hS0 : ∀ p, f ≤ p → p ≤ t → mI M (v + 3) p = s0 p) : ∀ (k r : Nat) , r + k = m → fNew sn s0 f r = false → EV G m_X9_areStainedSince 0 0 0 (rI M (tB (fNew sn s0 f m))) 3 [some (vR w), some (vR v), some (vI f), some (vI t), some (vI (f + r))] [] M := by
  intro k
  induction k with
  | zero =>
    intro r  hr hi
    obtain rfl : r = m := by omega
    refine E_iload dX9_areStainedSince_3 rfl ?_
    refine E_iload_n dX9_areStainedSince_5 rfl ?_
    refine E_icmp_gt (tgt := 37) dX9_areStainedSince_6 (by decide) (fun h6 => ?_) (fun h6 => ?_)
    · refine E_iconst dX9_areStainedSince_37 (by decide) ?_
      refine E_zret dX9_areStainedSince_38 rfl (by decide) ?_
      refine ⟨?_, rfl⟩
      rw [hi]; rfl
    · exfalso; omega
  | succ k ih =>
    intro r  hr hi
    refine E_iload dX9_areStainedSince_3 rfl ?_
    refine E_iload_n dX9_areStainedSince_5 rfl ?_
    refine E_icmp_gt (tgt := 37) dX9_areStainedSince_6 (by decide) (fun h6 => ?_) (fun h6 => ?_)
    · exfalso; omega
    · refine E_aload_n dX9_areStainedSince_9 rfl ?_
      refine g_X9_20 rfl dX9_areStainedSince_10 hA.o hA.stained ?_
      refine E_iload dX9_areStainedSince_13 rfl ?_
      refine E_zald dX9_areStainedSince_15 hA.s_stained (by omega) (by omega) (hS _ (by omega) (by omega)) ?_
      refine E_if_eq (tgt := 31) dX9_areStainedSince_16 (by decide) (fun h16 => ?_) (fun h16 => ?_)
      · refine E_iinc dX9_areStainedSince_31 rfl (by omega) (by omega) (by decide) rfl (by decide) ?_
        try dsimp only [List.set]
        refine E_goto (tgt := 3) dX9_areStainedSince_34 (by decide) ?_
        exact EV.lq (by simp [Int.add_assoc]) (ih (r + 1) (by omega) (by simp only [fNew, hi, Bool.false_or, decide_eq_false_iff_not]; omega))
      · refine E_aload_n dX9_areStainedSince_19 rfl ?_
        refine g_X9_20 rfl dX9_areStainedSince_20 hB.o hB.stained ?_
        refine E_iload dX9_areStainedSince_23 rfl ?_
        refine E_zald dX9_areStainedSince_25 hB.s_stained (by omega) (by omega) (hS0 _ (by omega) (by omega)) ?_
        refine E_if_ne (tgt := 31) dX9_areStainedSince_26 (by decide) (fun h26 => ?_) (fun h26 => ?_)
        · refine E_iinc dX9_areStainedSince_31 rfl (by omega) (by omega) (by decide) rfl (by decide) ?_
          try dsimp only [List.set]
          refine E_goto (tgt := 3) dX9_areStainedSince_34 (by decide) ?_
          exact EV.lq (by simp [Int.add_assoc]) (ih (r + 1) (by omega) (by simp only [fNew, hi, Bool.false_or, decide_eq_false_iff_not]; omega))
        · refine E_iconst dX9_areStainedSince_29 (by decide) ?_
          refine E_zret dX9_areStainedSince_30 rfl (by decide) ?_
          refine ⟨?_, rfl⟩
          have hx : fNew sn s0 f (r + 1) = true := by simp only [fNew, hi, Bool.false_or, decide_eq_true_eq]; omega
          rw [fNew_mono hx (show r + 1 ≤ m by omega)]; rfl
set_option maxRecDepth 20000 in
set_option maxHeartbeats 400000 in
theorem c_areStainedSince {G : Ctx} {M : Mem} {w v : Nat} (hA : WA M w) (hB : WA M v) {sn s0 : Int → Int} {f t : Int} (m : Nat) (hm : f + m = t + 1) (f0 : 0 ≤ f) (t1 : t < 10) (hS : ∀ p, f ≤ p → p ≤ t → mI M (w + 3) p = sn p) (hS0 : ∀ p, f ≤ p → p ≤ t → mI M (v + 3) p = s0 p) : CT G m_X9_areStainedSince 0 0 0 [vR w, vR v, vI f, vI t] M (rI M (tB (fNew sn s0 f m))) := by
  refine CT.of k_X9_areStainedSince 1 (ls := [some (vR w), some (vR v), some (vI f), some (vI t), none]) rfl (Nat.le_of_ble_eq_true rfl) ?_
  refine E_iload_n dX9_areStainedSince_0 rfl ?_
  refine E_istore dX9_areStainedSince_1 rfl (by decide) ?_
  try dsimp only [List.set]
  exact EV.lq (by simp) (l_stained hA hB m hm f0 t1 hS hS0 m 0 (by omega) rfl)
def BI (M : Mem) (w v : Nat) (r : Int) (I : Nat → Int → Int) : Prop := I w 1 = mI M v 1 ∧ (∀ p : Int, 0 ≤ p → p < r → I (w + 1) p = mI M (v + 1) p ∧ I (w + 2) p = mI M (v + 2) p ∧ I (w + 3) p = mI M (v + 3) p) ∧ ∀ b j, (b < w ∨ w + 3 < b) → I b j = mI M b j
theorem bec_step {M : Mem} {w v : Nat} {r : Nat} {I : Nat → Int → Int} (hi : BI M w v r I) : BI M w v ((r + 1 : Nat) : Int) (up2 (up2 (up2 I (w + 1) r (mI M (v + 1) r)) (w + 2) r (mI M (v + 2) r)) (w + 3) r (mI M (v + 3) r)) := by
  obtain ⟨h1, h2, h3⟩ := hi
  refine ⟨?_, fun p p0 p1 => ?_, fun b j hb => ?_⟩
  · rw [up2_ne _ _ (by omega), up2_ne _ _ (by omega), up2_ne _ _ (by omega)]; exact h1
  · by_cases hp : p = r
    · subst hp
      simp [up2]
    · have q := h2 p p0 (by omega)
      simp [up2, hp, q]
  · rw [up2_ne _ _ (by omega), up2_ne _ _ (by omega), up2_ne _ _ (by omega)]; exact h3 b j hb
set_option maxRecDepth 20000 in
set_option maxHeartbeats 400000 in
theorem l_become {G : Ctx} {M : Mem} {w v c : Nat} (hA : WA M w) (hB : WA M v) (hc : mR M v 0 = c) (hc0 : 21 ≤ c) (hap : v + 5 < w ∨ w + 5 < v) (hZ : ∀ p, 0 ≤ p → p < 10 → mI M (v + 3) p = 0 ∨ mI M (v + 3) p = 1) : ∀ (k r : Nat) (I : Nat → Int → Int), r + k = 10 → BI M w v r I → EV G m_X9_become 0 0 0 (fun r M' => r = none ∧ ∃ I, M' = mK M w c I ∧ BI M w v 10 I) 18 [some (vR w), some (vR v), some (vI (r : Int))] [] (mK M w c I) := by
  intro k
  induction k with
  | zero =>
    intro r I hr hi
    have hr : r = 10 := by omega
    subst hr
    refine E_iload_n dX9_become_18 rfl ?_
    refine E_bipush dX9_become_19 (by decide) ?_
    refine E_icmp_ge (tgt := 66) dX9_become_21 (by decide) (fun h21 => ?_) (fun h21 => ?_)
    · refine E_vret dX9_become_66 rfl ?_
      exact ⟨rfl, I, rfl, hi⟩
    · exfalso; omega
  | succ k ih =>
    intro r I hr hi
    refine E_iload_n dX9_become_18 rfl ?_
    refine E_bipush dX9_become_19 (by decide) ?_
    refine E_icmp_ge (tgt := 66) dX9_become_21 (by decide) (fun h21 => ?_) (fun h21 => ?_)
    · exfalso; omega
    · refine E_aload_n dX9_become_24 rfl ?_
      refine g_X9_11 rfl dX9_become_25 hA.o (hA.k w c I).wet ?_
      refine E_iload_n dX9_become_28 rfl ?_
      refine E_aload_n dX9_become_29 rfl ?_
      refine g_X9_11 rfl dX9_become_30 hB.o (hB.k w c I).wet ?_
      refine E_iload_n dX9_become_33 rfl ?_
      refine E_iald dX9_become_34 hB.s_wet (by omega) (by omega) (hi.2.2 _ _ (by omega)) ?_
      refine E_iast dX9_become_35 hA.s_wet (by omega) (by omega) ?_
      refine E_aload_n dX9_become_36 rfl ?_
      refine g_X9_17 rfl dX9_become_37 hA.o (hA.k w c I).where ?_
      refine E_iload_n dX9_become_40 rfl ?_
      refine E_aload_n dX9_become_41 rfl ?_
      refine g_X9_17 rfl dX9_become_42 hB.o (hB.k w c I).where ?_
      refine E_iload_n dX9_become_45 rfl ?_
      refine E_iald dX9_become_46 hB.s_where (by omega) (by omega) ((mI_ne (by omega)).trans (hi.2.2 _ _ (by omega))) ?_
      refine E_iast dX9_become_47 hA.s_where (by omega) (by omega) ?_
      refine E_aload_n dX9_become_48 rfl ?_
      refine g_X9_20 rfl dX9_become_49 hA.o (hA.k w c I).stained ?_
      refine E_iload_n dX9_become_52 rfl ?_
      refine E_aload_n dX9_become_53 rfl ?_
      refine g_X9_20 rfl dX9_become_54 hB.o (hB.k w c I).stained ?_
      refine E_iload_n dX9_become_57 rfl ?_
      refine E_zald dX9_become_58 hB.s_stained (by omega) (by omega) ((mI_ne (by omega)).trans ((mI_ne (by omega)).trans (hi.2.2 _ _ (by omega)))) ?_
      refine E_zast dX9_become_59 hA.s_stained (by omega) (by omega) (nar01 (hZ _ (by omega) (by omega))) ?_
      refine E_iinc dX9_become_60 rfl (by omega) (by omega) (by decide) rfl (by decide) ?_
      try dsimp only [List.set]
      refine E_goto (tgt := 18) dX9_become_63 (by decide) ?_
      exact EV.mq rfl rfl (ih (r + 1) _ (by omega) (bec_step hi))
set_option maxRecDepth 20000 in
set_option maxHeartbeats 400000 in
theorem c_become {G : Ctx} {M : Mem} {w v c : Nat} (hA : WA M w) (hB : WA M v) (hc : mR M v 0 = c) (hc0 : 21 ≤ c) (hap : v + 5 < w ∨ w + 5 < v) (hZ : ∀ p, 0 ≤ p → p < 10 → mI M (v + 3) p = 0 ∨ mI M (v + 3) p = 1) : CT G m_X9_become 0 0 0 [vR w, vR v] M (fun r M' => r = none ∧ ∃ I, M' = mK M w c I ∧ BI M w v 10 I) := by
  refine CT.of k_X9_become 1 (ls := [some (vR w), some (vR v), none]) rfl (Nat.le_of_ble_eq_true rfl) ?_
  refine E_aload_n dX9_become_0 rfl ?_
  refine E_aload_n dX9_become_1 rfl ?_
  refine g_X9_30 rfl dX9_become_2 hB.o hc ?_
  refine p_X9_30 rfl dX9_become_5 hA.o hc0 ?_
  refine E_aload_n dX9_become_8 rfl ?_
  refine E_aload_n dX9_become_9 rfl ?_
  refine g_X9_34 rfl dX9_become_10 hB.o rfl ?_
  refine p_X9_34 rfl dX9_become_13 hA.o ?_
  refine E_iconst dX9_become_16 (by decide) ?_
  refine E_istore_n dX9_become_17 rfl (by decide) ?_
  try dsimp only [List.set]
  exact EV.mq rfl (show mK M w c (up2 (mI M) w 1 (mI M v 1)) = _ from rfl) (l_become hA hB hc hc0 hap hZ 10 0 _ (by omega) ⟨up2_self _ _ _ _, fun p p0 p1 => by omega, fun b j hb => up2_ne _ _ (by omega)⟩)
