/-! ===== 15: Wash: begin, takeAllDown ===== -/
def NI (M : Mem) (w c : Nat) (r : Int) (I : Nat → Int → Int) : Prop := I w 1 = 0 ∧ (∀ p : Int, 0 ≤ p → p < r → I (w + 1) p = mI M (c + 12) p ∧ I (w + 2) p = -1 ∧ I (w + 3) p = 0) ∧ ∀ b j, (b < w ∨ w + 3 < b) → I b j = mI M b j
theorem beg_step {M : Mem} {w c : Nat} {r : Nat} {I : Nat → Int → Int} (hi : NI M w c r I) : NI M w c ((r + 1 : Nat) : Int) (up2 (up2 (up2 I (w + 1) r (mI M (c + 12) r)) (w + 2) r (-1)) (w + 3) r 0) := by
  obtain ⟨h1, h2, h3⟩ := hi
  refine ⟨?_, fun p p0 p1 => ?_, fun b j hb => ?_⟩
  · rw [up2_ne _ _ (by omega), up2_ne _ _ (by omega), up2_ne _ _ (by omega)]; exact h1
  · by_cases hp : p = r
    · subst hp
      simp [up2]
    · have q := h2 p p0 (by omega)
      simp [up2, hp, q]
  · rw [up2_ne _ _ (by omega), up2_ne _ _ (by omega), up2_ne _ _ (by omega)]; exact h3 b j hb
def DI (M : Mem) (w : Nat) (r : Int) (I : Nat → Int → Int) : Prop := (∀ p : Int, 0 ≤ p → p < r → I (w + 2) p = -1) ∧ ∀ b j, b ≠ w + 2 → I b j = mI M b j
theorem tdn_step {M : Mem} {w : Nat} {r : Nat} {I : Nat → Int → Int} (hi : DI M w r I) : DI M w ((r + 1 : Nat) : Int) (up2 I (w + 2) r (-1)) := by
  obtain ⟨h2, h3⟩ := hi
  refine ⟨fun p p0 p1 => ?_, fun b j hb => ?_⟩
  · by_cases hp : p = r
    · subst hp
      simp [up2]
    · have q := h2 p p0 (by omega)
      simp [up2, hp, q]
  · rw [up2_ne _ _ (fun h => hb h.1)]; exact h3 b j hb
set_option maxRecDepth 20000 in
set_option maxHeartbeats 1200000 in
theorem l_begin {G : Ctx} {M : Mem} {w c : Nat} (hA : WA M w) (hC : CA M c) (hap : c + 13 < w ∨ w + 5 < c) : ∀ (k r : Nat) (I : Nat → Int → Int), r + k = 10 → NI M w c r I → EV G m_X9_begin 0 0 0 (fun r M' => r = none ∧ ∃ I, M' = mK M w c I ∧ NI M w c 10 I) 12 [some (vR w), some (vR c), some (vI (r : Int))] [] (mK M w c I) := by
  intro k
  induction k with
  | zero =>
    intro r I hr hi
    have hr : r = 10 := by omega
    subst hr
    refine E_iload_n dX9_begin_12 rfl ?_
    refine E_bipush dX9_begin_13 (by decide) ?_
    refine E_icmp_ge (tgt := 50) dX9_begin_15 (by decide) (fun h15 => ?_) (fun h15 => ?_)
    · refine E_vret dX9_begin_50 rfl ?_
      exact ⟨rfl, I, rfl, hi⟩
    · exfalso; omega
  | succ k ih =>
    intro r I hr hi
    refine E_iload_n dX9_begin_12 rfl ?_
    refine E_bipush dX9_begin_13 (by decide) ?_
    refine E_icmp_ge (tgt := 50) dX9_begin_15 (by decide) (fun h15 => ?_) (fun h15 => ?_)
    · exfalso; omega
    · refine E_aload_n dX9_begin_18 rfl ?_
      refine g_X9_11 rfl dX9_begin_19 hA.o (hA.k w c I).wet ?_
      refine E_iload_n dX9_begin_22 rfl ?_
      refine E_aload_n dX9_begin_23 rfl ?_
      refine g_X9_38 rfl dX9_begin_24 hC.o (CA.k w c I (by omega) hC).firstWet ?_
      refine E_iload_n dX9_begin_27 rfl ?_
      refine E_iald dX9_begin_28 hC.s_firstWet (by omega) (by omega) (hi.2.2 _ _ (by omega)) ?_
      refine E_iast dX9_begin_29 hA.s_wet (by omega) (by omega) ?_
      refine E_aload_n dX9_begin_30 rfl ?_
      refine g_X9_17 rfl dX9_begin_31 hA.o (hA.k w c I).where ?_
      refine E_iload_n dX9_begin_34 rfl ?_
      refine E_iconst dX9_begin_35 (by decide) ?_
      refine E_iast dX9_begin_36 hA.s_where (by omega) (by omega) ?_
      refine E_aload_n dX9_begin_37 rfl ?_
      refine g_X9_20 rfl dX9_begin_38 hA.o (hA.k w c I).stained ?_
      refine E_iload_n dX9_begin_41 rfl ?_
      refine E_iconst dX9_begin_42 (by decide) ?_
      refine E_zast dX9_begin_43 hA.s_stained (by omega) (by omega) (nar01 (Or.inl rfl)) ?_
      refine E_iinc dX9_begin_44 rfl (by omega) (by omega) (by decide) rfl (by decide) ?_
      try dsimp only [List.set]
      refine E_goto (tgt := 12) dX9_begin_47 (by decide) ?_
      exact EV.mq rfl rfl (ih (r + 1) _ (by omega) (beg_step hi))
set_option maxRecDepth 20000 in
set_option maxHeartbeats 1200000 in
theorem c_begin {G : Ctx} {M : Mem} {w c : Nat} (hA : WA M w) (hC : CA M c) (hap : c + 13 < w ∨ w + 5 < c) : CT G m_X9_begin 0 0 0 [vR w, vR c] M (fun r M' => r = none ∧ ∃ I, M' = mK M w c I ∧ NI M w c 10 I) := by
  refine CT.of k_X9_begin 1 (ls := [some (vR w), some (vR c), none]) rfl (Nat.le_of_ble_eq_true rfl) ?_
  refine E_aload_n dX9_begin_0 rfl ?_
  refine E_aload_n dX9_begin_1 rfl ?_
  refine p_X9_30 rfl dX9_begin_2 hA.o hC.lo ?_
  refine E_aload_n dX9_begin_5 rfl ?_
  refine E_iconst dX9_begin_6 (by decide) ?_
  refine p_X9_34 rfl dX9_begin_7 hA.o ?_
  refine E_iconst dX9_begin_10 (by decide) ?_
  refine E_istore_n dX9_begin_11 rfl (by decide) ?_
  try dsimp only [List.set]
  exact EV.mq rfl (show mK M w c (up2 (mI M) w 1 0) = _ from rfl) (l_begin hA hC hap 10 0 _ (by omega) ⟨up2_self _ _ _ _, fun p p0 p1 => by omega, fun b j hb => up2_ne _ _ (by omega)⟩)
set_option maxRecDepth 20000 in
set_option maxHeartbeats 1200000 in
theorem l_takeAllDown {G : Ctx} {M : Mem} {w a : Nat} {cd : CD} (hA : WA M w) (hRc : mR M w 0 = a) (hC : CA M a) (hD : CC (mI M) a cd) (hW : WFc cd) (n : Nat) (hn : cd 2 = n) (hap : a + 13 < w ∨ w + 5 < a) : ∀ (k r : Nat) (I : Nat → Int → Int), r + k = n → DI M w r I → EV G m_X9_takeAllDown 1 0 0 (rJ M (DI M w n)) 2 [some (vR w), some (vI (r : Int))] [] (mJ M I) := by
  intro k
  induction k with
  | zero =>
    intro r I hr hi
    obtain rfl : r = n := by omega
    have hpn := hW.pn
    have hDI : CC I a cd := hD.off (fun b j h1 h2 => hi.2 b j (by omega))
    refine E_iload_n dX9_takeAllDown_2 rfl ?_
    refine E_aload_n dX9_takeAllDown_3 rfl ?_
    refine g_X9_30 rfl dX9_takeAllDown_4 hA.o hRc ?_
    refine g_X9_47 rfl dX9_takeAllDown_7 hC.o (hDI.pnc.trans hn) ?_
    refine E_icmp_ge (tgt := 25) dX9_takeAllDown_10 (by decide) (fun h10 => ?_) (fun h10 => ?_)
    · refine E_vret dX9_takeAllDown_25 rfl ?_
      exact ⟨rfl, I, rfl, hi⟩
    · exfalso; omega
  | succ k ih =>
    intro r I hr hi
    have hpn := hW.pn
    have hDI : CC I a cd := hD.off (fun b j h1 h2 => hi.2 b j (by omega))
    refine E_iload_n dX9_takeAllDown_2 rfl ?_
    refine E_aload_n dX9_takeAllDown_3 rfl ?_
    refine g_X9_30 rfl dX9_takeAllDown_4 hA.o hRc ?_
    refine g_X9_47 rfl dX9_takeAllDown_7 hC.o (hDI.pnc.trans hn) ?_
    refine E_icmp_ge (tgt := 25) dX9_takeAllDown_10 (by decide) (fun h10 => ?_) (fun h10 => ?_)
    · exfalso; omega
    · refine E_aload_n dX9_takeAllDown_13 rfl ?_
      refine E_iload_n dX9_takeAllDown_14 rfl ?_
      refine i_X9_50 rfl dX9_takeAllDown_15 (by exact hA.o) (c_takeDown (hA.j I) (by omega) (by omega)) (by omega) (Nat.le_of_ble_eq_true rfl) rfl rfl ?_
      rintro _ _ ⟨rfl, rfl⟩
      try dsimp only [pu]
      refine E_pop dX9_takeAllDown_18 rfl ?_
      refine E_iinc dX9_takeAllDown_19 rfl (by omega) (by omega) (by decide) rfl (by decide) ?_
      try dsimp only [List.set]
      refine E_goto (tgt := 2) dX9_takeAllDown_22 (by decide) ?_
      exact EV.mq rfl rfl (ih (r + 1) _ (by omega) (tdn_step hi))
set_option maxRecDepth 20000 in
set_option maxHeartbeats 1200000 in
theorem c_takeAllDown {G : Ctx} {M : Mem} {w a : Nat} {cd : CD} (hA : WA M w) (hRc : mR M w 0 = a) (hC : CA M a) (hD : CC (mI M) a cd) (hW : WFc cd) (n : Nat) (hn : cd 2 = n) (hap : a + 13 < w ∨ w + 5 < a) : CT G m_X9_takeAllDown 1 0 0 [vR w] M (rJ M (DI M w n)) := by
  refine CT.of k_X9_takeAllDown 1 (ls := [some (vR w), none]) rfl (Nat.le_of_ble_eq_true rfl) ?_
  refine E_iconst dX9_takeAllDown_0 (by decide) ?_
  refine E_istore_n dX9_takeAllDown_1 rfl (by decide) ?_
  try dsimp only [List.set]
  exact l_takeAllDown hA hRc hC hD hW n hn hap n 0 (mI M) (by omega) ⟨fun p p0 p1 => by omega, fun _ _ _ => rfl⟩
