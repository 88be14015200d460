/-! ===== 23: the reference: laid aside, kept ===== -/
theorem MO.w {M : Mem} {m b : Nat} {j x : Int} (h : MO M m) : MO (mWI M b j x) m := h
theorem MC.w {M : Mem} {m b : Nat} {j x : Int} {cd : CD} (h : MC (mI M) m cd) (hb : b ≠ m + 4) : MC (mI (mWI M b j x)) m cd := fun k h0 h1 => (mI_ne (fun q => hb q.1.symm)).trans (h k h0 h1)
theorem bShl_0 {p : Nat} (hp : p < 10) : bShl 0 p = 0 := by
  have h := bShl_nat (x := 0) (p := p) (by omega) (by omega)
  rw [Nat.zero_mul] at h
  exact h
def cSb (cd : CD) : Nat → Bool := fun p => decide (cSn cd p = 1)
/-- what is laid aside -/
def LO (M : Mem) (m : Nat) (I : Nat → Int → Int) : Prop := ∀ b (j : Int), b ≠ m + 7 → b ≠ m + 8 → ¬ (b = m ∧ j = 20) → I b j = mI M b j
def LI (M : Mem) (m : Nat) (cd : CD) (r : Nat) (I : Nat → Int → Int) : Prop := LO M m I ∧ (∀ p : Int, 0 ≤ p → p < r → I (m + 7) p = cHu cd p ∧ I (m + 8) p = cWe cd p) ∧ BS (I m 20) r (cSb cd)
theorem lay_step {M : Mem} {m : Nat} {cd : CD} {r : Nat} {I : Nat → Int → Int} {s : Int} (hi : LI M m cd r I) (hs : BS s (r + 1) (cSb cd)) : LI M m cd (r + 1) (up2 (up2 (up2 I (m + 7) r (cd (88 + 6 * r))) (m + 8) r (cd (86 + 6 * r))) m 20 s) := by
  obtain ⟨h1, h2, h3⟩ := hi
  refine ⟨fun b j q1 q2 q3 => ?_, fun p p0 p1 => ?_, ?_⟩
  · rw [up2_ne _ _ q3, up2_ne _ _ (fun h => q2 h.1), up2_ne _ _ (fun h => q1 h.1)]; exact h1 b j q1 q2 q3
  · by_cases hp : p = r
    · subst hp
      simp [up2, cHu, cWe]
    · have q := h2 p p0 (by omega)
      simp [up2, hp, q]
  · rw [up2_self]; exact hs
def upC (f : CD) (k x : Int) : CD := fun j => if j = k then x else f j
theorem upC_self (f : CD) (k x : Int) : upC f k x k = x := by simp [upC]
theorem upC_ne (f : CD) {k j : Int} (x : Int) (h : j ≠ k) : upC f k x j = f j := by simp [upC, h]
def cKeep (cd : CD) (hu we sn : Int → Int) : Nat → CD
  | 0 => cd
  | r + 1 => upC (upC (upC (cKeep cd hu we sn r) (88 + 6 * r) (hu r)) (86 + 6 * r) (we r)) (89 + 6 * r) (sn r)
theorem cKeep_lo (cd : CD) (hu we sn : Int → Int) {j : Int} (h : j < 84) : ∀ r : Nat, cKeep cd hu we sn r j = cd j
  | 0 => rfl
  | r + 1 => by
    simp only [cKeep]
    rw [upC_ne _ _ (by omega), upC_ne _ _ (by omega), upC_ne _ _ (by omega)]
    exact cKeep_lo cd hu we sn h r
theorem cKeep_of (cd : CD) (hu we sn : Int → Int) (p k : Int) (hp : 0 ≤ p) (hk0 : 0 ≤ k) (hk : k < 6) : ∀ r : Nat, cKeep cd hu we sn r (84 + 6 * p + k) = if p < r then (if k = 4 then hu p else if k = 2 then we p else if k = 5 then sn p else cd (84 + 6 * p + k)) else cd (84 + 6 * p + k)
  | 0 => by rw [if_neg (by omega)]; rfl
  | r + 1 => by
    have ih := cKeep_of cd hu we sn p k hp hk0 hk r
    simp only [cKeep, upC]
    by_cases hpr : p = r
    · subst hpr
      rw [if_neg (show ¬ ((r : Int) < (r : Int)) by omega)] at ih
      rw [if_pos (show (r : Int) < ((r + 1 : Nat) : Int) by omega)]
      by_cases k4 : k = 4
      · rw [if_neg (by omega), if_neg (by omega), if_pos (by omega), if_pos k4]
      · by_cases k2 : k = 2
        · rw [if_neg (by omega), if_pos (by omega), if_neg k4, if_pos k2]
        · by_cases k5 : k = 5
          · rw [if_pos (by omega), if_neg k4, if_neg k2, if_pos k5]
          · rw [if_neg (by omega), if_neg (by omega), if_neg (by omega), if_neg k4, if_neg k2, if_neg k5, ih]
    · rw [if_neg (by omega), if_neg (by omega), if_neg (by omega), ih]
      by_cases hq : p < r
      · have hq2 : p < ((r + 1 : Nat) : Int) := by omega
        rw [if_pos hq, if_pos hq2]
      · have hq2 : ¬ p < ((r + 1 : Nat) : Int) := by omega
        rw [if_neg hq, if_neg hq2]
set_option maxRecDepth 20000 in
set_option maxHeartbeats 800000 in
theorem l_layNow {G : Ctx} {M : Mem} {m : Nat} {cd : CD} (hO : MO M m) (hQ : MC (mI M) m cd) (hW : WFc cd) (hZ : ∀ p, 0 ≤ p → p < cd 2 → cd (89 + 6 * p) = 0 ∨ cd (89 + 6 * p) = 1) (n : Nat) (hn : cd 2 = n) : ∀ (k r : Nat) (I : Nat → Int → Int), r + k = n → LI M m cd r I → EV G m_X12_layNow 1 0 0 (rJ M (LI M m cd n)) 7 [some (vR m), some (vI (r : Int))] [] (mJ M I) := by
  intro k
  induction k with
  | zero =>
    intro r I hr hi
    obtain rfl : r = n := by omega
    have hpn := hW.pn
    have hl8 := hW.ln
    have hr8 := hW.rn
    have hQI : MC (mI (mJ M I)) m cd := fun k h0 h1 => (hi.1 _ _ (by omega) (by omega) (by omega)).trans (hQ k h0 h1)
    refine E_iload_n dX12_layNow_7 rfl ?_
    refine E_aload_n dX12_layNow_8 rfl ?_
    refine g_X12_19 rfl dX12_layNow_9 hO.o hO.court ?_
    refine E_iconst dX12_layNow_12 (by decide) ?_
    refine E_iald dX12_layNow_13 hO.s_court (by omega) (by omega) (hQI.at (j := 2) (by omega) (by omega) (by omega)) ?_
    refine E_icmp_ge (tgt := 64) dX12_layNow_14 (by decide) (fun h14 => ?_) (fun h14 => ?_)
    · refine E_vret dX12_layNow_64 rfl ?_
      exact ⟨rfl, I, rfl, hi⟩
    · exfalso; omega
  | succ k ih =>
    intro r I hr hi
    have hpn := hW.pn
    have hl8 := hW.ln
    have hr8 := hW.rn
    have hQI : MC (mI (mJ M I)) m cd := fun k h0 h1 => (hi.1 _ _ (by omega) (by omega) (by omega)).trans (hQ k h0 h1)
    have hz := hZ r (by omega) (by omega)
    have hsn : BS (bOr (I m 20) (bShl (cd (89 + 6 * r)) r)) (r + 1) (cSb cd) := by
      rcases hz with hz | hz
      · rw [hz, bShl_0 (by omega), bOr_0 (by have := hi.2.2.ran; omega) (by have := hi.2.2.ran; omega)]
        exact hi.2.2.skip (decide_eq_false (by show ¬ cd (89 + 6 * r) = 1; omega))
      · rw [hz]; exact hi.2.2.add (by omega) (decide_eq_true hz)
    refine E_iload_n dX12_layNow_7 rfl ?_
    refine E_aload_n dX12_layNow_8 rfl ?_
    refine g_X12_19 rfl dX12_layNow_9 hO.o hO.court ?_
    refine E_iconst dX12_layNow_12 (by decide) ?_
    refine E_iald dX12_layNow_13 hO.s_court (by omega) (by omega) (hQI.at (j := 2) (by omega) (by omega) (by omega)) ?_
    refine E_icmp_ge (tgt := 64) dX12_layNow_14 (by decide) (fun h14 => ?_) (fun h14 => ?_)
    · exfalso; omega
    · refine E_aload_n dX12_layNow_17 rfl ?_
      refine g_X12_28 rfl dX12_layNow_18 hO.o hO.hung ?_
      refine E_iload_n dX12_layNow_21 rfl ?_
      refine E_aload_n dX12_layNow_22 rfl ?_
      refine E_iload_n dX12_layNow_23 rfl ?_
      refine E_iconst dX12_layNow_24 (by decide) ?_
      refine i_X12_202 rfl dX12_layNow_25 (by exact hO.o) (c_of (hO.j I) hQI (j := 88 + 6 * ↑r) (by omega) (by omega) (by omega)) (by omega) (Nat.le_of_ble_eq_true rfl) rfl rfl ?_
      rintro _ _ ⟨rfl, rfl⟩
      try dsimp only [pu]
      refine E_iast dX12_layNow_28 hO.s_hung (by omega) (by omega) ?_
      refine E_aload_n dX12_layNow_29 rfl ?_
      refine g_X12_31 rfl dX12_layNow_30 hO.o hO.wet ?_
      refine E_iload_n dX12_layNow_33 rfl ?_
      refine E_aload_n dX12_layNow_34 rfl ?_
      refine E_iload_n dX12_layNow_35 rfl ?_
      refine E_iconst dX12_layNow_36 (by decide) ?_
      refine i_X12_202 rfl dX12_layNow_37 (by exact hO.o) (c_of ((MO.w (hO.j I))) (MC.w hQI (by omega)) (j := 86 + 6 * ↑r) (by omega) (by omega) (by omega)) (by omega) (Nat.le_of_ble_eq_true rfl) rfl rfl ?_
      rintro _ _ ⟨rfl, rfl⟩
      try dsimp only [pu]
      refine E_iast dX12_layNow_40 hO.s_wet (by omega) (by omega) ?_
      refine E_aload_n dX12_layNow_41 rfl ?_
      refine E_dup dX12_layNow_42 rfl ?_
      refine g_X12_199 rfl dX12_layNow_43 hO.o ((mI_ne (by omega)).trans (mI_ne (by omega))) ?_
      refine E_aload_n dX12_layNow_46 rfl ?_
      refine E_iload_n dX12_layNow_47 rfl ?_
      refine E_iconst dX12_layNow_48 (by decide) ?_
      refine i_X12_202 rfl dX12_layNow_49 (by exact hO.o) (c_of ((MO.w ((MO.w (hO.j I))))) (MC.w (MC.w hQI (by omega)) (by omega)) (j := 89 + 6 * ↑r) (by omega) (by omega) (by omega)) (by omega) (Nat.le_of_ble_eq_true rfl) rfl rfl ?_
      rintro _ _ ⟨rfl, rfl⟩
      try dsimp only [pu]
      refine E_iload_n dX12_layNow_52 rfl ?_
      refine E_ishl dX12_layNow_53 ?_
      refine E_ior dX12_layNow_54 ?_
      refine p_X12_199 rfl dX12_layNow_55 hO.o ?_
      refine E_iinc dX12_layNow_58 rfl (by omega) (by omega) (by decide) rfl (by decide) ?_
      try dsimp only [List.set]
      refine E_goto (tgt := 7) dX12_layNow_61 (by decide) ?_
      exact EV.mq rfl rfl (ih (r + 1) _ (by omega) (lay_step hi hsn))
set_option maxRecDepth 20000 in
set_option maxHeartbeats 800000 in
theorem c_layNow {G : Ctx} {M : Mem} {m : Nat} {cd : CD} (hO : MO M m) (hQ : MC (mI M) m cd) (hW : WFc cd) (hZ : ∀ p, 0 ≤ p → p < cd 2 → cd (89 + 6 * p) = 0 ∨ cd (89 + 6 * p) = 1) (n : Nat) (hn : cd 2 = n) : CT G m_X12_layNow 1 0 0 [vR m] M (rJ M (LI M m cd n)) := by
  refine CT.of k_X12_layNow 1 (ls := [some (vR m), none]) rfl (Nat.le_of_ble_eq_true rfl) ?_
  refine E_aload_n dX12_layNow_0 rfl ?_
  refine E_iconst dX12_layNow_1 (by decide) ?_
  refine p_X12_199 rfl dX12_layNow_2 hO.o ?_
  refine E_iconst dX12_layNow_5 (by decide) ?_
  refine E_istore_n dX12_layNow_6 rfl (by decide) ?_
  try dsimp only [List.set]
  exact EV.mq rfl (show mJ M (up2 (mI M) m 20 0) = _ from rfl) (l_layNow hO hQ hW hZ n hn n 0 _ (by omega) ⟨fun b j q1 q2 q3 => up2_ne _ _ q3, fun p p0 p1 => by omega, by rw [up2_self]; exact BS.nil _⟩)
theorem keep_step {M : Mem} {m : Nat} {cd : CD} {hu we sn : Int → Int} {r : Nat} {I : Nat → Int → Int} (hi : (∀ b j, b ≠ m + 4 → I b j = mI M b j) ∧ MC I m (cKeep cd hu we sn r)) (i1 i2 i3 : Int) (e1 : i1 = 88 + 6 * r) (e2 : i2 = 86 + 6 * r) (e3 : i3 = 89 + 6 * r) : (∀ b j, b ≠ m + 4 → up2 (up2 (up2 I (m + 4) i1 (hu r)) (m + 4) i2 (we r)) (m + 4) i3 (sn r) b j = mI M b j) ∧ MC (up2 (up2 (up2 I (m + 4) i1 (hu r)) (m + 4) i2 (we r)) (m + 4) i3 (sn r)) m (cKeep cd hu we sn (r + 1)) := by
  subst e1 e2 e3
  refine ⟨fun b j hb => ?_, fun k h0 h1 => ?_⟩
  · rw [up2_ne _ _ (fun h => hb h.1), up2_ne _ _ (fun h => hb h.1), up2_ne _ _ (fun h => hb h.1)]; exact hi.1 b j hb
  · simp only [cKeep, up2, upC, true_and]
    rw [hi.2 k h0 h1]
set_option maxRecDepth 20000 in
set_option maxHeartbeats 800000 in
theorem l_keepNow {G : Ctx} {M : Mem} {m : Nat} {cd : CD} (hO : MO M m) (hQ : MC (mI M) m cd) (hW : WFc cd) {hu we sn : Int → Int} (hH : ∀ p, 0 ≤ p → p < cd 2 → mI M (m + 7) p = hu p) (hE : ∀ p, 0 ≤ p → p < cd 2 → mI M (m + 8) p = we p) (n : Nat) (hn : cd 2 = n) (hB : BS (mI M m 20) n (fun p => decide (sn p = 1))) (hZ : ∀ p, 0 ≤ p → p < cd 2 → sn p = 0 ∨ sn p = 1) : ∀ (k r : Nat) (I : Nat → Int → Int), r + k = n → ((∀ b j, b ≠ m + 4 → I b j = mI M b j) ∧ MC I m (cKeep cd hu we sn r)) → EV G m_X12_keepNow 0 0 0 (rJ M (fun I => (∀ b j, b ≠ m + 4 → I b j = mI M b j) ∧ MC I m (cKeep cd hu we sn n))) 2 [some (vR m), some (vI (r : Int))] [] (mJ M I) := by
  intro k
  induction k with
  | zero =>
    intro r I hr hi
    obtain rfl : r = n := by omega
    have hpn := hW.pn
    have hl8 := hW.ln
    have hr8 := hW.rn
    have hC2 : I (m + 4) 2 = cd 2 := (hi.2 2 (by omega) (by omega)).trans (cKeep_lo cd hu we sn (by omega) r)
    refine E_iload_n dX12_keepNow_2 rfl ?_
    refine E_aload_n dX12_keepNow_3 rfl ?_
    refine g_X12_19 rfl dX12_keepNow_4 hO.o hO.court ?_
    refine E_iconst dX12_keepNow_7 (by decide) ?_
    refine E_iald dX12_keepNow_8 hO.s_court (by omega) (by omega) hC2 ?_
    refine E_icmp_ge (tgt := 80) dX12_keepNow_9 (by decide) (fun h9 => ?_) (fun h9 => ?_)
    · refine E_vret dX12_keepNow_80 rfl ?_
      exact ⟨rfl, I, rfl, hi⟩
    · exfalso; omega
  | succ k ih =>
    intro r I hr hi
    have hpn := hW.pn
    have hl8 := hW.ln
    have hr8 := hW.rn
    have hC2 : I (m + 4) 2 = cd 2 := (hi.2 2 (by omega) (by omega)).trans (cKeep_lo cd hu we sn (by omega) r)
    have hz := hZ r (by omega) (by omega)
    have hbt : bAnd (bShr (mI M m 20) ↑r) 1 = sn r := by
      rw [hB.bit (by omega) (by omega)]
      rcases hz with hz | hz <;> simp [hz, tB]
    refine E_iload_n dX12_keepNow_2 rfl ?_
    refine E_aload_n dX12_keepNow_3 rfl ?_
    refine g_X12_19 rfl dX12_keepNow_4 hO.o hO.court ?_
    refine E_iconst dX12_keepNow_7 (by decide) ?_
    refine E_iald dX12_keepNow_8 hO.s_court (by omega) (by omega) hC2 ?_
    refine E_icmp_ge (tgt := 80) dX12_keepNow_9 (by decide) (fun h9 => ?_) (fun h9 => ?_)
    · exfalso; omega
    · refine E_aload_n dX12_keepNow_12 rfl ?_
      refine g_X12_19 rfl dX12_keepNow_13 hO.o hO.court ?_
      refine E_bipush dX12_keepNow_16 (by decide) ?_
      refine E_bipush dX12_keepNow_18 (by decide) ?_
      refine E_iload_n dX12_keepNow_20 rfl ?_
      refine E_imul dX12_keepNow_21 (by omega) (by omega) ?_
      refine E_iadd dX12_keepNow_22 (by omega) (by omega) ?_
      refine E_iconst dX12_keepNow_23 (by decide) ?_
      refine E_iadd dX12_keepNow_24 (by omega) (by omega) ?_
      refine E_aload_n dX12_keepNow_25 rfl ?_
      refine g_X12_28 rfl dX12_keepNow_26 hO.o hO.hung ?_
      refine E_iload_n dX12_keepNow_29 rfl ?_
      refine E_iald dX12_keepNow_30 hO.s_hung (by omega) (by omega) ((hi.1 _ _ (by omega)).trans (hH _ (by omega) (by omega))) ?_
      refine E_iast dX12_keepNow_31 hO.s_court (by omega) (by omega) ?_
      refine E_aload_n dX12_keepNow_32 rfl ?_
      refine g_X12_19 rfl dX12_keepNow_33 hO.o hO.court ?_
      refine E_bipush dX12_keepNow_36 (by decide) ?_
      refine E_bipush dX12_keepNow_38 (by decide) ?_
      refine E_iload_n dX12_keepNow_40 rfl ?_
      refine E_imul dX12_keepNow_41 (by omega) (by omega) ?_
      refine E_iadd dX12_keepNow_42 (by omega) (by omega) ?_
      refine E_iconst dX12_keepNow_43 (by decide) ?_
      refine E_iadd dX12_keepNow_44 (by omega) (by omega) ?_
      refine E_aload_n dX12_keepNow_45 rfl ?_
      refine g_X12_31 rfl dX12_keepNow_46 hO.o hO.wet ?_
      refine E_iload_n dX12_keepNow_49 rfl ?_
      refine E_iald dX12_keepNow_50 hO.s_wet (by omega) (by omega) ((mI_ne (by omega)).trans ((hi.1 _ _ (by omega)).trans (hE _ (by omega) (by omega)))) ?_
      refine E_iast dX12_keepNow_51 hO.s_court (by omega) (by omega) ?_
      refine E_aload_n dX12_keepNow_52 rfl ?_
      refine g_X12_19 rfl dX12_keepNow_53 hO.o hO.court ?_
      refine E_bipush dX12_keepNow_56 (by decide) ?_
      refine E_bipush dX12_keepNow_58 (by decide) ?_
      refine E_iload_n dX12_keepNow_60 rfl ?_
      refine E_imul dX12_keepNow_61 (by omega) (by omega) ?_
      refine E_iadd dX12_keepNow_62 (by omega) (by omega) ?_
      refine E_iconst dX12_keepNow_63 (by decide) ?_
      refine E_iadd dX12_keepNow_64 (by omega) (by omega) ?_
      refine E_aload_n dX12_keepNow_65 rfl ?_
      refine g_X12_199 rfl dX12_keepNow_66 hO.o ((mI_ne (by omega)).trans ((mI_ne (by omega)).trans (hi.1 _ _ (by omega)))) ?_
      refine E_iload_n dX12_keepNow_69 rfl ?_
      refine E_ishr dX12_keepNow_70 ?_
      refine E_iconst dX12_keepNow_71 (by decide) ?_
      refine E_iand dX12_keepNow_72 ?_
      rw [hbt]
      refine E_iast dX12_keepNow_73 hO.s_court (by omega) (by omega) ?_
      refine E_iinc dX12_keepNow_74 rfl (by omega) (by omega) (by decide) rfl (by decide) ?_
      try dsimp only [List.set]
      refine E_goto (tgt := 2) dX12_keepNow_77 (by decide) ?_
      exact EV.mq rfl rfl (ih (r + 1) _ (by omega) (keep_step hi _ _ _ (by omega) (by omega) (by omega)))
set_option maxRecDepth 20000 in
set_option maxHeartbeats 800000 in
theorem c_keepNow {G : Ctx} {M : Mem} {m : Nat} {cd : CD} (hO : MO M m) (hQ : MC (mI M) m cd) (hW : WFc cd) {hu we sn : Int → Int} (hH : ∀ p, 0 ≤ p → p < cd 2 → mI M (m + 7) p = hu p) (hE : ∀ p, 0 ≤ p → p < cd 2 → mI M (m + 8) p = we p) (n : Nat) (hn : cd 2 = n) (hB : BS (mI M m 20) n (fun p => decide (sn p = 1))) (hZ : ∀ p, 0 ≤ p → p < cd 2 → sn p = 0 ∨ sn p = 1) : CT G m_X12_keepNow 0 0 0 [vR m] M (rJ M (fun I => (∀ b j, b ≠ m + 4 → I b j = mI M b j) ∧ MC I m (cKeep cd hu we sn n))) := by
  refine CT.of k_X12_keepNow 1 (ls := [some (vR m), none]) rfl (Nat.le_of_ble_eq_true rfl) ?_
  refine E_iconst dX12_keepNow_0 (by decide) ?_
  refine E_istore_n dX12_keepNow_1 rfl (by decide) ?_
  try dsimp only [List.set]
  exact l_keepNow hO hQ hW hH hE n hn hB hZ n 0 (mI M) (by omega) ⟨fun _ _ _ => rfl, hQ⟩
