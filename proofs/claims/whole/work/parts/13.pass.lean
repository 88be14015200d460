/-! ===== 13: Wash: a quarter; dry; another's state ===== -/
theorem tmod24 {g : Int} (h : 0 ≤ g) : 0 ≤ Int.tmod g 24 ∧ Int.tmod g 24 < 24 := by
  rw [Int.tmod_eq_emod_of_nonneg h]; omega
theorem fDry_nn (cd : CD) (p l q : Int) : 0 ≤ fDry cd p l q := by unfold fDry; omega
theorem fDry_hi {cd : CD} (hW : WFc cd) {p l q : Int} (q0 : 0 ≤ q) (q1 : q < 24) : fDry cd p l q ≤ 11 := by
  have hd := hW.day q0 q1
  have ht := tmod10 hd.1 hd.2
  unfold fDry; split <;> split <;> omega
theorem qW1_b {cd : CD} {hu we : Int → Int} {q p : Int} (h : 0 ≤ we p ∧ we p ≤ 99) : 0 ≤ qW1 cd hu we q p ∧ qW1 cd hu we q p ≤ 99 := by
  have hd := fDry_nn cd p (hu p) q
  unfold qW1; split <;> omega
theorem qW2_b {cd : CD} {hu v : Int → Int} {n : Nat} {p : Int} (h : 0 ≤ v p ∧ v p ≤ 99) : 0 ≤ qW2 cd hu v n p ∧ qW2 cd hu v n p ≤ 99 := by
  have hd := gCnt_b cd hu v (hu p) n
  unfold qW2; split <;> omega
theorem qS2_b {cd : CD} {hu v sn : Int → Int} {n : Nat} {p : Int} (h : sn p = 0 ∨ sn p = 1) : qS2 cd hu v sn n p = 0 ∨ qS2 cd hu v sn n p = 1 := by
  unfold qS2; split <;> omega
def PI (M : Mem) (w : Nat) (cd : CD) (hu we : Int → Int) (q : Int) (n r : Nat) (I : Nat → Int → Int) : Prop := (∀ b j, b ≠ w + 1 → I b j = mI M b j) ∧ (∀ p : Int, 0 ≤ p → p < n → I (w + 1) p = if p < r then qW1 cd hu we q p else we p)
theorem pas_step {M : Mem} {w : Nat} {cd : CD} {hu we : Int → Int} {q : Int} {n r : Nat} {I : Nat → Int → Int} {X : Int} (hi : PI M w cd hu we q n r I) (hX : X = qW1 cd hu we q r) : PI M w cd hu we q n (r + 1) (up2 I (w + 1) r X) := by
  obtain ⟨h1, h2⟩ := hi
  refine ⟨fun b j q1 => ?_, fun p p0 p1 => ?_⟩
  · rw [up2_ne _ _ (fun h => q1 h.1)]; exact h1 b j q1
  · by_cases hp : p = r
    · subst hp
      rw [up2_self, if_pos (by omega), hX]
    · rw [up2_ne _ _ (fun h => hp h.2), h2 p p0 p1]
      by_cases hq : p < r
      · rw [if_pos hq, if_pos (by omega)]
      · rw [if_neg hq, if_neg (by omega)]
theorem pas_skip {M : Mem} {w : Nat} {cd : CD} {hu we : Int → Int} {q : Int} {n r : Nat} {I : Nat → Int → Int} (hi : PI M w cd hu we q n r I) (h : hu r = -1000000) : PI M w cd hu we q n (r + 1) I := by
  obtain ⟨h1, h2⟩ := hi
  refine ⟨h1, fun p p0 p1 => ?_⟩
  rw [h2 p p0 p1]
  by_cases hp : p = r
  · subst hp
    rw [if_neg (by omega), if_pos (by omega), qW1, if_pos h]
  · by_cases hq : p < r
    · rw [if_pos hq, if_pos (by omega)]
    · rw [if_neg hq, if_neg (by omega)]
set_option maxRecDepth 20000 in
set_option maxHeartbeats 400000 in
theorem l_passQuarter {G : Ctx} {M : Mem} {w a : Nat} {cd : CD} (hA : WA M w) (hRc : mR M w 0 = a) (hC : CA M a) (hD : CC (mI M) a cd) (hW : WFc cd) {hu : Int → Int} (hV : HV cd hu) (hH : HC (mI M) w cd hu) {we sn : Int → Int} (hE : EC (mI M) w cd we) (hS : SC (mI M) w cd sn) (hZ : ∀ p, 0 ≤ p → p < cd 2 → sn p = 0 ∨ sn p = 1) (hw9 : ∀ p, 0 ≤ p → p < cd 2 → 0 ≤ we p ∧ we p ≤ 99) (n : Nat) (hn : cd 2 = n) (hap : a + 13 < w ∨ w + 5 < a) {g : Int} (hg : mI M w 1 = g) (g0 : 0 ≤ g) (g1 : g ≤ 999999) : ∀ (k r : Nat) (I : Nat → Int → Int), r + k = n → PI M w cd hu we (Int.tmod g 24) n r I → EV G m_X9_passQuarter 2 0 0 (rJ M (fun I => I w 1 = g + 1 ∧ (∀ b j, (b < w ∨ w + 5 < b) → I b j = mI M b j) ∧ (∀ j, I (w + 2) j = mI M (w + 2) j) ∧ EC I w cd (qW2 cd hu (qW1 cd hu we (Int.tmod g 24)) n) ∧ SC I w cd (qS2 cd hu (qW1 cd hu we (Int.tmod g 24)) sn n) ∧ ∀ p : Int, n ≤ p → I (w + 3) p = mI M (w + 3) p)) 7 [some (vR w), some (vI (Int.tmod g 24)), some (vI (r : Int))] [] (mJ M I) := by
  intro k
  induction k with
  | zero =>
    intro r I hr hi
    obtain rfl : r = n := by omega
    have hpn := hW.pn
    have hl8 := hW.ln
    have hq := tmod24 g0
    have hDI : CC I a cd := hD.off (fun b j h1 h2 => hi.1 b j (by omega))
    have hHI : HC I w cd hu := fun p h0 h1 => (hi.1 _ _ (by omega)).trans (hH p h0 h1)
    have hEI : EC I w cd (qW1 cd hu we (Int.tmod g 24)) := fun p p0 p1 => by rw [hi.2 p p0 (by omega), if_pos (by omega)]
    have hSI : SC I w cd sn := fun p p0 p1 => (hi.1 _ _ (by omega)).trans (hS p p0 p1)
    have h19 : ∀ p, 0 ≤ p → p < cd 2 → 0 ≤ (qW1 cd hu we (Int.tmod g 24)) p ∧ (qW1 cd hu we (Int.tmod g 24)) p ≤ 99 := fun p p0 p1 => qW1_b (hw9 p p0 p1)
    refine E_iload_n dX9_passQuarter_7 rfl ?_
    refine E_aload_n dX9_passQuarter_8 rfl ?_
    refine g_X9_30 rfl dX9_passQuarter_9 hA.o hRc ?_
    refine g_X9_47 rfl dX9_passQuarter_12 hC.o (hDI.pnc.trans hn) ?_
    refine E_icmp_ge (tgt := 64) dX9_passQuarter_15 (by decide) (fun h15 => ?_) (fun h15 => ?_)
    · refine E_aload_n dX9_passQuarter_64 rfl ?_
      refine i_X9_93 rfl dX9_passQuarter_65 (by exact hA.o) (c_gatherDrips (hA.j I) hRc (hC.j I) hDI hW hV hHI hEI r hn hap) (by omega) (Nat.le_of_ble_eq_true rfl) rfl rfl ?_
      rintro _ _ ⟨rfl, J, rfl, hJ1, hJ2⟩
      change EV _ _ _ _ _ _ _ _ _ (mJ M J)
      have hJ1 : ∀ b j, b ≠ w + 4 → b ≠ w + 5 → J b j = I b j := hJ1
      have hDJ : CC J a cd := hDI.off (fun b j h1 h2 => hJ1 b j (by omega) (by omega))
      have hHJ : HC J w cd hu := fun p h0 h1 => (hJ1 _ _ (by omega) (by omega)).trans (hHI p h0 h1)
      have hEJ : EC J w cd (qW1 cd hu we (Int.tmod g 24)) := fun p h0 h1 => (hJ1 _ _ (by omega) (by omega)).trans (hEI p h0 h1)
      have hSJ : SC J w cd sn := fun p h0 h1 => (hJ1 _ _ (by omega) (by omega)).trans (hSI p h0 h1)
      try dsimp only [pu]
      refine E_aload_n dX9_passQuarter_68 rfl ?_
      refine i_X9_96 rfl dX9_passQuarter_69 (by exact hA.o) (c_takeDrips (hA.j J) hRc (hC.j J) hDJ hW hV hHJ hEJ hSJ hZ h19 r hn hap (fun l l0 l1 => (hJ2 l l0 l1).1) (fun l l0 l1 => (hJ2 l l0 l1).2)) (by omega) (Nat.le_of_ble_eq_true rfl) rfl rfl ?_
      rintro _ _ ⟨rfl, K, rfl, hK1, hK2, hK3, hK4⟩
      change EV _ _ _ _ _ _ _ _ _ (mJ M K)
      have hK1 : ∀ b j, b ≠ w + 1 → b ≠ w + 3 → K b j = J b j := hK1
      have hgK : K w 1 = g := (hK1 _ _ (by omega) (by omega)).trans ((hJ1 _ _ (by omega) (by omega)).trans ((hi.1 _ _ (by omega)).trans hg))
      try dsimp only [pu]
      refine E_aload_n dX9_passQuarter_72 rfl ?_
      refine E_dup dX9_passQuarter_73 rfl ?_
      refine g_X9_34 rfl dX9_passQuarter_74 hA.o hgK ?_
      refine E_iconst dX9_passQuarter_77 (by decide) ?_
      refine E_iadd dX9_passQuarter_78 (by omega) (by omega) ?_
      refine p_X9_34 rfl dX9_passQuarter_79 hA.o ?_
      refine E_vret dX9_passQuarter_82 rfl ?_
      refine ⟨rfl, up2 K w 1 (g + 1), rfl, up2_self _ _ _ _, fun b j hb => ?_, fun j => ?_, fun p p0 p1 => ?_, fun p p0 p1 => ?_, fun p p1 => ?_⟩
      · rw [up2_ne _ _ (by omega), hK1 _ _ (by omega) (by omega), hJ1 _ _ (by omega) (by omega)]; exact hi.1 _ _ (by omega)
      · rw [up2_ne _ _ (by omega), hK1 _ _ (by omega) (by omega), hJ1 _ _ (by omega) (by omega)]; exact hi.1 _ _ (by omega)
      · rw [up2_ne _ _ (by omega)]; exact hK2 p p0 p1
      · rw [up2_ne _ _ (by omega)]; exact hK3 p p0 p1
      · rw [up2_ne _ _ (by omega)]; exact (hK4 p p1).trans ((hJ1 _ _ (by omega) (by omega)).trans (hi.1 _ _ (by omega)))
    · exfalso; omega
  | succ k ih =>
    intro r I hr hi
    have hpn := hW.pn
    have hl8 := hW.ln
    have hq := tmod24 g0
    have hDI : CC I a cd := hD.off (fun b j h1 h2 => hi.1 b j (by omega))
    have hHI : HC I w cd hu := fun p h0 h1 => (hi.1 _ _ (by omega)).trans (hH p h0 h1)
    have hv := hV r (by omega) (by omega)
    have hwr : I (w + 1) (r : Int) = we r := by have q := hi.2 r (by omega) (by omega); rw [if_neg (by omega)] at q; exact q
    have hw := hw9 r (by omega) (by omega)
    have hnu : nm1 (hu r) = if hu r = -1000000 then -1 else hu r := rfl
    have hdl := fDry_nn cd r (hu r) (Int.tmod g 24)
    have hdh := fDry_hi hW (p := r) (l := hu r) hq.1 hq.2
    refine E_iload_n dX9_passQuarter_7 rfl ?_
    refine E_aload_n dX9_passQuarter_8 rfl ?_
    refine g_X9_30 rfl dX9_passQuarter_9 hA.o hRc ?_
    refine g_X9_47 rfl dX9_passQuarter_12 hC.o (hDI.pnc.trans hn) ?_
    refine E_icmp_ge (tgt := 64) dX9_passQuarter_15 (by decide) (fun h15 => ?_) (fun h15 => ?_)
    · exfalso; omega
    · refine E_aload_n dX9_passQuarter_18 rfl ?_
      refine E_iload_n dX9_passQuarter_19 rfl ?_
      refine i_X9_54 rfl dX9_passQuarter_20 (by exact hA.o) (c_isHung (hA.j I) hW hV hHI (by omega) (by omega)) (by omega) (Nat.le_of_ble_eq_true rfl) rfl rfl ?_
      rintro _ _ ⟨rfl, rfl⟩
      try dsimp only [pu]
      refine E_if_eq (tgt := 58) dX9_passQuarter_23 (by decide) (fun h23 => ?_) (fun h23 => ?_)
      · simp only [tB0, ne_eq, Bool.not_eq_false, Bool.not_eq_true, decide_eq_true_eq, decide_eq_false_iff_not, Classical.not_not] at h23
        refine E_iinc dX9_passQuarter_58 rfl (by omega) (by omega) (by decide) rfl (by decide) ?_
        try dsimp only [List.set]
        refine E_goto (tgt := 7) dX9_passQuarter_61 (by decide) ?_
        exact EV.mq rfl rfl (ih (r + 1) I (by omega) (pas_skip hi h23))
      · simp only [tB0, ne_eq, Bool.not_eq_false, Bool.not_eq_true, decide_eq_true_eq, decide_eq_false_iff_not, Classical.not_not] at h23
        have hnn : nm1 (hu ↑r) = hu ↑r := by omega
        refine E_aload_n dX9_passQuarter_26 rfl ?_
        refine g_X9_11 rfl dX9_passQuarter_27 hA.o hA.wet ?_
        refine E_iload_n dX9_passQuarter_30 rfl ?_
        refine E_iconst dX9_passQuarter_31 (by decide) ?_
        refine E_aload_n dX9_passQuarter_32 rfl ?_
        refine g_X9_11 rfl dX9_passQuarter_33 hA.o hA.wet ?_
        refine E_iload_n dX9_passQuarter_36 rfl ?_
        refine E_iald dX9_passQuarter_37 hA.s_wet (by omega) (by omega) hwr ?_
        refine E_aload_n dX9_passQuarter_38 rfl ?_
        refine g_X9_30 rfl dX9_passQuarter_39 hA.o hRc ?_
        refine E_iload_n dX9_passQuarter_42 rfl ?_
        refine E_aload_n dX9_passQuarter_43 rfl ?_
        refine g_X9_17 rfl dX9_passQuarter_44 hA.o hA.where ?_
        refine E_iload_n dX9_passQuarter_47 rfl ?_
        refine E_iald dX9_passQuarter_48 hA.s_where (by omega) (by omega) ((hHI _ (by omega) (by omega)).trans hnn) ?_
        refine E_iload_n dX9_passQuarter_49 rfl ?_
        refine i_X9_86 rfl dX9_passQuarter_50 (by exact hC.o) (c_drying (hC.j I) hDI hW (by omega) (by omega) (by omega) (by omega) hq.1 hq.2) (by omega) (Nat.le_of_ble_eq_true rfl) rfl rfl ?_
        rintro _ _ ⟨rfl, rfl⟩
        try dsimp only [pu]
        refine E_isub dX9_passQuarter_53 (by omega) (by omega) ?_
        refine i_X9_90 rfl dX9_passQuarter_54 c_mmax (by omega) (Nat.le_of_ble_eq_true rfl) rfl rfl ?_
        rintro _ _ ⟨rfl, rfl⟩
        try dsimp only [pu]
        refine E_iast dX9_passQuarter_57 hA.s_wet (by omega) (by omega) ?_
        refine E_iinc dX9_passQuarter_58 rfl (by omega) (by omega) (by decide) rfl (by decide) ?_
        try dsimp only [List.set]
        refine E_goto (tgt := 7) dX9_passQuarter_61 (by decide) ?_
        exact EV.mq rfl rfl (ih (r + 1) _ (by omega) (pas_step (X := max 0 (we ↑r - fDry cd ↑r (hu ↑r) (Int.tmod g 24))) hi (by rw [qW1, if_neg h23])))
set_option maxRecDepth 20000 in
set_option maxHeartbeats 400000 in
theorem c_passQuarter {G : Ctx} {M : Mem} {w a : Nat} {cd : CD} (hA : WA M w) (hRc : mR M w 0 = a) (hC : CA M a) (hD : CC (mI M) a cd) (hW : WFc cd) {hu : Int → Int} (hV : HV cd hu) (hH : HC (mI M) w cd hu) {we sn : Int → Int} (hE : EC (mI M) w cd we) (hS : SC (mI M) w cd sn) (hZ : ∀ p, 0 ≤ p → p < cd 2 → sn p = 0 ∨ sn p = 1) (hw9 : ∀ p, 0 ≤ p → p < cd 2 → 0 ≤ we p ∧ we p ≤ 99) (n : Nat) (hn : cd 2 = n) (hap : a + 13 < w ∨ w + 5 < a) {g : Int} (hg : mI M w 1 = g) (g0 : 0 ≤ g) (g1 : g ≤ 999999) : CT G m_X9_passQuarter 2 0 0 [vR w] M (rJ M (fun I => I w 1 = g + 1 ∧ (∀ b j, (b < w ∨ w + 5 < b) → I b j = mI M b j) ∧ (∀ j, I (w + 2) j = mI M (w + 2) j) ∧ EC I w cd (qW2 cd hu (qW1 cd hu we (Int.tmod g 24)) n) ∧ SC I w cd (qS2 cd hu (qW1 cd hu we (Int.tmod g 24)) sn n) ∧ ∀ p : Int, n ≤ p → I (w + 3) p = mI M (w + 3) p)) := by
  refine CT.of k_X9_passQuarter 2 (ls := [some (vR w), none, none]) rfl (Nat.le_of_ble_eq_true rfl) ?_
  refine E_aload_n dX9_passQuarter_0 rfl ?_
  refine i_X9_67 rfl dX9_passQuarter_1 (by exact hA.o) (c_quarterNow hA hg g0 (by omega)) (by omega) (Nat.le_of_ble_eq_true rfl) rfl rfl ?_
  rintro _ _ ⟨rfl, rfl⟩
  try dsimp only [pu]
  refine E_istore_n dX9_passQuarter_4 rfl (by decide) ?_
  try dsimp only [List.set]
  refine E_iconst dX9_passQuarter_5 (by decide) ?_
  refine E_istore_n dX9_passQuarter_6 rfl (by decide) ?_
  try dsimp only [List.set]
  exact l_passQuarter hA hRc hC hD hW hV hH hE hS hZ hw9 n hn hap hg g0 g1 n 0 (mI M) (by omega) ⟨fun _ _ _ => rfl, fun p p0 p1 => by rw [if_neg (by omega)]; exact hE p p0 (by omega)⟩
