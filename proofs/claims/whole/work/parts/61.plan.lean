/-! ===== 61: plans of the class: findPlan ===== -/
theorem WR.dr {M : Mem} {a : Nat} {cd : CD} (h : WR M 65 cd) (ha : mR M 65 0 = a) : DR M a cd (cHu cd) := by
  obtain ⟨a2, q1, q2, q3, q4, q5, q6, q7, q8, q9, q10⟩ := h
  obtain rfl : a = a2 := ha.symm.trans q1
  exact ⟨q1, q2, q3, q4, q5, q6, q7, q8, q9, q10⟩
set_option maxRecDepth 20000 in
set_option maxHeartbeats 3000000 in
theorem l_fp {G : Ctx} {A : AS} {B : Int} (hG : GA A B) (hB : B ≤ 900000) {a : Nat} (np : Nat) (hn : A 4 2 = np) (rn : Nat) (hrn : A 4 1 = rn) (L : Nat) (hL : A 4 0 = L) (n : Nat) (n4 : n ≤ 4) (nn : n ≤ np) {M0 : Mem} {Q : Option MV → Mem → Prop} (K : ∀ M, (PL A a (cHu (A 4)) M0 M ∧ mI M 21 12 = 49 ∧ mI M 21 11 = lxE (fun q : Nat => nmE (taE (A 4) (cHu (A 4)) np rn q) L) n ∧ ∀ q l : Int, 0 ≤ q → q < n → 0 ≤ l → l < L → mI M 32 (q * 8 + l) = taE (A 4) (cHu (A 4)) np rn q l) → EV G m_X11_findPlan 11 0 0 Q 51 [some (vR 21), some (vI (n : Int)), some (vI (n : Int))] [] M) : ∀ (k r : Nat) (M : Mem), r + k = n → (PL A a (cHu (A 4)) M0 M ∧ mI M 21 12 = 49 ∧ mI M 21 11 = lxE (fun q : Nat => nmE (taE (A 4) (cHu (A 4)) np rn q) L) r ∧ ∀ q l : Int, 0 ≤ q → q < r → 0 ≤ l → l < L → mI M 32 (q * 8 + l) = taE (A 4) (cHu (A 4)) np rn q l) → EV G m_X11_findPlan 11 0 0 (Q) 24 [some (vR 21), some (vI (n : Int)), some (vI (r : Int))] [] M := by
  intro k
  induction k with
  | zero =>
    intro r M hr hi
    obtain rfl : r = n := by omega
    have hW := hG.w.c
    have hgg := hG.w.g
    have hpn := hW.pn
    have hl8 := hW.ln
    have hX := hi.1.1.1
    refine E_iload_n dX11_findPlan_24 rfl ?_
    refine E_iload_n dX11_findPlan_25 rfl ?_
    refine E_icmp_ge (tgt := 51) dX11_findPlan_26 (by decide) (fun h26 => ?_) (fun h26 => ?_)
    · exact K M hi
    · exfalso; omega
  | succ k ih =>
    intro r M hr hi
    have hW := hG.w.c
    have hgg := hG.w.g
    have hpn := hW.pn
    have hl8 := hW.ln
    have hX := hi.1.1.1
    refine E_iload_n dX11_findPlan_24 rfl ?_
    refine E_iload_n dX11_findPlan_25 rfl ?_
    refine E_icmp_ge (tgt := 51) dX11_findPlan_26 (by decide) (fun h26 => ?_) (fun h26 => ?_)
    · exfalso; omega
    · refine E_aload_n dX11_findPlan_29 rfl ?_
      refine E_aload_n dX11_findPlan_30 rfl ?_
      refine g_X11_322 rfl dX11_findPlan_31 hX.o hi.2.2.1 ?_
      refine E_aload_n dX11_findPlan_34 rfl ?_
      refine E_iload_n dX11_findPlan_35 rfl ?_
      refine i_X11_325 rfl dX11_findPlan_36 (by exact hX.o) (c_lta hG hB np hn rn hrn L hL (p := (r : Int)) (by omega) (by omega) hi.1) (by omega) (Nat.le_of_ble_eq_true rfl) rfl rfl ?_
      rintro _ M2 ⟨rfl, hP2, h21, h32, h33⟩
      have hX := hP2.1.1
      try dsimp only [pu]
      refine i_X11_328 rfl dX11_findPlan_39 c_mmax (by omega) (Nat.le_of_ble_eq_true rfl) rfl rfl ?_
      rintro _ _ ⟨rfl, rfl⟩
      try dsimp only [pu]
      refine p_X11_322 rfl dX11_findPlan_42 hX.o ?_
      refine E_iinc dX11_findPlan_45 rfl (by omega) (by omega) (by decide) rfl (by decide) ?_
      try dsimp only [List.set]
      refine E_goto (tgt := 24) dX11_findPlan_48 (by decide) ?_
      have e : lxE (fun q : Nat => nmE (taE (A 4) (cHu (A 4)) np rn q) L) (r + 1) = max (lxE (fun q : Nat => nmE (taE (A 4) (cHu (A 4)) np rn q) L) r) (nmE (taE (A 4) (cHu (A 4)) np rn r) L) := rfl
      refine EV.lq rfl (ih (r + 1) _ (by omega) ⟨hP2.w (b0 := 21) (j0 := 11) (by omega), (mI_ne (by omega)).trans ((h21 12).trans hi.2.1), by rw [e]; exact mI_eq, fun q l q0 q1 l0 l1 => (mI_ne (by omega)).trans ?_⟩)
      by_cases eq : q = r
      · rw [eq]; exact h32 l l0 l1
      · exact (h33 _ (by omega)).trans (hi.2.2.2 q l q0 (by omega) l0 l1)
set_option maxRecDepth 20000 in
set_option maxHeartbeats 3000000 in
theorem c_fp {G : Ctx} {A : AS} {M : Mem} (hI : CI M A) {B : Int} (hG : GA A B) (hB : B ≤ 900000) {a : Nat} (hRc : mR M 47 0 = a) (np : Nat) (hn : A 4 2 = np) (rn : Nat) (hrn : A 4 1 = rn) (L : Nat) (hL : A 4 0 = L) (n : Nat) (n4 : n ≤ 4) (nn : n ≤ np) (n1 : 1 ≤ n) : CT G m_X11_findPlan 11 0 0 [vR 21, vI (n : Int)] M (fun x M' => x = none ∧ PL A a (cHu (A 4)) M M' ∧ BB A np rn L n (L ^ n) M') := by
  refine CT.of k_X11_findPlan 1 (ls := [some (vR 21), some (vI (n : Int)), none]) rfl (Nat.le_of_ble_eq_true rfl) ?_
  have hW := hG.w.c
  have hgg := hG.w.g
  have hpn := hW.pn
  have hl8 := hW.ln
  have hX := hI.1
  obtain ⟨a2, y1, y2, y3, y4, y5, y6, y7, y8, y9, hZ⟩ := id hI.2.2.2.2.2.2.1
  obtain rfl : a = a2 := hRc.symm.trans y1
  refine E_aload_n dX11_findPlan_0 rfl ?_
  refine g_X11_58 rfl dX11_findPlan_1 hX.o hX.draft ?_
  refine E_aload_n dX11_findPlan_4 rfl ?_
  refine g_X11_48 rfl dX11_findPlan_5 hX.o hX.wash ?_
  refine i_X11_182 rfl dX11_findPlan_8 (by exact hX.w3.o) (c_become (by exact hX.w3) (by exact hX.w0) hRc (by omega) (by omega) (by exact hZ)) (by omega) (Nat.le_of_ble_eq_true rfl) rfl rfl ?_
  rintro _ _ ⟨rfl, I, rfl, hb⟩
  have hWt : WR (mK M 65 a I) 65 (A 4) := WR.become hI.2.2.2.2.2.2.1 hRc (by omega) (by omega) hb
  have hPL : PL A a (cHu (A 4)) M (mK M 65 a I) := ⟨hI.kt (Or.inl rfl) hb.2.2, FX.k (by omega) hb.2.2, hWt.dr mR_wr0⟩
  have hX := hPL.1.1
  try dsimp only [pu]
  refine E_aload_n dX11_findPlan_11 rfl ?_
  refine E_bipush dX11_findPlan_12 (by decide) ?_
  refine p_X11_240 rfl dX11_findPlan_14 hX.o ?_
  refine E_aload_n dX11_findPlan_17 rfl ?_
  refine E_iconst dX11_findPlan_18 (by decide) ?_
  refine p_X11_322 rfl dX11_findPlan_19 hX.o ?_
  refine E_iconst dX11_findPlan_22 (by decide) ?_
  refine E_istore_n dX11_findPlan_23 rfl (by decide) ?_
  try dsimp only [List.set]
  refine l_fp hG hB np hn rn hrn L hL n n4 nn (M0 := M) (fun Mf hi => ?_) n 0 _ (by omega) ⟨(hPL.w (b0 := 21) (j0 := 12) (by omega)).w (b0 := 21) (j0 := 11) (by omega), (mI_ne (by omega)).trans mI_eq, mI_eq, fun q l q0 q1 l0 l1 => by omega⟩
  have hX := hi.1.1.1
  obtain ⟨m, hm⟩ : ∃ m, n = m + 1 := ⟨n - 1, by omega⟩
  have hc : CT G m_X11_planPiece (4 + 2 * m) 0 0 [vR 21, vI 0, vI (n : Int)] Mf (fun x M' => x = none ∧ PJ A a np rn L n 0 0 (cHu (A 4)) M M' ∧ BB A np rn L n ((0 + 1) * L ^ (m + 1)) M') := c_pp hG hB np hn rn hrn L hL n n4 nn m 0 (by omega) 0 (cHu (A 4)) Mf (by rw [Nat.pow_zero]; exact Nat.le_refl _) (PRE.nil _ _ _ _ _ _) (SubH.rfl' _ _) (HG.nil _) hG.w.hv ⟨hi.1, hi.2.2.1, fun q l q0 q1 l0 l1 => hi.2.2.2 q l q0 q1 l0 l1, fun k hk => by omega⟩ ⟨by rw [Nat.zero_mul, hi.2.1]; exact BST.nil _ _ _ _, by rw [hi.2.1]; decide⟩
  refine E_aload_n dX11_findPlan_51 rfl ?_
  refine E_iconst dX11_findPlan_52 (by decide) ?_
  refine E_iload_n dX11_findPlan_53 rfl ?_
  refine i_X11_333 rfl dX11_findPlan_54 (by exact hX.o) hc (by omega) (Nat.le_of_ble_eq_true rfl) rfl rfl ?_
  rintro _ M3 ⟨rfl, hI3, hB3⟩
  rw [← hm, Nat.zero_add, Nat.one_mul] at hB3
  try dsimp only [pu]
  refine E_vret dX11_findPlan_57 rfl ?_
  exact ⟨rfl, hI3.1, hB3⟩
