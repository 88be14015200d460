/-! ===== 60: plans of the class: planPiece, leastTimeAlone ===== -/
set_option maxRecDepth 20000 in
set_option maxHeartbeats 3000000 in
theorem c_ppS {G : Ctx} {A : AS} {B : Int} (hG : GA A B) (hB : B ≤ 900000) {a : Nat} (np : Nat) (hn : A 4 2 = np) (rn : Nat) (hrn : A 4 1 = rn) (L : Nat) (hL : A 4 0 = L) (n : Nat) (n4 : n ≤ 4) (nn : n ≤ np) {p m : Nat} {M0 : Mem} (e : p + (m + 1) = n) (hIH : ∀ m2, m = m2 + 1 → PPC G A a np rn L n (p + 1) m2 M0) : PPC G A a np rn L n p m M0 := by
  intro P hu M hP hPR hS hH hV hJ hBB
  refine CT.of k_X11_planPiece 2 (ls := [some (vR 21), some (vI (p : Int)), some (vI (n : Int)), none, none]) rfl (Nat.le_of_ble_eq_true rfl) ?_
  refine E_iload_n dX11_planPiece_0 rfl ?_
  refine E_iload_n dX11_planPiece_1 rfl ?_
  refine E_icmp_ge (tgt := 10) dX11_planPiece_2 (by decide) (fun h2 => ?_) (fun h2 => ?_)
  · exfalso; omega
  · refine E_iload_n dX11_planPiece_5 rfl ?_
    refine E_iconst dX11_planPiece_6 (by decide) ?_
    refine E_icmp_lt (tgt := 11) dX11_planPiece_7 (by decide) (fun h7 => ?_) (fun h7 => ?_)
    · refine E_iconst dX11_planPiece_11 (by decide) ?_
      refine E_istore_n dX11_planPiece_12 rfl (by decide) ?_
      try dsimp only [List.set]
      exact EV.lq rfl (l_pp hG hB np hn rn hrn L hL n n4 nn e hP hPR hS hH hV hIH L 0 M none (by omega) ⟨hJ, by rw [rowZ]; exact hBB⟩)
    · exfalso; omega
theorem c_pp {G : Ctx} {A : AS} {B : Int} (hG : GA A B) (hB : B ≤ 900000) {a : Nat} (np : Nat) (hn : A 4 2 = np) (rn : Nat) (hrn : A 4 1 = rn) (L : Nat) (hL : A 4 0 = L) (n : Nat) (n4 : n ≤ 4) (nn : n ≤ np) {M0 : Mem} : ∀ m p : Nat, p + (m + 1) = n → PPC G A a np rn L n p m M0
  | 0, p, e => c_ppS hG hB np hn rn hrn L hL n n4 nn e (fun m2 h => by omega)
  | m + 1, p, e => c_ppS hG hB np hn rn hrn L hL n n4 nn e (fun m2 h => by
      obtain rfl : m = m2 := by omega
      exact c_pp hG hB np hn rn hrn L hL n n4 nn m (p + 1) (by omega))
set_option maxRecDepth 20000 in
set_option maxHeartbeats 3000000 in
theorem c_lta {G : Ctx} {A : AS} {B : Int} (hG : GA A B) (hB : B ≤ 900000) {a : Nat} (n : Nat) (hn : A 4 2 = n) (rn : Nat) (hrn : A 4 1 = rn) (L : Nat) (hL : A 4 0 = L) {p : Int} (p0 : 0 ≤ p ∧ p ≤ 3) (p1 : p < n) {M0 M : Mem} (h : PL A a (cHu (A 4)) M0 M) : CT G m_X11_leastTimeAlone 4 0 0 [vR 21, vI p] M (fun x M' => x = some (vI (nmE (taE (A 4) (cHu (A 4)) n rn p) L)) ∧ PL A a (cHu (A 4)) M0 M' ∧ (∀ j, mI M' 21 j = mI M 21 j) ∧ (∀ l : Int, 0 ≤ l → l < L → mI M' 32 (p * 8 + l) = taE (A 4) (cHu (A 4)) n rn p l) ∧ ∀ j : Int, j < p * 8 ∨ p * 8 + 8 ≤ j → mI M' 32 j = mI M 32 j) := by
  refine CT.of k_X11_leastTimeAlone 3 (ls := [some (vR 21), some (vI p), none, none, none]) rfl (Nat.le_of_ble_eq_true rfl) ?_
  refine E_bipush dX11_leastTimeAlone_0 (by decide) ?_
  refine E_istore_n dX11_leastTimeAlone_2 rfl (by decide) ?_
  try dsimp only [List.set]
  refine E_iconst dX11_leastTimeAlone_3 (by decide) ?_
  refine E_istore_n dX11_leastTimeAlone_4 rfl (by decide) ?_
  try dsimp only [List.set]
  refine EV.post (fun x M' hq => ?_) (l_lta hG hB n hn rn hrn L hL p0 p1 (M0 := M) L 0 M none (by omega) ⟨⟨h.1, FX.rfl' M, h.2.2⟩, fun _ => rfl, fun l l0 l1 => by omega, fun _ _ => rfl⟩)
  exact ⟨hq.1, ⟨hq.2.1.1, h.2.1.tr hq.2.1.2.1, hq.2.1.2.2⟩, hq.2.2⟩
