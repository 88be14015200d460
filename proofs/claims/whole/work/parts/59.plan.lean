/-! ===== 59: plans of the class: piece by piece ===== -/
/-- what planning keeps: the class, the lower bounds, the lines tried so far -/
def PJ (A : AS) (a np rn L n p P : Nat) (hu : Int → Int) (M0 M : Mem) : Prop := PL A a hu M0 M ∧ mI M 21 11 = (lxE (fun q => nmE (taE (A 4) (cHu (A 4)) np rn q) L) n) ∧ (∀ q l : Int, 0 ≤ q → q < n → 0 ≤ l → l < L → mI M 32 (q * 8 + l) = taE (A 4) (cHu (A 4)) np rn q l) ∧ TL L p P (mI M 30)
/-- the rows before R are done -/
def BB (A : AS) (np rn L n R : Nat) (M : Mem) : Prop := BST (dL (A 4) np rn n L n 0 (cHu (A 4))) L n R (mI M 21 12) (mI M 31) ∧ 0 ≤ mI M 21 12
/-- what planPiece does for the pieces from p on, m + 1 of them -/
def PPC (G : Ctx) (A : AS) (a np rn L n p m : Nat) (M0 : Mem) : Prop := ∀ (P : Nat) (hu : Int → Int) (M : Mem), P + 1 ≤ L ^ p → PRE (A 4) np rn n L (cHu (A 4)) p P hu → SubH np (cHu (A 4)) hu → HG p hu → HV (A 4) hu → PJ A a np rn L n p P hu M0 M → BB A np rn L n (P * L ^ (m + 1)) M → CT G m_X11_planPiece (4 + 2 * m) 0 0 [vR 21, vI (p : Int), vI (n : Int)] M (fun r M' => r = none ∧ PJ A a np rn L n p P hu M0 M' ∧ BB A np rn L n ((P + 1) * L ^ (m + 1)) M')
theorem rowT (P L m : Nat) : (P * L + L) * L ^ m = (P + 1) * L ^ (m + 1) := by
  rw [show P * L + L = (P + 1) * L by rw [Nat.add_mul, Nat.one_mul], Nat.mul_assoc, Nat.pow_succ, Nat.mul_comm L]
theorem rowZ (P L m : Nat) : (P * L + 0) * L ^ m = P * L ^ (m + 1) := by
  rw [Nat.add_zero, Nat.mul_assoc, Nat.pow_succ, Nat.mul_comm L]
theorem rowB {P L p r : Nat} (h : P + 1 ≤ L ^ p) (hr : r < L) : P * L + r + 1 ≤ L ^ (p + 1) := by
  have a := Nat.mul_le_mul_right L h
  rw [Nat.add_mul, Nat.one_mul] at a
  rw [Nat.pow_succ]; omega
theorem TL.lo {L p P l : Nat} (hl : l < L) {tl : Int → Int} (h : TL L (p + 1) (P * L + l) tl) : TL L p P tl := fun k hk => by
  rw [h k (by omega), show p + 1 - 1 - k = (p - 1 - k) + 1 by omega, Nat.pow_succ, Nat.mul_comm (L ^ (p - 1 - k)) L, ← Nat.div_div_eq_div_mul, Nat.mul_comm P L, Nat.mul_add_div (by omega), Nat.div_eq_of_lt hl, Nat.add_zero]
theorem PL.j {A : AS} {a : Nat} {hu : Int → Int} {M0 M : Mem} (h : PL A a hu M0 M) {I : AS} (hI : ∀ b j, b ≠ 30 → b ≠ 31 → b ≠ 32 → ¬ (b = 21 ∧ (j = 11 ∨ j = 12)) → I b j = mI M b j) : PL A a hu M0 (mJ M I) := ⟨h.1.dt (fun b j q1 q2 q3 q4 q5 => hI b j q2 q3 q4 q5), h.2.1.j (fun b j b1 b2 => hI b j (by omega) (by omega) (by omega) (by omega)), h.2.2.o (fun b j hq => hI b j (by omega) (by omega) (by omega) (by omega))⟩
theorem pp_leaf {A : AS} {a np rn L n p P r m : Nat} {hu2 : Int → Int} {M0 M2 : Mem} {tm : Int} (hI : PJ A a np rn L n (p + 1) (P * L + r) hu2 M0 M2) (hB : BB A np rn L n ((P * L + r) * L ^ m) M2) (e : p + 1 = n) (hm : m = 0) (hd : (dL (A 4) np rn n L n 0 (cHu (A 4))) (P * L + r) = tm) (ht : tm < mI M2 21 12) (t0 : 0 ≤ tm) : PJ A a np rn L n (p + 1) (P * L + r) hu2 M0 (mJ (mWI M2 21 12 tm) (mov (mI (mWI M2 21 12 tm)) 31 30 0 0 n)) ∧ BB A np rn L n ((P * L + (r + 1)) * L ^ m) (mJ (mWI M2 21 12 tm) (mov (mI (mWI M2 21 12 tm)) 31 30 0 0 n)) := by
  subst hm
  rw [Nat.pow_zero, Nat.mul_one] at hB
  rw [Nat.pow_zero, Nat.mul_one]
  have f1 : ∀ b j, b ≠ 31 → ¬ (b = 21 ∧ j = 12) → mov (mI (mWI M2 21 12 tm)) 31 30 0 0 n b j = mI M2 b j := fun b j h1 h2 => (mov_ne _ (by omega)).trans (mI_ne (by omega))
  have f2 : mov (mI (mWI M2 21 12 tm)) 31 30 0 0 n 21 12 = tm := (mov_ne _ (by omega)).trans mI_eq
  have f3 : ∀ k : Nat, k < n → mov (mI (mWI M2 21 12 tm)) 31 30 0 0 n 31 k = mI M2 30 k := fun k hk => by
    unfold mov
    rw [if_pos ⟨rfl, by omega, by omega⟩, show (k : Int) - 0 + 0 = k by omega]
    exact mI_ne (by omega)
  refine ⟨⟨(hI.1.w (b0 := 21) (j0 := 12) (x := tm) (by omega)).j (fun b j h1 h2 h3 h4 => mov_ne _ (by omega)), (f1 _ _ (by omega) (by omega)).trans hI.2.1, fun q l q0 q1 l0 l1 => (f1 _ _ (by omega) (by omega)).trans (hI.2.2.1 q l q0 q1 l0 l1), fun k hk => (f1 _ _ (by omega) (by omega)).trans (hI.2.2.2 k hk)⟩, ?_, ?_⟩
  · show BST _ L n _ (mov (mI (mWI M2 21 12 tm)) 31 30 0 0 n 21 12) (mov (mI (mWI M2 21 12 tm)) 31 30 0 0 n 31)
    rw [f2, ← hd]
    refine hB.1.put (R := P * L + r) (by rw [hd]; exact ht) (fun k hk => (f3 k hk).trans ?_)
    have z := hI.2.2.2 k (by omega)
    rw [show p + 1 - 1 - k = n - 1 - k by omega] at z
    exact z
  · show 0 ≤ mov (mI (mWI M2 21 12 tm)) 31 30 0 0 n 21 12
    rw [f2]; exact t0
set_option maxRecDepth 20000 in
set_option maxHeartbeats 3000000 in
theorem l_pp116 {G : Ctx} {d : Nat} {Q : Option MV → Mem → Prop} (hd : 1 ≤ d) {M : Mem} (hX : XO M) {p n r : Int} (p0 : 0 ≤ p ∧ p < 10) (r0 : 0 ≤ r ∧ r < 10) {z4 : Option MV} (K : EV G m_X11_planPiece d 0 0 Q 13 [some (vR 21), some (vI p), some (vI n), some (vI (r + 1)), z4] [] (mWI M (65 + 2) p (-1))) : EV G m_X11_planPiece d 0 0 Q 116 [some (vR 21), some (vI p), some (vI n), some (vI r), z4] [] M := by
  refine E_aload_n dX11_planPiece_116 rfl ?_
  refine g_X11_58 rfl dX11_planPiece_117 hX.o hX.draft ?_
  refine E_iload_n dX11_planPiece_120 rfl ?_
  refine i_X11_155 rfl dX11_planPiece_121 (by exact hX.w3.o) (c_takeDown (by exact hX.w3) (by omega) (by omega)) (by omega) (Nat.le_of_ble_eq_true rfl) rfl rfl ?_
  rintro _ _ ⟨rfl, rfl⟩
  try dsimp only [pu]
  refine E_pop dX11_planPiece_124 rfl ?_
  refine E_iinc dX11_planPiece_125 rfl (by omega) (by omega) (by decide) rfl (by decide) ?_
  try dsimp only [List.set]
  refine E_goto (tgt := 13) dX11_planPiece_128 (by decide) ?_
  exact K
theorem pp_down {A : AS} {a np rn L n p P r R : Nat} {hu : Int → Int} {M0 M3 : Mem} (hr : r < L) (hI3 : PJ A a np rn L n (p + 1) (P * L + r) (upH hu p r) M0 M3) (hB3 : BB A np rn L n R M3) (hp : hu p = -1000000) : PJ A a np rn L n p P hu M0 (mWI M3 (65 + 2) p (-1)) ∧ BB A np rn L n R (mWI M3 (65 + 2) p (-1)) := by
  refine ⟨⟨hI3.1.down hp, (mI_ne (by omega)).trans hI3.2.1, fun q l q0 q1 l0 l1 => (mI_ne (by omega)).trans (hI3.2.2.1 q l q0 q1 l0 l1), fun k hk => (mI_ne (by omega)).trans (TL.lo hr hI3.2.2.2 k hk)⟩, ?_⟩
  unfold BB
  rw [show mI (mWI M3 (65 + 2) p (-1)) 21 12 = mI M3 21 12 from mI_ne (by omega), show mI (mWI M3 (65 + 2) p (-1)) 31 = mI M3 31 from funext fun j => mI_ne (by omega)]
  exact hB3
set_option maxRecDepth 20000 in
set_option maxHeartbeats 3000000 in
theorem c_kg {G : Ctx} {A : AS} {B : Int} (hG : GA A B) (hB : B ≤ 900000) {a : Nat} (np : Nat) (hn : A 4 2 = np) (rn : Nat) (hrn : A 4 1 = rn) (L : Nat) (hL : A 4 0 = L) (n : Nat) (n4 : n ≤ 4) (nn : n ≤ np) {p P m : Nat} {hu : Int → Int} {M0 : Mem} (e : p + (m + 1) = n) (hP : P + 1 ≤ L ^ p) (hPR : PRE (A 4) np rn n L (cHu (A 4)) p P hu) (hS : SubH np (cHu (A 4)) hu) (hH : HG p hu) (hV : HV (A 4) hu) (hIH : ∀ m2, m = m2 + 1 → PPC G A a np rn L n (p + 1) m2 M0) {r : Nat} (hrL : r < L) {M2 : Mem} {tm : Int} (hr0 : fRef (A 4) hu (A 4 3) p r np rn = 0) (hPI : PJ A a np rn L n (p + 1) (P * L + r) (upH hu p r) M0 M2) (hBB : BB A np rn L n ((P * L + r) * L ^ m) M2) (htm : tm = tmD (A 4) (upH hu p r) np 0 (p + 1)) (ht : tm < mI M2 21 12) : CT G m_X11_keepOrGoOn (3 + 2 * m) 0 0 [vR 21, vI (p : Int), vI (n : Int), vI tm] M2 (fun x M' => x = none ∧ PJ A a np rn L n (p + 1) (P * L + r) (upH hu p r) M0 M' ∧ BB A np rn L n ((P * L + (r + 1)) * L ^ m) M') := by
  refine CT.of k_X11_keepOrGoOn 0 (ls := [some (vR 21), some (vI (p : Int)), some (vI (n : Int)), some (vI tm)]) rfl (Nat.le_of_ble_eq_true rfl) ?_
  have hW := hG.w.c
  have hgg := hG.w.g
  have hpn := hW.pn
  have hl8 := hW.ln
  have hX := hPI.1.1.1
  refine E_iload_n dX11_keepOrGoOn_0 rfl ?_
  refine E_iload_n dX11_keepOrGoOn_1 rfl ?_
  refine E_iconst dX11_keepOrGoOn_2 (by decide) ?_
  refine E_isub dX11_keepOrGoOn_3 (by omega) (by omega) ?_
  refine E_icmp_ge (tgt := 18) dX11_keepOrGoOn_4 (by decide) (fun h4 => ?_) (fun h4 => ?_)
  · refine E_aload_n dX11_keepOrGoOn_18 rfl ?_
    refine E_iload_n dX11_keepOrGoOn_19 rfl ?_
    refine p_X11_240 rfl dX11_keepOrGoOn_20 hX.o ?_
    refine E_aload_n dX11_keepOrGoOn_23 rfl ?_
    refine g_X11_30 rfl dX11_keepOrGoOn_24 hX.o hX.triedLines ?_
    refine E_iconst dX11_keepOrGoOn_27 (by decide) ?_
    refine E_aload_n dX11_keepOrGoOn_28 rfl ?_
    refine g_X11_34 rfl dX11_keepOrGoOn_29 hX.o hX.bestLines ?_
    refine E_iconst dX11_keepOrGoOn_32 (by decide) ?_
    refine E_iload_n dX11_keepOrGoOn_33 rfl ?_
    refine E_acopy (na := 4) (nb := 4) dX11_keepOrGoOn_34 qa_cw (by exact hX.s8) (by exact hX.s9) (by omega) (by omega) (by omega) (by omega) (by omega) (by omega) (Nat.le_of_ble_eq_true rfl) ?_
    have hen : p + 1 = n := by omega
    have hlf := hPR.leaf (l := r) (by omega) hen hr0
    have htb := tmD_b (A 4) (upH hu p r) np 0 (p + 1)
    obtain ⟨hI3, hB3⟩ := pp_leaf (tm := tm) hPI hBB hen (by omega) (by rw [htm, hen]; exact hlf) (by omega) (by omega)
    refine E_vret dX11_keepOrGoOn_37 rfl ?_
    exact ⟨rfl, hI3, hB3⟩
  · obtain ⟨m2, hm2⟩ : ∃ m2, m = m2 + 1 := ⟨m - 1, by omega⟩
    have hc : CT G m_X11_planPiece (4 + 2 * m2) 0 0 [vR 21, vI ((p : Int) + 1), vI (n : Int)] M2 (fun x M' => x = none ∧ PJ A a np rn L n (p + 1) (P * L + r) (upH hu p r) M0 M' ∧ BB A np rn L n ((P * L + r + 1) * L ^ (m2 + 1)) M') := by
      have z := hIH m2 hm2 (P * L + r) (upH hu p r) M2 (rowB hP (by omega)) (hPR.step (by omega) hr0) (hS.tr (SubH.up (fRef_h hr0) _)) (hH.up (by omega)) (hV.up ⟨by omega, by omega⟩) hPI (by rw [← hm2]; exact hBB)
      rw [show ((p + 1 : Nat) : Int) = (p : Int) + 1 by omega] at z
      exact z
    refine E_aload_n dX11_keepOrGoOn_7 rfl ?_
    refine E_iload_n dX11_keepOrGoOn_8 rfl ?_
    refine E_iconst dX11_keepOrGoOn_9 (by decide) ?_
    refine E_iadd dX11_keepOrGoOn_10 (by omega) (by omega) ?_
    refine E_iload_n dX11_keepOrGoOn_11 rfl ?_
    refine i_X11_333 rfl dX11_keepOrGoOn_12 (by exact hX.o) hc (by omega) (Nat.le_of_ble_eq_true rfl) rfl rfl ?_
    rintro _ M3 ⟨rfl, hI3, hB3⟩
    rw [← hm2] at hB3
    try dsimp only [pu]
    refine E_goto (tgt := 37) dX11_keepOrGoOn_15 (by decide) ?_
    refine E_vret dX11_keepOrGoOn_37 rfl ?_
    exact ⟨rfl, hI3, hB3⟩
set_option maxRecDepth 20000 in
set_option maxHeartbeats 3000000 in
theorem l_pp {G : Ctx} {A : AS} {B : Int} (hG : GA A B) (hB : B ≤ 900000) {a : Nat} (np : Nat) (hn : A 4 2 = np) (rn : Nat) (hrn : A 4 1 = rn) (L : Nat) (hL : A 4 0 = L) (n : Nat) (n4 : n ≤ 4) (nn : n ≤ np) {p P m : Nat} {hu : Int → Int} {M0 : Mem} (e : p + (m + 1) = n) (hP : P + 1 ≤ L ^ p) (hPR : PRE (A 4) np rn n L (cHu (A 4)) p P hu) (hS : SubH np (cHu (A 4)) hu) (hH : HG p hu) (hV : HV (A 4) hu) (hIH : ∀ m2, m = m2 + 1 → PPC G A a np rn L n (p + 1) m2 M0) : ∀ (k r : Nat) (M : Mem) (z4 : Option MV), r + k = L → (PJ A a np rn L n p P hu M0 M ∧ BB A np rn L n ((P * L + r) * L ^ m) M) → EV G m_X11_planPiece (4 + 2 * m) 0 0 (fun x M' => x = none ∧ PJ A a np rn L n p P hu M0 M' ∧ BB A np rn L n ((P + 1) * L ^ (m + 1)) M') 13 [some (vR 21), some (vI (p : Int)), some (vI (n : Int)), some (vI (r : Int)), z4] [] M := by
  intro k
  induction k with
  | zero =>
    intro r M z4 hr hi
    obtain rfl : r = L := by omega
    have hW := hG.w.c
    have hgg := hG.w.g
    have hpn := hW.pn
    have hl8 := hW.ln
    have hX := hi.1.1.1.1
    obtain ⟨k1, k2, k3, k4, k5, k6, k7, k8, k9, k10⟩ := id hi.1.1.2.2
    have hb49 := hi.2.1.1
    have hb0 := hi.2.2
    refine E_iload_n dX11_planPiece_13 rfl ?_
    refine E_aload_n dX11_planPiece_14 rfl ?_
    refine g_X11_58 rfl dX11_planPiece_15 hX.o hX.draft ?_
    refine g_X11_168 rfl dX11_planPiece_18 hX.w3.o k1 ?_
    refine g_X11_131 rfl dX11_planPiece_21 k2.o (k5.lnc.trans hL) ?_
    refine E_icmp_ge (tgt := 131) dX11_planPiece_24 (by decide) (fun h24 => ?_) (fun h24 => ?_)
    · refine E_vret dX11_planPiece_131 rfl ?_
      exact ⟨rfl, hi.1, by rw [← rowT]; exact hi.2⟩
    · exfalso; omega
  | succ k ih =>
    intro r M z4 hr hi
    have hW := hG.w.c
    have hgg := hG.w.g
    have hpn := hW.pn
    have hl8 := hW.ln
    have hX := hi.1.1.1.1
    obtain ⟨k1, k2, k3, k4, k5, k6, k7, k8, k9, k10⟩ := id hi.1.1.2.2
    have hb49 := hi.2.1.1
    have hb0 := hi.2.2
    refine E_iload_n dX11_planPiece_13 rfl ?_
    refine E_aload_n dX11_planPiece_14 rfl ?_
    refine g_X11_58 rfl dX11_planPiece_15 hX.o hX.draft ?_
    refine g_X11_168 rfl dX11_planPiece_18 hX.w3.o k1 ?_
    refine g_X11_131 rfl dX11_planPiece_21 k2.o (k5.lnc.trans hL) ?_
    refine E_icmp_ge (tgt := 131) dX11_planPiece_24 (by decide) (fun h24 => ?_) (fun h24 => ?_)
    · exfalso; omega
    · refine E_aload_n dX11_planPiece_27 rfl ?_
      refine g_X11_240 rfl dX11_planPiece_28 hX.o rfl ?_
      refine E_aload_n dX11_planPiece_31 rfl ?_
      refine g_X11_322 rfl dX11_planPiece_32 hX.o hi.1.2.1 ?_
      refine E_icmp_le (tgt := 131) dX11_planPiece_35 (by decide) (fun h35 => ?_) (fun h35 => ?_)
      · refine E_vret dX11_planPiece_131 rfl ?_
        refine ⟨rfl, hi.1, ⟨BST.all hW hn nn hi.2.1 ?_ ?_ h35, hi.2.2⟩⟩
        · rw [← rowT]; exact Nat.mul_le_mul_right _ (by omega)
        · rw [show n = p + (m + 1) by omega, Nat.pow_add L p (m + 1)]; exact Nat.mul_le_mul_right _ hP
      · refine E_aload_n dX11_planPiece_38 rfl ?_
        refine g_X11_39 rfl dX11_planPiece_39 hX.o hX.timesAlone ?_
        refine E_iload_n dX11_planPiece_42 rfl ?_
        refine E_bipush dX11_planPiece_43 (by decide) ?_
        refine E_imul dX11_planPiece_45 (by omega) (by omega) ?_
        refine E_iload_n dX11_planPiece_46 rfl ?_
        refine E_iadd dX11_planPiece_47 (by omega) (by omega) ?_
        refine E_iald dX11_planPiece_48 hX.s10 (by omega) (by omega) (hi.1.2.2.1 (p : Int) (r : Int) (by omega) (by omega) (by omega) (by omega)) ?_
        refine E_aload_n dX11_planPiece_49 rfl ?_
        refine g_X11_240 rfl dX11_planPiece_50 hX.o rfl ?_
        refine E_icmp_ge (tgt := 125) dX11_planPiece_53 (by decide) (fun h53 => ?_) (fun h53 => ?_)
        · refine E_iinc dX11_planPiece_125 rfl (by omega) (by omega) (by decide) rfl (by decide) ?_
          try dsimp only [List.set]
          refine E_goto (tgt := 13) dX11_planPiece_128 (by decide) ?_
          exact EV.lq rfl (ih (r + 1) M _ (by omega) ⟨hi.1, hPR.ta hW hn nn hS hH (by omega) (by omega) hi.2.1 h53, hi.2.2⟩)
        · refine E_aload_n dX11_planPiece_56 rfl ?_
          refine g_X11_58 rfl dX11_planPiece_57 hX.o hX.draft ?_
          refine E_iload_n dX11_planPiece_60 rfl ?_
          refine E_iload_n dX11_planPiece_61 rfl ?_
          refine i_X11_140 rfl dX11_planPiece_62 (by exact hX.w3.o) (c_refusal (by exact hX.w3) k1 k2 k5 hW hV k6 np hn k9 hgg.1 (by omega) rn hrn (by omega) (by omega) (by omega) (by omega)) (by omega) (Nat.le_of_ble_eq_true rfl) rfl rfl ?_
          rintro _ _ ⟨rfl, rfl⟩
          try dsimp only [pu]
          refine E_if_eq (tgt := 71) dX11_planPiece_65 (by decide) (fun h65 => ?_) (fun h65 => ?_)
          · refine E_aload_n dX11_planPiece_71 rfl ?_
            refine g_X11_58 rfl dX11_planPiece_72 hX.o hX.draft ?_
            refine E_iload_n dX11_planPiece_75 rfl ?_
            refine E_iload_n dX11_planPiece_76 rfl ?_
            refine i_X11_144 rfl dX11_planPiece_77 (by exact hX.w3.o) (c_putUp (by exact hX.w3) (by omega) (by omega)) (by omega) (Nat.le_of_ble_eq_true rfl) rfl rfl ?_
            rintro _ _ ⟨rfl, J, rfl, rfl⟩
            have hup : ∀ b j, b ≠ 67 → mI (mJ M (up2 (mI M) (65 + 2) p r)) b j = mI M b j := fun b j hb => up2_ne _ _ (by omega)
            have hr0 : fRef (A 4) hu (A 4 3) p r np rn = 0 := by omega
            have hPu := (hi.1.1.put (p := (p : Int)) (l := (r : Int)) (by omega)).w (b0 := 30) (j0 := (p : Int)) (x := (r : Int)) (by omega)
            try dsimp only [pu]
            refine E_aload_n dX11_planPiece_80 rfl ?_
            refine g_X11_30 rfl dX11_planPiece_81 hX.o hX.triedLines ?_
            refine E_iload_n dX11_planPiece_84 rfl ?_
            refine E_iload_n dX11_planPiece_85 rfl ?_
            refine E_iast dX11_planPiece_86 hX.s8 (by omega) (by omega) ?_
            refine E_aload_n dX11_planPiece_87 rfl ?_
            refine E_iconst dX11_planPiece_88 (by decide) ?_
            refine E_iload_n dX11_planPiece_89 rfl ?_
            refine E_aload_n dX11_planPiece_90 rfl ?_
            refine g_X11_240 rfl dX11_planPiece_91 hX.o (show mI (mWI (mJ M (up2 (mI M) (65 + 2) p r)) 30 p r) 21 12 = mI M 21 12 from (mI_ne (by omega)).trans (hup _ _ (by omega))) ?_
            refine i_X11_336 rfl dX11_planPiece_94 (by exact hX.o) (c_tudI (M := (mWI (mJ M (up2 (mI M) (65 + 2) p r)) 30 p r)) (by exact hX) hPu.2.2 hW (hV.up ⟨by omega, by omega⟩) hG.w.we (by exact hG.w.sn) np hn hgg.1 (by omega) (f := 0) (t := (p : Int)) (p + 1) (by omega) (by omega) (by omega) (lim := mI M 21 12) (by omega)) (by omega) (Nat.le_of_ble_eq_true rfl) rfl rfl ?_
            rintro _ _ ⟨rfl, K, rfl, hK⟩
            have hPk := hPu.k hK
            have hKf : ∀ b j, (b < 71 ∨ 71 + 5 < b) → b ≠ 67 → b ≠ 30 → mI (mK (mWI (mJ M (up2 (mI M) (65 + 2) p r)) 30 p r) 71 a K) b j = mI M b j := fun b j hb h67 h30 => (hK b j hb).trans ((mI_ne (by omega)).trans (hup _ _ (by omega)))
            have hK3 : ∀ j, mI (mK (mWI (mJ M (up2 (mI M) (65 + 2) p r)) 30 p r) 71 a K) 30 j = up2 (mI M) 30 p r 30 j := fun j => (hK 30 j (by omega)).trans (by
              by_cases ej : j = p
              · rw [ej, up2_self]; exact mI_eq
              · rw [up2_ne _ _ (by omega)]; exact (mI_ne (by omega)).trans (hup _ _ (by omega)))
            have hTL : TL L (p + 1) (P * L + r) (mI (mK (mWI (mJ M (up2 (mI M) (65 + 2) p r)) 30 p r) 71 a K) 30) := TL.step hi.1.2.2.2 (by omega) ((hK3 _).trans (up2_self _ _ _ _)) (fun k hk => (hK3 _).trans (up2_ne _ _ (by omega)))
            have hX := hPk.1.1
            have hbK := hKf 21 12 (by omega) (by omega) (by omega)
            have hbf : mI (mK (mWI (mJ M (up2 (mI M) (65 + 2) p r)) 30 p r) 71 a K) 31 = mI M 31 := funext fun j => hKf 31 j (by omega) (by omega) (by omega)
            have hPI : PJ A a np rn L n (p + 1) (P * L + r) (upH hu p r) M0 (mK (mWI (mJ M (up2 (mI M) (65 + 2) p r)) 30 p r) 71 a K) := ⟨hPk, (hKf 21 11 (by omega) (by omega) (by omega)).trans hi.1.2.1, fun q l q0 q1 l0 l1 => (hKf _ _ (by omega) (by omega) (by omega)).trans (hi.1.2.2.1 q l q0 q1 l0 l1), hTL⟩
            have hBB : BB A np rn L n ((P * L + r) * L ^ m) (mK (mWI (mJ M (up2 (mI M) (65 + 2) p r)) 30 p r) 71 a K) := by unfold BB; rw [hbK, hbf]; exact hi.2
            generalize hM2 : mK (mWI (mJ M (up2 (mI M) (65 + 2) p r)) 30 p r) 71 a K = M2 at *
            try dsimp only [pu]
            refine E_istore dX11_planPiece_97 rfl (by decide) ?_
            try dsimp only [List.set]
            refine E_iload dX11_planPiece_99 rfl ?_
            refine E_aload_n dX11_planPiece_101 rfl ?_
            refine g_X11_240 rfl dX11_planPiece_102 hX.o rfl ?_
            refine E_icmp_ge (tgt := 116) dX11_planPiece_105 (by decide) (fun h105 => ?_) (fun h105 => ?_)
            · have hI3 := hPI
              have hB3 : BB A np rn L n ((P * L + (r + 1)) * L ^ m) M2 := ⟨by have z := hBB.1; rw [hbK] at z ⊢; exact hPR.lo nn hH (by omega) (by omega) z hr0 (by omega), hBB.2⟩
              obtain ⟨hPd, hBd⟩ := pp_down (by omega) hI3 hB3 (fRef_h hr0)
              exact l_pp116 (by omega) hX (by omega) (by omega) (EV.lq rfl (ih (r + 1) _ _ (by omega) ⟨hPd, hBd⟩))
            · have hmin : min (mI M 21 12) (tmD (A 4) (upH hu p r) np 0 (p + 1)) = tmD (A 4) (upH hu p r) np 0 (p + 1) := by omega
              refine E_aload_n dX11_planPiece_108 rfl ?_
              refine E_iload_n dX11_planPiece_109 rfl ?_
              refine E_iload_n dX11_planPiece_110 rfl ?_
              refine E_iload dX11_planPiece_111 rfl ?_
              refine i_X11_342 rfl dX11_planPiece_113 (by exact hX.o) (c_kg hG hB np hn rn hrn L hL n n4 nn e hP hPR hS hH hV hIH (r := r) (by omega) hr0 hPI hBB hmin (by omega)) (by omega) (Nat.le_of_ble_eq_true rfl) rfl rfl ?_
              rintro _ M3 ⟨rfl, hI3, hB3⟩
              try dsimp only [pu]
              obtain ⟨hPd, hBd⟩ := pp_down (by omega) hI3 hB3 (fRef_h hr0)
              exact l_pp116 (by omega) hI3.1.1.1 (by omega) (by omega) (EV.lq rfl (ih (r + 1) _ _ (by omega) ⟨hPd, hBd⟩))
          · refine E_goto (tgt := 125) dX11_planPiece_68 (by decide) ?_
            refine E_iinc dX11_planPiece_125 rfl (by omega) (by omega) (by decide) rfl (by decide) ?_
            try dsimp only [List.set]
            refine E_goto (tgt := 13) dX11_planPiece_128 (by decide) ?_
            exact EV.lq rfl (ih (r + 1) M _ (by omega) ⟨hi.1, hPR.rf (by omega) (by omega) hi.2.1 h65, hi.2.2⟩)
