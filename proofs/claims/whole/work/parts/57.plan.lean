/-! ===== 57: plans of the class: how soon they are dry ===== -/
theorem ltE_none {E : Nat → Bool} : ∀ k t : Nat, (∀ j, t ≤ j → j < t + k → E j = false) → ltE E k t = (t : Int) + (k : Int)
  | 0, t, _ => by simp [ltE]
  | k + 1, t, h => by
    simp only [ltE]
    rw [if_neg (by rw [h t (by omega) (by omega)]; simp), ltE_none k (t + 1) (fun j h1 h2 => h j (by omega) (by omega))]
    omega
theorem new_keep {cd : CD} {hu : Int → Int} {np : Nat} {we sn : Int → Int} {g f : Int} {mm t : Nat} (h : fNew (itS cd hu np we sn g t) sn f mm = true) : ∀ j : Nat, fNew (itS cd hu np we sn g (t + j)) sn f mm = true
  | 0 => h
  | j + 1 => by
    have ih := new_keep h j
    cases hb : fNew (itS cd hu np we sn g (t + (j + 1))) sn f mm
    · exfalso
      rw [fNew_iff] at hb
      have : fNew (itS cd hu np we sn g (t + j)) sn f mm = false := by
        rw [fNew_iff]
        exact fun k hk z => hb k hk ⟨itS_keep z.1, z.2⟩
      rw [this] at ih; exact absurd ih (by simp)
    · rfl
/-- the draft: its court, what hangs there; the rest is as the wash is -/
def DR (M : Mem) (a : Nat) (cd : CD) (hu : Int → Int) : Prop := mR M 65 0 = a ∧ CA M a ∧ (a = 33 ∨ 92 ≤ a) ∧ a + 13 < mN M ∧ CC (mI M) a cd ∧ HC (mI M) 65 cd hu ∧ EC (mI M) 65 cd (cWe cd) ∧ SC (mI M) 65 cd (cSn cd) ∧ mI M 65 1 = cd 3 ∧ ∀ p, 0 ≤ p → p < 10 → mI M (65 + 3) p = 0 ∨ mI M (65 + 3) p = 1
theorem DR.k {M : Mem} {a : Nat} {cd : CD} {hu : Int → Int} (h : DR M a cd hu) {c : Nat} {I : AS} (hI : ∀ b j, (b < 71 ∨ 71 + 5 < b) → I b j = mI M b j) : DR (mK M 71 c I) a cd hu := by
  obtain ⟨h1, h2, h3, h4, h5, h6, h7, h8, h9, h10⟩ := h
  refine ⟨(mR_wr (by omega)).trans h1, h2.k _ _ _ (by omega), h3, h4, h5.off (fun b j q0 q1 => hI b j (by omega)), fun p p0 p1 => (hI _ _ (by omega)).trans (h6 p p0 p1), fun p p0 p1 => (hI _ _ (by omega)).trans (h7 p p0 p1), fun p p0 p1 => (hI _ _ (by omega)).trans (h8 p p0 p1), (hI _ _ (by omega)).trans h9, fun p p0 p1 => ?_⟩
  show I (65 + 3) p = 0 ∨ I (65 + 3) p = 1
  rw [hI _ _ (by omega)]; exact h10 p p0 p1
theorem DR.wq {M : Mem} {a : Nat} {cd : CD} {hu : Int → Int} (h : DR M a cd hu) (hpn : cd 2 ≤ 10) {n : Nat} {I : AS} (hb : BI M 71 65 10 I) : WQ (mK M 71 a I) 71 cd hu (cWe cd) (cSn cd) (cd 3) n 0 I := by
  obtain ⟨h1, h2, h3, h4, h5, h6, h7, h8, h9, h10⟩ := h
  obtain ⟨b1, b2, b3⟩ := hb
  refine ⟨fun _ _ _ => rfl, fun p p0 p1 => (b2 p p0 (by omega)).2.1.trans (h6 p p0 p1), fun p p0 p1 => (b2 p p0 (by omega)).1.trans (h7 p p0 p1), fun p p0 p1 => (b2 p p0 (by omega)).2.2.trans (h8 p p0 p1), (b1.trans h9).trans (by omega), fun p p0 p1 => ?_⟩
  rw [(b2 p p0 p1).2.2]; exact h10 p p0 p1
set_option maxRecDepth 20000 in
set_option maxHeartbeats 3000000 in
theorem l_tud {G : Ctx} {M : Mem} (hX : XO M) {a : Nat} {cd : CD} (hA : WA M 71) (hRc : mR M 71 0 = a) (hC : CA M a) (hD : CC (mI M) a cd) (hW : WFc cd) {hu we sn : Int → Int} (hV : HV cd hu) (hw9 : ∀ p, 0 ≤ p → p < cd 2 → 0 ≤ we p ∧ we p ≤ 99) (hs1 : ∀ p, 0 ≤ p → p < cd 2 → sn p = 0 ∨ sn p = 1) (n : Nat) (hn : cd 2 = n) (hap : a + 13 < 71 ∨ 71 + 5 < a) {g : Int} (g0 : 0 ≤ g) (g1 : g ≤ 900000) {f t : Int} (mm : Nat) (hm : f + mm = t + 1) (f0 : 0 ≤ f) (t1 : t < cd 2) (lim : Nat) (l9 : lim ≤ 49) (hS0 : SC (mI M) 65 cd sn) : ∀ (k r : Nat) (I : Nat → Int → Int), r + k = lim → (WQ M 71 cd hu we sn g n r I ∧ fNew (itS cd hu n we sn g r) sn f mm = false) → EV G m_X11_timeUntilDry 3 0 0 (fun x M' => x = some (vI (ltE (eD cd hu n we sn g f mm) k r)) ∧ ∃ I, M' = mJ M I ∧ ∀ b j, (b < 71 ∨ 71 + 5 < b) → I b j = mI M b j) 14 [some (vR 21), some (vI f), some (vI t), some (vI (lim : Int)), some (vI (r : Int))] [] (mJ M I) := by
  intro k
  induction k with
  | zero =>
    intro r I hr hi
    obtain rfl : r = lim := by omega
    have hpn := hW.pn
    refine E_iload dX11_timeUntilDry_14 rfl ?_
    refine E_iload_n dX11_timeUntilDry_16 rfl ?_
    refine E_icmp_ge (tgt := 66) dX11_timeUntilDry_17 (by decide) (fun h17 => ?_) (fun h17 => ?_)
    · refine E_iload_n dX11_timeUntilDry_66 rfl ?_
      refine E_iret dX11_timeUntilDry_67 rfl ?_
      exact ⟨rfl, I, rfl, hi.1.1⟩
    · exfalso; omega
  | succ k ih =>
    intro r I hr hi
    have hpn := hW.pn
    refine E_iload dX11_timeUntilDry_14 rfl ?_
    refine E_iload_n dX11_timeUntilDry_16 rfl ?_
    refine E_icmp_ge (tgt := 66) dX11_timeUntilDry_17 (by decide) (fun h17 => ?_) (fun h17 => ?_)
    · exfalso; omega
    · refine E_aload_n dX11_timeUntilDry_20 rfl ?_
      refine g_X11_61 rfl dX11_timeUntilDry_21 hX.o hX.trial ?_
      refine E_iload_n dX11_timeUntilDry_24 rfl ?_
      refine E_iload_n dX11_timeUntilDry_25 rfl ?_
      refine i_X11_351 rfl dX11_timeUntilDry_26 (by exact hA.o) (c_areDry (hA.j I) (we := itW cd hu n we g r) mm hm f0 (by omega) (fun p p0 p1 => hi.1.2.2.1 p (by omega) (by omega))) (by omega) (Nat.le_of_ble_eq_true rfl) rfl rfl ?_
      rintro _ _ ⟨rfl, rfl⟩
      try dsimp only [pu]
      refine E_if_eq (tgt := 35) dX11_timeUntilDry_29 (by decide) (fun h29 => ?_) (fun h29 => ?_)
      · simp only [tB0, ne_eq, Bool.not_eq_false, Bool.not_eq_true, decide_eq_true_eq, decide_eq_false_iff_not, Classical.not_not] at h29
        refine E_aload_n dX11_timeUntilDry_35 rfl ?_
        refine g_X11_61 rfl dX11_timeUntilDry_36 hX.o hX.trial ?_
        refine i_X11_162 rfl dX11_timeUntilDry_39 (by exact hA.o) (c_passQuarter (hA.j I) hRc (hC.j I) (hD.off (fun b j b0 b1 => hi.1.1 b j (by omega))) hW hV hi.1.2.1 hi.1.2.2.1 hi.1.2.2.2.1 (itS_b hs1 r) (itW_b hw9 r) n hn hap hi.1.2.2.2.2.1 (by omega) (by omega)) (by omega) (Nat.le_of_ble_eq_true rfl) rfl rfl ?_
        rintro _ _ ⟨rfl, J, rfl, hJ⟩
        have hJ := hi.1.step hn hs1 hJ
        try dsimp only [pu]
        refine E_aload_n dX11_timeUntilDry_42 rfl ?_
        refine g_X11_61 rfl dX11_timeUntilDry_43 hX.o hX.trial ?_
        refine E_aload_n dX11_timeUntilDry_46 rfl ?_
        refine g_X11_58 rfl dX11_timeUntilDry_47 hX.o hX.draft ?_
        refine E_iload_n dX11_timeUntilDry_50 rfl ?_
        refine E_iload_n dX11_timeUntilDry_51 rfl ?_
        refine i_X11_354 rfl dX11_timeUntilDry_52 (by exact hA.o) (c_areStainedSince (hA.j J) (by exact hX.w3) (sn := itS cd hu n we sn g (r + 1)) (s0 := sn) mm hm f0 (by omega) (fun p p0 p1 => hJ.2.2.2.1 p (by omega) (by omega)) (fun p p0 p1 => (hJ.1 _ _ (by omega)).trans (hS0 p (by omega) (by omega)))) (by omega) (Nat.le_of_ble_eq_true rfl) rfl rfl ?_
        rintro _ _ ⟨rfl, rfl⟩
        try dsimp only [pu]
        refine E_if_eq (tgt := 60) dX11_timeUntilDry_55 (by decide) (fun h55 => ?_) (fun h55 => ?_)
        · simp only [tB0, ne_eq, Bool.not_eq_false, Bool.not_eq_true, decide_eq_true_eq, decide_eq_false_iff_not, Classical.not_not] at h55
          refine E_iinc dX11_timeUntilDry_60 rfl (by omega) (by omega) (by decide) rfl (by decide) ?_
          try dsimp only [List.set]
          refine E_goto (tgt := 14) dX11_timeUntilDry_63 (by decide) ?_
          have e : ltE (eD cd hu n we sn g f mm) (k + 1) r = ltE (eD cd hu n we sn g f mm) k (r + 1) := by simp only [ltE]; rw [if_neg (by unfold eD; rw [h29]; simp)]
          rw [e]
          exact EV.mq rfl rfl (ih (r + 1) J (by omega) ⟨hJ, h55⟩)
        · simp only [tB0, ne_eq, Bool.not_eq_false, Bool.not_eq_true, decide_eq_true_eq, decide_eq_false_iff_not, Classical.not_not] at h55
          refine E_iload_n dX11_timeUntilDry_58 rfl ?_
          refine E_iret dX11_timeUntilDry_59 rfl ?_
          have e : ltE (eD cd hu n we sn g f mm) (k + 1) r = (r : Int) + ((k + 1 : Nat) : Int) := ltE_none (k + 1) r (fun j j0 j1 => by
            unfold eD
            by_cases ej : j = r
            · rw [ej, h29]; rfl
            · have z := new_keep h55 (j - (r + 1))
              rw [show r + 1 + (j - (r + 1)) = j by omega] at z
              rw [z]; simp)
          exact ⟨by rw [e, show (lim : Int) = (r : Int) + ((k + 1 : Nat) : Int) by omega], J, rfl, hJ.1⟩
      · simp only [tB0, ne_eq, Bool.not_eq_false, Bool.not_eq_true, decide_eq_true_eq, decide_eq_false_iff_not, Classical.not_not] at h29
        refine E_iload dX11_timeUntilDry_32 rfl ?_
        refine E_iret dX11_timeUntilDry_34 rfl ?_
        exact ⟨by simp only [ltE]; rw [if_pos (by unfold eD; rw [h29, hi.2]; rfl)], I, rfl, hi.1.1⟩
set_option maxRecDepth 20000 in
set_option maxHeartbeats 3000000 in
theorem c_tud {G : Ctx} {M : Mem} (hX : XO M) {a : Nat} {cd : CD} {hu : Int → Int} (hDr : DR M a cd hu) (hW : WFc cd) (hV : HV cd hu) (hw9 : ∀ p, 0 ≤ p → p < cd 2 → 0 ≤ cWe cd p ∧ cWe cd p ≤ 99) (hs1 : ∀ p, 0 ≤ p → p < cd 2 → cSn cd p = 0 ∨ cSn cd p = 1) (n : Nat) (hn : cd 2 = n) (g0 : 0 ≤ cd 3) (g1 : cd 3 ≤ 900000) {f t : Int} (mm : Nat) (hm : f + mm = t + 1) (f0 : 0 ≤ f) (t1 : t < cd 2) (lim : Nat) (l9 : lim ≤ 49) : CT G m_X11_timeUntilDry 3 0 0 [vR 21, vI f, vI t, vI (lim : Int)] M (fun x M' => x = some (vI (min (lim : Int) (tmD cd hu n f mm))) ∧ ∃ I, M' = mK M 71 a I ∧ ∀ b j, (b < 71 ∨ 71 + 5 < b) → I b j = mI M b j) := by
  refine CT.of k_X11_timeUntilDry 1 (ls := [some (vR 21), some (vI f), some (vI t), some (vI (lim : Int)), none]) rfl (Nat.le_of_ble_eq_true rfl) ?_
  have hpn := hW.pn
  obtain ⟨k1, k2, k3, k4, k5, k6, k7, k8, k9, k10⟩ := id hDr
  refine E_aload_n dX11_timeUntilDry_0 rfl ?_
  refine g_X11_61 rfl dX11_timeUntilDry_1 hX.o hX.trial ?_
  refine E_aload_n dX11_timeUntilDry_4 rfl ?_
  refine g_X11_58 rfl dX11_timeUntilDry_5 hX.o hX.draft ?_
  refine i_X11_182 rfl dX11_timeUntilDry_8 (by exact hX.w4.o) (c_become (by exact hX.w4) (by exact hX.w3) k1 (by omega) (by omega) (by exact k10)) (by omega) (Nat.le_of_ble_eq_true rfl) rfl rfl ?_
  rintro _ _ ⟨rfl, I, rfl, hb⟩
  try dsimp only [pu]
  refine E_iconst dX11_timeUntilDry_11 (by decide) ?_
  refine E_istore dX11_timeUntilDry_12 rfl (by decide) ?_
  try dsimp only [List.set]
  refine EV.post (fun x M' hq => ?_) (l_tud (M := mK M 71 a I) (sn := cSn cd) (hX.k (by omega)) (by exact hX.w4.k _ _ _) mR_wr0 (k2.k _ _ _ (by omega)) (k5.off (fun b j q0 q1 => hb.2.2 b j (by omega))) hW hV hw9 hs1 n hn (by omega) g0 g1 mm hm f0 t1 lim l9 (fun p p0 p1 => (hb.2.2 _ _ (by omega)).trans (k8 p p0 p1)) lim 0 I (by omega) ⟨hDr.wq (by omega) hb, (fNew_iff mm).mpr (fun k hk z => z.1 z.2)⟩)
  obtain ⟨rfl, K, rfl, hK⟩ := hq
  refine ⟨?_, K, rfl, fun b j hbj => (hK b j hbj).trans (hb.2.2 b j (by omega))⟩
  rw [ltE_min _ lim 49 0 l9]; unfold tmD; congr 2; omega
