/-! ===== 58: plans of the class: each piece by itself ===== -/
theorem c_tudI {G : Ctx} {M : Mem} (hX : XO M) {a : Nat} {cd : CD} {hu : Int → Int} (hDr : DR M a cd hu) (hW : WFc cd) (hV : HV cd hu) (hw9 : ∀ p, 0 ≤ p → p < cd 2 → 0 ≤ cWe cd p ∧ cWe cd p ≤ 99) (hs1 : ∀ p, 0 ≤ p → p < cd 2 → cSn cd p = 0 ∨ cSn cd p = 1) (n : Nat) (hn : cd 2 = n) (g0 : 0 ≤ cd 3) (g1 : cd 3 ≤ 900000) {f t : Int} (mm : Nat) (hm : f + mm = t + 1) (f0 : 0 ≤ f) (t1 : t < cd 2) {lim : Int} (l0 : 0 ≤ lim ∧ lim ≤ 49) : CT G m_X11_timeUntilDry 3 0 0 [vR 21, vI f, vI t, vI lim] M (fun x M' => x = some (vI (min lim (tmD cd hu n f mm))) ∧ ∃ I, M' = mK M 71 a I ∧ ∀ b j, (b < 71 ∨ 71 + 5 < b) → I b j = mI M b j) := by
  obtain ⟨ln, rfl⟩ := Int.eq_ofNat_of_zero_le l0.1
  exact c_tud hX hDr hW hV hw9 hs1 n hn g0 g1 mm hm f0 t1 ln (by omega)
theorem DR.j {M : Mem} {a : Nat} {cd : CD} {hu hu2 : Int → Int} (h : DR M a cd hu) {I : AS} (h0 : ∀ b j, b ≠ 67 → (33 ≤ b ∧ b ≤ 46) ∨ (65 ≤ b ∧ b ≤ 70) ∨ 92 ≤ b → I b j = mI M b j) (hH : HC I 65 cd hu2) : DR (mJ M I) a cd hu2 := by
  obtain ⟨h1, h2, h3, h4, h5, h6, h7, h8, h9, h10⟩ := h
  refine ⟨h1, h2, h3, h4, h5.off (fun b j q0 q1 => h0 b j (by omega) (by omega)), hH, fun p p0 p1 => (h0 _ _ (by omega) (by omega)).trans (h7 p p0 p1), fun p p0 p1 => (h0 _ _ (by omega) (by omega)).trans (h8 p p0 p1), (h0 _ _ (by omega) (by omega)).trans h9, fun p p0 p1 => ?_⟩
  show I (65 + 3) p = 0 ∨ I (65 + 3) p = 1
  rw [h0 _ _ (by omega) (by omega)]; exact h10 p p0 p1
theorem DR.o {M : Mem} {a : Nat} {cd : CD} {hu : Int → Int} (h : DR M a cd hu) {I : AS} (h0 : ∀ b j, (33 ≤ b ∧ b ≤ 46) ∨ (65 ≤ b ∧ b ≤ 70) ∨ 92 ≤ b → I b j = mI M b j) : DR (mJ M I) a cd hu := h.j (fun b j _ hb => h0 b j hb) (fun p p0 p1 => (h0 _ _ (by omega)).trans (h.2.2.2.2.2.1 p p0 p1))
theorem DR.put {M : Mem} {a : Nat} {cd : CD} {hu : Int → Int} (h : DR M a cd hu) {p l : Int} (l0 : 0 ≤ l) : DR (mJ M (up2 (mI M) (65 + 2) p l)) a cd (upH hu p l) := h.j (fun b j hb _ => up2_ne _ _ (by omega)) (fun q q0 q1 => by
  unfold upH
  by_cases hq : q = p
  · rw [if_pos hq, hq, up2_self]; unfold nm1; rw [if_neg (by omega)]
  · rw [if_neg hq, up2_ne _ _ (by omega)]; exact h.2.2.2.2.2.1 q q0 q1)
theorem DR.down {M : Mem} {a : Nat} {cd : CD} {hu : Int → Int} {p l : Int} (h : DR M a cd (upH hu p l)) (hp : hu p = -1000000) : DR (mWI M (65 + 2) p (-1)) a cd hu := h.j (I := up2 (mI M) (65 + 2) p (-1)) (fun b j hb _ => up2_ne _ _ (by omega)) (fun q q0 q1 => by
  have z := h.2.2.2.2.2.1 q q0 q1
  by_cases hq : q = p
  · rw [hq, up2_self, hp]; rfl
  · rw [up2_ne _ _ (by omega)]; unfold upH at z; rw [if_neg hq] at z; exact z)
theorem HV.up {cd : CD} {hu : Int → Int} (h : HV cd hu) {p l : Int} (l0 : 0 ≤ l ∧ l < cd 0) : HV cd (upH hu p l) := fun q q0 q1 => by
  unfold upH; by_cases hq : q = p
  · rw [if_pos hq]; exact Or.inr l0
  · rw [if_neg hq]; exact h q q0 q1
theorem CI.kd {M : Mem} {A : AS} {c : Nat} {K : AS} (h : CI M A) (hK : ∀ b j, (b < 71 ∨ 71 + 5 < b) → K b j = mI M b j) : CI (mK M 71 c K) A := (h.kt (w := 71) (c := c) (I := mI M) (Or.inr rfl) (fun _ _ _ => rfl)).dt (I := K) (fun b j q1 q2 q3 q4 q5 => hK b j (by omega))
theorem FX.kd {M : Mem} {c : Nat} {K : AS} (hK : ∀ b j, (b < 71 ∨ 71 + 5 < b) → K b j = mI M b j) : FX M (mK M 71 c K) := (FX.k (w := 71) (c := c) (I := mI M) (by omega) (fun _ _ _ => rfl)).j (J := K) (fun b j b0 b1 => hK b j (by omega))
/-- a plan is looked for: the class is as it was, but for what it tries -/
def PL (A : AS) (a : Nat) (hu : Int → Int) (M0 M : Mem) : Prop := CI M A ∧ FX M0 M ∧ DR M a (A 4) hu
theorem PL.k {A : AS} {a : Nat} {hu : Int → Int} {M0 M : Mem} (h : PL A a hu M0 M) {K : AS} (hK : ∀ b j, (b < 71 ∨ 71 + 5 < b) → K b j = mI M b j) : PL A a hu M0 (mK M 71 a K) := ⟨h.1.kd hK, h.2.1.tr (FX.kd hK), h.2.2.k hK⟩
theorem PL.put {A : AS} {a : Nat} {hu : Int → Int} {M0 M : Mem} (h : PL A a hu M0 M) {p l : Int} (l0 : 0 ≤ l) : PL A a (upH hu p l) M0 (mJ M (up2 (mI M) (65 + 2) p l)) := ⟨h.1.dt (fun b j q1 q2 q3 q4 q5 => up2_ne _ _ (by omega)), h.2.1.j (fun b j b0 b1 => up2_ne _ _ (by omega)), h.2.2.put l0⟩
theorem PL.down {A : AS} {a : Nat} {hu : Int → Int} {M0 M : Mem} {p l : Int} (h : PL A a (upH hu p l) M0 M) (hp : hu p = -1000000) : PL A a hu M0 (mWI M (65 + 2) p (-1)) := ⟨h.1.dt (I := up2 (mI M) (65 + 2) p (-1)) (fun b j q1 q2 q3 q4 q5 => up2_ne _ _ (by omega)), h.2.1.j (J := up2 (mI M) (65 + 2) p (-1)) (fun b j b0 b1 => up2_ne _ _ (by omega)), h.2.2.down hp⟩
theorem PL.w {A : AS} {a : Nat} {hu : Int → Int} {M0 M : Mem} (h : PL A a hu M0 M) {b0 : Nat} {j0 x : Int} (hb : b0 = 30 ∨ b0 = 31 ∨ b0 = 32 ∨ (b0 = 21 ∧ (j0 = 11 ∨ j0 = 12))) : PL A a hu M0 (mWI M b0 j0 x) := ⟨h.1.dt (I := up2 (mI M) b0 j0 x) (fun b j q1 q2 q3 q4 q5 => up2_ne _ _ (by omega)), h.2.1.j (J := up2 (mI M) b0 j0 x) (fun b j b1 b2 => up2_ne _ _ (by omega)), h.2.2.o (I := up2 (mI M) b0 j0 x) (fun b j hq => up2_ne _ _ (by omega))⟩
set_option maxRecDepth 20000 in
set_option maxHeartbeats 3000000 in
theorem l_lta {G : Ctx} {A : AS} {B : Int} (hG : GA A B) (hB : B ≤ 900000) {a : Nat} (n : Nat) (hn : A 4 2 = n) (rn : Nat) (hrn : A 4 1 = rn) (L : Nat) (hL : A 4 0 = L) {p : Int} (p0 : 0 ≤ p ∧ p ≤ 3) (p1 : p < n) {M0 : Mem} : ∀ (k r : Nat) (M : Mem) (z4 : Option MV), r + k = L → (PL A a (cHu (A 4)) M0 M ∧ (∀ j, mI M 21 j = mI M0 21 j) ∧ (∀ l : Int, 0 ≤ l → l < r → mI M 32 (p * 8 + l) = taE (A 4) (cHu (A 4)) n rn p l) ∧ ∀ j : Int, j < p * 8 ∨ p * 8 + 8 ≤ j → mI M 32 j = mI M0 32 j) → EV G m_X11_leastTimeAlone 4 0 0 (fun x M' => x = some (vI (nmE (taE (A 4) (cHu (A 4)) n rn p) L)) ∧ (PL A a (cHu (A 4)) M0 M' ∧ (∀ j, mI M' 21 j = mI M0 21 j) ∧ (∀ l : Int, 0 ≤ l → l < L → mI M' 32 (p * 8 + l) = taE (A 4) (cHu (A 4)) n rn p l) ∧ ∀ j : Int, j < p * 8 ∨ p * 8 + 8 ≤ j → mI M' 32 j = mI M0 32 j)) 5 [some (vR 21), some (vI p), some (vI (nmE (taE (A 4) (cHu (A 4)) n rn p) r)), some (vI (r : Int)), z4] [] M := by
  intro k
  induction k with
  | zero =>
    intro r M z4 hr hi
    obtain rfl : r = L := by omega
    have hW := hG.w.c
    have hgg := hG.w.g
    have hpn := hW.pn
    have hl8 := hW.ln
    have hX := hi.1.1.1
    obtain ⟨k1, k2, k3, k4, k5, k6, k7, k8, k9, k10⟩ := id hi.1.2.2
    refine E_iload_n dX11_leastTimeAlone_5 rfl ?_
    refine E_aload_n dX11_leastTimeAlone_6 rfl ?_
    refine g_X11_58 rfl dX11_leastTimeAlone_7 hX.o hX.draft ?_
    refine g_X11_168 rfl dX11_leastTimeAlone_10 hX.w3.o k1 ?_
    refine g_X11_131 rfl dX11_leastTimeAlone_13 k2.o (k5.lnc.trans hL) ?_
    refine E_icmp_ge (tgt := 89) dX11_leastTimeAlone_16 (by decide) (fun h16 => ?_) (fun h16 => ?_)
    · refine E_iload_n dX11_leastTimeAlone_89 rfl ?_
      refine E_iret dX11_leastTimeAlone_90 rfl ?_
      exact ⟨rfl, hi⟩
    · exfalso; omega
  | succ k ih =>
    intro r M z4 hr hi
    have hW := hG.w.c
    have hgg := hG.w.g
    have hpn := hW.pn
    have hl8 := hW.ln
    have hX := hi.1.1.1
    obtain ⟨k1, k2, k3, k4, k5, k6, k7, k8, k9, k10⟩ := id hi.1.2.2
    refine E_iload_n dX11_leastTimeAlone_5 rfl ?_
    refine E_aload_n dX11_leastTimeAlone_6 rfl ?_
    refine g_X11_58 rfl dX11_leastTimeAlone_7 hX.o hX.draft ?_
    refine g_X11_168 rfl dX11_leastTimeAlone_10 hX.w3.o k1 ?_
    refine g_X11_131 rfl dX11_leastTimeAlone_13 k2.o (k5.lnc.trans hL) ?_
    refine E_icmp_ge (tgt := 89) dX11_leastTimeAlone_16 (by decide) (fun h16 => ?_) (fun h16 => ?_)
    · exfalso; omega
    · refine E_bipush dX11_leastTimeAlone_19 (by decide) ?_
      refine E_istore dX11_leastTimeAlone_21 rfl (by decide) ?_
      try dsimp only [List.set]
      refine E_aload_n dX11_leastTimeAlone_23 rfl ?_
      refine g_X11_58 rfl dX11_leastTimeAlone_24 hX.o hX.draft ?_
      refine E_iload_n dX11_leastTimeAlone_27 rfl ?_
      refine E_iload_n dX11_leastTimeAlone_28 rfl ?_
      refine i_X11_140 rfl dX11_leastTimeAlone_29 (by exact hX.w3.o) (c_refusal (by exact hX.w3) k1 k2 k5 hW hG.w.hv k6 n hn k9 hgg.1 (by omega) rn hrn (by omega) (by omega) (by omega) (by omega)) (by omega) (Nat.le_of_ble_eq_true rfl) rfl rfl ?_
      rintro _ _ ⟨rfl, rfl⟩
      try dsimp only [pu]
      refine E_if_ne (tgt := 63) dX11_leastTimeAlone_32 (by decide) (fun h32 => ?_) (fun h32 => ?_)
      · refine E_aload_n dX11_leastTimeAlone_63 rfl ?_
        refine g_X11_39 rfl dX11_leastTimeAlone_64 hX.o hX.timesAlone ?_
        refine E_iload_n dX11_leastTimeAlone_67 rfl ?_
        refine E_bipush dX11_leastTimeAlone_68 (by decide) ?_
        refine E_imul dX11_leastTimeAlone_70 (by omega) (by omega) ?_
        refine E_iload_n dX11_leastTimeAlone_71 rfl ?_
        refine E_iadd dX11_leastTimeAlone_72 (by omega) (by omega) ?_
        refine E_iload dX11_leastTimeAlone_73 rfl ?_
        refine E_iast dX11_leastTimeAlone_75 hX.s10 (by omega) (by omega) ?_
        refine E_iload_n dX11_leastTimeAlone_76 rfl ?_
        refine E_iload dX11_leastTimeAlone_77 rfl ?_
        refine i_X11_339 rfl dX11_leastTimeAlone_79 c_mmin (by omega) (Nat.le_of_ble_eq_true rfl) rfl rfl ?_
        rintro _ _ ⟨rfl, rfl⟩
        try dsimp only [pu]
        refine E_istore_n dX11_leastTimeAlone_82 rfl (by decide) ?_
        try dsimp only [List.set]
        refine E_iinc dX11_leastTimeAlone_83 rfl (by omega) (by omega) (by decide) rfl (by decide) ?_
        try dsimp only [List.set]
        refine E_goto (tgt := 5) dX11_leastTimeAlone_86 (by decide) ?_
        have e : taE (A 4) (cHu (A 4)) n rn p r = 49 := by
          unfold taE; rw [if_neg h32]
        have e2 : nmE (taE (A 4) (cHu (A 4)) n rn p) (r + 1) = min (nmE (taE (A 4) (cHu (A 4)) n rn p) r) (49) := by simp only [nmE]; rw [e]
        refine EV.lq (by rw [← e2]; rfl) (ih (r + 1) _ _ (by omega) ⟨hi.1.w (b0 := 32) (j0 := p * 8 + r) (x := 49) (by omega), fun j => ((mI_ne (by omega))).trans (hi.2.1 j), fun l l0 l1 => ?_, fun j hj => ((mI_ne (by omega))).trans (hi.2.2.2 j hj)⟩)
        by_cases el : l = r
        · rw [el, e]; exact mI_eq
        · exact ((mI_ne (by omega))).trans (hi.2.2.1 l l0 (by omega))
      · refine E_aload_n dX11_leastTimeAlone_35 rfl ?_
        refine g_X11_58 rfl dX11_leastTimeAlone_36 hX.o hX.draft ?_
        refine E_iload_n dX11_leastTimeAlone_39 rfl ?_
        refine E_iload_n dX11_leastTimeAlone_40 rfl ?_
        refine i_X11_144 rfl dX11_leastTimeAlone_41 (by exact hX.w3.o) (c_putUp (by exact hX.w3) (by omega) (by omega)) (by omega) (Nat.le_of_ble_eq_true rfl) rfl rfl ?_
        rintro _ _ ⟨rfl, J, rfl, rfl⟩
        have hPu := hi.1.put (p := p) (l := (r : Int)) (by omega)
        try dsimp only [pu]
        refine E_aload_n dX11_leastTimeAlone_44 rfl ?_
        refine E_iload_n dX11_leastTimeAlone_45 rfl ?_
        refine E_iload_n dX11_leastTimeAlone_46 rfl ?_
        refine E_bipush dX11_leastTimeAlone_47 (by decide) ?_
        refine i_X11_336 rfl dX11_leastTimeAlone_49 (by exact hX.o) (c_tudI (M := mJ M (up2 (mI M) (65 + 2) p r)) (by exact hX) hPu.2.2 hW (hG.w.hv.up ⟨by omega, by omega⟩) hG.w.we (by exact hG.w.sn) n hn hgg.1 (by omega) (f := p) (t := p) 1 (by omega) (by omega) (by omega) (lim := 49) (by omega)) (by omega) (Nat.le_of_ble_eq_true rfl) rfl rfl ?_
        rintro _ _ ⟨rfl, K, rfl, hK⟩
        have hPk := hPu.k hK
        have hKf : ∀ b j, (b < 71 ∨ 71 + 5 < b) → b ≠ 67 → mI (mK (mJ M (up2 (mI M) (65 + 2) p r)) 71 a K) b j = mI M b j := fun b j hb h67 => (hK b j hb).trans (up2_ne _ _ (by omega))
        have hX := hPk.1.1
        try dsimp only [pu]
        refine E_istore dX11_leastTimeAlone_52 rfl (by decide) ?_
        try dsimp only [List.set]
        refine E_aload_n dX11_leastTimeAlone_54 rfl ?_
        refine g_X11_58 rfl dX11_leastTimeAlone_55 hX.o hX.draft ?_
        refine E_iload_n dX11_leastTimeAlone_58 rfl ?_
        refine i_X11_155 rfl dX11_leastTimeAlone_59 (by exact hX.w3.o) (c_takeDown (by exact hPk.1.1.w3) (by omega) (by omega)) (by omega) (Nat.le_of_ble_eq_true rfl) rfl rfl ?_
        rintro _ _ ⟨rfl, rfl⟩
        have hr0 : fRef (A 4) (cHu (A 4)) (A 4 3) p r n rn = 0 := by omega
        have hPd := hPk.down (fRef_h hr0)
        try dsimp only [pu]
        refine E_pop dX11_leastTimeAlone_62 rfl ?_
        refine E_aload_n dX11_leastTimeAlone_63 rfl ?_
        refine g_X11_39 rfl dX11_leastTimeAlone_64 hX.o hX.timesAlone ?_
        refine E_iload_n dX11_leastTimeAlone_67 rfl ?_
        refine E_bipush dX11_leastTimeAlone_68 (by decide) ?_
        refine E_imul dX11_leastTimeAlone_70 (by omega) (by omega) ?_
        refine E_iload_n dX11_leastTimeAlone_71 rfl ?_
        refine E_iadd dX11_leastTimeAlone_72 (by omega) (by omega) ?_
        refine E_iload dX11_leastTimeAlone_73 rfl ?_
        refine E_iast dX11_leastTimeAlone_75 hX.s10 (by omega) (by omega) ?_
        refine E_iload_n dX11_leastTimeAlone_76 rfl ?_
        refine E_iload dX11_leastTimeAlone_77 rfl ?_
        refine i_X11_339 rfl dX11_leastTimeAlone_79 c_mmin (by omega) (Nat.le_of_ble_eq_true rfl) rfl rfl ?_
        rintro _ _ ⟨rfl, rfl⟩
        try dsimp only [pu]
        refine E_istore_n dX11_leastTimeAlone_82 rfl (by decide) ?_
        try dsimp only [List.set]
        refine E_iinc dX11_leastTimeAlone_83 rfl (by omega) (by omega) (by decide) rfl (by decide) ?_
        try dsimp only [List.set]
        refine E_goto (tgt := 5) dX11_leastTimeAlone_86 (by decide) ?_
        have e : taE (A 4) (cHu (A 4)) n rn p r = min 49 (tmD (A 4) (upH (cHu (A 4)) p r) n p 1) := by
          unfold taE; rw [if_pos (by omega)]; have z := tmD_b (A 4) (upH (cHu (A 4)) p r) n p 1; omega
        have e2 : nmE (taE (A 4) (cHu (A 4)) n rn p) (r + 1) = min (nmE (taE (A 4) (cHu (A 4)) n rn p) r) (min 49 (tmD (A 4) (upH (cHu (A 4)) p r) n p 1)) := by simp only [nmE]; rw [e]
        refine EV.lq (by rw [← e2]; rfl) (ih (r + 1) _ _ (by omega) ⟨hPd.w (b0 := 32) (j0 := p * 8 + r) (x := min 49 (tmD (A 4) (upH (cHu (A 4)) p r) n p 1)) (by omega), fun j => ((mI_ne (by omega)).trans ((mI_ne (by omega)).trans (hKf _ _ (by omega) (by omega)))).trans (hi.2.1 j), fun l l0 l1 => ?_, fun j hj => ((mI_ne (by omega)).trans ((mI_ne (by omega)).trans (hKf _ _ (by omega) (by omega)))).trans (hi.2.2.2 j hj)⟩)
        by_cases el : l = r
        · rw [el, e]; exact mI_eq
        · exact ((mI_ne (by omega)).trans ((mI_ne (by omega)).trans (hKf _ _ (by omega) (by omega)))).trans (hi.2.2.1 l l0 (by omega))
