/-! ===== 44: lay of the class ===== -/
theorem CI.wb {M : Mem} {A : AS} {cd : CD} {c : Nat} {I : AS} (hI : CI M A) (h : WR M 65 cd) (hpn : cd 2 ≤ 10) (hc : mR M 65 0 = c) (hb : BI M 47 65 10 I) : CI (mK M 47 c I) (pg4 A cd) := by
  obtain ⟨y1, y2, y3, y4, y5, y6⟩ := hI.kq (c := c) (w := 47) (by omega) hb.2.2
  obtain ⟨x1, x2, x3, x4, x5, x6, x7, x8, x9⟩ := hI
  have e : ∀ q j, q ≠ 4 → pg4 A cd q j = A q j := fun q j q1 => pg4_ne _ _ q1
  refine ⟨y1, y2, y3.cg (fun _ => rfl) (fun _ => rfl) (fun _ => rfl) (fun j => e _ _ (by omega)) (fun j => e _ _ (by omega)) (fun j => e _ _ (by omega)), y4.cg rfl (fun _ => rfl) (e _ _ (by omega)) (fun j => e _ _ (by omega)), y5.cg rfl (fun _ => rfl) (e _ _ (by omega)) (fun j => e _ _ (by omega)), y6.cg rfl rfl (e _ _ (by omega)) (e _ _ (by omega)), ?_, ?_, ?_⟩
  · rw [pg4_4]; exact h.become hc hpn (by omega) hb
  · rw [show img (pg4 A cd) 0 = img A 0 from funext fun j => e _ _ (by omega)]; exact x8.k (by omega) (by omega) hb.2.2
  · rw [show img (pg4 A cd) 1 = img A 1 from funext fun j => e _ _ (by omega)]; exact x9.k (by omega) (by omega) hb.2.2
/-- a wash whose court stays: what hangs, how wet, how stained are others -/
theorem WR.keep {M : Mem} {w : Nat} {cd : CD} {hu : Int → Int} {n : Nat} {I : AS} (h : WR M w cd) (hW : WFc cd) (hn : cd 2 = n) (hw : 47 ≤ w ∧ w ≤ 71) (hI : ∀ b j, b ≠ w + 2 → I b j = mI M b j) (hH : HC I w cd hu) : WR (mJ M I) w (cKeep cd hu (cWe cd) (cSn cd) n) := by
  obtain ⟨a, h1, h2, h3, h4, h5, h6, h7, h8, h9, h10⟩ := h
  have k1 := cKeep_kp cd hu (cWe cd) (cSn cd) n
  have e2 := k1.1 2 (by omega) (by omega) (by omega)
  refine ⟨a, h1, h2, h3, h4, (h5.off (fun b j b0 b1 => hI b j (by omega))).kp hW k1, fun p p0 p1 => ?_, fun p p0 p1 => ?_, fun p p0 p1 => ?_, ?_, fun p p0 p1 => ?_⟩
  · rw [cKeep_hu _ _ _ _ p0 (by omega)]; exact hH p p0 (by omega)
  · rw [cKeep_we _ _ _ _ p0 (by omega)]; exact (hI _ _ (by omega)).trans (h7 p p0 (by omega))
  · rw [cKeep_sn _ _ _ _ p0 (by omega)]; exact (hI _ _ (by omega)).trans (h8 p p0 (by omega))
  · rw [cKeep_lo _ _ _ _ (by omega)]; exact (hI _ _ (by omega)).trans h9
  · show I (w + 3) p = 0 ∨ I (w + 3) p = 1
    rw [hI _ _ (by omega)]; exact h10 p p0 p1
set_option maxRecDepth 20000 in
set_option maxHeartbeats 3000000 in
theorem l_draft {G : Ctx} {M : Mem} (hX : XO M) {c : Nat} {cd : CD} (k1 : mR M 65 0 = c) (k2 : CA M c) (k3 : c = 33 ∨ 92 ≤ c) (k5 : CC (mI M) c cd) (hW : WFc cd) (n : Nat) (hn : cd 2 = n) (rn : Nat) (hrn : cd 1 = rn) {g : Int} (hg : mI M 65 1 = g) (g0 : 0 ≤ g) (g1 : g ≤ 1000000) {a i : Int} {f : Int → Int} (a0 : 0 ≤ a ∧ a ≤ 7) (i0 : 0 ≤ i ∧ i + n ≤ 40) (hf : ∀ p : Int, 0 ≤ p → p < n → mI M 25 (40 * a + (i + p)) = f p) (hin : fIn f (-1) (cd 0 - 1) n = true) : ∀ (k r : Nat) (I : AS) (z4 z5 : Option MV), r + k = n → (∀ b j, b ≠ 67 → I b j = mI M b j) ∧ HC I 65 cd (lh f r) ∧ lr cd f g n rn r = 0 → EV G m_X11_draftLaid 4 0 0 (fun x M' => x = some (vI (lr cd f g n rn n)) ∧ ∃ I, M' = mJ M I ∧ (∀ b j, b ≠ 67 → I b j = mI M b j) ∧ (lr cd f g n rn n = 0 → HC I 65 cd (lh f n))) 20 [some (vR 21), some (vI a), some (vI i), some (vI (r : Int)), z4, z5] [] (mJ M I) := by
  intro k
  induction k with
  | zero =>
    intro r I z4 z5 hr hi
    obtain rfl : r = n := by omega
    have hpn := hW.pn
    have hl8 := hW.ln
    have hDI : CC I c cd := k5.off (fun b j b0 b1 => hi.1 b j (by omega))
    refine E_iload_n dX11_draftLaid_20 rfl ?_
    refine E_aload_n dX11_draftLaid_21 rfl ?_
    refine g_X11_58 rfl dX11_draftLaid_22 hX.o hX.draft ?_
    refine g_X11_168 rfl dX11_draftLaid_25 hX.w3.o k1 ?_
    refine g_X11_172 rfl dX11_draftLaid_28 k2.o (hDI.pnc.trans hn) ?_
    refine E_icmp_ge (tgt := 92) dX11_draftLaid_31 (by decide) (fun h31 => ?_) (fun h31 => ?_)
    · refine E_iconst dX11_draftLaid_92 (by decide) ?_
      refine E_iret dX11_draftLaid_93 rfl ?_
      exact ⟨by rw [hi.2.2], I, rfl, hi.1, fun _ => hi.2.1⟩
    · exfalso; omega
  | succ k ih =>
    intro r I z4 z5 hr hi
    have hpn := hW.pn
    have hl8 := hW.ln
    have hDI : CC I c cd := k5.off (fun b j b0 b1 => hi.1 b j (by omega))
    have hfr := fIn_at hin r (by omega) (by omega)
    refine E_iload_n dX11_draftLaid_20 rfl ?_
    refine E_aload_n dX11_draftLaid_21 rfl ?_
    refine g_X11_58 rfl dX11_draftLaid_22 hX.o hX.draft ?_
    refine g_X11_168 rfl dX11_draftLaid_25 hX.w3.o k1 ?_
    refine g_X11_172 rfl dX11_draftLaid_28 k2.o (hDI.pnc.trans hn) ?_
    refine E_icmp_ge (tgt := 92) dX11_draftLaid_31 (by decide) (fun h31 => ?_) (fun h31 => ?_)
    · exfalso; omega
    · refine E_aload_n dX11_draftLaid_34 rfl ?_
      refine g_X11_10 rfl dX11_draftLaid_35 hX.o hX.rows ?_
      refine E_iload_n dX11_draftLaid_38 rfl ?_
      refine E_iload_n dX11_draftLaid_39 rfl ?_
      refine E_iload_n dX11_draftLaid_40 rfl ?_
      refine E_iadd dX11_draftLaid_41 (by omega) (by omega) ?_
      refine i_X11_319 rfl dX11_draftLaid_42 (by exact hX.rp.o) (c_item (by exact hX.rp) a0 (by omega) (by exact (hi.1 _ _ (by omega)).trans (hf _ (by omega) (by omega)))) (by omega) (Nat.le_of_ble_eq_true rfl) rfl rfl ?_
      rintro _ _ ⟨rfl, rfl⟩
      try dsimp only [pu]
      refine E_istore dX11_draftLaid_45 rfl (by decide) ?_
      try dsimp only [List.set]
      refine E_iload dX11_draftLaid_47 rfl ?_
      refine E_iconst dX11_draftLaid_49 (by decide) ?_
      refine E_icmp_ne (tgt := 56) dX11_draftLaid_50 (by decide) (fun h50 => ?_) (fun h50 => ?_)
      · refine E_aload_n dX11_draftLaid_56 rfl ?_
        refine g_X11_58 rfl dX11_draftLaid_57 hX.o hX.draft ?_
        refine E_iload_n dX11_draftLaid_60 rfl ?_
        refine E_iload dX11_draftLaid_61 rfl ?_
        refine i_X11_140 rfl dX11_draftLaid_63 (by exact hX.w3.o) (c_refusal (by exact hX.w3) (by exact k1) (by exact k2) (by exact hDI) hW (lh_hv hn hin r) (by exact hi.2.1) n hn (by exact (hi.1 _ _ (by omega)).trans hg) g0 g1 rn hrn (by omega) (by omega) (by omega) (by omega)) (by omega) (Nat.le_of_ble_eq_true rfl) rfl rfl ?_
        rintro _ _ ⟨rfl, rfl⟩
        try dsimp only [pu]
        refine E_istore dX11_draftLaid_66 rfl (by decide) ?_
        try dsimp only [List.set]
        refine E_iload dX11_draftLaid_68 rfl ?_
        refine E_if_eq (tgt := 76) dX11_draftLaid_70 (by decide) (fun h70 => ?_) (fun h70 => ?_)
        · refine E_aload_n dX11_draftLaid_76 rfl ?_
          refine g_X11_58 rfl dX11_draftLaid_77 hX.o hX.draft ?_
          refine E_iload_n dX11_draftLaid_80 rfl ?_
          refine E_iload dX11_draftLaid_81 rfl ?_
          refine i_X11_144 rfl dX11_draftLaid_83 (by exact hX.w3.o) (c_putUp (by exact hX.w3) (by omega) (by omega)) (by omega) (Nat.le_of_ble_eq_true rfl) rfl rfl ?_
          rintro _ _ ⟨rfl, J, rfl, rfl⟩
          try dsimp only [pu]
          refine E_iinc dX11_draftLaid_86 rfl (by omega) (by omega) (by decide) rfl (by decide) ?_
          try dsimp only [List.set]
          refine E_goto (tgt := 20) dX11_draftLaid_89 (by decide) ?_
          refine EV.mq rfl rfl (ih (r + 1) (up2 I 67 r (f r)) _ _ (by omega) ⟨fun b j hb => (up2_ne _ _ (fun z => hb z.1)).trans (hi.1 b j hb), fun p p0 p1 => ?_, by simp only [lr]; rw [if_neg (by omega), if_neg (by omega)]; omega⟩)
          simp only [lh]; rw [if_neg (by omega)]; unfold upH
          by_cases hp : p = r
          · rw [if_pos hp, hp]; unfold nm1; rw [if_neg (by omega)]; exact up2_self _ _ _ _
          · rw [if_neg hp]; exact (up2_ne _ _ (by omega)).trans (hi.2.1 p p0 p1)
        · refine E_iload dX11_draftLaid_73 rfl ?_
          refine E_iret dX11_draftLaid_75 rfl ?_
          have e : lr cd f g n rn (r + 1) = (fRef cd (lh f r) g r (f r) n rn) := by simp only [lr]; rw [if_neg (by omega), if_neg (by omega)]
          have e2 : lr cd f g n rn n = (fRef cd (lh f r) g r (f r) n rn) := (lr_mono (by rw [e]; exact h70) (by omega)).trans e
          exact ⟨by rw [e2], I, rfl, hi.1, fun hz => absurd (e2.symm.trans hz) h70⟩
      · refine E_goto (tgt := 86) dX11_draftLaid_53 (by decide) ?_
        refine E_iinc dX11_draftLaid_86 rfl (by omega) (by omega) (by decide) rfl (by decide) ?_
        try dsimp only [List.set]
        refine E_goto (tgt := 20) dX11_draftLaid_89 (by decide) ?_
        exact EV.mq rfl rfl (ih (r + 1) I _ _ (by omega) ⟨hi.1, fun p p0 p1 => by simp only [lh]; rw [if_pos (by omega)]; exact hi.2.1 p p0 p1, by simp only [lr]; rw [if_neg (by omega), if_pos (by omega)]⟩)
set_option maxRecDepth 20000 in
set_option maxHeartbeats 3000000 in
theorem c_draftLaid {G : Ctx} {M : Mem} {A : AS} {B : Int} (hI : CI M A) (hG : GA A B) (hB : B ≤ 900000) {a i : Int} (n : Nat) (hn : A 4 2 = n) (rn : Nat) (hrn : A 4 1 = rn) (a0 : 0 ≤ a ∧ a ≤ 7) (hla : 0 ≤ A 1 a) (i0 : 0 ≤ i ∧ i + n ≤ A 2 a) (hin : fIn (fun p => A 3 (40 * a + i + p)) (-1) (A 4 0 - 1) n = true) : CT G m_X11_draftLaid 4 0 0 [vR 21, vI a, vI i] M (fun x M' => x = some (vI (lr (A 4) (fun p => A 3 (40 * a + i + p)) (A 4 3) n rn n)) ∧ CI M' A ∧ FX M M' ∧ (lr (A 4) (fun p => A 3 (40 * a + i + p)) (A 4 3) n rn n = 0 → WR M' 65 (cKeep (A 4) (lh (fun p => A 3 (40 * a + i + p)) n) (cWe (A 4)) (cSn (A 4)) n))) := by
  refine CT.of k_X11_draftLaid 3 (ls := [some (vR 21), some (vI a), some (vI i), none, none, none]) rfl (Nat.le_of_ble_eq_true rfl) ?_
  obtain ⟨hX, hN, hR, hT, hK, hS, hW0, hW1, hW2⟩ := id hI
  obtain ⟨ca, hRc, hC, hca, haN, hD, hH, hE, hSn, hg, hZ⟩ := hW0
  have hW := hG.w.c
  have hpn := hW.pn
  have hl8 := hW.ln
  have hr8 := hW.rn
  have hgg := hG.w.g
  have hth := hG.th
  have hV := hG.w.hv
  have hsz := hG.sz (r := a) (by omega) (by omega)
  refine E_aload_n dX11_draftLaid_0 rfl ?_
  refine g_X11_58 rfl dX11_draftLaid_1 hX.o hX.draft ?_
  refine E_aload_n dX11_draftLaid_4 rfl ?_
  refine g_X11_48 rfl dX11_draftLaid_5 hX.o hX.wash ?_
  refine i_X11_182 rfl dX11_draftLaid_8 (by exact hX.w3.o) (c_become (by exact hX.w3) (by exact hX.w0) hRc (by omega) (by omega) (by exact hZ)) (by omega) (Nat.le_of_ble_eq_true rfl) rfl rfl ?_
  rintro _ _ ⟨rfl, I, rfl, hb⟩
  have hWt : WR (mK M 65 ca I) 65 (A 4) := WR.become hI.2.2.2.2.2.2.1 hRc (by omega) (by omega) hb
  have hIt : CI (mK M 65 ca I) A := hI.kt (Or.inl rfl) hb.2.2
  have hFt : FX M (mK M 65 ca I) := FX.k (by omega) hb.2.2
  obtain ⟨M1, e1⟩ : ∃ M1, mK M 65 ca I = M1 := ⟨_, rfl⟩
  rw [e1] at hWt hIt hFt ⊢
  clear e1
  obtain ⟨c, k1, k2, k3, k4, k5, k6, k7, k8, k9, k10⟩ := id hWt
  try dsimp only [pu]
  refine E_aload_n dX11_draftLaid_11 rfl ?_
  refine g_X11_58 rfl dX11_draftLaid_12 hIt.1.o hIt.1.draft ?_
  refine i_X11_316 rfl dX11_draftLaid_15 (by exact hIt.1.w3.o) (c_takeAllDown (by exact hIt.1.w3) k1 k2 k5 hW n hn (by omega)) (by omega) (Nat.le_of_ble_eq_true rfl) rfl rfl ?_
  rintro _ _ ⟨rfl, J, rfl, hJ⟩
  try dsimp only [pu]
  refine E_iconst dX11_draftLaid_18 (by decide) ?_
  refine E_istore_n dX11_draftLaid_19 rfl (by decide) ?_
  try dsimp only [List.set]
  have hl0 : HC J 65 (A 4) (lh (fun p => A 3 (40 * a + i + p)) 0) := fun p p0 p1 => by simp only [lh]; exact hJ.1 p p0 (by omega)
  have hJo : ∀ b j, b ≠ 67 → J b j = mI M1 b j := hJ.2
  have hfj : ∀ p : Int, 0 ≤ p → p < n → mI M1 25 (40 * a + (i + p)) = (fun p => A 3 (40 * a + i + p)) p := fun p p0 p1 => by
    have := ((hIt.2.2.1 a (by omega) (by omega)).2 hla).2 (i + p) (by omega) (by omega)
    rw [this]; congr 1; omega
  refine EV.post (fun x M' hq => ?_) (l_draft hIt.1 k1 k2 k3 k5 hW n hn rn hrn k9 hgg.1 (by omega) a0 (by omega) (f := (fun p => A 3 (40 * a + i + p))) hfj hin n 0 J _ _ (by omega) ⟨hJo, hl0, rfl⟩)
  obtain ⟨rfl, K, rfl, hK1, hK2⟩ := hq
  exact ⟨rfl, hIt.dt (fun b j q1 q2 q3 q4 q5 => hK1 b j (by omega)), hFt.j (fun b j b0 b1 => hK1 b j (by omega)), fun hz => hWt.keep hW hn (by omega) hK1 (hK2 hz)⟩
set_option maxRecDepth 20000 in
set_option maxHeartbeats 3000000 in
theorem x_lay {G : Ctx} {M : Mem} {A : AS} {B : Int} (hI : CI M A) (hG : GA A B) (hB : B ≤ 900000) {a i : Int} (n : Nat) (hn : A 4 2 = n) (rn : Nat) (hrn : A 4 1 = rn) (i0 : -2147483648 ≤ i ∧ i ≤ 2147483647) : CT G m_X11_lay 5 0 0 [vR 21, vI a, vI i] M (xM M (s_lay A a i n rn) (t_laid A a i n rn)) := by
  refine CT.of k_X11_lay 2 (ls := [some (vR 21), some (vI a), some (vI i), none, none]) rfl (Nat.le_of_ble_eq_true rfl) ?_
  obtain ⟨hX, hN, hR, hT, hK, hS, hW0, hW1, hW2⟩ := id hI
  obtain ⟨ca, hRc, hC, hca, haN, hD, hH, hE, hSn, hg, hZ⟩ := hW0
  have hW := hG.w.c
  have hpn := hW.pn
  have hl8 := hW.ln
  have hr8 := hW.rn
  have hgg := hG.w.g
  have hth := hG.th
  have hV := hG.w.hv
  refine E_aload_n dX11_lay_0 rfl ?_
  refine i_X11_158 rfl dX11_lay_1 (by exact hX.o) (c_noCourt hX hRc hC hD) (by omega) (Nat.le_of_ble_eq_true rfl) rfl rfl ?_
  rintro _ _ ⟨rfl, rfl⟩
  try dsimp only [pu]
  refine E_if_eq (tgt := 10) dX11_lay_4 (by decide) (fun h4 => ?_) (fun h4 => ?_)
  · simp only [tB0, ne_eq, Bool.not_eq_false, Bool.not_eq_true, decide_eq_true_eq, decide_eq_false_iff_not, Classical.not_not] at h4
    refine E_aload_n dX11_lay_10 rfl ?_
    refine g_X11_10 rfl dX11_lay_11 hX.o hX.rows ?_
    refine E_iload_n dX11_lay_14 rfl ?_
    refine i_X11_64 rfl dX11_lay_15 (by exact hX.rp.o) (c_xIsRow (by exact hX.rp)) (by omega) (Nat.le_of_ble_eq_true rfl) rfl rfl ?_
    rintro _ _ ⟨rfl, rfl⟩
    try dsimp only [pu]
    refine E_if_ne (tgt := 24) dX11_lay_18 (by decide) (fun h18 => ?_) (fun h18 => ?_)
    · simp only [tB0, ne_eq, Bool.not_eq_false, Bool.not_eq_true, decide_eq_true_eq, decide_eq_false_iff_not, Classical.not_not] at h18
      have hsz := hG.sz (r := a) (by omega) (by omega)
      have hln := hG.ln (r := a) (by omega) (by omega)
      refine E_aload_n dX11_lay_24 rfl ?_
      refine g_X11_10 rfl dX11_lay_25 hX.o hX.rows ?_
      refine E_iload_n dX11_lay_28 rfl ?_
      refine i_X11_84 rfl dX11_lay_29 (by exact hX.rp.o) (c_isMissing (by exact hX.rp) (by omega) (hR a (by omega) (by omega)).1) (by omega) (Nat.le_of_ble_eq_true rfl) rfl rfl ?_
      rintro _ _ ⟨rfl, rfl⟩
      try dsimp only [pu]
      refine E_if_eq (tgt := 41) dX11_lay_32 (by decide) (fun h32 => ?_) (fun h32 => ?_)
      · simp only [tB0, ne_eq, Bool.not_eq_false, Bool.not_eq_true, decide_eq_true_eq, decide_eq_false_iff_not, Classical.not_not] at h32
        refine E_aload_n dX11_lay_41 rfl ?_
        refine g_X11_48 rfl dX11_lay_42 hX.o hX.wash ?_
        refine g_X11_168 rfl dX11_lay_45 hX.w0.o hRc ?_
        refine g_X11_172 rfl dX11_lay_48 hC.o (hD.pnc.trans hn) ?_
        refine E_istore_n dX11_lay_51 rfl (by decide) ?_
        try dsimp only [List.set]
        refine E_aload_n dX11_lay_52 rfl ?_
        refine g_X11_10 rfl dX11_lay_53 hX.o hX.rows ?_
        refine E_iload_n dX11_lay_56 rfl ?_
        refine E_iload_n dX11_lay_57 rfl ?_
        refine E_iload_n dX11_lay_58 rfl ?_
        refine i_X11_87 rfl dX11_lay_59 (by exact hX.rp.o) (c_hasItems (by exact hX.rp) (by omega) ((hR a (by omega) (by omega)).2 (by omega)).1 hsz (by omega)) (by omega) (Nat.le_of_ble_eq_true rfl) rfl rfl ?_
        rintro _ _ ⟨rfl, rfl⟩
        try dsimp only [pu]
        refine E_if_ne (tgt := 71) dX11_lay_62 (by decide) (fun h62 => ?_) (fun h62 => ?_)
        · simp only [tB0, ne_eq, Bool.not_eq_false, Bool.not_eq_true, decide_eq_true_eq, decide_eq_false_iff_not, Classical.not_not] at h62
          have hfi : ∀ k : Int, 0 ≤ k → k < n → mI M 25 (40 * a + (i + k)) = (fun p => A 3 (40 * a + i + p)) k := fun k k0 k1 => by
            have := ((hR a (by omega) (by omega)).2 (by omega)).2 (i + k) (by omega) (by omega)
            rw [this]; congr 1; omega
          refine E_aload_n dX11_lay_71 rfl ?_
          refine g_X11_10 rfl dX11_lay_72 hX.o hX.rows ?_
          refine E_iload_n dX11_lay_75 rfl ?_
          refine E_iload_n dX11_lay_76 rfl ?_
          refine E_iload_n dX11_lay_77 rfl ?_
          refine E_iconst dX11_lay_78 (by decide) ?_
          refine E_aload_n dX11_lay_79 rfl ?_
          refine g_X11_48 rfl dX11_lay_80 hX.o hX.wash ?_
          refine g_X11_168 rfl dX11_lay_83 hX.w0.o hRc ?_
          refine g_X11_131 rfl dX11_lay_86 hC.o hD.lnc ?_
          refine E_iconst dX11_lay_89 (by decide) ?_
          refine E_isub dX11_lay_90 (by omega) (by omega) ?_
          refine i_X11_175 rfl dX11_lay_91 (by exact hX.rp.o) (c_areIn (by exact hX.rp) (by omega) n (by omega) (g := (fun p => A 3 (40 * a + i + p))) (by exact hfi)) (by omega) (Nat.le_of_ble_eq_true rfl) rfl rfl ?_
          rintro _ _ ⟨rfl, rfl⟩
          try dsimp only [pu]
          refine E_if_ne (tgt := 100) dX11_lay_94 (by decide) (fun h94 => ?_) (fun h94 => ?_)
          · simp only [tB0, ne_eq, Bool.not_eq_false, Bool.not_eq_true, decide_eq_true_eq, decide_eq_false_iff_not, Classical.not_not] at h94
            refine E_aload_n dX11_lay_100 rfl ?_
            refine E_iload_n dX11_lay_101 rfl ?_
            refine E_iload_n dX11_lay_102 rfl ?_
            refine i_X11_179 rfl dX11_lay_103 (by exact hX.o) (c_draftLaid hI hG hB n hn rn hrn (by omega) (by omega) (by omega) h94) (by omega) (Nat.le_of_ble_eq_true rfl) rfl rfl ?_
            rintro _ M9 ⟨rfl, hI9, hF9, hW9⟩
            try dsimp only [pu]
            refine E_istore dX11_lay_106 rfl (by decide) ?_
            try dsimp only [List.set]
            refine E_iload dX11_lay_108 rfl ?_
            refine E_if_eq (tgt := 116) dX11_lay_110 (by decide) (fun h110 => ?_) (fun h110 => ?_)
            · have hin : fIn (fun p => A 3 (40 * a + i + p)) (-1) (A 4 0 - 1) n = true := h94
              have hWd := hW9 (by omega)
              have hVd := hG.w.keep hn (lh_hv hn hin n) hG.w.we hG.w.sn
              have hpd : (cKeep (A 4) (lh (fun p => A 3 (40 * a + i + p)) n) (cWe (A 4)) (cSn (A 4)) n) 2 ≤ 10 := hVd.c.pn.2
              have hnd : (cKeep (A 4) (lh (fun p => A 3 (40 * a + i + p)) n) (cWe (A 4)) (cSn (A 4)) n) 2 = n := (cKeep_lo _ _ _ _ (by omega) _).trans hn
              obtain ⟨c, k1, k2, k3, k4, k5, k6, k7, k8, k9, k10⟩ := id hWd
              refine E_aload_n dX11_lay_116 rfl ?_
              refine g_X11_48 rfl dX11_lay_117 hI9.1.o hI9.1.wash ?_
              refine E_aload_n dX11_lay_120 rfl ?_
              refine g_X11_58 rfl dX11_lay_121 hI9.1.o hI9.1.draft ?_
              refine i_X11_182 rfl dX11_lay_124 (by exact hI9.1.w0.o) (c_become (by exact hI9.1.w0) (by exact hI9.1.w3) k1 (by omega) (by omega) (by exact k10)) (by omega) (Nat.le_of_ble_eq_true rfl) rfl rfl ?_
              rintro _ _ ⟨rfl, I, rfl, hb⟩
              have hIf := hI9.wb hWd hpd k1 hb
              have hFf : FX M (mK M9 47 c I) := hF9.tr (FX.k (by omega) hb.2.2)
              obtain ⟨MA_, e1⟩ : ∃ M1, mK M9 47 c I = M1 := ⟨_, rfl⟩
              rw [e1] at hIf hFf ⊢
              clear e1
              obtain ⟨f, j1, j2, j3, j4, j5, j6, j7, j8, j9, j10⟩ := id hIf.2.2.2.2.2.2.1
              rw [pg4_4] at j5 j6
              try dsimp only [pu]
              refine E_aload_n dX11_lay_127 rfl ?_
              refine E_aload_n dX11_lay_128 rfl ?_
              refine g_X11_48 rfl dX11_lay_129 hIf.1.o hIf.1.wash ?_
              refine i_X11_186 rfl dX11_lay_132 (by exact hIf.1.w0.o) (c_hungBits (by exact hIf.1.w0) j1 j2 j5 hVd.c hVd.hv j6 n hnd) (by omega) (Nat.le_of_ble_eq_true rfl) rfl rfl ?_
              rintro _ _ ⟨rfl, rfl⟩
              try dsimp only [pu]
              refine i_X11_190 rfl dX11_lay_135 (c_bitCount (fHu_bs _ n (by omega)) (by omega)) (by omega) (Nat.le_of_ble_eq_true rfl) rfl rfl ?_
              rintro _ _ ⟨rfl, rfl⟩
              try dsimp only [pu]
              refine i_X11_81 rfl dX11_lay_138 (by exact hIf.1.o) (c_unfound (by exact hIf.1.o)) (by omega) (Nat.le_of_ble_eq_true rfl) rfl rfl ?_
              rintro _ _ ⟨rfl, rfl⟩
              try dsimp only [pu]
              refine E_iret dX11_lay_141 rfl ?_
              refine ⟨?_, ?_, hFf.w (by omega)⟩
              · unfold s_lay; rw [if_neg (by omega), if_neg (by omega), if_neg (by omega), if_neg (by omega), if_neg (by rw [h94]; simp), if_neg (by omega)]
                congr 2
                refine cnt_cg n (fun q hq => ?_)
                rw [cKeep_hu _ _ _ _ (by omega) (by omega), lh_at _ _ _ (by omega)]
                have hfr := fIn_at hin (q : Int) (by omega) (by omega)
                by_cases hz : 0 ≤ A 3 (40 * a + i + q)
                · rw [if_pos ⟨by omega, hz⟩, decide_eq_true hz, decide_eq_true (by omega)]
                · rw [if_neg (fun w => hz w.2), decide_eq_false hz, decide_eq_false (by omega)]
              · unfold t_laid; rw [if_neg (by omega), if_neg (by omega), if_neg (by omega), if_neg (by omega), if_neg (by rw [h94]; simp), if_neg (by omega), pg4_up]; exact hIf.st 0
            · refine E_iload dX11_lay_113 rfl ?_
              refine E_iret dX11_lay_115 rfl ?_
              refine ⟨?_, ?_, hF9⟩
              · unfold s_lay; rw [if_neg (by omega), if_neg (by omega), if_neg (by omega), if_neg (by omega), if_neg (by rw [h94]; simp), if_pos h110]
              · unfold t_laid; rw [if_neg (by omega), if_neg (by omega), if_neg (by omega), if_neg (by omega), if_neg (by rw [h94]; simp), if_pos h110]; exact hI9
          · simp only [tB0, ne_eq, Bool.not_eq_false, Bool.not_eq_true, decide_eq_true_eq, decide_eq_false_iff_not, Classical.not_not] at h94
            refine c_X11_72 rfl dX11_lay_97 ?_
            refine E_iret dX11_lay_99 rfl ?_
            refine ⟨?_, ?_, FX.rfl' M⟩
            · congr 2; unfold s_lay; rw [if_neg (by omega), if_neg (by omega), if_neg (by omega), if_neg (by omega), if_pos h94]
            · unfold t_laid; rw [if_neg (by omega), if_neg (by omega), if_neg (by omega), if_neg (by omega), if_pos h94]; exact hI
        · simp only [tB0, ne_eq, Bool.not_eq_false, Bool.not_eq_true, decide_eq_true_eq, decide_eq_false_iff_not, Classical.not_not] at h62
          refine E_aload_n dX11_lay_65 rfl ?_
          refine E_iconst dX11_lay_66 (by decide) ?_
          refine i_X11_73 rfl dX11_lay_67 (by exact hX.o) (c_found (by exact hX.o) (by omega) (by omega)) (by omega) (Nat.le_of_ble_eq_true rfl) rfl rfl ?_
          rintro _ _ ⟨rfl, rfl⟩
          try dsimp only [pu]
          refine E_iret dX11_lay_70 rfl ?_
          refine ⟨?_, ?_, ((FX.rfl' M).w (by omega))⟩
          · congr 2; unfold s_lay; rw [if_neg (by omega), if_neg (by omega), if_neg (by omega), if_pos (by omega)]; try rfl
          · unfold t_laid; rw [if_neg (by omega), if_neg (by omega), if_neg (by omega), if_pos (by omega)]; exact (hI.st 2)
      · simp only [tB0, ne_eq, Bool.not_eq_false, Bool.not_eq_true, decide_eq_true_eq, decide_eq_false_iff_not, Classical.not_not] at h32
        refine E_aload_n dX11_lay_35 rfl ?_
        refine E_iconst dX11_lay_36 (by decide) ?_
        refine i_X11_73 rfl dX11_lay_37 (by exact hX.o) (c_found (by exact hX.o) (by omega) (by omega)) (by omega) (Nat.le_of_ble_eq_true rfl) rfl rfl ?_
        rintro _ _ ⟨rfl, rfl⟩
        try dsimp only [pu]
        refine E_iret dX11_lay_40 rfl ?_
        refine ⟨?_, ?_, ((FX.rfl' M).w (by omega))⟩
        · congr 2; unfold s_lay; rw [if_neg (by omega), if_neg (by omega), if_pos (by omega)]; try rfl
        · unfold t_laid; rw [if_neg (by omega), if_neg (by omega), if_pos (by omega)]; exact (hI.st 1)
    · simp only [tB0, ne_eq, Bool.not_eq_false, Bool.not_eq_true, decide_eq_true_eq, decide_eq_false_iff_not, Classical.not_not] at h18
      refine c_X11_72 rfl dX11_lay_21 ?_
      refine E_iret dX11_lay_23 rfl ?_
      refine ⟨?_, ?_, (FX.rfl' M)⟩
      · congr 2; unfold s_lay; rw [if_neg (by omega), if_pos (by omega)]; try rfl
      · unfold t_laid; rw [if_neg (by omega), if_pos (by omega)]; exact hI
  · simp only [tB0, ne_eq, Bool.not_eq_false, Bool.not_eq_true, decide_eq_true_eq, decide_eq_false_iff_not, Classical.not_not] at h4
    refine c_X11_154 rfl dX11_lay_7 ?_
    refine E_iret dX11_lay_9 rfl ?_
    refine ⟨?_, ?_, (FX.rfl' M)⟩
    · congr 2; unfold s_lay; rw [if_pos (by omega)]; try rfl
    · unfold t_laid; rw [if_pos (by omega)]; exact hI
theorem GA.lay {A : AS} {B : Int} (h : GA A B) (a i : Int) (n rn : Nat) (hn : A 4 2 = n) : GA (t_laid A a i n rn) B := by
  unfold t_laid
  split
  · exact h
  · split
    · exact h
    · split
      · exact h.st (fun k j _ hk => up2_ne _ _ (by omega))
      · split
        · exact h.st (fun k j _ hk => up2_ne _ _ (by omega))
        · split
          · exact h
          · rename_i hin
            split
            · exact h
            · have h1 : GA (up2 A 0 1 0) B := h.st (fun k j _ hk => up2_ne _ _ (by omega))
              refine h1.p4 (Int.le_refl B) (fun k j hk => pg4_ne _ _ hk) ?_ (by rw [pg4_4, up2_ne _ _ (by omega)]; exact cKeep_lo _ _ _ _ (by omega) _)
              rw [pg4_4]
              exact h.w.keep hn (lh_hv hn (by simpa using hin) n) h.w.we h.w.sn
