theorem CI.im {M : Mem} {A : AS} {B k : Int} {w c : Nat} {I : AS} (hI : CI M A) (hG : GA A B) (hk : (k = 0 ∧ w = 53) ∨ (k = 1 ∧ w = 59)) (hc : mR M 47 0 = c) (hb : BI M w 47 10 I) : CI (mK M w c I) (up2 (mov A 13 4 0 (144 * k) 144) 12 k 1) := by
  obtain ⟨y1, y2, y3, y4, y5, y6⟩ := hI.kq (c := c) (w := w) (by omega) hb.2.2
  obtain ⟨x1, x2, x3, x4, x5, x6, x7, x8, x9⟩ := hI
  have hW := hG.w.c
  have hpn := hW.pn
  have e : ∀ q j, q ≠ 12 → q ≠ 13 → up2 (mov A 13 4 0 (144 * k) 144) 12 k 1 q j = A q j := fun q j q1 q2 => (up2_ne _ _ (by omega)).trans (mov_ne _ (by omega))
  have ei : ∀ j : Int, 0 ≤ j → j < 144 → up2 (mov A 13 4 0 (144 * k) 144) 12 k 1 13 (144 * k + j) = A 4 j := fun j j0 j1 => by
    rw [up2_ne _ _ (by omega)]; unfold mov; rw [if_pos ⟨rfl, by omega, by omega⟩]; congr 1; omega
  have eo : ∀ (l j : Int), (l = 0 ∨ l = 1) → l ≠ k → 0 ≤ j → j < 144 → up2 (mov A 13 4 0 (144 * k) 144) 12 k 1 13 (144 * l + j) = A 13 (144 * l + j) := fun l j l0 l1 j0 j1 => (up2_ne _ _ (by omega)).trans (mov_ne _ (by omega))
  refine ⟨y1, y2, y3.cg (fun _ => rfl) (fun _ => rfl) (fun _ => rfl) (fun j => e _ _ (by omega) (by omega)) (fun j => e _ _ (by omega) (by omega)) (fun j => e _ _ (by omega) (by omega)), y4.cg rfl (fun _ => rfl) (e _ _ (by omega) (by omega)) (fun j => e _ _ (by omega) (by omega)), y5.cg rfl (fun _ => rfl) (e _ _ (by omega) (by omega)) (fun j => e _ _ (by omega) (by omega)), y6.cg rfl rfl (e _ _ (by omega) (by omega)) (e _ _ (by omega) (by omega)), ?_, ?_, ?_⟩
  · exact (x7.k (by omega) (by omega) hb.2.2).eqv hW (fun j _ _ => e _ _ (by omega) (by omega))
  · rcases hk with ⟨rfl, rfl⟩ | ⟨rfl, rfl⟩
    · exact (x7.become hc (by omega) (by omega) hb).eqv hW (fun j j0 j1 => ei j j0 j1)
    · exact (x8.k (by omega) (by omega) hb.2.2).eqv (hG.im (Or.inl rfl)).1.c (fun j j0 j1 => eo 0 j (by omega) (by omega) j0 j1)
  · rcases hk with ⟨rfl, rfl⟩ | ⟨rfl, rfl⟩
    · exact (x9.k (by omega) (by omega) hb.2.2).eqv (hG.im (Or.inr rfl)).1.c (fun j j0 j1 => eo 1 j (by omega) (by omega) j0 j1)
    · exact (x7.become hc (by omega) (by omega) hb).eqv hW (fun j j0 j1 => ei j j0 j1)
theorem CI.re {M : Mem} {A : AS} {B k : Int} {w c : Nat} {I : AS} (hI : CI M A) (hG : GA A B) (hk : (k = 0 ∧ w = 53) ∨ (k = 1 ∧ w = 59)) (hc : mR M w 0 = c) (hb : BI M 47 w 10 I) : CI (mK M 47 c I) (mov A 4 13 (144 * k) 0 144) := by
  obtain ⟨y1, y2, y3, y4, y5, y6⟩ := hI.kq (c := c) (w := 47) (by omega) hb.2.2
  obtain ⟨x1, x2, x3, x4, x5, x6, x7, x8, x9⟩ := hI
  have e : ∀ q j, q ≠ 4 → mov A 4 13 (144 * k) 0 144 q j = A q j := fun q j q1 => mov_ne _ (by omega)
  have ei : ∀ j : Int, 0 ≤ j → j < 144 → mov A 4 13 (144 * k) 0 144 4 j = A 13 (144 * k + j) := fun j j0 j1 => by
    unfold mov; rw [if_pos ⟨rfl, by omega, by omega⟩]; congr 1; omega
  have hk' : k = 0 ∨ k = 1 := by omega
  have hW := (hG.im hk').1.c
  have hpn : img A k 2 ≤ 10 := hW.pn.2
  have hwr : WR M w (img A k) := by
    rcases hk with ⟨rfl, rfl⟩ | ⟨rfl, rfl⟩
    · exact x8
    · exact x9
  refine ⟨y1, y2, y3.cg (fun _ => rfl) (fun _ => rfl) (fun _ => rfl) (fun j => e _ _ (by omega)) (fun j => e _ _ (by omega)) (fun j => e _ _ (by omega)), y4.cg rfl (fun _ => rfl) (e _ _ (by omega)) (fun j => e _ _ (by omega)), y5.cg rfl (fun _ => rfl) (e _ _ (by omega)) (fun j => e _ _ (by omega)), y6.cg rfl rfl (e _ _ (by omega)) (e _ _ (by omega)), ?_, ?_, ?_⟩
  · exact (hwr.become hc hpn (by omega) hb).eqv hW (fun j j0 j1 => ei j j0 j1)
  · exact (x8.k (by omega) (by omega) hb.2.2).eqv (hG.im (Or.inl rfl)).1.c (fun j _ _ => e _ _ (by omega))
  · exact (x9.k (by omega) (by omega) hb.2.2).eqv (hG.im (Or.inr rfl)).1.c (fun j _ _ => e _ _ (by omega))
set_option maxRecDepth 20000 in
set_option maxHeartbeats 3000000 in
theorem c_imageOf0 {G : Ctx} {M : Mem} (hX : XO M) : CT G m_X11_imageOf 0 0 0 [vR 21, vI 0] M (fun r M' => r = some (vR 53) ∧ M = M') := by
  refine CT.of k_X11_imageOf 0 (ls := [some (vR 21), some (vI 0)]) rfl (Nat.le_of_ble_eq_true rfl) ?_
  refine E_iload_n dX11_imageOf_0 rfl ?_
  refine E_if_ne (tgt := 11) dX11_imageOf_1 (by decide) (fun h1 => ?_) (fun h1 => ?_)
  · exfalso; omega
  · refine E_aload_n dX11_imageOf_4 rfl ?_
    refine g_X11_52 rfl dX11_imageOf_5 hX.o hX.firstImage ?_
    refine E_goto (tgt := 15) dX11_imageOf_8 (by decide) ?_
    refine E_aret dX11_imageOf_15 rfl (Or.inl ⟨_, rfl⟩) ?_
    exact ⟨rfl, rfl⟩
set_option maxRecDepth 20000 in
set_option maxHeartbeats 3000000 in
theorem x_image0 {G : Ctx} {M : Mem} {A : AS} {B : Int} (hI : CI M A) (hG : GA A B) (hB : B ≤ 900000) : CT G m_X11_image 2 0 0 [vR 21, vI 0] M (xM M (s_image A 0) (t_image A 0)) := by
  refine CT.of k_X11_image 0 (ls := [some (vR 21), some (vI 0)]) rfl (Nat.le_of_ble_eq_true rfl) ?_
  obtain ⟨hX, hN, hR, hT, hK, hS, hW0, hW1, hW2⟩ := id hI
  obtain ⟨a, hRc, hC, ha, haN, hD, hH, hE, hSn, hg, hZ⟩ := hW0
  have hW := hG.w.c
  have hpn := hW.pn
  have hl8 := hW.ln
  have hr8 := hW.rn
  have hgg := hG.w.g
  have hth := hG.th
  have hV := hG.w.hv
  refine E_iload_n dX11_image_0 rfl ?_
  refine E_iconst dX11_image_1 (by decide) ?_
  refine E_iconst dX11_image_2 (by decide) ?_
  refine i_X11_68 rfl dX11_image_3 c_isIn (by omega) (Nat.le_of_ble_eq_true rfl) rfl rfl ?_
  rintro _ _ ⟨rfl, rfl⟩
  try dsimp only [pu]
  refine E_if_ne (tgt := 12) dX11_image_6 (by decide) (fun h6 => ?_) (fun h6 => ?_)
  · simp only [tB0, ne_eq, Bool.not_eq_false, Bool.not_eq_true, decide_eq_true_eq, decide_eq_false_iff_not, Classical.not_not] at h6
    refine E_aload_n dX11_image_12 rfl ?_
    refine i_X11_158 rfl dX11_image_13 (by exact hX.o) (c_noCourt hX hRc hC hD) (by omega) (Nat.le_of_ble_eq_true rfl) rfl rfl ?_
    rintro _ _ ⟨rfl, rfl⟩
    try dsimp only [pu]
    refine E_if_eq (tgt := 22) dX11_image_16 (by decide) (fun h16 => ?_) (fun h16 => ?_)
    · simp only [tB0, ne_eq, Bool.not_eq_false, Bool.not_eq_true, decide_eq_true_eq, decide_eq_false_iff_not, Classical.not_not] at h16
      refine E_aload_n dX11_image_22 rfl ?_
      refine E_iload_n dX11_image_23 rfl ?_
      refine i_X11_267 rfl dX11_image_24 (by exact hX.o) (c_imageOf0 hX) (by omega) (Nat.le_of_ble_eq_true rfl) rfl rfl ?_
      rintro _ _ ⟨rfl, rfl⟩
      try dsimp only [pu]
      refine E_aload_n dX11_image_27 rfl ?_
      refine g_X11_48 rfl dX11_image_28 hX.o hX.wash ?_
      refine i_X11_182 rfl dX11_image_31 (by exact hX.w1.o) (c_become (by exact hX.w1) (by exact hX.w0) hRc (by omega) (by omega) (by exact hZ)) (by omega) (Nat.le_of_ble_eq_true rfl) rfl rfl ?_
      rintro _ _ ⟨rfl, I, rfl, hb⟩
      try dsimp only [pu]
      refine E_iconst dX11_image_34 (by decide) ?_
      refine E_iret dX11_image_35 rfl ?_
      refine ⟨?_, ?_, FX.k (by omega) hb.2.2⟩
      · congr 2; unfold s_image; rw [if_pos (by omega), if_neg (by omega)]
      · unfold t_image; rw [if_pos (by omega), if_neg (by omega)]; exact hI.im hG (by omega) hRc hb
    · simp only [tB0, ne_eq, Bool.not_eq_false, Bool.not_eq_true, decide_eq_true_eq, decide_eq_false_iff_not, Classical.not_not] at h16
      refine c_X11_154 rfl dX11_image_19 ?_
      refine E_iret dX11_image_21 rfl ?_
      refine ⟨?_, ?_, (FX.rfl' M)⟩
      · congr 2; unfold s_image; rw [if_pos (by omega), if_pos (by omega)]; try rfl
      · unfold t_image; rw [if_pos (by omega), if_pos (by omega)]; exact hI
  · exact absurd h6 (by decide)
set_option maxRecDepth 20000 in
set_option maxHeartbeats 3000000 in
theorem x_restore0 {G : Ctx} {M : Mem} {A : AS} {B : Int} (hI : CI M A) (hG : GA A B) (hB : B ≤ 900000) : CT G m_X11_restore 2 0 0 [vR 21, vI 0] M (xM M (s_restore A 0) (t_restore A 0)) := by
  refine CT.of k_X11_restore 0 (ls := [some (vR 21), some (vI 0)]) rfl (Nat.le_of_ble_eq_true rfl) ?_
  obtain ⟨hX, hN, hR, hT, hK, hS, hW0, hW1, hW2⟩ := id hI
  obtain ⟨a, hRc, hC, ha, haN, hD, hH, hE, hSn, hg, hZ⟩ := hW0
  have hW := hG.w.c
  have hpn := hW.pn
  have hl8 := hW.ln
  have hr8 := hW.rn
  have hgg := hG.w.g
  have hth := hG.th
  have hV := hG.w.hv
  have him := (hG.im (k := 0) (by omega)).2
  obtain ⟨a2, k1, k2, k3, k4, k5, k6, k7, k8, k9, k10⟩ := id hW1
  refine E_iload_n dX11_restore_0 rfl ?_
  refine E_iconst dX11_restore_1 (by decide) ?_
  refine E_iconst dX11_restore_2 (by decide) ?_
  refine i_X11_68 rfl dX11_restore_3 c_isIn (by omega) (Nat.le_of_ble_eq_true rfl) rfl rfl ?_
  rintro _ _ ⟨rfl, rfl⟩
  try dsimp only [pu]
  refine E_if_ne (tgt := 12) dX11_restore_6 (by decide) (fun h6 => ?_) (fun h6 => ?_)
  · simp only [tB0, ne_eq, Bool.not_eq_false, Bool.not_eq_true, decide_eq_true_eq, decide_eq_false_iff_not, Classical.not_not] at h6
    refine E_aload_n dX11_restore_12 rfl ?_
    refine E_iload_n dX11_restore_13 rfl ?_
    refine i_X11_267 rfl dX11_restore_14 (by exact hX.o) (c_imageOf0 hX) (by omega) (Nat.le_of_ble_eq_true rfl) rfl rfl ?_
    rintro _ _ ⟨rfl, rfl⟩
    try dsimp only [pu]
    refine g_X11_168 rfl dX11_restore_17 hX.w1.o k1 ?_
    refine i_X11_271 rfl dX11_restore_20 (by exact k2.o) (c_isTold (by exact k2.o)) (by omega) (Nat.le_of_ble_eq_true rfl) rfl rfl ?_
    rintro _ _ ⟨rfl, rfl⟩
    rw [k5.lnc]
    try dsimp only [pu]
    refine E_if_ne (tgt := 29) dX11_restore_23 (by decide) (fun h23 => ?_) (fun h23 => ?_)
    · simp only [tB0, ne_eq, Bool.not_eq_false, Bool.not_eq_true, decide_eq_true_eq, decide_eq_false_iff_not, Classical.not_not] at h23
      refine E_aload_n dX11_restore_29 rfl ?_
      refine g_X11_48 rfl dX11_restore_30 hX.o hX.wash ?_
      refine E_aload_n dX11_restore_33 rfl ?_
      refine E_iload_n dX11_restore_34 rfl ?_
      refine i_X11_267 rfl dX11_restore_35 (by exact hX.o) (c_imageOf0 hX) (by omega) (Nat.le_of_ble_eq_true rfl) rfl rfl ?_
      rintro _ _ ⟨rfl, rfl⟩
      try dsimp only [pu]
      refine i_X11_182 rfl dX11_restore_38 (by exact hX.w0.o) (c_become (by exact hX.w0) (by exact hX.w1) k1 (by omega) (by omega) (by exact k10)) (by omega) (Nat.le_of_ble_eq_true rfl) rfl rfl ?_
      rintro _ _ ⟨rfl, I, rfl, hb⟩
      try dsimp only [pu]
      refine E_iconst dX11_restore_41 (by decide) ?_
      refine E_iret dX11_restore_42 rfl ?_
      refine ⟨?_, ?_, FX.k (by omega) hb.2.2⟩
      · congr 2; unfold s_restore; rw [if_pos (by omega), if_neg (by omega)]
      · unfold t_restore; rw [if_pos (by omega), if_neg (by omega)]; exact hI.re hG (by omega) k1 hb
    · simp only [tB0, ne_eq, Bool.not_eq_false, Bool.not_eq_true, decide_eq_true_eq, decide_eq_false_iff_not, Classical.not_not] at h23
      refine c_X11_154 rfl dX11_restore_26 ?_
      refine E_iret dX11_restore_28 rfl ?_
      refine ⟨?_, ?_, (FX.rfl' M)⟩
      · congr 2; unfold s_restore; rw [if_pos (by omega), if_pos (by omega)]; try rfl
      · unfold t_restore; rw [if_pos (by omega), if_pos (by omega)]; exact hI
  · exact absurd h6 (by decide)
set_option maxRecDepth 20000 in
set_option maxHeartbeats 3000000 in
theorem c_imageOf1 {G : Ctx} {M : Mem} (hX : XO M) : CT G m_X11_imageOf 0 0 0 [vR 21, vI 1] M (fun r M' => r = some (vR 59) ∧ M = M') := by
  refine CT.of k_X11_imageOf 0 (ls := [some (vR 21), some (vI 1)]) rfl (Nat.le_of_ble_eq_true rfl) ?_
  refine E_iload_n dX11_imageOf_0 rfl ?_
  refine E_if_ne (tgt := 11) dX11_imageOf_1 (by decide) (fun h1 => ?_) (fun h1 => ?_)
  · refine E_aload_n dX11_imageOf_11 rfl ?_
    refine g_X11_55 rfl dX11_imageOf_12 hX.o hX.secondImage ?_
    refine E_aret dX11_imageOf_15 rfl (Or.inl ⟨_, rfl⟩) ?_
    exact ⟨rfl, rfl⟩
  · exfalso; omega
set_option maxRecDepth 20000 in
set_option maxHeartbeats 3000000 in
theorem x_image1 {G : Ctx} {M : Mem} {A : AS} {B : Int} (hI : CI M A) (hG : GA A B) (hB : B ≤ 900000) : CT G m_X11_image 2 0 0 [vR 21, vI 1] M (xM M (s_image A 1) (t_image A 1)) := by
  refine CT.of k_X11_image 0 (ls := [some (vR 21), some (vI 1)]) rfl (Nat.le_of_ble_eq_true rfl) ?_
  obtain ⟨hX, hN, hR, hT, hK, hS, hW0, hW1, hW2⟩ := id hI
  obtain ⟨a, hRc, hC, ha, haN, hD, hH, hE, hSn, hg, hZ⟩ := hW0
  have hW := hG.w.c
  have hpn := hW.pn
  have hl8 := hW.ln
  have hr8 := hW.rn
  have hgg := hG.w.g
  have hth := hG.th
  have hV := hG.w.hv
  refine E_iload_n dX11_image_0 rfl ?_
  refine E_iconst dX11_image_1 (by decide) ?_
  refine E_iconst dX11_image_2 (by decide) ?_
  refine i_X11_68 rfl dX11_image_3 c_isIn (by omega) (Nat.le_of_ble_eq_true rfl) rfl rfl ?_
  rintro _ _ ⟨rfl, rfl⟩
  try dsimp only [pu]
  refine E_if_ne (tgt := 12) dX11_image_6 (by decide) (fun h6 => ?_) (fun h6 => ?_)
  · simp only [tB0, ne_eq, Bool.not_eq_false, Bool.not_eq_true, decide_eq_true_eq, decide_eq_false_iff_not, Classical.not_not] at h6
    refine E_aload_n dX11_image_12 rfl ?_
    refine i_X11_158 rfl dX11_image_13 (by exact hX.o) (c_noCourt hX hRc hC hD) (by omega) (Nat.le_of_ble_eq_true rfl) rfl rfl ?_
    rintro _ _ ⟨rfl, rfl⟩
    try dsimp only [pu]
    refine E_if_eq (tgt := 22) dX11_image_16 (by decide) (fun h16 => ?_) (fun h16 => ?_)
    · simp only [tB0, ne_eq, Bool.not_eq_false, Bool.not_eq_true, decide_eq_true_eq, decide_eq_false_iff_not, Classical.not_not] at h16
      refine E_aload_n dX11_image_22 rfl ?_
      refine E_iload_n dX11_image_23 rfl ?_
      refine i_X11_267 rfl dX11_image_24 (by exact hX.o) (c_imageOf1 hX) (by omega) (Nat.le_of_ble_eq_true rfl) rfl rfl ?_
      rintro _ _ ⟨rfl, rfl⟩
      try dsimp only [pu]
      refine E_aload_n dX11_image_27 rfl ?_
      refine g_X11_48 rfl dX11_image_28 hX.o hX.wash ?_
      refine i_X11_182 rfl dX11_image_31 (by exact hX.w2.o) (c_become (by exact hX.w2) (by exact hX.w0) hRc (by omega) (by omega) (by exact hZ)) (by omega) (Nat.le_of_ble_eq_true rfl) rfl rfl ?_
      rintro _ _ ⟨rfl, I, rfl, hb⟩
      try dsimp only [pu]
      refine E_iconst dX11_image_34 (by decide) ?_
      refine E_iret dX11_image_35 rfl ?_
      refine ⟨?_, ?_, FX.k (by omega) hb.2.2⟩
      · congr 2; unfold s_image; rw [if_pos (by omega), if_neg (by omega)]
      · unfold t_image; rw [if_pos (by omega), if_neg (by omega)]; exact hI.im hG (by omega) hRc hb
    · simp only [tB0, ne_eq, Bool.not_eq_false, Bool.not_eq_true, decide_eq_true_eq, decide_eq_false_iff_not, Classical.not_not] at h16
      refine c_X11_154 rfl dX11_image_19 ?_
      refine E_iret dX11_image_21 rfl ?_
      refine ⟨?_, ?_, (FX.rfl' M)⟩
      · congr 2; unfold s_image; rw [if_pos (by omega), if_pos (by omega)]; try rfl
      · unfold t_image; rw [if_pos (by omega), if_pos (by omega)]; exact hI
  · exact absurd h6 (by decide)
set_option maxRecDepth 20000 in
set_option maxHeartbeats 3000000 in
theorem x_restore1 {G : Ctx} {M : Mem} {A : AS} {B : Int} (hI : CI M A) (hG : GA A B) (hB : B ≤ 900000) : CT G m_X11_restore 2 0 0 [vR 21, vI 1] M (xM M (s_restore A 1) (t_restore A 1)) := by
  refine CT.of k_X11_restore 0 (ls := [some (vR 21), some (vI 1)]) rfl (Nat.le_of_ble_eq_true rfl) ?_
  obtain ⟨hX, hN, hR, hT, hK, hS, hW0, hW1, hW2⟩ := id hI
  obtain ⟨a, hRc, hC, ha, haN, hD, hH, hE, hSn, hg, hZ⟩ := hW0
  have hW := hG.w.c
  have hpn := hW.pn
  have hl8 := hW.ln
  have hr8 := hW.rn
  have hgg := hG.w.g
  have hth := hG.th
  have hV := hG.w.hv
  have him := (hG.im (k := 1) (by omega)).2
  obtain ⟨a2, k1, k2, k3, k4, k5, k6, k7, k8, k9, k10⟩ := id hW2
  refine E_iload_n dX11_restore_0 rfl ?_
  refine E_iconst dX11_restore_1 (by decide) ?_
  refine E_iconst dX11_restore_2 (by decide) ?_
  refine i_X11_68 rfl dX11_restore_3 c_isIn (by omega) (Nat.le_of_ble_eq_true rfl) rfl rfl ?_
  rintro _ _ ⟨rfl, rfl⟩
  try dsimp only [pu]
  refine E_if_ne (tgt := 12) dX11_restore_6 (by decide) (fun h6 => ?_) (fun h6 => ?_)
  · simp only [tB0, ne_eq, Bool.not_eq_false, Bool.not_eq_true, decide_eq_true_eq, decide_eq_false_iff_not, Classical.not_not] at h6
    refine E_aload_n dX11_restore_12 rfl ?_
    refine E_iload_n dX11_restore_13 rfl ?_
    refine i_X11_267 rfl dX11_restore_14 (by exact hX.o) (c_imageOf1 hX) (by omega) (Nat.le_of_ble_eq_true rfl) rfl rfl ?_
    rintro _ _ ⟨rfl, rfl⟩
    try dsimp only [pu]
    refine g_X11_168 rfl dX11_restore_17 hX.w2.o k1 ?_
    refine i_X11_271 rfl dX11_restore_20 (by exact k2.o) (c_isTold (by exact k2.o)) (by omega) (Nat.le_of_ble_eq_true rfl) rfl rfl ?_
    rintro _ _ ⟨rfl, rfl⟩
    rw [k5.lnc]
    try dsimp only [pu]
    refine E_if_ne (tgt := 29) dX11_restore_23 (by decide) (fun h23 => ?_) (fun h23 => ?_)
    · simp only [tB0, ne_eq, Bool.not_eq_false, Bool.not_eq_true, decide_eq_true_eq, decide_eq_false_iff_not, Classical.not_not] at h23
      refine E_aload_n dX11_restore_29 rfl ?_
      refine g_X11_48 rfl dX11_restore_30 hX.o hX.wash ?_
      refine E_aload_n dX11_restore_33 rfl ?_
      refine E_iload_n dX11_restore_34 rfl ?_
      refine i_X11_267 rfl dX11_restore_35 (by exact hX.o) (c_imageOf1 hX) (by omega) (Nat.le_of_ble_eq_true rfl) rfl rfl ?_
      rintro _ _ ⟨rfl, rfl⟩
      try dsimp only [pu]
      refine i_X11_182 rfl dX11_restore_38 (by exact hX.w0.o) (c_become (by exact hX.w0) (by exact hX.w2) k1 (by omega) (by omega) (by exact k10)) (by omega) (Nat.le_of_ble_eq_true rfl) rfl rfl ?_
      rintro _ _ ⟨rfl, I, rfl, hb⟩
      try dsimp only [pu]
      refine E_iconst dX11_restore_41 (by decide) ?_
      refine E_iret dX11_restore_42 rfl ?_
      refine ⟨?_, ?_, FX.k (by omega) hb.2.2⟩
      · congr 2; unfold s_restore; rw [if_pos (by omega), if_neg (by omega)]
      · unfold t_restore; rw [if_pos (by omega), if_neg (by omega)]; exact hI.re hG (by omega) k1 hb
    · simp only [tB0, ne_eq, Bool.not_eq_false, Bool.not_eq_true, decide_eq_true_eq, decide_eq_false_iff_not, Classical.not_not] at h23
      refine c_X11_154 rfl dX11_restore_26 ?_
      refine E_iret dX11_restore_28 rfl ?_
      refine ⟨?_, ?_, (FX.rfl' M)⟩
      · congr 2; unfold s_restore; rw [if_pos (by omega), if_pos (by omega)]; try rfl
      · unfold t_restore; rw [if_pos (by omega), if_pos (by omega)]; exact hI
  · exact absurd h6 (by decide)
set_option maxRecDepth 20000 in
set_option maxHeartbeats 3000000 in
theorem x_imageN {G : Ctx} {M : Mem} {A : AS} {B : Int} (hI : CI M A) (hG : GA A B) (hB : B ≤ 900000) {c : Int} (hc : ¬ (0 ≤ c ∧ c ≤ 1)) : CT G m_X11_image 2 0 0 [vR 21, vI c] M (xM M (s_image A c) (t_image A c)) := by
  refine CT.of k_X11_image 0 (ls := [some (vR 21), some (vI c)]) rfl (Nat.le_of_ble_eq_true rfl) ?_
  obtain ⟨hX, hN, hR, hT, hK, hS, hW0, hW1, hW2⟩ := id hI
  obtain ⟨a, hRc, hC, ha, haN, hD, hH, hE, hSn, hg, hZ⟩ := hW0
  have hW := hG.w.c
  have hpn := hW.pn
  have hl8 := hW.ln
  have hr8 := hW.rn
  have hgg := hG.w.g
  have hth := hG.th
  have hV := hG.w.hv
  refine E_iload_n dX11_image_0 rfl ?_
  refine E_iconst dX11_image_1 (by decide) ?_
  refine E_iconst dX11_image_2 (by decide) ?_
  refine i_X11_68 rfl dX11_image_3 c_isIn (by omega) (Nat.le_of_ble_eq_true rfl) rfl rfl ?_
  rintro _ _ ⟨rfl, rfl⟩
  try dsimp only [pu]
  refine E_if_ne (tgt := 12) dX11_image_6 (by decide) (fun h6 => ?_) (fun h6 => ?_)
  · exfalso; rw [decide_eq_false hc] at h6; exact h6 rfl
  · simp only [tB0, ne_eq, Bool.not_eq_false, Bool.not_eq_true, decide_eq_true_eq, decide_eq_false_iff_not, Classical.not_not] at h6
    refine c_X11_72 rfl dX11_image_9 ?_
    refine E_iret dX11_image_11 rfl ?_
    refine ⟨?_, ?_, (FX.rfl' M)⟩
    · congr 2; unfold s_image; rw [if_neg (by omega)]; try rfl
    · unfold t_image; rw [if_neg (by omega)]; exact hI
theorem x_image {G : Ctx} {M : Mem} {A : AS} {B : Int} (hI : CI M A) (hG : GA A B) (hB : B ≤ 900000) {c : Int} : CT G m_X11_image 2 0 0 [vR 21, vI c] M (xM M (s_image A c) (t_image A c)) := by
  by_cases h0 : c = 0
  · subst h0; exact x_image0 hI hG hB
  · by_cases h1 : c = 1
    · subst h1; exact x_image1 hI hG hB
    · exact x_imageN hI hG hB (by omega)
set_option maxRecDepth 20000 in
set_option maxHeartbeats 3000000 in
theorem x_restoreN {G : Ctx} {M : Mem} {A : AS} {B : Int} (hI : CI M A) (hG : GA A B) (hB : B ≤ 900000) {c : Int} (hc : ¬ (0 ≤ c ∧ c ≤ 1)) : CT G m_X11_restore 2 0 0 [vR 21, vI c] M (xM M (s_restore A c) (t_restore A c)) := by
  refine CT.of k_X11_restore 0 (ls := [some (vR 21), some (vI c)]) rfl (Nat.le_of_ble_eq_true rfl) ?_
  obtain ⟨hX, hN, hR, hT, hK, hS, hW0, hW1, hW2⟩ := id hI
  obtain ⟨a, hRc, hC, ha, haN, hD, hH, hE, hSn, hg, hZ⟩ := hW0
  have hW := hG.w.c
  have hpn := hW.pn
  have hl8 := hW.ln
  have hr8 := hW.rn
  have hgg := hG.w.g
  have hth := hG.th
  have hV := hG.w.hv
  refine E_iload_n dX11_restore_0 rfl ?_
  refine E_iconst dX11_restore_1 (by decide) ?_
  refine E_iconst dX11_restore_2 (by decide) ?_
  refine i_X11_68 rfl dX11_restore_3 c_isIn (by omega) (Nat.le_of_ble_eq_true rfl) rfl rfl ?_
  rintro _ _ ⟨rfl, rfl⟩
  try dsimp only [pu]
  refine E_if_ne (tgt := 12) dX11_restore_6 (by decide) (fun h6 => ?_) (fun h6 => ?_)
  · exfalso; rw [decide_eq_false hc] at h6; exact h6 rfl
  · simp only [tB0, ne_eq, Bool.not_eq_false, Bool.not_eq_true, decide_eq_true_eq, decide_eq_false_iff_not, Classical.not_not] at h6
    refine c_X11_72 rfl dX11_restore_9 ?_
    refine E_iret dX11_restore_11 rfl ?_
    refine ⟨?_, ?_, (FX.rfl' M)⟩
    · congr 2; unfold s_restore; rw [if_neg (by omega)]; try rfl
    · unfold t_restore; rw [if_neg (by omega)]; exact hI
theorem x_restore {G : Ctx} {M : Mem} {A : AS} {B : Int} (hI : CI M A) (hG : GA A B) (hB : B ≤ 900000) {c : Int} : CT G m_X11_restore 2 0 0 [vR 21, vI c] M (xM M (s_restore A c) (t_restore A c)) := by
  by_cases h0 : c = 0
  · subst h0; exact x_restore0 hI hG hB
  · by_cases h1 : c = 1
    · subst h1; exact x_restore1 hI hG hB
    · exact x_restoreN hI hG hB (by omega)
