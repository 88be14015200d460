set_option maxRecDepth 20000 in
set_option maxHeartbeats 3000000 in
theorem x_as1 {G : Ctx} {M : Mem} {A : AS} {B : Int} (hI : CI M A) (hG : GA A B) (hB : B ≤ 900000) {p f : Int} (p0 : 0 ≤ p ∧ p ≤ A 4 2 - 1) (f0 : 0 ≤ f ∧ f ≤ 5) (hk : A 4 (84 + 6 * p) = 1) : CT G m_X11_as 5 1 4 [vR 21, vI p, vI f] M (xM M (s_as A p f) (t_as A p f)) := by
  refine CT.of k_X11_as 0 (ls := [some (vR 21), some (vI p), some (vI f)]) rfl (Nat.le_of_ble_eq_true rfl) ?_
  obtain ⟨hX, hN, hR, hT, hK, hS, hW0, hW1, hW2⟩ := id hI
  obtain ⟨a, hRc, hC, ha, haN, hD, hH, hE, hSn, hg, hZ⟩ := hW0
  have hW := hG.w.c
  have hpn := hW.pn
  have hl8 := hW.ln
  have hr8 := hW.rn
  have hgg := hG.w.g
  have hth := hG.th
  have hV := hG.w.hv
  refine E_aload_n dX11_as_0 rfl ?_
  refine E_iload_n dX11_as_1 rfl ?_
  refine i_X11_134 rfl dX11_as_2 (by exact hX.o) (c_isPiece hX hRc hC hD hW) (by omega) (Nat.le_of_ble_eq_true rfl) rfl rfl ?_
  rintro _ _ ⟨rfl, rfl⟩
  try dsimp only [pu]
  refine E_if_eq (tgt := 17) dX11_as_5 (by decide) (fun h5 => ?_) (fun h5 => ?_)
  · exfalso; rw [decide_eq_true (by omega)] at h5; exact absurd h5 (by decide)
  · simp only [tB0, ne_eq, Bool.not_eq_false, Bool.not_eq_true, decide_eq_true_eq, decide_eq_false_iff_not, Classical.not_not] at h5
    refine E_iload_n dX11_as_8 rfl ?_
    refine E_iconst dX11_as_9 (by decide) ?_
    refine E_iconst dX11_as_10 (by decide) ?_
    refine i_X11_68 rfl dX11_as_11 c_isIn (by omega) (Nat.le_of_ble_eq_true rfl) rfl rfl ?_
    rintro _ _ ⟨rfl, rfl⟩
    try dsimp only [pu]
    refine E_if_ne (tgt := 20) dX11_as_14 (by decide) (fun h14 => ?_) (fun h14 => ?_)
    · simp only [tB0, ne_eq, Bool.not_eq_false, Bool.not_eq_true, decide_eq_true_eq, decide_eq_false_iff_not, Classical.not_not] at h14
      refine E_aload_n dX11_as_20 rfl ?_
      refine E_iload_n dX11_as_21 rfl ?_
      refine i_X11_277 rfl dX11_as_22 (by exact hX.o) (c_pieceAsked1 hX hRc hC hD hW hE (by omega) (by omega) hN hk) (by omega) (Nat.le_of_ble_eq_true rfl) rfl rfl ?_
      rintro _ M9 ⟨rfl, hM9⟩
      have hE9 : EX M M9 := by rw [hM9]; exact mPc_ex _ _ _ _ _
      have hs9 : mS M9 (mN M) = (4, 3) := by rw [hM9]; exact mS_new0 _ _
      have hI9 := hI.ex hE9
      have hF9 := FX.ex hN hE9
      clear hM9
      try dsimp only [pu]
      refine E_iload_n dX11_as_25 rfl ?_
      refine i_X11_281 rfl dX11_as_26 (c_isOfKind1 hs9 (by omega)) (by omega) (Nat.le_of_ble_eq_true rfl) rfl rfl ?_
      rintro _ _ ⟨rfl, rfl⟩
      try dsimp only [pu]
      refine E_if_ne (tgt := 38) dX11_as_29 (by decide) (fun h29 => ?_) (fun h29 => ?_)
      · simp only [tB0, ne_eq, Bool.not_eq_false, Bool.not_eq_true, decide_eq_true_eq, decide_eq_false_iff_not, Classical.not_not] at h29
        refine E_aload_n dX11_as_38 rfl ?_
        refine E_iload_n dX11_as_39 rfl ?_
        refine i_X11_81 rfl dX11_as_40 (by exact hI9.1.o) (c_unfound (by exact hI9.1.o)) (by omega) (Nat.le_of_ble_eq_true rfl) rfl rfl ?_
        rintro _ _ ⟨rfl, rfl⟩
        try dsimp only [pu]
        refine E_iret dX11_as_43 rfl ?_
        refine ⟨?_, ?_, hF9.w (by omega)⟩
        · congr 2; unfold s_as; rw [if_pos (by omega), hk, if_pos h29]
        · unfold t_as; rw [if_pos (by omega), hk, if_pos h29]; exact hI9.st 0
      · simp only [tB0, ne_eq, Bool.not_eq_false, Bool.not_eq_true, decide_eq_true_eq, decide_eq_false_iff_not, Classical.not_not] at h29
        refine E_aload_n dX11_as_32 rfl ?_
        refine E_iconst dX11_as_33 (by decide) ?_
        refine i_X11_73 rfl dX11_as_34 (by exact hI9.1.o) (c_found (by exact hI9.1.o) (by omega) (by omega)) (by omega) (Nat.le_of_ble_eq_true rfl) rfl rfl ?_
        rintro _ _ ⟨rfl, rfl⟩
        try dsimp only [pu]
        refine E_iret dX11_as_37 rfl ?_
        refine ⟨?_, ?_, hF9.w (by omega)⟩
        · congr 2; unfold s_as; rw [if_pos (by omega), hk, if_neg (by rw [h29]; simp)]; rfl
        · unfold t_as; rw [if_pos (by omega), hk, if_neg (by rw [h29]; simp)]; exact hI9.st2 3 0
    · exfalso; rw [decide_eq_true (by omega)] at h14; exact h14 (by decide)
set_option maxRecDepth 20000 in
set_option maxHeartbeats 3000000 in
theorem x_as2 {G : Ctx} {M : Mem} {A : AS} {B : Int} (hI : CI M A) (hG : GA A B) (hB : B ≤ 900000) {p f : Int} (p0 : 0 ≤ p ∧ p ≤ A 4 2 - 1) (f0 : 0 ≤ f ∧ f ≤ 5) (hk : A 4 (84 + 6 * p) = 2) : CT G m_X11_as 5 1 4 [vR 21, vI p, vI f] M (xM M (s_as A p f) (t_as A p f)) := by
  refine CT.of k_X11_as 0 (ls := [some (vR 21), some (vI p), some (vI f)]) rfl (Nat.le_of_ble_eq_true rfl) ?_
  obtain ⟨hX, hN, hR, hT, hK, hS, hW0, hW1, hW2⟩ := id hI
  obtain ⟨a, hRc, hC, ha, haN, hD, hH, hE, hSn, hg, hZ⟩ := hW0
  have hW := hG.w.c
  have hpn := hW.pn
  have hl8 := hW.ln
  have hr8 := hW.rn
  have hgg := hG.w.g
  have hth := hG.th
  have hV := hG.w.hv
  refine E_aload_n dX11_as_0 rfl ?_
  refine E_iload_n dX11_as_1 rfl ?_
  refine i_X11_134 rfl dX11_as_2 (by exact hX.o) (c_isPiece hX hRc hC hD hW) (by omega) (Nat.le_of_ble_eq_true rfl) rfl rfl ?_
  rintro _ _ ⟨rfl, rfl⟩
  try dsimp only [pu]
  refine E_if_eq (tgt := 17) dX11_as_5 (by decide) (fun h5 => ?_) (fun h5 => ?_)
  · exfalso; rw [decide_eq_true (by omega)] at h5; exact absurd h5 (by decide)
  · simp only [tB0, ne_eq, Bool.not_eq_false, Bool.not_eq_true, decide_eq_true_eq, decide_eq_false_iff_not, Classical.not_not] at h5
    refine E_iload_n dX11_as_8 rfl ?_
    refine E_iconst dX11_as_9 (by decide) ?_
    refine E_iconst dX11_as_10 (by decide) ?_
    refine i_X11_68 rfl dX11_as_11 c_isIn (by omega) (Nat.le_of_ble_eq_true rfl) rfl rfl ?_
    rintro _ _ ⟨rfl, rfl⟩
    try dsimp only [pu]
    refine E_if_ne (tgt := 20) dX11_as_14 (by decide) (fun h14 => ?_) (fun h14 => ?_)
    · simp only [tB0, ne_eq, Bool.not_eq_false, Bool.not_eq_true, decide_eq_true_eq, decide_eq_false_iff_not, Classical.not_not] at h14
      refine E_aload_n dX11_as_20 rfl ?_
      refine E_iload_n dX11_as_21 rfl ?_
      refine i_X11_277 rfl dX11_as_22 (by exact hX.o) (c_pieceAsked2 hX hRc hC hD hW hE (by omega) (by omega) hN hk) (by omega) (Nat.le_of_ble_eq_true rfl) rfl rfl ?_
      rintro _ M9 ⟨rfl, hM9⟩
      have hE9 : EX M M9 := by rw [hM9]; exact mPc_ex _ _ _ _ _
      have hs9 : mS M9 (mN M) = (4, 0) := by rw [hM9]; exact mS_new0 _ _
      have hI9 := hI.ex hE9
      have hF9 := FX.ex hN hE9
      clear hM9
      try dsimp only [pu]
      refine E_iload_n dX11_as_25 rfl ?_
      refine i_X11_281 rfl dX11_as_26 (c_isOfKind2 hs9 (by omega)) (by omega) (Nat.le_of_ble_eq_true rfl) rfl rfl ?_
      rintro _ _ ⟨rfl, rfl⟩
      try dsimp only [pu]
      refine E_if_ne (tgt := 38) dX11_as_29 (by decide) (fun h29 => ?_) (fun h29 => ?_)
      · simp only [tB0, ne_eq, Bool.not_eq_false, Bool.not_eq_true, decide_eq_true_eq, decide_eq_false_iff_not, Classical.not_not] at h29
        refine E_aload_n dX11_as_38 rfl ?_
        refine E_iload_n dX11_as_39 rfl ?_
        refine i_X11_81 rfl dX11_as_40 (by exact hI9.1.o) (c_unfound (by exact hI9.1.o)) (by omega) (Nat.le_of_ble_eq_true rfl) rfl rfl ?_
        rintro _ _ ⟨rfl, rfl⟩
        try dsimp only [pu]
        refine E_iret dX11_as_43 rfl ?_
        refine ⟨?_, ?_, hF9.w (by omega)⟩
        · congr 2; unfold s_as; rw [if_pos (by omega), hk, if_pos h29]
        · unfold t_as; rw [if_pos (by omega), hk, if_pos h29]; exact hI9.st 0
      · simp only [tB0, ne_eq, Bool.not_eq_false, Bool.not_eq_true, decide_eq_true_eq, decide_eq_false_iff_not, Classical.not_not] at h29
        refine E_aload_n dX11_as_32 rfl ?_
        refine E_iconst dX11_as_33 (by decide) ?_
        refine i_X11_73 rfl dX11_as_34 (by exact hI9.1.o) (c_found (by exact hI9.1.o) (by omega) (by omega)) (by omega) (Nat.le_of_ble_eq_true rfl) rfl rfl ?_
        rintro _ _ ⟨rfl, rfl⟩
        try dsimp only [pu]
        refine E_iret dX11_as_37 rfl ?_
        refine ⟨?_, ?_, hF9.w (by omega)⟩
        · congr 2; unfold s_as; rw [if_pos (by omega), hk, if_neg (by rw [h29]; simp)]; rfl
        · unfold t_as; rw [if_pos (by omega), hk, if_neg (by rw [h29]; simp)]; exact hI9.st2 3 0
    · exfalso; rw [decide_eq_true (by omega)] at h14; exact h14 (by decide)
set_option maxRecDepth 20000 in
set_option maxHeartbeats 3000000 in
theorem x_as3 {G : Ctx} {M : Mem} {A : AS} {B : Int} (hI : CI M A) (hG : GA A B) (hB : B ≤ 900000) {p f : Int} (p0 : 0 ≤ p ∧ p ≤ A 4 2 - 1) (f0 : 0 ≤ f ∧ f ≤ 5) (hk : A 4 (84 + 6 * p) = 3) : CT G m_X11_as 5 1 4 [vR 21, vI p, vI f] M (xM M (s_as A p f) (t_as A p f)) := by
  refine CT.of k_X11_as 0 (ls := [some (vR 21), some (vI p), some (vI f)]) rfl (Nat.le_of_ble_eq_true rfl) ?_
  obtain ⟨hX, hN, hR, hT, hK, hS, hW0, hW1, hW2⟩ := id hI
  obtain ⟨a, hRc, hC, ha, haN, hD, hH, hE, hSn, hg, hZ⟩ := hW0
  have hW := hG.w.c
  have hpn := hW.pn
  have hl8 := hW.ln
  have hr8 := hW.rn
  have hgg := hG.w.g
  have hth := hG.th
  have hV := hG.w.hv
  refine E_aload_n dX11_as_0 rfl ?_
  refine E_iload_n dX11_as_1 rfl ?_
  refine i_X11_134 rfl dX11_as_2 (by exact hX.o) (c_isPiece hX hRc hC hD hW) (by omega) (Nat.le_of_ble_eq_true rfl) rfl rfl ?_
  rintro _ _ ⟨rfl, rfl⟩
  try dsimp only [pu]
  refine E_if_eq (tgt := 17) dX11_as_5 (by decide) (fun h5 => ?_) (fun h5 => ?_)
  · exfalso; rw [decide_eq_true (by omega)] at h5; exact absurd h5 (by decide)
  · simp only [tB0, ne_eq, Bool.not_eq_false, Bool.not_eq_true, decide_eq_true_eq, decide_eq_false_iff_not, Classical.not_not] at h5
    refine E_iload_n dX11_as_8 rfl ?_
    refine E_iconst dX11_as_9 (by decide) ?_
    refine E_iconst dX11_as_10 (by decide) ?_
    refine i_X11_68 rfl dX11_as_11 c_isIn (by omega) (Nat.le_of_ble_eq_true rfl) rfl rfl ?_
    rintro _ _ ⟨rfl, rfl⟩
    try dsimp only [pu]
    refine E_if_ne (tgt := 20) dX11_as_14 (by decide) (fun h14 => ?_) (fun h14 => ?_)
    · simp only [tB0, ne_eq, Bool.not_eq_false, Bool.not_eq_true, decide_eq_true_eq, decide_eq_false_iff_not, Classical.not_not] at h14
      refine E_aload_n dX11_as_20 rfl ?_
      refine E_iload_n dX11_as_21 rfl ?_
      refine i_X11_277 rfl dX11_as_22 (by exact hX.o) (c_pieceAsked3 hX hRc hC hD hW hE (by omega) (by omega) hN hk) (by omega) (Nat.le_of_ble_eq_true rfl) rfl rfl ?_
      rintro _ M9 ⟨rfl, hM9⟩
      have hE9 : EX M M9 := by rw [hM9]; exact mPc_ex _ _ _ _ _
      have hs9 : mS M9 (mN M) = (4, 9) := by rw [hM9]; exact mS_new0 _ _
      have hI9 := hI.ex hE9
      have hF9 := FX.ex hN hE9
      clear hM9
      try dsimp only [pu]
      refine E_iload_n dX11_as_25 rfl ?_
      refine i_X11_281 rfl dX11_as_26 (c_isOfKind3 hs9 (by omega)) (by omega) (Nat.le_of_ble_eq_true rfl) rfl rfl ?_
      rintro _ _ ⟨rfl, rfl⟩
      try dsimp only [pu]
      refine E_if_ne (tgt := 38) dX11_as_29 (by decide) (fun h29 => ?_) (fun h29 => ?_)
      · simp only [tB0, ne_eq, Bool.not_eq_false, Bool.not_eq_true, decide_eq_true_eq, decide_eq_false_iff_not, Classical.not_not] at h29
        refine E_aload_n dX11_as_38 rfl ?_
        refine E_iload_n dX11_as_39 rfl ?_
        refine i_X11_81 rfl dX11_as_40 (by exact hI9.1.o) (c_unfound (by exact hI9.1.o)) (by omega) (Nat.le_of_ble_eq_true rfl) rfl rfl ?_
        rintro _ _ ⟨rfl, rfl⟩
        try dsimp only [pu]
        refine E_iret dX11_as_43 rfl ?_
        refine ⟨?_, ?_, hF9.w (by omega)⟩
        · congr 2; unfold s_as; rw [if_pos (by omega), hk, if_pos h29]
        · unfold t_as; rw [if_pos (by omega), hk, if_pos h29]; exact hI9.st 0
      · simp only [tB0, ne_eq, Bool.not_eq_false, Bool.not_eq_true, decide_eq_true_eq, decide_eq_false_iff_not, Classical.not_not] at h29
        refine E_aload_n dX11_as_32 rfl ?_
        refine E_iconst dX11_as_33 (by decide) ?_
        refine i_X11_73 rfl dX11_as_34 (by exact hI9.1.o) (c_found (by exact hI9.1.o) (by omega) (by omega)) (by omega) (Nat.le_of_ble_eq_true rfl) rfl rfl ?_
        rintro _ _ ⟨rfl, rfl⟩
        try dsimp only [pu]
        refine E_iret dX11_as_37 rfl ?_
        refine ⟨?_, ?_, hF9.w (by omega)⟩
        · congr 2; unfold s_as; rw [if_pos (by omega), hk, if_neg (by rw [h29]; simp)]; rfl
        · unfold t_as; rw [if_pos (by omega), hk, if_neg (by rw [h29]; simp)]; exact hI9.st2 3 0
    · exfalso; rw [decide_eq_true (by omega)] at h14; exact h14 (by decide)
set_option maxRecDepth 20000 in
set_option maxHeartbeats 3000000 in
theorem x_as4 {G : Ctx} {M : Mem} {A : AS} {B : Int} (hI : CI M A) (hG : GA A B) (hB : B ≤ 900000) {p f : Int} (p0 : 0 ≤ p ∧ p ≤ A 4 2 - 1) (f0 : 0 ≤ f ∧ f ≤ 5) (hk : A 4 (84 + 6 * p) = 4) : CT G m_X11_as 5 1 4 [vR 21, vI p, vI f] M (xM M (s_as A p f) (t_as A p f)) := by
  refine CT.of k_X11_as 0 (ls := [some (vR 21), some (vI p), some (vI f)]) rfl (Nat.le_of_ble_eq_true rfl) ?_
  obtain ⟨hX, hN, hR, hT, hK, hS, hW0, hW1, hW2⟩ := id hI
  obtain ⟨a, hRc, hC, ha, haN, hD, hH, hE, hSn, hg, hZ⟩ := hW0
  have hW := hG.w.c
  have hpn := hW.pn
  have hl8 := hW.ln
  have hr8 := hW.rn
  have hgg := hG.w.g
  have hth := hG.th
  have hV := hG.w.hv
  refine E_aload_n dX11_as_0 rfl ?_
  refine E_iload_n dX11_as_1 rfl ?_
  refine i_X11_134 rfl dX11_as_2 (by exact hX.o) (c_isPiece hX hRc hC hD hW) (by omega) (Nat.le_of_ble_eq_true rfl) rfl rfl ?_
  rintro _ _ ⟨rfl, rfl⟩
  try dsimp only [pu]
  refine E_if_eq (tgt := 17) dX11_as_5 (by decide) (fun h5 => ?_) (fun h5 => ?_)
  · exfalso; rw [decide_eq_true (by omega)] at h5; exact absurd h5 (by decide)
  · simp only [tB0, ne_eq, Bool.not_eq_false, Bool.not_eq_true, decide_eq_true_eq, decide_eq_false_iff_not, Classical.not_not] at h5
    refine E_iload_n dX11_as_8 rfl ?_
    refine E_iconst dX11_as_9 (by decide) ?_
    refine E_iconst dX11_as_10 (by decide) ?_
    refine i_X11_68 rfl dX11_as_11 c_isIn (by omega) (Nat.le_of_ble_eq_true rfl) rfl rfl ?_
    rintro _ _ ⟨rfl, rfl⟩
    try dsimp only [pu]
    refine E_if_ne (tgt := 20) dX11_as_14 (by decide) (fun h14 => ?_) (fun h14 => ?_)
    · simp only [tB0, ne_eq, Bool.not_eq_false, Bool.not_eq_true, decide_eq_true_eq, decide_eq_false_iff_not, Classical.not_not] at h14
      refine E_aload_n dX11_as_20 rfl ?_
      refine E_iload_n dX11_as_21 rfl ?_
      refine i_X11_277 rfl dX11_as_22 (by exact hX.o) (c_pieceAsked4 hX hRc hC hD hW hE (by omega) (by omega) hN hk) (by omega) (Nat.le_of_ble_eq_true rfl) rfl rfl ?_
      rintro _ M9 ⟨rfl, hM9⟩
      have hE9 : EX M M9 := by rw [hM9]; exact mPc_ex _ _ _ _ _
      have hs9 : mS M9 (mN M) = (4, 5) := by rw [hM9]; exact mS_new0 _ _
      have hI9 := hI.ex hE9
      have hF9 := FX.ex hN hE9
      clear hM9
      try dsimp only [pu]
      refine E_iload_n dX11_as_25 rfl ?_
      refine i_X11_281 rfl dX11_as_26 (c_isOfKind4 hs9 (by omega)) (by omega) (Nat.le_of_ble_eq_true rfl) rfl rfl ?_
      rintro _ _ ⟨rfl, rfl⟩
      try dsimp only [pu]
      refine E_if_ne (tgt := 38) dX11_as_29 (by decide) (fun h29 => ?_) (fun h29 => ?_)
      · simp only [tB0, ne_eq, Bool.not_eq_false, Bool.not_eq_true, decide_eq_true_eq, decide_eq_false_iff_not, Classical.not_not] at h29
        refine E_aload_n dX11_as_38 rfl ?_
        refine E_iload_n dX11_as_39 rfl ?_
        refine i_X11_81 rfl dX11_as_40 (by exact hI9.1.o) (c_unfound (by exact hI9.1.o)) (by omega) (Nat.le_of_ble_eq_true rfl) rfl rfl ?_
        rintro _ _ ⟨rfl, rfl⟩
        try dsimp only [pu]
        refine E_iret dX11_as_43 rfl ?_
        refine ⟨?_, ?_, hF9.w (by omega)⟩
        · congr 2; unfold s_as; rw [if_pos (by omega), hk, if_pos h29]
        · unfold t_as; rw [if_pos (by omega), hk, if_pos h29]; exact hI9.st 0
      · simp only [tB0, ne_eq, Bool.not_eq_false, Bool.not_eq_true, decide_eq_true_eq, decide_eq_false_iff_not, Classical.not_not] at h29
        refine E_aload_n dX11_as_32 rfl ?_
        refine E_iconst dX11_as_33 (by decide) ?_
        refine i_X11_73 rfl dX11_as_34 (by exact hI9.1.o) (c_found (by exact hI9.1.o) (by omega) (by omega)) (by omega) (Nat.le_of_ble_eq_true rfl) rfl rfl ?_
        rintro _ _ ⟨rfl, rfl⟩
        try dsimp only [pu]
        refine E_iret dX11_as_37 rfl ?_
        refine ⟨?_, ?_, hF9.w (by omega)⟩
        · congr 2; unfold s_as; rw [if_pos (by omega), hk, if_neg (by rw [h29]; simp)]; rfl
        · unfold t_as; rw [if_pos (by omega), hk, if_neg (by rw [h29]; simp)]; exact hI9.st2 3 0
    · exfalso; rw [decide_eq_true (by omega)] at h14; exact h14 (by decide)
set_option maxRecDepth 20000 in
set_option maxHeartbeats 3000000 in
theorem x_as5 {G : Ctx} {M : Mem} {A : AS} {B : Int} (hI : CI M A) (hG : GA A B) (hB : B ≤ 900000) {p f : Int} (p0 : 0 ≤ p ∧ p ≤ A 4 2 - 1) (f0 : 0 ≤ f ∧ f ≤ 5) (hk : A 4 (84 + 6 * p) = 5) : CT G m_X11_as 5 1 4 [vR 21, vI p, vI f] M (xM M (s_as A p f) (t_as A p f)) := by
  refine CT.of k_X11_as 0 (ls := [some (vR 21), some (vI p), some (vI f)]) rfl (Nat.le_of_ble_eq_true rfl) ?_
  obtain ⟨hX, hN, hR, hT, hK, hS, hW0, hW1, hW2⟩ := id hI
  obtain ⟨a, hRc, hC, ha, haN, hD, hH, hE, hSn, hg, hZ⟩ := hW0
  have hW := hG.w.c
  have hpn := hW.pn
  have hl8 := hW.ln
  have hr8 := hW.rn
  have hgg := hG.w.g
  have hth := hG.th
  have hV := hG.w.hv
  refine E_aload_n dX11_as_0 rfl ?_
  refine E_iload_n dX11_as_1 rfl ?_
  refine i_X11_134 rfl dX11_as_2 (by exact hX.o) (c_isPiece hX hRc hC hD hW) (by omega) (Nat.le_of_ble_eq_true rfl) rfl rfl ?_
  rintro _ _ ⟨rfl, rfl⟩
  try dsimp only [pu]
  refine E_if_eq (tgt := 17) dX11_as_5 (by decide) (fun h5 => ?_) (fun h5 => ?_)
  · exfalso; rw [decide_eq_true (by omega)] at h5; exact absurd h5 (by decide)
  · simp only [tB0, ne_eq, Bool.not_eq_false, Bool.not_eq_true, decide_eq_true_eq, decide_eq_false_iff_not, Classical.not_not] at h5
    refine E_iload_n dX11_as_8 rfl ?_
    refine E_iconst dX11_as_9 (by decide) ?_
    refine E_iconst dX11_as_10 (by decide) ?_
    refine i_X11_68 rfl dX11_as_11 c_isIn (by omega) (Nat.le_of_ble_eq_true rfl) rfl rfl ?_
    rintro _ _ ⟨rfl, rfl⟩
    try dsimp only [pu]
    refine E_if_ne (tgt := 20) dX11_as_14 (by decide) (fun h14 => ?_) (fun h14 => ?_)
    · simp only [tB0, ne_eq, Bool.not_eq_false, Bool.not_eq_true, decide_eq_true_eq, decide_eq_false_iff_not, Classical.not_not] at h14
      refine E_aload_n dX11_as_20 rfl ?_
      refine E_iload_n dX11_as_21 rfl ?_
      refine i_X11_277 rfl dX11_as_22 (by exact hX.o) (c_pieceAsked5 hX hRc hC hD hW hE (by omega) (by omega) hN hk) (by omega) (Nat.le_of_ble_eq_true rfl) rfl rfl ?_
      rintro _ M9 ⟨rfl, hM9⟩
      have hE9 : EX M M9 := by rw [hM9]; exact mPc_ex _ _ _ _ _
      have hs9 : mS M9 (mN M) = (4, 6) := by rw [hM9]; exact mS_new0 _ _
      have hI9 := hI.ex hE9
      have hF9 := FX.ex hN hE9
      clear hM9
      try dsimp only [pu]
      refine E_iload_n dX11_as_25 rfl ?_
      refine i_X11_281 rfl dX11_as_26 (c_isOfKind5 hs9 (by omega)) (by omega) (Nat.le_of_ble_eq_true rfl) rfl rfl ?_
      rintro _ _ ⟨rfl, rfl⟩
      try dsimp only [pu]
      refine E_if_ne (tgt := 38) dX11_as_29 (by decide) (fun h29 => ?_) (fun h29 => ?_)
      · simp only [tB0, ne_eq, Bool.not_eq_false, Bool.not_eq_true, decide_eq_true_eq, decide_eq_false_iff_not, Classical.not_not] at h29
        refine E_aload_n dX11_as_38 rfl ?_
        refine E_iload_n dX11_as_39 rfl ?_
        refine i_X11_81 rfl dX11_as_40 (by exact hI9.1.o) (c_unfound (by exact hI9.1.o)) (by omega) (Nat.le_of_ble_eq_true rfl) rfl rfl ?_
        rintro _ _ ⟨rfl, rfl⟩
        try dsimp only [pu]
        refine E_iret dX11_as_43 rfl ?_
        refine ⟨?_, ?_, hF9.w (by omega)⟩
        · congr 2; unfold s_as; rw [if_pos (by omega), hk, if_pos h29]
        · unfold t_as; rw [if_pos (by omega), hk, if_pos h29]; exact hI9.st 0
      · simp only [tB0, ne_eq, Bool.not_eq_false, Bool.not_eq_true, decide_eq_true_eq, decide_eq_false_iff_not, Classical.not_not] at h29
        refine E_aload_n dX11_as_32 rfl ?_
        refine E_iconst dX11_as_33 (by decide) ?_
        refine i_X11_73 rfl dX11_as_34 (by exact hI9.1.o) (c_found (by exact hI9.1.o) (by omega) (by omega)) (by omega) (Nat.le_of_ble_eq_true rfl) rfl rfl ?_
        rintro _ _ ⟨rfl, rfl⟩
        try dsimp only [pu]
        refine E_iret dX11_as_37 rfl ?_
        refine ⟨?_, ?_, hF9.w (by omega)⟩
        · congr 2; unfold s_as; rw [if_pos (by omega), hk, if_neg (by rw [h29]; simp)]; rfl
        · unfold t_as; rw [if_pos (by omega), hk, if_neg (by rw [h29]; simp)]; exact hI9.st2 3 0
    · exfalso; rw [decide_eq_true (by omega)] at h14; exact h14 (by decide)
