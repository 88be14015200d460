/-! ===== 38: the class: rows, reads ===== -/
set_option maxRecDepth 20000 in
set_option maxHeartbeats 3000000 in
theorem x_status {G : Ctx} {M : Mem} {A : AS} {B : Int} (hI : CI M A) (hG : GA A B) (hB : B ≤ 900000) : CT G m_X11_status 0 0 0 [vR 21] M (xM M (A 0 1) (A)) := by
  refine CT.of k_X11_status 0 (ls := [some (vR 21)]) rfl (Nat.le_of_ble_eq_true rfl) ?_
  obtain ⟨hX, hN, hR, hT, hK, hS, hW0, hW1, hW2⟩ := id hI
  obtain ⟨a, hRc, hC, ha, haN, hD, hH, hE, hSn, hg, hZ⟩ := hW0
  have hW := hG.w.c
  have hpn := hW.pn
  have hl8 := hW.ln
  have hr8 := hW.rn
  have hgg := hG.w.g
  have hth := hG.th
  have hV := hG.w.hv
  refine E_aload_n dX11_status_0 rfl ?_
  refine g_X11_312 rfl dX11_status_1 hX.o hS.2 ?_
  refine E_iret dX11_status_4 rfl ?_
  exact ⟨rfl, hI, FX.rfl' M⟩
set_option maxRecDepth 20000 in
set_option maxHeartbeats 3000000 in
theorem x_fault {G : Ctx} {M : Mem} {A : AS} {B : Int} (hI : CI M A) (hG : GA A B) (hB : B ≤ 900000) : CT G m_X11_fault 0 0 0 [vR 21] M (xM M (A 0 10) (A)) := by
  refine CT.of k_X11_fault 0 (ls := [some (vR 21)]) rfl (Nat.le_of_ble_eq_true rfl) ?_
  obtain ⟨hX, hN, hR, hT, hK, hS, hW0, hW1, hW2⟩ := id hI
  obtain ⟨a, hRc, hC, ha, haN, hD, hH, hE, hSn, hg, hZ⟩ := hW0
  have hW := hG.w.c
  have hpn := hW.pn
  have hl8 := hW.ln
  have hr8 := hW.rn
  have hgg := hG.w.g
  have hth := hG.th
  have hV := hG.w.hv
  refine E_aload_n dX11_fault_0 rfl ?_
  refine g_X11_121 rfl dX11_fault_1 hX.o hS.1 ?_
  refine E_iret dX11_fault_4 rfl ?_
  exact ⟨rfl, hI, FX.rfl' M⟩
set_option maxRecDepth 20000 in
set_option maxHeartbeats 3000000 in
theorem x_row {G : Ctx} {M : Mem} {A : AS} {B : Int} (hI : CI M A) (hG : GA A B) (hB : B ≤ 900000) {r l c : Int} : CT G m_X11_row 3 0 0 [vR 21, vI r, vI l, vI c] M (xM M (s_row r l c) (t_row A r l c)) := by
  refine CT.of k_X11_row 0 (ls := [some (vR 21), some (vI r), some (vI l), some (vI c)]) rfl (Nat.le_of_ble_eq_true rfl) ?_
  obtain ⟨hX, hN, hR, hT, hK, hS, hW0, hW1, hW2⟩ := id hI
  obtain ⟨a, hRc, hC, ha, haN, hD, hH, hE, hSn, hg, hZ⟩ := hW0
  have hW := hG.w.c
  have hpn := hW.pn
  have hl8 := hW.ln
  have hr8 := hW.rn
  have hgg := hG.w.g
  have hth := hG.th
  have hV := hG.w.hv
  refine E_aload_n dX11_row_0 rfl ?_
  refine g_X11_10 rfl dX11_row_1 hX.o hX.rows ?_
  refine E_iload_n dX11_row_4 rfl ?_
  refine i_X11_64 rfl dX11_row_5 (by exact hX.rp.o) (c_xIsRow (by exact hX.rp)) (by omega) (Nat.le_of_ble_eq_true rfl) rfl rfl ?_
  rintro _ _ ⟨rfl, rfl⟩
  try dsimp only [pu]
  refine E_if_eq (tgt := 26) dX11_row_8 (by decide) (fun h8 => ?_) (fun h8 => ?_)
  · simp only [tB0, ne_eq, Bool.not_eq_false, Bool.not_eq_true, decide_eq_true_eq, decide_eq_false_iff_not, Classical.not_not] at h8
    refine c_X11_72 rfl dX11_row_26 ?_
    refine E_iret dX11_row_28 rfl ?_
    refine ⟨?_, ?_, (FX.rfl' M)⟩
    · congr 2; unfold s_row; rw [if_neg (by omega)]; try rfl
    · unfold t_row; rw [if_neg (by omega)]; exact hI
  · simp only [tB0, ne_eq, Bool.not_eq_false, Bool.not_eq_true, decide_eq_true_eq, decide_eq_false_iff_not, Classical.not_not] at h8
    refine E_iload_n dX11_row_11 rfl ?_
    refine E_iconst dX11_row_12 (by decide) ?_
    refine E_iconst dX11_row_13 (by decide) ?_
    refine i_X11_68 rfl dX11_row_14 c_isIn (by omega) (Nat.le_of_ble_eq_true rfl) rfl rfl ?_
    rintro _ _ ⟨rfl, rfl⟩
    try dsimp only [pu]
    refine E_if_eq (tgt := 26) dX11_row_17 (by decide) (fun h17 => ?_) (fun h17 => ?_)
    · simp only [tB0, ne_eq, Bool.not_eq_false, Bool.not_eq_true, decide_eq_true_eq, decide_eq_false_iff_not, Classical.not_not] at h17
      refine c_X11_72 rfl dX11_row_26 ?_
      refine E_iret dX11_row_28 rfl ?_
      refine ⟨?_, ?_, (FX.rfl' M)⟩
      · congr 2; unfold s_row; rw [if_neg (by omega)]; try rfl
      · unfold t_row; rw [if_neg (by omega)]; exact hI
    · simp only [tB0, ne_eq, Bool.not_eq_false, Bool.not_eq_true, decide_eq_true_eq, decide_eq_false_iff_not, Classical.not_not] at h17
      refine E_iload_n dX11_row_20 rfl ?_
      refine E_bipush dX11_row_21 (by decide) ?_
      refine E_icmp_le (tgt := 29) dX11_row_23 (by decide) (fun h23 => ?_) (fun h23 => ?_)
      · refine E_iload_n dX11_row_29 rfl ?_
        refine E_if_ge (tgt := 39) dX11_row_30 (by decide) (fun h30 => ?_) (fun h30 => ?_)
        · refine E_aload_n dX11_row_39 rfl ?_
          refine g_X11_10 rfl dX11_row_40 hX.o hX.rows ?_
          refine E_iload_n dX11_row_43 rfl ?_
          refine E_iload_n dX11_row_44 rfl ?_
          refine E_iload_n dX11_row_45 rfl ?_
          refine i_X11_77 rfl dX11_row_46 (by exact hX.rp.o) (c_make (by exact hX.rp) (by omega) (by omega)) (by omega) (Nat.le_of_ble_eq_true rfl) rfl rfl ?_
          rintro _ _ ⟨rfl, rfl⟩
          try dsimp only [pu]
          refine E_aload_n dX11_row_49 rfl ?_
          refine E_iload_n dX11_row_50 rfl ?_
          refine i_X11_81 rfl dX11_row_51 (by exact hX.o) (c_unfound (by exact hX.o)) (by omega) (Nat.le_of_ble_eq_true rfl) rfl rfl ?_
          rintro _ _ ⟨rfl, rfl⟩
          try dsimp only [pu]
          refine E_iret dX11_row_54 rfl ?_
          refine ⟨?_, ?_, ((FX.rfl' M).j (fun b j b0 b1 => (fil_ne _ (by omega)).trans ((up2_ne _ _ (by omega)).trans (up2_ne _ _ (by omega))))).w (by omega)⟩
          · congr 2; unfold s_row; rw [if_pos (by omega), if_neg (by omega)]
          · unfold t_row; rw [if_pos (by omega), if_neg (by omega)]
            have h1 : CI (mJ M (fil (up2 (up2 (mI M) 23 r l) 24 r c) 25 (40 * r) (40 * r + c) 0)) (fil (up2 (up2 A 1 r l) 2 r c) 3 (40 * r) (40 * r + 40) 0) := hI.rw (fun b j q1 q2 q3 => (fil_ne _ (by omega)).trans ((up2_ne _ _ (by omega)).trans (up2_ne _ _ (by omega)))) (fun k j q1 q2 q3 => (fil_ne _ (by omega)).trans ((up2_ne _ _ (by omega)).trans (up2_ne _ _ (by omega)))) (hR.make hG l (by omega))
            have e : fil (up2 (up2 (up2 A 0 1 0) 1 r l) 2 r c) 3 (40 * r) (40 * r + 40) 0 = up2 (fil (up2 (up2 A 1 r l) 2 r c) 3 (40 * r) (40 * r + 40) 0) 0 1 0 := by
              rw [up2_comm A (b := 0) (c := 1) (by omega), up2_comm _ (b := 0) (c := 2) (by omega)]; exact fil_up2 _ (by omega)
            rw [e]; exact h1.st 0
        · refine E_aload_n dX11_row_33 rfl ?_
          refine E_iconst dX11_row_34 (by decide) ?_
          refine i_X11_73 rfl dX11_row_35 (by exact hX.o) (c_found (by exact hX.o) (by omega) (by omega)) (by omega) (Nat.le_of_ble_eq_true rfl) rfl rfl ?_
          rintro _ _ ⟨rfl, rfl⟩
          try dsimp only [pu]
          refine E_iret dX11_row_38 rfl ?_
          refine ⟨?_, ?_, ((FX.rfl' M).w (by omega))⟩
          · congr 2; unfold s_row; rw [if_pos (by omega), if_pos (by omega)]; try rfl
          · unfold t_row; rw [if_pos (by omega), if_pos (by omega)]; exact (hI.st2 4 0)
      · refine c_X11_72 rfl dX11_row_26 ?_
        refine E_iret dX11_row_28 rfl ?_
        refine ⟨?_, ?_, (FX.rfl' M)⟩
        · congr 2; unfold s_row; rw [if_neg (by omega)]; try rfl
        · unfold t_row; rw [if_neg (by omega)]; exact hI
set_option maxRecDepth 20000 in
set_option maxHeartbeats 3000000 in
theorem x_set {G : Ctx} {M : Mem} {A : AS} {B : Int} (hI : CI M A) (hG : GA A B) (hB : B ≤ 900000) {r i v : Int} (i0 : -2147483648 ≤ i ∧ i ≤ 2147483647) : CT G m_X11_set 3 0 0 [vR 21, vI r, vI i, vI v] M (xM M (s_set A r i v) (t_sett A r i v)) := by
  refine CT.of k_X11_set 0 (ls := [some (vR 21), some (vI r), some (vI i), some (vI v)]) rfl (Nat.le_of_ble_eq_true rfl) ?_
  obtain ⟨hX, hN, hR, hT, hK, hS, hW0, hW1, hW2⟩ := id hI
  obtain ⟨a, hRc, hC, ha, haN, hD, hH, hE, hSn, hg, hZ⟩ := hW0
  have hW := hG.w.c
  have hpn := hW.pn
  have hl8 := hW.ln
  have hr8 := hW.rn
  have hgg := hG.w.g
  have hth := hG.th
  have hV := hG.w.hv
  refine E_aload_n dX11_set_0 rfl ?_
  refine g_X11_10 rfl dX11_set_1 hX.o hX.rows ?_
  refine E_iload_n dX11_set_4 rfl ?_
  refine i_X11_64 rfl dX11_set_5 (by exact hX.rp.o) (c_xIsRow (by exact hX.rp)) (by omega) (Nat.le_of_ble_eq_true rfl) rfl rfl ?_
  rintro _ _ ⟨rfl, rfl⟩
  try dsimp only [pu]
  refine E_if_ne (tgt := 14) dX11_set_8 (by decide) (fun h8 => ?_) (fun h8 => ?_)
  · simp only [tB0, ne_eq, Bool.not_eq_false, Bool.not_eq_true, decide_eq_true_eq, decide_eq_false_iff_not, Classical.not_not] at h8
    have hsz := hG.sz (r := r) (by omega) (by omega)
    have hln := hG.ln (r := r) (by omega) (by omega)
    refine E_aload_n dX11_set_14 rfl ?_
    refine g_X11_10 rfl dX11_set_15 hX.o hX.rows ?_
    refine E_iload_n dX11_set_18 rfl ?_
    refine i_X11_84 rfl dX11_set_19 (by exact hX.rp.o) (c_isMissing (by exact hX.rp) (by omega) (hR r (by omega) (by omega)).1) (by omega) (Nat.le_of_ble_eq_true rfl) rfl rfl ?_
    rintro _ _ ⟨rfl, rfl⟩
    try dsimp only [pu]
    refine E_if_eq (tgt := 31) dX11_set_22 (by decide) (fun h22 => ?_) (fun h22 => ?_)
    · simp only [tB0, ne_eq, Bool.not_eq_false, Bool.not_eq_true, decide_eq_true_eq, decide_eq_false_iff_not, Classical.not_not] at h22
      refine E_aload_n dX11_set_31 rfl ?_
      refine g_X11_10 rfl dX11_set_32 hX.o hX.rows ?_
      refine E_iload_n dX11_set_35 rfl ?_
      refine E_iload_n dX11_set_36 rfl ?_
      refine E_iconst dX11_set_37 (by decide) ?_
      refine i_X11_87 rfl dX11_set_38 (by exact hX.rp.o) (c_hasItems (by exact hX.rp) (by omega) ((hR r (by omega) (by omega)).2 (by omega)).1 hsz (by omega)) (by omega) (Nat.le_of_ble_eq_true rfl) rfl rfl ?_
      rintro _ _ ⟨rfl, rfl⟩
      try dsimp only [pu]
      refine E_if_ne (tgt := 50) dX11_set_41 (by decide) (fun h41 => ?_) (fun h41 => ?_)
      · simp only [tB0, ne_eq, Bool.not_eq_false, Bool.not_eq_true, decide_eq_true_eq, decide_eq_false_iff_not, Classical.not_not] at h41
        refine E_aload_n dX11_set_50 rfl ?_
        refine E_aload_n dX11_set_51 rfl ?_
        refine g_X11_10 rfl dX11_set_52 hX.o hX.rows ?_
        refine E_iload_n dX11_set_55 rfl ?_
        refine E_iload_n dX11_set_56 rfl ?_
        refine E_iload_n dX11_set_57 rfl ?_
        refine i_X11_90 rfl dX11_set_58 (by exact hX.rp.o) (c_put (by exact hX.rp) (by omega) (by omega) (hR r (by omega) (by omega)).1 (by omega)) (by omega) (Nat.le_of_ble_eq_true rfl) rfl rfl ?_
        rintro _ _ ⟨rfl, rfl⟩
        try dsimp only [pu]
        refine i_X11_81 rfl dX11_set_61 (by exact hX.o) (c_unfound (by exact hX.o)) (by omega) (Nat.le_of_ble_eq_true rfl) rfl rfl ?_
        rintro _ _ ⟨rfl, rfl⟩
        try dsimp only [pu]
        refine E_iret dX11_set_64 rfl ?_
        refine ⟨?_, ?_, ((FX.rfl' M).w (by omega)).w (by omega)⟩
        · congr 2; unfold s_set; rw [if_pos (by omega), if_neg (by omega), if_pos (by omega)]
        · unfold t_sett; rw [if_pos (by omega), if_neg (by omega), if_pos (by omega), up2_comm A (b := 0) (c := 3) (by omega)]
          have h1 : CI (mWI M 25 (40 * r + i) (cut (A 1 r) v)) (up2 A 3 (40 * r + i) (cut (A 1 r) v)) := hI.rw (I := up2 (mI M) 25 (40 * r + i) (cut (A 1 r) v)) (fun b j q1 q2 q3 => up2_ne _ _ (by omega)) (fun k j q1 q2 q3 => up2_ne _ _ (by omega)) (hR.item _ _)
          exact h1.st 0
      · simp only [tB0, ne_eq, Bool.not_eq_false, Bool.not_eq_true, decide_eq_true_eq, decide_eq_false_iff_not, Classical.not_not] at h41
        refine E_aload_n dX11_set_44 rfl ?_
        refine E_iconst dX11_set_45 (by decide) ?_
        refine i_X11_73 rfl dX11_set_46 (by exact hX.o) (c_found (by exact hX.o) (by omega) (by omega)) (by omega) (Nat.le_of_ble_eq_true rfl) rfl rfl ?_
        rintro _ _ ⟨rfl, rfl⟩
        try dsimp only [pu]
        refine E_iret dX11_set_49 rfl ?_
        refine ⟨?_, ?_, ((FX.rfl' M).w (by omega))⟩
        · congr 2; unfold s_set; rw [if_pos (by omega), if_neg (by omega), if_neg (by omega)]; try rfl
        · unfold t_sett; rw [if_pos (by omega), if_neg (by omega), if_neg (by omega)]; exact (hI.st2 2 0)
    · simp only [tB0, ne_eq, Bool.not_eq_false, Bool.not_eq_true, decide_eq_true_eq, decide_eq_false_iff_not, Classical.not_not] at h22
      refine E_aload_n dX11_set_25 rfl ?_
      refine E_iconst dX11_set_26 (by decide) ?_
      refine i_X11_73 rfl dX11_set_27 (by exact hX.o) (c_found (by exact hX.o) (by omega) (by omega)) (by omega) (Nat.le_of_ble_eq_true rfl) rfl rfl ?_
      rintro _ _ ⟨rfl, rfl⟩
      try dsimp only [pu]
      refine E_iret dX11_set_30 rfl ?_
      refine ⟨?_, ?_, ((FX.rfl' M).w (by omega))⟩
      · congr 2; unfold s_set; rw [if_pos (by omega), if_pos (by omega)]; try rfl
      · unfold t_sett; rw [if_pos (by omega), if_pos (by omega)]; exact (hI.st2 1 0)
  · simp only [tB0, ne_eq, Bool.not_eq_false, Bool.not_eq_true, decide_eq_true_eq, decide_eq_false_iff_not, Classical.not_not] at h8
    refine c_X11_72 rfl dX11_set_11 ?_
    refine E_iret dX11_set_13 rfl ?_
    refine ⟨?_, ?_, (FX.rfl' M)⟩
    · congr 2; unfold s_set; rw [if_neg (by omega)]; try rfl
    · unfold t_sett; rw [if_neg (by omega)]; exact hI
set_option maxRecDepth 20000 in
set_option maxHeartbeats 3000000 in
theorem x_drop {G : Ctx} {M : Mem} {A : AS} {B : Int} (hI : CI M A) (hG : GA A B) (hB : B ≤ 900000) {r : Int} : CT G m_X11_drop 2 0 0 [vR 21, vI r] M (xM M (s_drop A r) (t_drop A r)) := by
  refine CT.of k_X11_drop 0 (ls := [some (vR 21), some (vI r)]) rfl (Nat.le_of_ble_eq_true rfl) ?_
  obtain ⟨hX, hN, hR, hT, hK, hS, hW0, hW1, hW2⟩ := id hI
  obtain ⟨a, hRc, hC, ha, haN, hD, hH, hE, hSn, hg, hZ⟩ := hW0
  have hW := hG.w.c
  have hpn := hW.pn
  have hl8 := hW.ln
  have hr8 := hW.rn
  have hgg := hG.w.g
  have hth := hG.th
  have hV := hG.w.hv
  refine E_aload_n dX11_drop_0 rfl ?_
  refine g_X11_10 rfl dX11_drop_1 hX.o hX.rows ?_
  refine E_iload_n dX11_drop_4 rfl ?_
  refine i_X11_64 rfl dX11_drop_5 (by exact hX.rp.o) (c_xIsRow (by exact hX.rp)) (by omega) (Nat.le_of_ble_eq_true rfl) rfl rfl ?_
  rintro _ _ ⟨rfl, rfl⟩
  try dsimp only [pu]
  refine E_if_ne (tgt := 14) dX11_drop_8 (by decide) (fun h8 => ?_) (fun h8 => ?_)
  · simp only [tB0, ne_eq, Bool.not_eq_false, Bool.not_eq_true, decide_eq_true_eq, decide_eq_false_iff_not, Classical.not_not] at h8
    have hln := hG.ln (r := r) (by omega) (by omega)
    refine E_aload_n dX11_drop_14 rfl ?_
    refine g_X11_10 rfl dX11_drop_15 hX.o hX.rows ?_
    refine E_iload_n dX11_drop_18 rfl ?_
    refine i_X11_84 rfl dX11_drop_19 (by exact hX.rp.o) (c_isMissing (by exact hX.rp) (by omega) (hR r (by omega) (by omega)).1) (by omega) (Nat.le_of_ble_eq_true rfl) rfl rfl ?_
    rintro _ _ ⟨rfl, rfl⟩
    try dsimp only [pu]
    refine E_if_eq (tgt := 31) dX11_drop_22 (by decide) (fun h22 => ?_) (fun h22 => ?_)
    · simp only [tB0, ne_eq, Bool.not_eq_false, Bool.not_eq_true, decide_eq_true_eq, decide_eq_false_iff_not, Classical.not_not] at h22
      refine E_aload_n dX11_drop_31 rfl ?_
      refine E_aload_n dX11_drop_32 rfl ?_
      refine g_X11_10 rfl dX11_drop_33 hX.o hX.rows ?_
      refine E_iload_n dX11_drop_36 rfl ?_
      refine i_X11_102 rfl dX11_drop_37 (by exact hX.rp.o) (c_lose (by exact hX.rp) (by omega)) (by omega) (Nat.le_of_ble_eq_true rfl) rfl rfl ?_
      rintro _ _ ⟨rfl, rfl⟩
      try dsimp only [pu]
      refine i_X11_81 rfl dX11_drop_40 (by exact hX.o) (c_unfound (by exact hX.o)) (by omega) (Nat.le_of_ble_eq_true rfl) rfl rfl ?_
      rintro _ _ ⟨rfl, rfl⟩
      try dsimp only [pu]
      refine E_iret dX11_drop_43 rfl ?_
      refine ⟨?_, ?_, ((FX.rfl' M).j (fun b j b0 b1 => (up2_ne _ _ (by omega)).trans (up2_ne _ _ (by omega)))).w (by omega)⟩
      · congr 2; unfold s_drop; rw [if_pos (by omega), if_neg (by omega)]; exact ((hR r (by omega) (by omega)).2 (by omega)).1
      · unfold t_drop; rw [if_pos (by omega), if_neg (by omega), up2_comm A (b := 0) (c := 1) (by omega)]
        have h1 : CI (mJ M (up2 (up2 (mI M) 23 r (-1)) 24 r 0)) (up2 A 1 r (-1)) := hI.rw (fun b j q1 q2 q3 => (up2_ne _ _ (by omega)).trans (up2_ne _ _ (by omega))) (fun k j q1 q2 q3 => up2_ne _ _ (by omega)) (hR.lose r)
        exact h1.st 0
    · simp only [tB0, ne_eq, Bool.not_eq_false, Bool.not_eq_true, decide_eq_true_eq, decide_eq_false_iff_not, Classical.not_not] at h22
      refine E_aload_n dX11_drop_25 rfl ?_
      refine E_iconst dX11_drop_26 (by decide) ?_
      refine i_X11_73 rfl dX11_drop_27 (by exact hX.o) (c_found (by exact hX.o) (by omega) (by omega)) (by omega) (Nat.le_of_ble_eq_true rfl) rfl rfl ?_
      rintro _ _ ⟨rfl, rfl⟩
      try dsimp only [pu]
      refine E_iret dX11_drop_30 rfl ?_
      refine ⟨?_, ?_, ((FX.rfl' M).w (by omega))⟩
      · congr 2; unfold s_drop; rw [if_pos (by omega), if_pos (by omega)]; try rfl
      · unfold t_drop; rw [if_pos (by omega), if_pos (by omega)]; exact (hI.st2 1 0)
  · simp only [tB0, ne_eq, Bool.not_eq_false, Bool.not_eq_true, decide_eq_true_eq, decide_eq_false_iff_not, Classical.not_not] at h8
    refine c_X11_72 rfl dX11_drop_11 ?_
    refine E_iret dX11_drop_13 rfl ?_
    refine ⟨?_, ?_, (FX.rfl' M)⟩
    · congr 2; unfold s_drop; rw [if_neg (by omega)]; try rfl
    · unfold t_drop; rw [if_neg (by omega)]; exact hI
set_option maxRecDepth 20000 in
set_option maxHeartbeats 3000000 in
theorem x_copy {G : Ctx} {M : Mem} {A : AS} {B : Int} (hI : CI M A) (hG : GA A B) (hB : B ≤ 900000) {r i t j c : Int} (i0 : -2147483648 ≤ i ∧ i ≤ 2147483647) (j0 : -2147483648 ≤ j ∧ j ≤ 2147483647) (c0 : -2147483648 ≤ c ∧ c ≤ 2147483647) : CT G m_X11_copy 2 0 0 [vR 21, vI r, vI i, vI t, vI j, vI c] M (xM M (s_copy A r i t j c) (t_copy A r i t j c)) := by
  refine CT.of k_X11_copy 0 (ls := [some (vR 21), some (vI r), some (vI i), some (vI t), some (vI j), some (vI c)]) rfl (Nat.le_of_ble_eq_true rfl) ?_
  obtain ⟨hX, hN, hR, hT, hK, hS, hW0, hW1, hW2⟩ := id hI
  obtain ⟨a, hRc, hC, ha, haN, hD, hH, hE, hSn, hg, hZ⟩ := hW0
  have hW := hG.w.c
  have hpn := hW.pn
  have hl8 := hW.ln
  have hr8 := hW.rn
  have hgg := hG.w.g
  have hth := hG.th
  have hV := hG.w.hv
  refine E_aload_n dX11_copy_0 rfl ?_
  refine g_X11_10 rfl dX11_copy_1 hX.o hX.rows ?_
  refine E_iload_n dX11_copy_4 rfl ?_
  refine i_X11_64 rfl dX11_copy_5 (by exact hX.rp.o) (c_xIsRow (by exact hX.rp)) (by omega) (Nat.le_of_ble_eq_true rfl) rfl rfl ?_
  rintro _ _ ⟨rfl, rfl⟩
  try dsimp only [pu]
  refine E_if_eq (tgt := 22) dX11_copy_8 (by decide) (fun h8 => ?_) (fun h8 => ?_)
  · simp only [tB0, ne_eq, Bool.not_eq_false, Bool.not_eq_true, decide_eq_true_eq, decide_eq_false_iff_not, Classical.not_not] at h8
    refine c_X11_72 rfl dX11_copy_22 ?_
    refine E_iret dX11_copy_24 rfl ?_
    refine ⟨?_, ?_, (FX.rfl' M)⟩
    · congr 2; unfold s_copy; rw [if_neg (by omega)]; try rfl
    · unfold t_copy; rw [if_neg (by omega)]; exact hI
  · simp only [tB0, ne_eq, Bool.not_eq_false, Bool.not_eq_true, decide_eq_true_eq, decide_eq_false_iff_not, Classical.not_not] at h8
    refine E_aload_n dX11_copy_11 rfl ?_
    refine g_X11_10 rfl dX11_copy_12 hX.o hX.rows ?_
    refine E_iload_n dX11_copy_15 rfl ?_
    refine i_X11_64 rfl dX11_copy_16 (by exact hX.rp.o) (c_xIsRow (by exact hX.rp)) (by omega) (Nat.le_of_ble_eq_true rfl) rfl rfl ?_
    rintro _ _ ⟨rfl, rfl⟩
    try dsimp only [pu]
    refine E_if_ne (tgt := 25) dX11_copy_19 (by decide) (fun h19 => ?_) (fun h19 => ?_)
    · simp only [tB0, ne_eq, Bool.not_eq_false, Bool.not_eq_true, decide_eq_true_eq, decide_eq_false_iff_not, Classical.not_not] at h19
      have hsr := hG.sz (r := r) (by omega) (by omega)
      have hst := hG.sz (r := t) (by omega) (by omega)
      have hlr := hG.ln (r := r) (by omega) (by omega)
      have hlt := hG.ln (r := t) (by omega) (by omega)
      refine E_aload_n dX11_copy_25 rfl ?_
      refine g_X11_10 rfl dX11_copy_26 hX.o hX.rows ?_
      refine E_iload_n dX11_copy_29 rfl ?_
      refine i_X11_84 rfl dX11_copy_30 (by exact hX.rp.o) (c_isMissing (by exact hX.rp) (by omega) (hR r (by omega) (by omega)).1) (by omega) (Nat.le_of_ble_eq_true rfl) rfl rfl ?_
      rintro _ _ ⟨rfl, rfl⟩
      try dsimp only [pu]
      refine E_if_ne (tgt := 47) dX11_copy_33 (by decide) (fun h33 => ?_) (fun h33 => ?_)
      · simp only [tB0, ne_eq, Bool.not_eq_false, Bool.not_eq_true, decide_eq_true_eq, decide_eq_false_iff_not, Classical.not_not] at h33
        refine E_aload_n dX11_copy_47 rfl ?_
        refine E_iconst dX11_copy_48 (by decide) ?_
        refine i_X11_73 rfl dX11_copy_49 (by exact hX.o) (c_found (by exact hX.o) (by omega) (by omega)) (by omega) (Nat.le_of_ble_eq_true rfl) rfl rfl ?_
        rintro _ _ ⟨rfl, rfl⟩
        try dsimp only [pu]
        refine E_iret dX11_copy_52 rfl ?_
        refine ⟨?_, ?_, ((FX.rfl' M).w (by omega))⟩
        · congr 2; unfold s_copy; rw [if_pos (by omega), if_pos (by omega)]; try rfl
        · unfold t_copy; rw [if_pos (by omega), if_pos (by omega)]; exact (hI.st2 1 0)
      · simp only [tB0, ne_eq, Bool.not_eq_false, Bool.not_eq_true, decide_eq_true_eq, decide_eq_false_iff_not, Classical.not_not] at h33
        refine E_aload_n dX11_copy_36 rfl ?_
        refine g_X11_10 rfl dX11_copy_37 hX.o hX.rows ?_
        refine E_iload_n dX11_copy_40 rfl ?_
        refine i_X11_84 rfl dX11_copy_41 (by exact hX.rp.o) (c_isMissing (by exact hX.rp) (by omega) (hR t (by omega) (by omega)).1) (by omega) (Nat.le_of_ble_eq_true rfl) rfl rfl ?_
        rintro _ _ ⟨rfl, rfl⟩
        try dsimp only [pu]
        refine E_if_eq (tgt := 53) dX11_copy_44 (by decide) (fun h44 => ?_) (fun h44 => ?_)
        · simp only [tB0, ne_eq, Bool.not_eq_false, Bool.not_eq_true, decide_eq_true_eq, decide_eq_false_iff_not, Classical.not_not] at h44
          refine E_aload_n dX11_copy_53 rfl ?_
          refine g_X11_10 rfl dX11_copy_54 hX.o hX.rows ?_
          refine E_iload_n dX11_copy_57 rfl ?_
          refine E_iload_n dX11_copy_58 rfl ?_
          refine i_X11_94 rfl dX11_copy_59 (by exact hX.rp.o) (c_areAlike (by exact hX.rp) (by omega) (by omega) (hR r (by omega) (by omega)).1 (hR t (by omega) (by omega)).1) (by omega) (Nat.le_of_ble_eq_true rfl) rfl rfl ?_
          rintro _ _ ⟨rfl, rfl⟩
          try dsimp only [pu]
          refine E_if_ne (tgt := 71) dX11_copy_62 (by decide) (fun h62 => ?_) (fun h62 => ?_)
          · simp only [tB0, ne_eq, Bool.not_eq_false, Bool.not_eq_true, decide_eq_true_eq, decide_eq_false_iff_not, Classical.not_not] at h62
            refine E_aload_n dX11_copy_71 rfl ?_
            refine g_X11_10 rfl dX11_copy_72 hX.o hX.rows ?_
            refine E_iload_n dX11_copy_75 rfl ?_
            refine E_iload_n dX11_copy_76 rfl ?_
            refine E_iload dX11_copy_77 rfl ?_
            refine i_X11_87 rfl dX11_copy_79 (by exact hX.rp.o) (c_hasItems (by exact hX.rp) (by omega) ((hR r (by omega) (by omega)).2 (by omega)).1 hsr (by omega)) (by omega) (Nat.le_of_ble_eq_true rfl) rfl rfl ?_
            rintro _ _ ⟨rfl, rfl⟩
            try dsimp only [pu]
            refine E_if_eq (tgt := 100) dX11_copy_82 (by decide) (fun h82 => ?_) (fun h82 => ?_)
            · simp only [tB0, ne_eq, Bool.not_eq_false, Bool.not_eq_true, decide_eq_true_eq, decide_eq_false_iff_not, Classical.not_not] at h82
              refine E_aload_n dX11_copy_100 rfl ?_
              refine E_iconst dX11_copy_101 (by decide) ?_
              refine i_X11_73 rfl dX11_copy_102 (by exact hX.o) (c_found (by exact hX.o) (by omega) (by omega)) (by omega) (Nat.le_of_ble_eq_true rfl) rfl rfl ?_
              rintro _ _ ⟨rfl, rfl⟩
              try dsimp only [pu]
              refine E_iret dX11_copy_105 rfl ?_
              refine ⟨?_, ?_, ((FX.rfl' M).w (by omega))⟩
              · congr 2; unfold s_copy; rw [if_pos (by omega), if_neg (by omega), if_neg (by omega), if_neg (by omega)]; try rfl
              · unfold t_copy; rw [if_pos (by omega), if_neg (by omega), if_neg (by omega), if_neg (by omega)]; exact (hI.st2 2 0)
            · simp only [tB0, ne_eq, Bool.not_eq_false, Bool.not_eq_true, decide_eq_true_eq, decide_eq_false_iff_not, Classical.not_not] at h82
              refine E_aload_n dX11_copy_85 rfl ?_
              refine g_X11_10 rfl dX11_copy_86 hX.o hX.rows ?_
              refine E_iload_n dX11_copy_89 rfl ?_
              refine E_iload dX11_copy_90 rfl ?_
              refine E_iload dX11_copy_92 rfl ?_
              refine i_X11_87 rfl dX11_copy_94 (by exact hX.rp.o) (c_hasItems (by exact hX.rp) (by omega) ((hR t (by omega) (by omega)).2 (by omega)).1 hst (by omega)) (by omega) (Nat.le_of_ble_eq_true rfl) rfl rfl ?_
              rintro _ _ ⟨rfl, rfl⟩
              try dsimp only [pu]
              refine E_if_ne (tgt := 106) dX11_copy_97 (by decide) (fun h97 => ?_) (fun h97 => ?_)
              · simp only [tB0, ne_eq, Bool.not_eq_false, Bool.not_eq_true, decide_eq_true_eq, decide_eq_false_iff_not, Classical.not_not] at h97
                refine E_aload_n dX11_copy_106 rfl ?_
                refine g_X11_10 rfl dX11_copy_107 hX.o hX.rows ?_
                refine E_iload_n dX11_copy_110 rfl ?_
                refine E_iload_n dX11_copy_111 rfl ?_
                refine E_iload_n dX11_copy_112 rfl ?_
                refine E_iload dX11_copy_113 rfl ?_
                refine E_iload dX11_copy_115 rfl ?_
                refine i_X11_98 rfl dX11_copy_117 (by exact hX.rp.o) (c_move (by exact hX.rp) (by omega) (by omega) (by omega) (by omega) (by omega)) (by omega) (Nat.le_of_ble_eq_true rfl) rfl rfl ?_
                rintro _ _ ⟨rfl, rfl⟩
                try dsimp only [pu]
                refine E_aload_n dX11_copy_120 rfl ?_
                refine E_iload dX11_copy_121 rfl ?_
                refine i_X11_81 rfl dX11_copy_123 (by exact hX.o) (c_unfound (by exact hX.o)) (by omega) (Nat.le_of_ble_eq_true rfl) rfl rfl ?_
                rintro _ _ ⟨rfl, rfl⟩
                try dsimp only [pu]
                refine E_iret dX11_copy_126 rfl ?_
                refine ⟨?_, ?_, ((FX.rfl' M).j (fun b j b0 b1 => mov_ne _ (by omega))).w (by omega)⟩
                · congr 2; unfold s_copy; rw [if_pos (by omega), if_neg (by omega), if_neg (by omega), if_pos (by omega)]
                · unfold t_copy; rw [if_pos (by omega), if_neg (by omega), if_neg (by omega), if_pos (by omega), mov_up2 _ (by omega) (by omega)]
                  have h1 : CI (mJ M (mov (mI M) 25 25 (40 * r + i) (40 * t + j) c)) (mov A 3 3 (40 * r + i) (40 * t + j) c) := hI.rw (fun b j q1 q2 q3 => mov_ne _ (by omega)) (fun k j q1 q2 q3 => mov_ne _ (by omega)) (hR.move hG (by omega) (by omega) (by omega) (by omega) (by omega))
                  exact h1.st 0
              · simp only [tB0, ne_eq, Bool.not_eq_false, Bool.not_eq_true, decide_eq_true_eq, decide_eq_false_iff_not, Classical.not_not] at h97
                refine E_aload_n dX11_copy_100 rfl ?_
                refine E_iconst dX11_copy_101 (by decide) ?_
                refine i_X11_73 rfl dX11_copy_102 (by exact hX.o) (c_found (by exact hX.o) (by omega) (by omega)) (by omega) (Nat.le_of_ble_eq_true rfl) rfl rfl ?_
                rintro _ _ ⟨rfl, rfl⟩
                try dsimp only [pu]
                refine E_iret dX11_copy_105 rfl ?_
                refine ⟨?_, ?_, ((FX.rfl' M).w (by omega))⟩
                · congr 2; unfold s_copy; rw [if_pos (by omega), if_neg (by omega), if_neg (by omega), if_neg (by omega)]; try rfl
                · unfold t_copy; rw [if_pos (by omega), if_neg (by omega), if_neg (by omega), if_neg (by omega)]; exact (hI.st2 2 0)
          · simp only [tB0, ne_eq, Bool.not_eq_false, Bool.not_eq_true, decide_eq_true_eq, decide_eq_false_iff_not, Classical.not_not] at h62
            refine E_aload_n dX11_copy_65 rfl ?_
            refine E_iconst dX11_copy_66 (by decide) ?_
            refine i_X11_73 rfl dX11_copy_67 (by exact hX.o) (c_found (by exact hX.o) (by omega) (by omega)) (by omega) (Nat.le_of_ble_eq_true rfl) rfl rfl ?_
            rintro _ _ ⟨rfl, rfl⟩
            try dsimp only [pu]
            refine E_iret dX11_copy_70 rfl ?_
            refine ⟨?_, ?_, ((FX.rfl' M).w (by omega))⟩
            · congr 2; unfold s_copy; rw [if_pos (by omega), if_neg (by omega), if_pos (by omega)]; try rfl
            · unfold t_copy; rw [if_pos (by omega), if_neg (by omega), if_pos (by omega)]; exact (hI.st2 5 0)
        · simp only [tB0, ne_eq, Bool.not_eq_false, Bool.not_eq_true, decide_eq_true_eq, decide_eq_false_iff_not, Classical.not_not] at h44
          refine E_aload_n dX11_copy_47 rfl ?_
          refine E_iconst dX11_copy_48 (by decide) ?_
          refine i_X11_73 rfl dX11_copy_49 (by exact hX.o) (c_found (by exact hX.o) (by omega) (by omega)) (by omega) (Nat.le_of_ble_eq_true rfl) rfl rfl ?_
          rintro _ _ ⟨rfl, rfl⟩
          try dsimp only [pu]
          refine E_iret dX11_copy_52 rfl ?_
          refine ⟨?_, ?_, ((FX.rfl' M).w (by omega))⟩
          · congr 2; unfold s_copy; rw [if_pos (by omega), if_pos (by omega)]; try rfl
          · unfold t_copy; rw [if_pos (by omega), if_pos (by omega)]; exact (hI.st2 1 0)
    · simp only [tB0, ne_eq, Bool.not_eq_false, Bool.not_eq_true, decide_eq_true_eq, decide_eq_false_iff_not, Classical.not_not] at h19
      refine c_X11_72 rfl dX11_copy_22 ?_
      refine E_iret dX11_copy_24 rfl ?_
      refine ⟨?_, ?_, (FX.rfl' M)⟩
      · congr 2; unfold s_copy; rw [if_neg (by omega)]; try rfl
      · unfold t_copy; rw [if_neg (by omega)]; exact hI
set_option maxRecDepth 20000 in
set_option maxHeartbeats 3000000 in
theorem x_kind {G : Ctx} {M : Mem} {A : AS} {B : Int} (hI : CI M A) (hG : GA A B) (hB : B ≤ 900000) {p : Int} : CT G m_X11_kind 2 0 0 [vR 21, vI p] M (xM M (s_kind A p) (A)) := by
  refine CT.of k_X11_kind 0 (ls := [some (vR 21), some (vI p)]) rfl (Nat.le_of_ble_eq_true rfl) ?_
  obtain ⟨hX, hN, hR, hT, hK, hS, hW0, hW1, hW2⟩ := id hI
  obtain ⟨a, hRc, hC, ha, haN, hD, hH, hE, hSn, hg, hZ⟩ := hW0
  have hW := hG.w.c
  have hpn := hW.pn
  have hl8 := hW.ln
  have hr8 := hW.rn
  have hgg := hG.w.g
  have hth := hG.th
  have hV := hG.w.hv
  refine E_aload_n dX11_kind_0 rfl ?_
  refine E_iload_n dX11_kind_1 rfl ?_
  refine i_X11_134 rfl dX11_kind_2 (by exact hX.o) (c_isPiece hX hRc hC hD hW) (by omega) (Nat.le_of_ble_eq_true rfl) rfl rfl ?_
  rintro _ _ ⟨rfl, rfl⟩
  try dsimp only [pu]
  refine E_if_eq (tgt := 23) dX11_kind_5 (by decide) (fun h5 => ?_) (fun h5 => ?_)
  · simp only [tB0, ne_eq, Bool.not_eq_false, Bool.not_eq_true, decide_eq_true_eq, decide_eq_false_iff_not, Classical.not_not] at h5
    refine c_X11_72 rfl dX11_kind_23 ?_
    refine E_iret dX11_kind_25 rfl ?_
    refine ⟨?_, ?_, (FX.rfl' M)⟩
    · congr 2; unfold s_kind; rw [if_neg (by omega)]; try rfl
    · exact hI
  · simp only [tB0, ne_eq, Bool.not_eq_false, Bool.not_eq_true, decide_eq_true_eq, decide_eq_false_iff_not, Classical.not_not] at h5
    refine E_aload_n dX11_kind_8 rfl ?_
    refine g_X11_48 rfl dX11_kind_9 hX.o hX.wash ?_
    refine g_X11_168 rfl dX11_kind_12 hX.w0.o hRc ?_
    refine g_X11_274 rfl dX11_kind_15 hC.o hC.kinds ?_
    refine E_iload_n dX11_kind_18 rfl ?_
    refine E_iald dX11_kind_19 hC.s_kinds (by omega) (by omega) (hD.kinds (by omega) (by omega)) ?_
    refine E_goto (tgt := 25) dX11_kind_20 (by decide) ?_
    refine E_iret dX11_kind_25 rfl ?_
    refine ⟨?_, ?_, (FX.rfl' M)⟩
    · congr 2; unfold s_kind; rw [if_pos (by omega)]; try rfl
    · exact hI
set_option maxRecDepth 20000 in
set_option maxHeartbeats 3000000 in
theorem x_trace {G : Ctx} {M : Mem} {A : AS} {B : Int} (hI : CI M A) (hG : GA A B) (hB : B ≤ 900000) {i : Int} : CT G m_X11_trace 1 0 0 [vR 21, vI i] M (xM M (s_trace A i) (A)) := by
  refine CT.of k_X11_trace 0 (ls := [some (vR 21), some (vI i)]) rfl (Nat.le_of_ble_eq_true rfl) ?_
  obtain ⟨hX, hN, hR, hT, hK, hS, hW0, hW1, hW2⟩ := id hI
  obtain ⟨a, hRc, hC, ha, haN, hD, hH, hE, hSn, hg, hZ⟩ := hW0
  have hW := hG.w.c
  have hpn := hW.pn
  have hl8 := hW.ln
  have hr8 := hW.rn
  have hgg := hG.w.g
  have hth := hG.th
  have hV := hG.w.hv
  have htr := hG.tr
  refine E_iload_n dX11_trace_0 rfl ?_
  refine E_iconst dX11_trace_1 (by decide) ?_
  refine E_aload_n dX11_trace_2 rfl ?_
  refine g_X11_26 rfl dX11_trace_3 hX.o hX.trace ?_
  refine g_X11_296 rfl dX11_trace_6 hX.tq.o hK.1 ?_
  refine E_iconst dX11_trace_9 (by decide) ?_
  refine E_isub dX11_trace_10 (by omega) (by omega) ?_
  refine i_X11_68 rfl dX11_trace_11 c_isIn (by omega) (Nat.le_of_ble_eq_true rfl) rfl rfl ?_
  rintro _ _ ⟨rfl, rfl⟩
  try dsimp only [pu]
  refine E_if_eq (tgt := 29) dX11_trace_14 (by decide) (fun h14 => ?_) (fun h14 => ?_)
  · simp only [tB0, ne_eq, Bool.not_eq_false, Bool.not_eq_true, decide_eq_true_eq, decide_eq_false_iff_not, Classical.not_not] at h14
    refine c_X11_201 rfl dX11_trace_29 ?_
    refine E_iret dX11_trace_31 rfl ?_
    refine ⟨?_, ?_, (FX.rfl' M)⟩
    · congr 2; unfold s_trace; rw [if_neg (by omega)]; try rfl
    · exact hI
  · simp only [tB0, ne_eq, Bool.not_eq_false, Bool.not_eq_true, decide_eq_true_eq, decide_eq_false_iff_not, Classical.not_not] at h14
    refine E_aload_n dX11_trace_17 rfl ?_
    refine g_X11_26 rfl dX11_trace_18 hX.o hX.trace ?_
    refine g_X11_299 rfl dX11_trace_21 hX.tq.o hX.tq.numbers ?_
    refine E_iload_n dX11_trace_24 rfl ?_
    refine E_iald dX11_trace_25 hX.tq.s_numbers (by omega) (by omega) (hK.2 _ (by omega) (by omega)) ?_
    refine E_goto (tgt := 31) dX11_trace_26 (by decide) ?_
    refine E_iret dX11_trace_31 rfl ?_
    refine ⟨?_, ?_, (FX.rfl' M)⟩
    · congr 2; unfold s_trace; rw [if_pos (by omega)]; try rfl
    · exact hI
set_option maxRecDepth 20000 in
set_option maxHeartbeats 3000000 in
theorem x_sun {G : Ctx} {M : Mem} {A : AS} {B : Int} (hI : CI M A) (hG : GA A B) (hB : B ≤ 900000) {l h : Int} : CT G m_X11_sun 2 0 0 [vR 21, vI l, vI h] M (xM M (s_sun A l h) (A)) := by
  refine CT.of k_X11_sun 0 (ls := [some (vR 21), some (vI l), some (vI h)]) rfl (Nat.le_of_ble_eq_true rfl) ?_
  obtain ⟨hX, hN, hR, hT, hK, hS, hW0, hW1, hW2⟩ := id hI
  obtain ⟨a, hRc, hC, ha, haN, hD, hH, hE, hSn, hg, hZ⟩ := hW0
  have hW := hG.w.c
  have hpn := hW.pn
  have hl8 := hW.ln
  have hr8 := hW.rn
  have hgg := hG.w.g
  have hth := hG.th
  have hV := hG.w.hv
  refine E_aload_n dX11_sun_0 rfl ?_
  refine E_iload_n dX11_sun_1 rfl ?_
  refine i_X11_137 rfl dX11_sun_2 (by exact hX.o) (c_isLine hX hRc hC hD hW) (by omega) (Nat.le_of_ble_eq_true rfl) rfl rfl ?_
  rintro _ _ ⟨rfl, rfl⟩
  try dsimp only [pu]
  refine E_if_eq (tgt := 18) dX11_sun_5 (by decide) (fun h5 => ?_) (fun h5 => ?_)
  · simp only [tB0, ne_eq, Bool.not_eq_false, Bool.not_eq_true, decide_eq_true_eq, decide_eq_false_iff_not, Classical.not_not] at h5
    refine c_X11_72 rfl dX11_sun_18 ?_
    refine E_iret dX11_sun_20 rfl ?_
    refine ⟨?_, ?_, (FX.rfl' M)⟩
    · congr 2; unfold s_sun; rw [if_neg (by omega)]; try rfl
    · exact hI
  · simp only [tB0, ne_eq, Bool.not_eq_false, Bool.not_eq_true, decide_eq_true_eq, decide_eq_false_iff_not, Classical.not_not] at h5
    refine E_iload_n dX11_sun_8 rfl ?_
    refine E_iconst dX11_sun_9 (by decide) ?_
    refine E_bipush dX11_sun_10 (by decide) ?_
    refine i_X11_68 rfl dX11_sun_12 c_isIn (by omega) (Nat.le_of_ble_eq_true rfl) rfl rfl ?_
    rintro _ _ ⟨rfl, rfl⟩
    try dsimp only [pu]
    refine E_if_ne (tgt := 21) dX11_sun_15 (by decide) (fun h15 => ?_) (fun h15 => ?_)
    · simp only [tB0, ne_eq, Bool.not_eq_false, Bool.not_eq_true, decide_eq_true_eq, decide_eq_false_iff_not, Classical.not_not] at h15
      refine E_aload_n dX11_sun_21 rfl ?_
      refine g_X11_48 rfl dX11_sun_22 hX.o hX.wash ?_
      refine g_X11_168 rfl dX11_sun_25 hX.w0.o hRc ?_
      refine E_iload_n dX11_sun_28 rfl ?_
      refine E_iconst dX11_sun_29 (by decide) ?_
      refine E_bipush dX11_sun_30 (by decide) ?_
      refine E_iload_n dX11_sun_32 rfl ?_
      refine i_X11_246 rfl dX11_sun_33 (by exact hC.o) (c_sunnyQuarters hC hD hW (by omega) (by omega) (by omega) 24 (by omega) (by omega) (by omega) (by omega)) (by omega) (Nat.le_of_ble_eq_true rfl) rfl rfl ?_
      rintro _ _ ⟨rfl, rfl⟩
      try dsimp only [pu]
      refine E_iret dX11_sun_36 rfl ?_
      refine ⟨?_, ?_, (FX.rfl' M)⟩
      · congr 2; unfold s_sun; rw [if_pos (by omega)]; try rfl
      · exact hI
    · simp only [tB0, ne_eq, Bool.not_eq_false, Bool.not_eq_true, decide_eq_true_eq, decide_eq_false_iff_not, Classical.not_not] at h15
      refine c_X11_72 rfl dX11_sun_18 ?_
      refine E_iret dX11_sun_20 rfl ?_
      refine ⟨?_, ?_, (FX.rfl' M)⟩
      · congr 2; unfold s_sun; rw [if_neg (by omega)]; try rfl
      · exact hI
set_option maxRecDepth 20000 in
set_option maxHeartbeats 3000000 in
theorem x_piece {G : Ctx} {M : Mem} {A : AS} {B : Int} (hI : CI M A) (hG : GA A B) (hB : B ≤ 900000) {p w : Int} : CT G m_X11_piece 2 0 0 [vR 21, vI p, vI w] M (xM M (s_piece A p w) (A)) := by
  refine CT.of k_X11_piece 0 (ls := [some (vR 21), some (vI p), some (vI w)]) rfl (Nat.le_of_ble_eq_true rfl) ?_
  obtain ⟨hX, hN, hR, hT, hK, hS, hW0, hW1, hW2⟩ := id hI
  obtain ⟨a, hRc, hC, ha, haN, hD, hH, hE, hSn, hg, hZ⟩ := hW0
  have hW := hG.w.c
  have hpn := hW.pn
  have hl8 := hW.ln
  have hr8 := hW.rn
  have hgg := hG.w.g
  have hth := hG.th
  have hV := hG.w.hv
  refine E_aload_n dX11_piece_0 rfl ?_
  refine E_iload_n dX11_piece_1 rfl ?_
  refine i_X11_134 rfl dX11_piece_2 (by exact hX.o) (c_isPiece hX hRc hC hD hW) (by omega) (Nat.le_of_ble_eq_true rfl) rfl rfl ?_
  rintro _ _ ⟨rfl, rfl⟩
  try dsimp only [pu]
  refine E_if_ne (tgt := 11) dX11_piece_5 (by decide) (fun h5 => ?_) (fun h5 => ?_)
  · simp only [tB0, ne_eq, Bool.not_eq_false, Bool.not_eq_true, decide_eq_true_eq, decide_eq_false_iff_not, Classical.not_not] at h5
    have hv := hV p (by omega) (by omega)
    have hsn := hG.w.sn p (by omega) (by omega)
    have hnm : nm1 (cHu (A 4) p) = if cHu (A 4) p = -1000000 then -1 else cHu (A 4) p := rfl
    refine E_iload_n dX11_piece_11 rfl ?_
    by_cases q12_0 : w = 0
    · refine E_tabIn (off := 36) (tgt := 48) dX11_piece_12 (by omega) (by omega) (by rw [q12_0]; rfl) (by decide) ?_
      refine E_aload_n dX11_piece_48 rfl ?_
      refine g_X11_48 rfl dX11_piece_49 hX.o hX.wash ?_
      refine g_X11_195 rfl dX11_piece_52 hX.w0.o hX.w0.wet ?_
      refine E_iload_n dX11_piece_55 rfl ?_
      refine E_iald dX11_piece_56 hX.w0.s_wet (by omega) (by omega) (hE _ (by omega) (by omega)) ?_
      refine E_iret dX11_piece_57 rfl ?_
      refine ⟨?_, ?_, (FX.rfl' M)⟩
      · congr 2; unfold s_piece; rw [if_pos (by omega), if_pos (by omega)]; try rfl
      · exact hI
    by_cases q12_1 : w = 1
    · refine E_tabIn (off := 46) (tgt := 58) dX11_piece_12 (by omega) (by omega) (by rw [q12_1]; rfl) (by decide) ?_
      refine E_aload_n dX11_piece_58 rfl ?_
      refine g_X11_48 rfl dX11_piece_59 hX.o hX.wash ?_
      refine E_iload_n dX11_piece_62 rfl ?_
      refine i_X11_151 rfl dX11_piece_63 (by exact hX.w0.o) (c_isHung (by exact hX.w0) hW hV hH (by omega) (by omega)) (by omega) (Nat.le_of_ble_eq_true rfl) rfl rfl ?_
      rintro _ _ ⟨rfl, rfl⟩
      try dsimp only [pu]
      refine E_if_eq (tgt := 81) dX11_piece_66 (by decide) (fun h66 => ?_) (fun h66 => ?_)
      · simp only [tB0, ne_eq, Bool.not_eq_false, Bool.not_eq_true, decide_eq_true_eq, decide_eq_false_iff_not, Classical.not_not] at h66
        refine c_X11_201 rfl dX11_piece_81 ?_
        refine E_iret dX11_piece_83 rfl ?_
        refine ⟨?_, hI, FX.rfl' M⟩
        congr 2; unfold s_piece; rw [if_pos (by omega), if_neg (by omega), if_pos (by omega)]; omega
      · simp only [tB0, ne_eq, Bool.not_eq_false, Bool.not_eq_true, decide_eq_true_eq, decide_eq_false_iff_not, Classical.not_not] at h66
        refine E_aload_n dX11_piece_69 rfl ?_
        refine g_X11_48 rfl dX11_piece_70 hX.o hX.wash ?_
        refine g_X11_198 rfl dX11_piece_73 hX.w0.o hX.w0.where ?_
        refine E_iload_n dX11_piece_76 rfl ?_
        refine E_iald dX11_piece_77 hX.w0.s_where (by omega) (by omega) (hH _ (by omega) (by omega)) ?_
        refine E_goto (tgt := 83) dX11_piece_78 (by decide) ?_
        refine E_iret dX11_piece_83 rfl ?_
        refine ⟨?_, hI, FX.rfl' M⟩
        congr 2; unfold s_piece; rw [if_pos (by omega), if_neg (by omega), if_pos (by omega)]; omega
    by_cases q12_2 : w = 2
    · refine E_tabIn (off := 72) (tgt := 84) dX11_piece_12 (by omega) (by omega) (by rw [q12_2]; rfl) (by decide) ?_
      refine E_aload_n dX11_piece_84 rfl ?_
      refine g_X11_48 rfl dX11_piece_85 hX.o hX.wash ?_
      refine g_X11_202 rfl dX11_piece_88 hX.w0.o hX.w0.stained ?_
      refine E_iload_n dX11_piece_91 rfl ?_
      refine E_zald dX11_piece_92 hX.w0.s_stained (by omega) (by omega) (hSn _ (by omega) (by omega)) ?_
      refine E_if_eq (tgt := 100) dX11_piece_93 (by decide) (fun h93 => ?_) (fun h93 => ?_)
      · refine E_iconst dX11_piece_100 (by decide) ?_
        refine E_iret dX11_piece_101 rfl ?_
        refine ⟨?_, hI, FX.rfl' M⟩
        congr 2; unfold s_piece cSn; rw [if_pos (by omega), if_neg (by omega), if_neg (by omega), if_pos (by omega)]; unfold cSn at h93; omega
      · refine E_iconst dX11_piece_96 (by decide) ?_
        refine E_goto (tgt := 101) dX11_piece_97 (by decide) ?_
        refine E_iret dX11_piece_101 rfl ?_
        refine ⟨?_, hI, FX.rfl' M⟩
        congr 2; unfold s_piece cSn; rw [if_pos (by omega), if_neg (by omega), if_neg (by omega), if_pos (by omega)]; unfold cSn at h93; omega
    by_cases q12_3 : w = 3
    · refine E_tabIn (off := 90) (tgt := 102) dX11_piece_12 (by omega) (by omega) (by rw [q12_3]; rfl) (by decide) ?_
      refine E_aload_n dX11_piece_102 rfl ?_
      refine g_X11_48 rfl dX11_piece_103 hX.o hX.wash ?_
      refine g_X11_168 rfl dX11_piece_106 hX.w0.o hRc ?_
      refine g_X11_206 rfl dX11_piece_109 hC.o hC.owners ?_
      refine E_iload_n dX11_piece_112 rfl ?_
      refine E_iald dX11_piece_113 hC.s_owners (by omega) (by omega) (hD.owners (by omega) (by omega)) ?_
      refine E_iret dX11_piece_114 rfl ?_
      refine ⟨?_, ?_, (FX.rfl' M)⟩
      · congr 2; unfold s_piece; rw [if_pos (by omega), if_neg (by omega), if_neg (by omega), if_neg (by omega), if_pos (by omega)]; try rfl
      · exact hI
    by_cases q12_4 : w = 4
    · refine E_tabIn (off := 103) (tgt := 115) dX11_piece_12 (by omega) (by omega) (by rw [q12_4]; rfl) (by decide) ?_
      refine E_aload_n dX11_piece_115 rfl ?_
      refine g_X11_48 rfl dX11_piece_116 hX.o hX.wash ?_
      refine g_X11_168 rfl dX11_piece_119 hX.w0.o hRc ?_
      refine g_X11_209 rfl dX11_piece_122 hC.o hC.yards ?_
      refine E_iload_n dX11_piece_125 rfl ?_
      refine E_iald dX11_piece_126 hC.s_yards (by omega) (by omega) (hD.yards (by omega) (by omega)) ?_
      refine E_iret dX11_piece_127 rfl ?_
      refine ⟨?_, ?_, (FX.rfl' M)⟩
      · congr 2; unfold s_piece; rw [if_pos (by omega), if_neg (by omega), if_neg (by omega), if_neg (by omega), if_neg (by omega)]; try rfl
      · exact hI
    refine E_tabOut (tgt := 128) dX11_piece_12 (by omega) (by decide) ?_
    refine c_X11_72 rfl dX11_piece_128 ?_
    refine E_iret dX11_piece_130 rfl ?_
    refine ⟨?_, ?_, (FX.rfl' M)⟩
    · congr 2; unfold s_piece; rw [if_neg (by omega)]; try rfl
    · exact hI
  · simp only [tB0, ne_eq, Bool.not_eq_false, Bool.not_eq_true, decide_eq_true_eq, decide_eq_false_iff_not, Classical.not_not] at h5
    refine c_X11_72 rfl dX11_piece_8 ?_
    refine E_iret dX11_piece_10 rfl ?_
    refine ⟨?_, ?_, (FX.rfl' M)⟩
    · congr 2; unfold s_piece; rw [if_neg (by omega)]; try rfl
    · exact hI
set_option maxRecDepth 20000 in
set_option maxHeartbeats 3000000 in
theorem x_line {G : Ctx} {M : Mem} {A : AS} {B : Int} (hI : CI M A) (hG : GA A B) (hB : B ≤ 900000) {l w : Int} (n : Nat) (hn : A 4 2 = n) (rn : Nat) (hrn : A 4 1 = rn) : CT G m_X11_line 2 0 0 [vR 21, vI l, vI w] M (xM M (s_line A l w n rn) (A)) := by
  refine CT.of k_X11_line 0 (ls := [some (vR 21), some (vI l), some (vI w)]) rfl (Nat.le_of_ble_eq_true rfl) ?_
  obtain ⟨hX, hN, hR, hT, hK, hS, hW0, hW1, hW2⟩ := id hI
  obtain ⟨a, hRc, hC, ha, haN, hD, hH, hE, hSn, hg, hZ⟩ := hW0
  have hW := hG.w.c
  have hpn := hW.pn
  have hl8 := hW.ln
  have hr8 := hW.rn
  have hgg := hG.w.g
  have hth := hG.th
  have hV := hG.w.hv
  refine E_aload_n dX11_line_0 rfl ?_
  refine E_iload_n dX11_line_1 rfl ?_
  refine i_X11_137 rfl dX11_line_2 (by exact hX.o) (c_isLine hX hRc hC hD hW) (by omega) (Nat.le_of_ble_eq_true rfl) rfl rfl ?_
  rintro _ _ ⟨rfl, rfl⟩
  try dsimp only [pu]
  refine E_if_ne (tgt := 11) dX11_line_5 (by decide) (fun h5 => ?_) (fun h5 => ?_)
  · simp only [tB0, ne_eq, Bool.not_eq_false, Bool.not_eq_true, decide_eq_true_eq, decide_eq_false_iff_not, Classical.not_not] at h5
    refine E_iload_n dX11_line_11 rfl ?_
    by_cases q12_0 : w = 0
    · refine E_tabIn (off := 40) (tgt := 52) dX11_line_12 (by omega) (by omega) (by rw [q12_0]; rfl) (by decide) ?_
      refine E_aload_n dX11_line_52 rfl ?_
      refine g_X11_48 rfl dX11_line_53 hX.o hX.wash ?_
      refine g_X11_168 rfl dX11_line_56 hX.w0.o hRc ?_
      refine g_X11_212 rfl dX11_line_59 hC.o hC.floors ?_
      refine E_iload_n dX11_line_62 rfl ?_
      refine E_iald dX11_line_63 hC.s_floors (by omega) (by omega) (hD.floors (by omega) (by omega)) ?_
      refine E_iret dX11_line_64 rfl ?_
      refine ⟨?_, hI, FX.rfl' M⟩
      congr 2; unfold s_line; rw [if_pos (by omega), if_pos (by omega)]; congr 1; omega
    by_cases q12_1 : w = 1
    · refine E_tabIn (off := 53) (tgt := 65) dX11_line_12 (by omega) (by omega) (by rw [q12_1]; rfl) (by decide) ?_
      refine E_aload_n dX11_line_65 rfl ?_
      refine g_X11_48 rfl dX11_line_66 hX.o hX.wash ?_
      refine g_X11_168 rfl dX11_line_69 hX.w0.o hRc ?_
      refine g_X11_215 rfl dX11_line_72 hC.o hC.columns ?_
      refine E_iload_n dX11_line_75 rfl ?_
      refine E_iald dX11_line_76 hC.s_columns (by omega) (by omega) (hD.columns (by omega) (by omega)) ?_
      refine E_iret dX11_line_77 rfl ?_
      refine ⟨?_, hI, FX.rfl' M⟩
      congr 2; unfold s_line; rw [if_pos (by omega), if_pos (by omega)]; congr 1; omega
    by_cases q12_2 : w = 2
    · refine E_tabIn (off := 66) (tgt := 78) dX11_line_12 (by omega) (by omega) (by rw [q12_2]; rfl) (by decide) ?_
      refine E_aload_n dX11_line_78 rfl ?_
      refine g_X11_48 rfl dX11_line_79 hX.o hX.wash ?_
      refine g_X11_168 rfl dX11_line_82 hX.w0.o hRc ?_
      refine g_X11_218 rfl dX11_line_85 hC.o hC.wides ?_
      refine E_iload_n dX11_line_88 rfl ?_
      refine E_iald dX11_line_89 hC.s_wides (by omega) (by omega) (hD.wides (by omega) (by omega)) ?_
      refine E_iret dX11_line_90 rfl ?_
      refine ⟨?_, hI, FX.rfl' M⟩
      congr 2; unfold s_line; rw [if_pos (by omega), if_pos (by omega)]; congr 1; omega
    by_cases q12_3 : w = 3
    · refine E_tabIn (off := 79) (tgt := 91) dX11_line_12 (by omega) (by omega) (by rw [q12_3]; rfl) (by decide) ?_
      refine E_aload_n dX11_line_91 rfl ?_
      refine g_X11_48 rfl dX11_line_92 hX.o hX.wash ?_
      refine E_iload_n dX11_line_95 rfl ?_
      refine i_X11_221 rfl dX11_line_96 (by exact hX.w0.o) (c_bitsOn (by exact hX.w0) hRc hC hD hW hV hH (by omega) n hn) (by omega) (Nat.le_of_ble_eq_true rfl) rfl rfl ?_
      rintro _ _ ⟨rfl, rfl⟩
      try dsimp only [pu]
      refine E_iret dX11_line_99 rfl ?_
      refine ⟨?_, ?_, (FX.rfl' M)⟩
      · congr 2; unfold s_line; rw [if_pos (by omega), if_neg (by omega), if_pos (by omega)]; try rfl
      · exact hI
    by_cases q12_4 : w = 4
    · refine E_tabIn (off := 88) (tgt := 100) dX11_line_12 (by omega) (by omega) (by rw [q12_4]; rfl) (by decide) ?_
      refine E_aload_n dX11_line_100 rfl ?_
      refine g_X11_48 rfl dX11_line_101 hX.o hX.wash ?_
      refine g_X11_168 rfl dX11_line_104 hX.w0.o hRc ?_
      refine E_iload_n dX11_line_107 rfl ?_
      refine E_aload_n dX11_line_108 rfl ?_
      refine g_X11_48 rfl dX11_line_109 hX.o hX.wash ?_
      refine i_X11_224 rfl dX11_line_112 (by exact hX.w0.o) (c_quarterNow (by exact hX.w0) hg (by omega) (by omega)) (by omega) (Nat.le_of_ble_eq_true rfl) rfl rfl ?_
      rintro _ _ ⟨rfl, rfl⟩
      try dsimp only [pu]
      refine i_X11_227 rfl dX11_line_115 (by exact hC.o) (c_holders hC hD hW rn hrn) (by omega) (Nat.le_of_ble_eq_true rfl) rfl rfl ?_
      rintro _ _ ⟨rfl, rfl⟩
      try dsimp only [pu]
      refine E_iret dX11_line_118 rfl ?_
      refine ⟨?_, ?_, (FX.rfl' M)⟩
      · congr 2; unfold s_line; rw [if_pos (by omega), if_neg (by omega), if_neg (by omega), if_pos (by omega)]; try rfl
      · exact hI
    by_cases q12_5 : w = 5
    · refine E_tabIn (off := 107) (tgt := 119) dX11_line_12 (by omega) (by omega) (by rw [q12_5]; rfl) (by decide) ?_
      have hbl : (fBel (A 4) l (A 4 0).toNat = -1000000 ∨ (0 ≤ fBel (A 4) l (A 4 0).toNat ∧ fBel (A 4) l (A 4 0).toNat < A 4 0)) := bel_r hW l
      have hnm : nm1 (fBel (A 4) l (A 4 0).toNat) = if fBel (A 4) l (A 4 0).toNat = -1000000 then -1 else fBel (A 4) l (A 4 0).toNat := rfl
      refine E_aload_n dX11_line_119 rfl ?_
      refine g_X11_48 rfl dX11_line_120 hX.o hX.wash ?_
      refine g_X11_168 rfl dX11_line_123 hX.w0.o hRc ?_
      refine g_X11_230 rfl dX11_line_126 hC.o hC.below ?_
      refine E_iload_n dX11_line_129 rfl ?_
      refine E_iald dX11_line_130 hC.s_below (by omega) (by omega) (hD.below (by omega) (by omega)) ?_
      refine E_if_ge (tgt := 139) dX11_line_131 (by decide) (fun h131 => ?_) (fun h131 => ?_)
      · refine E_aload_n dX11_line_139 rfl ?_
        refine g_X11_48 rfl dX11_line_140 hX.o hX.wash ?_
        refine g_X11_168 rfl dX11_line_143 hX.w0.o hRc ?_
        refine g_X11_230 rfl dX11_line_146 hC.o hC.below ?_
        refine E_iload_n dX11_line_149 rfl ?_
        refine E_iald dX11_line_150 hC.s_below (by omega) (by omega) (hD.below (by omega) (by omega)) ?_
        refine E_iret dX11_line_151 rfl ?_
        refine ⟨?_, hI, FX.rfl' M⟩
        congr 2; unfold s_line bel; rw [if_pos (by omega), if_neg (by omega), if_neg (by omega), if_neg (by omega)]; omega
      · refine c_X11_201 rfl dX11_line_134 ?_
        refine E_goto (tgt := 151) dX11_line_136 (by decide) ?_
        refine E_iret dX11_line_151 rfl ?_
        refine ⟨?_, hI, FX.rfl' M⟩
        congr 2; unfold s_line bel; rw [if_pos (by omega), if_neg (by omega), if_neg (by omega), if_neg (by omega)]; omega
    refine E_tabOut (tgt := 152) dX11_line_12 (by omega) (by decide) ?_
    refine c_X11_72 rfl dX11_line_152 ?_
    refine E_iret dX11_line_154 rfl ?_
    refine ⟨?_, ?_, (FX.rfl' M)⟩
    · congr 2; unfold s_line; rw [if_neg (by omega)]; try rfl
    · exact hI
  · simp only [tB0, ne_eq, Bool.not_eq_false, Bool.not_eq_true, decide_eq_true_eq, decide_eq_false_iff_not, Classical.not_not] at h5
    refine c_X11_72 rfl dX11_line_8 ?_
    refine E_iret dX11_line_10 rfl ?_
    refine ⟨?_, ?_, (FX.rfl' M)⟩
    · congr 2; unfold s_line; rw [if_neg (by omega)]; try rfl
    · exact hI
