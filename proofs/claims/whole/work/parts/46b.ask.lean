set_option maxRecDepth 20000 in
set_option maxHeartbeats 3000000 in
theorem c_markOf1 {G : Ctx} {M : Mem} {m : Nat} {cd : CD} (hO : MO M m) (hQ : MC (mI M) m cd) (hW : WFc cd) (hT : 0 ≤ mI M m 27 ∧ mI M m 27 ≤ 16) {p : Int} (p0 : 0 ≤ p) (p1 : p < cd 2) (hk : cd (84 + 6 * p) = 1) {we : Int} (hwe : cd (86 + 6 * p) = we) (w9 : 0 ≤ we ∧ we ≤ 99) : CT G m_X12_markOf 3 0 0 [vR m, vI p] M (rB M m (p + cd (87 + 6 * p)) [21, 20]) := by
  refine CT.of k_X12_markOf 1 (ls := [some (vR m), some (vI p), none]) rfl (Nat.le_of_ble_eq_true rfl) ?_
  have hpn := hW.pn
  have hya := hW.ya p0 p1
  refine E_aload_n dX12_markOf_0 rfl ?_
  refine E_iload_n dX12_markOf_1 rfl ?_
  refine E_iconst dX12_markOf_2 (by decide) ?_
  refine i_X12_202 rfl dX12_markOf_3 (by exact hO.o) (c_of (by exact hO) (by exact hQ) (j := 84 + 6 * p) (by omega) (by omega) (by omega)) (by omega) (Nat.le_of_ble_eq_true rfl) rfl rfl ?_
  rintro _ _ ⟨rfl, rfl⟩
  try dsimp only [pu]
  refine E_istore_n dX12_markOf_6 rfl (by decide) ?_
  try dsimp only [List.set]
  refine E_aload_n dX12_markOf_7 rfl ?_
  refine E_iload_n dX12_markOf_8 rfl ?_
  refine i_X12_240 rfl dX12_markOf_9 (by exact hO.o) (c_isReddish (by exact hO) (by exact hQ) hW p0 p1) (by omega) (Nat.le_of_ble_eq_true rfl) rfl rfl ?_
  rintro _ _ ⟨rfl, rfl⟩
  try dsimp only [pu]
  refine E_if_eq (tgt := 21) dX12_markOf_12 (by decide) (fun h12 => ?_) (fun h12 => ?_)
  · exfalso; revert h12; rw [show fTak cd p = false by unfold fTak; rw [hk]; rfl]; decide
  · simp only [tB0, ne_eq, Bool.not_eq_false, Bool.not_eq_true, decide_eq_true_eq, decide_eq_false_iff_not, Classical.not_not] at h12
    refine E_aload_n dX12_markOf_15 rfl ?_
    refine E_iload_n dX12_markOf_16 rfl ?_
    refine i_X12_300 rfl dX12_markOf_17 (by exact hO.o) (c_redMark1 (by exact hO) (by exact hQ) hW (by exact hT) p0 p1 hk) (by omega) (Nat.le_of_ble_eq_true rfl) rfl rfl ?_
    rintro _ _ ⟨rfl, rfl⟩
    try dsimp only [pu]
    refine E_iret dX12_markOf_20 rfl ?_
    exact ⟨by first | rfl | (congr 2; omega), rfl⟩
set_option maxRecDepth 20000 in
set_option maxHeartbeats 3000000 in
theorem c_markOf2 {G : Ctx} {M : Mem} {m : Nat} {cd : CD} (hO : MO M m) (hQ : MC (mI M) m cd) (hW : WFc cd) (hT : 0 ≤ mI M m 27 ∧ mI M m 27 ≤ 16) {p : Int} (p0 : 0 ≤ p) (p1 : p < cd 2) (hk : cd (84 + 6 * p) = 2) {we : Int} (hwe : cd (86 + 6 * p) = we) (w9 : 0 ≤ we ∧ we ≤ 99) : CT G m_X12_markOf 3 0 0 [vR m, vI p] M (rB M m (p + cd (87 + 6 * p) + 1000) [24, 21, 20]) := by
  refine CT.of k_X12_markOf 1 (ls := [some (vR m), some (vI p), none]) rfl (Nat.le_of_ble_eq_true rfl) ?_
  have hpn := hW.pn
  have hya := hW.ya p0 p1
  refine E_aload_n dX12_markOf_0 rfl ?_
  refine E_iload_n dX12_markOf_1 rfl ?_
  refine E_iconst dX12_markOf_2 (by decide) ?_
  refine i_X12_202 rfl dX12_markOf_3 (by exact hO.o) (c_of (by exact hO) (by exact hQ) (j := 84 + 6 * p) (by omega) (by omega) (by omega)) (by omega) (Nat.le_of_ble_eq_true rfl) rfl rfl ?_
  rintro _ _ ⟨rfl, rfl⟩
  try dsimp only [pu]
  refine E_istore_n dX12_markOf_6 rfl (by decide) ?_
  try dsimp only [List.set]
  refine E_aload_n dX12_markOf_7 rfl ?_
  refine E_iload_n dX12_markOf_8 rfl ?_
  refine i_X12_240 rfl dX12_markOf_9 (by exact hO.o) (c_isReddish (by exact hO) (by exact hQ) hW p0 p1) (by omega) (Nat.le_of_ble_eq_true rfl) rfl rfl ?_
  rintro _ _ ⟨rfl, rfl⟩
  try dsimp only [pu]
  refine E_if_eq (tgt := 21) dX12_markOf_12 (by decide) (fun h12 => ?_) (fun h12 => ?_)
  · exfalso; revert h12; rw [show fTak cd p = false by unfold fTak; rw [hk]; rfl]; decide
  · simp only [tB0, ne_eq, Bool.not_eq_false, Bool.not_eq_true, decide_eq_true_eq, decide_eq_false_iff_not, Classical.not_not] at h12
    refine E_aload_n dX12_markOf_15 rfl ?_
    refine E_iload_n dX12_markOf_16 rfl ?_
    refine i_X12_300 rfl dX12_markOf_17 (by exact hO.o) (c_redMark2 (by exact hO) (by exact hQ) hW (by exact hT) p0 p1 hk) (by omega) (Nat.le_of_ble_eq_true rfl) rfl rfl ?_
    rintro _ _ ⟨rfl, rfl⟩
    try dsimp only [pu]
    refine E_iret dX12_markOf_20 rfl ?_
    exact ⟨by first | rfl | (congr 2; omega), rfl⟩
set_option maxRecDepth 20000 in
set_option maxHeartbeats 3000000 in
theorem c_markOf3 {G : Ctx} {M : Mem} {m : Nat} {cd : CD} (hO : MO M m) (hQ : MC (mI M) m cd) (hW : WFc cd) (hT : 0 ≤ mI M m 27 ∧ mI M m 27 ≤ 16) {p : Int} (p0 : 0 ≤ p) (p1 : p < cd 2) (hk : cd (84 + 6 * p) = 3) {we : Int} (hwe : cd (86 + 6 * p) = we) (w9 : 0 ≤ we ∧ we ≤ 99) : CT G m_X12_markOf 3 0 0 [vR m, vI p] M (rB M m (p) [20]) := by
  refine CT.of k_X12_markOf 1 (ls := [some (vR m), some (vI p), none]) rfl (Nat.le_of_ble_eq_true rfl) ?_
  have hpn := hW.pn
  have hya := hW.ya p0 p1
  refine E_aload_n dX12_markOf_0 rfl ?_
  refine E_iload_n dX12_markOf_1 rfl ?_
  refine E_iconst dX12_markOf_2 (by decide) ?_
  refine i_X12_202 rfl dX12_markOf_3 (by exact hO.o) (c_of (by exact hO) (by exact hQ) (j := 84 + 6 * p) (by omega) (by omega) (by omega)) (by omega) (Nat.le_of_ble_eq_true rfl) rfl rfl ?_
  rintro _ _ ⟨rfl, rfl⟩
  try dsimp only [pu]
  refine E_istore_n dX12_markOf_6 rfl (by decide) ?_
  try dsimp only [List.set]
  refine E_aload_n dX12_markOf_7 rfl ?_
  refine E_iload_n dX12_markOf_8 rfl ?_
  refine i_X12_240 rfl dX12_markOf_9 (by exact hO.o) (c_isReddish (by exact hO) (by exact hQ) hW p0 p1) (by omega) (Nat.le_of_ble_eq_true rfl) rfl rfl ?_
  rintro _ _ ⟨rfl, rfl⟩
  try dsimp only [pu]
  refine E_if_eq (tgt := 21) dX12_markOf_12 (by decide) (fun h12 => ?_) (fun h12 => ?_)
  · simp only [tB0, ne_eq, Bool.not_eq_false, Bool.not_eq_true, decide_eq_true_eq, decide_eq_false_iff_not, Classical.not_not] at h12
    refine E_iload_n dX12_markOf_21 rfl ?_
    refine E_iconst dX12_markOf_22 (by decide) ?_
    refine E_icmp_eq (tgt := 42) dX12_markOf_23 (by decide) (fun h23 => ?_) (fun h23 => ?_)
    · refine E_aload_n dX12_markOf_42 rfl ?_
      refine E_bipush dX12_markOf_43 (by decide) ?_
      refine i_X12_294 rfl dX12_markOf_45 (by exact hO.o) (c_began (by exact hO) (by exact hT)) (by omega) (Nat.le_of_ble_eq_true rfl) rfl rfl ?_
      rintro _ _ ⟨rfl, rfl⟩
      have hT := bgR_b (m := m) [20] _ hT
      have hQ := hQ.bg [20]
      try dsimp only [pu]
      refine E_iload_n dX12_markOf_48 rfl ?_
      refine E_iconst dX12_markOf_49 (by decide) ?_
      refine E_icmp_ne (tgt := 57) dX12_markOf_50 (by decide) (fun h50 => ?_) (fun h50 => ?_)
      · exfalso; omega
      · refine E_iload_n dX12_markOf_53 rfl ?_
        refine E_goto (tgt := 82) dX12_markOf_54 (by decide) ?_
        refine E_iret dX12_markOf_82 rfl ?_
        exact ⟨by first | rfl | (congr 2; omega), rfl⟩
    · exfalso; omega
  · exfalso; revert h12; rw [show fTak cd p = true by unfold fTak; rw [hk]; rfl]; decide
set_option maxRecDepth 20000 in
set_option maxHeartbeats 3000000 in
theorem c_markOf4 {G : Ctx} {M : Mem} {m : Nat} {cd : CD} (hO : MO M m) (hQ : MC (mI M) m cd) (hW : WFc cd) (hT : 0 ≤ mI M m 27 ∧ mI M m 27 ≤ 16) {p : Int} (p0 : 0 ≤ p) (p1 : p < cd 2) (hk : cd (84 + 6 * p) = 4) {we : Int} (hwe : cd (86 + 6 * p) = we) (w9 : 0 ≤ we ∧ we ≤ 99) : CT G m_X12_markOf 3 0 0 [vR m, vI p] M (rB M m (p - we) [22, 20, 10]) := by
  refine CT.of k_X12_markOf 1 (ls := [some (vR m), some (vI p), none]) rfl (Nat.le_of_ble_eq_true rfl) ?_
  have hpn := hW.pn
  have hya := hW.ya p0 p1
  refine E_aload_n dX12_markOf_0 rfl ?_
  refine E_iload_n dX12_markOf_1 rfl ?_
  refine E_iconst dX12_markOf_2 (by decide) ?_
  refine i_X12_202 rfl dX12_markOf_3 (by exact hO.o) (c_of (by exact hO) (by exact hQ) (j := 84 + 6 * p) (by omega) (by omega) (by omega)) (by omega) (Nat.le_of_ble_eq_true rfl) rfl rfl ?_
  rintro _ _ ⟨rfl, rfl⟩
  try dsimp only [pu]
  refine E_istore_n dX12_markOf_6 rfl (by decide) ?_
  try dsimp only [List.set]
  refine E_aload_n dX12_markOf_7 rfl ?_
  refine E_iload_n dX12_markOf_8 rfl ?_
  refine i_X12_240 rfl dX12_markOf_9 (by exact hO.o) (c_isReddish (by exact hO) (by exact hQ) hW p0 p1) (by omega) (Nat.le_of_ble_eq_true rfl) rfl rfl ?_
  rintro _ _ ⟨rfl, rfl⟩
  try dsimp only [pu]
  refine E_if_eq (tgt := 21) dX12_markOf_12 (by decide) (fun h12 => ?_) (fun h12 => ?_)
  · simp only [tB0, ne_eq, Bool.not_eq_false, Bool.not_eq_true, decide_eq_true_eq, decide_eq_false_iff_not, Classical.not_not] at h12
    refine E_iload_n dX12_markOf_21 rfl ?_
    refine E_iconst dX12_markOf_22 (by decide) ?_
    refine E_icmp_eq (tgt := 42) dX12_markOf_23 (by decide) (fun h23 => ?_) (fun h23 => ?_)
    · exfalso; omega
    · refine E_aload_n dX12_markOf_26 rfl ?_
      refine E_iload_n dX12_markOf_27 rfl ?_
      refine E_iconst dX12_markOf_28 (by decide) ?_
      refine E_icmp_ne (tgt := 37) dX12_markOf_29 (by decide) (fun h29 => ?_) (fun h29 => ?_)
      · exfalso; omega
      · refine E_bipush dX12_markOf_32 (by decide) ?_
        refine E_goto (tgt := 39) dX12_markOf_34 (by decide) ?_
        refine i_X12_294 rfl dX12_markOf_39 (by exact hO.o) (c_began (by exact hO) (by exact hT)) (by omega) (Nat.le_of_ble_eq_true rfl) rfl rfl ?_
        rintro _ _ ⟨rfl, rfl⟩
        have hT := bgR_b (m := m) [22] _ hT
        have hQ := hQ.bg [22]
        try dsimp only [pu]
        refine E_aload_n dX12_markOf_42 rfl ?_
        refine E_bipush dX12_markOf_43 (by decide) ?_
        refine i_X12_294 rfl dX12_markOf_45 (by exact hO.o) (c_began (by exact hO) (by exact hT)) (by omega) (Nat.le_of_ble_eq_true rfl) rfl rfl ?_
        rintro _ _ ⟨rfl, rfl⟩
        have hT := bgR_b (m := m) [20] _ hT
        have hQ := hQ.bg [20]
        try dsimp only [pu]
        refine E_iload_n dX12_markOf_48 rfl ?_
        refine E_iconst dX12_markOf_49 (by decide) ?_
        refine E_icmp_ne (tgt := 57) dX12_markOf_50 (by decide) (fun h50 => ?_) (fun h50 => ?_)
        · refine E_iload_n dX12_markOf_57 rfl ?_
          refine E_iconst dX12_markOf_58 (by decide) ?_
          refine E_icmp_ne (tgt := 72) dX12_markOf_59 (by decide) (fun h59 => ?_) (fun h59 => ?_)
          · exfalso; omega
          · refine E_iload_n dX12_markOf_62 rfl ?_
            refine E_aload_n dX12_markOf_63 rfl ?_
            refine E_iload_n dX12_markOf_64 rfl ?_
            refine i_X12_303 rfl dX12_markOf_65 (by exact hO.o) (c_sizeOf4 (by exact hO) (by exact hQ) hW (by exact hT) p0 p1 hk hwe w9) (by omega) (Nat.le_of_ble_eq_true rfl) rfl rfl ?_
            rintro _ _ ⟨rfl, rfl⟩
            try dsimp only [pu]
            refine E_isub dX12_markOf_68 (by omega) (by omega) ?_
            refine E_goto (tgt := 82) dX12_markOf_69 (by decide) ?_
            refine E_iret dX12_markOf_82 rfl ?_
            exact ⟨by first | rfl | (congr 2; omega), rfl⟩
        · exfalso; omega
  · exfalso; revert h12; rw [show fTak cd p = true by unfold fTak; rw [hk]; rfl]; decide
set_option maxRecDepth 20000 in
set_option maxHeartbeats 3000000 in
theorem c_markOf5 {G : Ctx} {M : Mem} {m : Nat} {cd : CD} (hO : MO M m) (hQ : MC (mI M) m cd) (hW : WFc cd) (hT : 0 ≤ mI M m 27 ∧ mI M m 27 ≤ 16) {p : Int} (p0 : 0 ≤ p) (p1 : p < cd 2) (hk : cd (84 + 6 * p) = 5) {we : Int} (hwe : cd (86 + 6 * p) = we) (w9 : 0 ≤ we ∧ we ≤ 99) : CT G m_X12_markOf 3 0 0 [vR m, vI p] M (rB M m (p + 10 * (2 * (we - cd (87 + 6 * p)))) [23, 20, 14, 13, 10]) := by
  refine CT.of k_X12_markOf 1 (ls := [some (vR m), some (vI p), none]) rfl (Nat.le_of_ble_eq_true rfl) ?_
  have hpn := hW.pn
  have hya := hW.ya p0 p1
  refine E_aload_n dX12_markOf_0 rfl ?_
  refine E_iload_n dX12_markOf_1 rfl ?_
  refine E_iconst dX12_markOf_2 (by decide) ?_
  refine i_X12_202 rfl dX12_markOf_3 (by exact hO.o) (c_of (by exact hO) (by exact hQ) (j := 84 + 6 * p) (by omega) (by omega) (by omega)) (by omega) (Nat.le_of_ble_eq_true rfl) rfl rfl ?_
  rintro _ _ ⟨rfl, rfl⟩
  try dsimp only [pu]
  refine E_istore_n dX12_markOf_6 rfl (by decide) ?_
  try dsimp only [List.set]
  refine E_aload_n dX12_markOf_7 rfl ?_
  refine E_iload_n dX12_markOf_8 rfl ?_
  refine i_X12_240 rfl dX12_markOf_9 (by exact hO.o) (c_isReddish (by exact hO) (by exact hQ) hW p0 p1) (by omega) (Nat.le_of_ble_eq_true rfl) rfl rfl ?_
  rintro _ _ ⟨rfl, rfl⟩
  try dsimp only [pu]
  refine E_if_eq (tgt := 21) dX12_markOf_12 (by decide) (fun h12 => ?_) (fun h12 => ?_)
  · simp only [tB0, ne_eq, Bool.not_eq_false, Bool.not_eq_true, decide_eq_true_eq, decide_eq_false_iff_not, Classical.not_not] at h12
    refine E_iload_n dX12_markOf_21 rfl ?_
    refine E_iconst dX12_markOf_22 (by decide) ?_
    refine E_icmp_eq (tgt := 42) dX12_markOf_23 (by decide) (fun h23 => ?_) (fun h23 => ?_)
    · exfalso; omega
    · refine E_aload_n dX12_markOf_26 rfl ?_
      refine E_iload_n dX12_markOf_27 rfl ?_
      refine E_iconst dX12_markOf_28 (by decide) ?_
      refine E_icmp_ne (tgt := 37) dX12_markOf_29 (by decide) (fun h29 => ?_) (fun h29 => ?_)
      · refine E_bipush dX12_markOf_37 (by decide) ?_
        refine i_X12_294 rfl dX12_markOf_39 (by exact hO.o) (c_began (by exact hO) (by exact hT)) (by omega) (Nat.le_of_ble_eq_true rfl) rfl rfl ?_
        rintro _ _ ⟨rfl, rfl⟩
        have hT := bgR_b (m := m) [23] _ hT
        have hQ := hQ.bg [23]
        try dsimp only [pu]
        refine E_aload_n dX12_markOf_42 rfl ?_
        refine E_bipush dX12_markOf_43 (by decide) ?_
        refine i_X12_294 rfl dX12_markOf_45 (by exact hO.o) (c_began (by exact hO) (by exact hT)) (by omega) (Nat.le_of_ble_eq_true rfl) rfl rfl ?_
        rintro _ _ ⟨rfl, rfl⟩
        have hT := bgR_b (m := m) [20] _ hT
        have hQ := hQ.bg [20]
        try dsimp only [pu]
        refine E_iload_n dX12_markOf_48 rfl ?_
        refine E_iconst dX12_markOf_49 (by decide) ?_
        refine E_icmp_ne (tgt := 57) dX12_markOf_50 (by decide) (fun h50 => ?_) (fun h50 => ?_)
        · refine E_iload_n dX12_markOf_57 rfl ?_
          refine E_iconst dX12_markOf_58 (by decide) ?_
          refine E_icmp_ne (tgt := 72) dX12_markOf_59 (by decide) (fun h59 => ?_) (fun h59 => ?_)
          · refine E_iload_n dX12_markOf_72 rfl ?_
            refine E_bipush dX12_markOf_73 (by decide) ?_
            refine E_aload_n dX12_markOf_75 rfl ?_
            refine E_iload_n dX12_markOf_76 rfl ?_
            refine i_X12_303 rfl dX12_markOf_77 (by exact hO.o) (c_sizeOf5 (by exact hO) (by exact hQ) hW (by exact hT) p0 p1 hk hwe w9) (by omega) (Nat.le_of_ble_eq_true rfl) rfl rfl ?_
            rintro _ _ ⟨rfl, rfl⟩
            try dsimp only [pu]
            refine E_imul dX12_markOf_80 (by omega) (by omega) ?_
            refine E_iadd dX12_markOf_81 (by omega) (by omega) ?_
            refine E_iret dX12_markOf_82 rfl ?_
            exact ⟨by first | rfl | (congr 2; omega), rfl⟩
          · exfalso; omega
        · exfalso; omega
      · exfalso; omega
  · exfalso; revert h12; rw [show fTak cd p = true by unfold fTak; rw [hk]; rfl]; decide
