def askV (k w p we ya : Int) : Int := if w = 0 then (if k = 1 then we + (p + ya) else if k = 2 then -(we + (p + ya + 1000)) else if k = 3 then we - ya else if k = 4 then we else 2 * (we - ya)) else (if k = 1 then p + ya else if k = 2 then p + ya + 1000 else if k = 3 then p else if k = 4 then p - we else p + 10 * (2 * (we - ya)))
def askL (k w : Int) : List Int := if w = 0 then (if k = 1 then [11, 10, 21, 20] else if k = 2 then [12, 11, 10, 24, 21, 20] else if k = 3 then [13, 10] else if k = 4 then [10] else [14, 13, 10]) else (if k = 1 then [21, 20] else if k = 2 then [24, 21, 20] else if k = 3 then [20] else if k = 4 then [22, 20, 10] else [23, 20, 14, 13, 10])
def bgA (A : AS) (L : List Int) : AS := L.foldl (fun A b => trI A 0 0 14 27 b) A
def bgR (I : AS) (m : Nat) (L : List Int) : AS := L.foldl (fun I b => trI I m 0 (m + 14) 27 b) I
def s_ask (A : AS) (p w : Int) : Int := if (0 ≤ p ∧ p ≤ A 4 2 - 1) ∧ (0 ≤ w ∧ w ≤ 1) then askV (A 4 (84 + 6 * p)) w p (cWe (A 4) p) (A 4 (87 + 6 * p)) else -1000001
def t_ask (A : AS) (p w : Int) : AS := if (0 ≤ p ∧ p ≤ A 4 2 - 1) ∧ (0 ≤ w ∧ w ≤ 1) then bgA (up2 A 0 27 0) (askL (A 4 (84 + 6 * p)) w) else A
def isO (k f : Int) : Bool := decide (f = 0 ∨ k = f ∨ (f = 1 ∧ k = 2) ∨ (f = 3 ∧ k = 5))
def s_as (A : AS) (p f : Int) : Int := if (0 ≤ p ∧ p ≤ A 4 2 - 1) ∧ (0 ≤ f ∧ f ≤ 5) then (if isO (A 4 (84 + 6 * p)) f = true then p else -1000013) else -1000001
def t_as (A : AS) (p f : Int) : AS := if (0 ≤ p ∧ p ≤ A 4 2 - 1) ∧ (0 ≤ f ∧ f ≤ 5) then (if isO (A 4 (84 + 6 * p)) f = true then up2 A 0 1 0 else up2 (up2 A 0 1 0) 0 1 3) else A
theorem MA.tr {I A : AS} {m : Nat} (h : MA I m A) (b : Int) : MA (trI I m 0 (m + 14) 27 b) m (trI A 0 0 14 27 b) := by
  unfold trI
  rw [h.2 27 (by unfold SJ; omega)]
  split
  · exact (h.up (k := 14) (by omega) _ _).up0 _ _
  · exact h
theorem MA.bg {m : Nat} : ∀ (L : List Int) {I A : AS}, MA I m A → MA (bgR I m L) m (bgA A L)
  | [], _, _, h => h
  | b :: L, _, _, h => MA.bg L (h.tr b)
theorem bgR_ne {m c : Nat} {j : Int} (h1 : ¬ (c = m ∧ j = 27)) (h2 : c ≠ m + 14) : ∀ (L : List Int) (I : AS), bgR I m L c j = I c j
  | [], _ => rfl
  | b :: L, I => (bgR_ne h1 h2 L (trI I m 0 (m + 14) 27 b)).trans (trI_ne I h1 h2)
theorem bgR_b {m : Nat} : ∀ (L : List Int) (I : AS), (0 ≤ I m 27 ∧ I m 27 ≤ 16) → 0 ≤ bgR I m L m 27 ∧ bgR I m L m 27 ≤ 16
  | [], _, h => h
  | b :: L, I, h => bgR_b L (trI I m 0 (m + 14) 27 b) (trI_b h)
/-- the reference's bodies -/
def rB (M : Mem) (m : Nat) (x : Int) (L : List Int) : Option MV → Mem → Prop := fun r M' => r = some (vI x) ∧ M' = mJ M (bgR (mI M) m L)
theorem MC.bg {I : AS} {m : Nat} {cd : CD} (h : MC I m cd) (L : List Int) : MC (bgR I m L) m cd := fun k k0 k1 => (bgR_ne (by omega) (by omega) L I).trans (h k k0 k1)
set_option maxRecDepth 20000 in
set_option maxHeartbeats 3000000 in
theorem c_began {G : Ctx} {M : Mem} {m : Nat} (hO : MO M m) (hT : 0 ≤ mI M m 27 ∧ mI M m 27 ≤ 16) {b : Int} : CT G m_X12_began 0 0 0 [vR m, vI b] M (fun r M' => r = none ∧ M' = mJ M (bgR (mI M) m [b])) := by
  refine CT.of k_X12_began 0 (ls := [some (vR m), some (vI b)]) rfl (Nat.le_of_ble_eq_true rfl) ?_
  refine E_aload_n dX12_began_0 rfl ?_
  refine g_X12_291 rfl dX12_began_1 hO.o rfl ?_
  refine E_bipush dX12_began_4 (by decide) ?_
  refine E_icmp_ge (tgt := 29) dX12_began_6 (by decide) (fun h6 => ?_) (fun h6 => ?_)
  · refine E_vret dX12_began_29 rfl ?_
    refine ⟨rfl, ?_⟩
    show _ = mJ M (trI (mI M) m 0 (m + 14) 27 b)
    unfold trI
    rw [if_neg (by omega)]
    rfl
  · refine E_aload_n dX12_began_9 rfl ?_
    refine g_X12_50 rfl dX12_began_10 hO.o hO.trace ?_
    refine E_aload_n dX12_began_13 rfl ?_
    refine g_X12_291 rfl dX12_began_14 hO.o rfl ?_
    refine E_iload_n dX12_began_17 rfl ?_
    refine E_iast dX12_began_18 hO.s_trace (by omega) (by omega) ?_
    refine E_aload_n dX12_began_19 rfl ?_
    refine E_dup dX12_began_20 rfl ?_
    refine g_X12_291 rfl dX12_began_21 hO.o (mI_ne (by omega)) ?_
    refine E_iconst dX12_began_24 (by decide) ?_
    refine E_iadd dX12_began_25 (by omega) (by omega) ?_
    refine p_X12_291 rfl dX12_began_26 hO.o ?_
    refine E_vret dX12_began_29 rfl ?_
    refine ⟨rfl, ?_⟩
    show _ = mJ M (trI (mI M) m 0 (m + 14) 27 b)
    unfold trI
    rw [if_pos (by omega)]
    rfl
set_option maxRecDepth 20000 in
set_option maxHeartbeats 3000000 in
theorem c_plainSize {G : Ctx} {M : Mem} {m : Nat} {cd : CD} (hO : MO M m) (hQ : MC (mI M) m cd) (hW : WFc cd) (hT : 0 ≤ mI M m 27 ∧ mI M m 27 ≤ 16) {p : Int} (p0 : 0 ≤ p) (p1 : p < cd 2) {we : Int} (hwe : cd (86 + 6 * p) = we) : CT G m_X12_plainSize 1 0 0 [vR m, vI p] M (rB M m we [10]) := by
  refine CT.of k_X12_plainSize 0 (ls := [some (vR m), some (vI p)]) rfl (Nat.le_of_ble_eq_true rfl) ?_
  have hpn := hW.pn
  have hya := hW.ya p0 p1
  refine E_aload_n dX12_plainSize_0 rfl ?_
  refine E_bipush dX12_plainSize_1 (by decide) ?_
  refine i_X12_294 rfl dX12_plainSize_3 (by exact hO.o) (c_began (by exact hO) (by exact hT)) (by omega) (Nat.le_of_ble_eq_true rfl) rfl rfl ?_
  rintro _ _ ⟨rfl, rfl⟩
  have hT := bgR_b (m := m) [10] _ hT
  have hQ := hQ.bg [10]
  try dsimp only [pu]
  refine E_aload_n dX12_plainSize_6 rfl ?_
  refine E_iload_n dX12_plainSize_7 rfl ?_
  refine E_iconst dX12_plainSize_8 (by decide) ?_
  refine i_X12_202 rfl dX12_plainSize_9 (by exact hO.o) (c_of (by exact hO) (by exact hQ) (j := 86 + 6 * p) (by omega) (by omega) (by omega)) (by omega) (Nat.le_of_ble_eq_true rfl) rfl rfl ?_
  rintro _ _ ⟨rfl, rfl⟩
  try dsimp only [pu]
  refine E_iret dX12_plainSize_12 rfl ?_
  exact ⟨by rw [hwe], rfl⟩
set_option maxRecDepth 20000 in
set_option maxHeartbeats 3000000 in
theorem c_redMark1 {G : Ctx} {M : Mem} {m : Nat} {cd : CD} (hO : MO M m) (hQ : MC (mI M) m cd) (hW : WFc cd) (hT : 0 ≤ mI M m 27 ∧ mI M m 27 ≤ 16) {p : Int} (p0 : 0 ≤ p) (p1 : p < cd 2) (hk : cd (84 + 6 * p) = 1) : CT G m_X12_redMark 1 0 0 [vR m, vI p] M (rB M m (p + cd (87 + 6 * p)) [21, 20]) := by
  refine CT.of k_X12_redMark 1 (ls := [some (vR m), some (vI p), none]) rfl (Nat.le_of_ble_eq_true rfl) ?_
  have hpn := hW.pn
  have hya := hW.ya p0 p1
  refine E_aload_n dX12_redMark_0 rfl ?_
  refine E_iload_n dX12_redMark_1 rfl ?_
  refine E_iconst dX12_redMark_2 (by decide) ?_
  refine i_X12_202 rfl dX12_redMark_3 (by exact hO.o) (c_of (by exact hO) (by exact hQ) (j := 84 + 6 * p) (by omega) (by omega) (by omega)) (by omega) (Nat.le_of_ble_eq_true rfl) rfl rfl ?_
  rintro _ _ ⟨rfl, rfl⟩
  try dsimp only [pu]
  refine E_iconst dX12_redMark_6 (by decide) ?_
  refine E_icmp_ne (tgt := 16) dX12_redMark_7 (by decide) (fun h7 => ?_) (fun h7 => ?_)
  · refine E_aload_n dX12_redMark_16 rfl ?_
    refine E_bipush dX12_redMark_17 (by decide) ?_
    refine i_X12_294 rfl dX12_redMark_19 (by exact hO.o) (c_began (by exact hO) (by exact hT)) (by omega) (Nat.le_of_ble_eq_true rfl) rfl rfl ?_
    rintro _ _ ⟨rfl, rfl⟩
    have hT := bgR_b (m := m) [21] _ hT
    have hQ := hQ.bg [21]
    try dsimp only [pu]
    refine E_aload_n dX12_redMark_22 rfl ?_
    refine E_bipush dX12_redMark_23 (by decide) ?_
    refine i_X12_294 rfl dX12_redMark_25 (by exact hO.o) (c_began (by exact hO) (by exact hT)) (by omega) (Nat.le_of_ble_eq_true rfl) rfl rfl ?_
    rintro _ _ ⟨rfl, rfl⟩
    have hT := bgR_b (m := m) [20] _ hT
    have hQ := hQ.bg [20]
    try dsimp only [pu]
    refine E_iload_n dX12_redMark_28 rfl ?_
    refine E_aload_n dX12_redMark_29 rfl ?_
    refine E_iload_n dX12_redMark_30 rfl ?_
    refine E_iconst dX12_redMark_31 (by decide) ?_
    refine i_X12_202 rfl dX12_redMark_32 (by exact hO.o) (c_of (by exact hO) (by exact hQ) (j := 87 + 6 * p) (by omega) (by omega) (by omega)) (by omega) (Nat.le_of_ble_eq_true rfl) rfl rfl ?_
    rintro _ _ ⟨rfl, rfl⟩
    try dsimp only [pu]
    refine E_iadd dX12_redMark_35 (by omega) (by omega) ?_
    refine E_istore_n dX12_redMark_36 rfl (by decide) ?_
    try dsimp only [List.set]
    refine E_aload_n dX12_redMark_37 rfl ?_
    refine E_iload_n dX12_redMark_38 rfl ?_
    refine E_iconst dX12_redMark_39 (by decide) ?_
    refine i_X12_202 rfl dX12_redMark_40 (by exact hO.o) (c_of (by exact hO) (by exact hQ) (j := 84 + 6 * p) (by omega) (by omega) (by omega)) (by omega) (Nat.le_of_ble_eq_true rfl) rfl rfl ?_
    rintro _ _ ⟨rfl, rfl⟩
    try dsimp only [pu]
    refine E_iconst dX12_redMark_43 (by decide) ?_
    refine E_icmp_ne (tgt := 55) dX12_redMark_44 (by decide) (fun h44 => ?_) (fun h44 => ?_)
    · refine E_iload_n dX12_redMark_55 rfl ?_
      refine E_iret dX12_redMark_56 rfl ?_
      exact ⟨rfl, rfl⟩
    · exfalso; omega
  · exfalso; omega
set_option maxRecDepth 20000 in
set_option maxHeartbeats 3000000 in
theorem c_redMark2 {G : Ctx} {M : Mem} {m : Nat} {cd : CD} (hO : MO M m) (hQ : MC (mI M) m cd) (hW : WFc cd) (hT : 0 ≤ mI M m 27 ∧ mI M m 27 ≤ 16) {p : Int} (p0 : 0 ≤ p) (p1 : p < cd 2) (hk : cd (84 + 6 * p) = 2) : CT G m_X12_redMark 1 0 0 [vR m, vI p] M (rB M m (p + cd (87 + 6 * p) + 1000) [24, 21, 20]) := by
  refine CT.of k_X12_redMark 1 (ls := [some (vR m), some (vI p), none]) rfl (Nat.le_of_ble_eq_true rfl) ?_
  have hpn := hW.pn
  have hya := hW.ya p0 p1
  refine E_aload_n dX12_redMark_0 rfl ?_
  refine E_iload_n dX12_redMark_1 rfl ?_
  refine E_iconst dX12_redMark_2 (by decide) ?_
  refine i_X12_202 rfl dX12_redMark_3 (by exact hO.o) (c_of (by exact hO) (by exact hQ) (j := 84 + 6 * p) (by omega) (by omega) (by omega)) (by omega) (Nat.le_of_ble_eq_true rfl) rfl rfl ?_
  rintro _ _ ⟨rfl, rfl⟩
  try dsimp only [pu]
  refine E_iconst dX12_redMark_6 (by decide) ?_
  refine E_icmp_ne (tgt := 16) dX12_redMark_7 (by decide) (fun h7 => ?_) (fun h7 => ?_)
  · exfalso; omega
  · refine E_aload_n dX12_redMark_10 rfl ?_
    refine E_bipush dX12_redMark_11 (by decide) ?_
    refine i_X12_294 rfl dX12_redMark_13 (by exact hO.o) (c_began (by exact hO) (by exact hT)) (by omega) (Nat.le_of_ble_eq_true rfl) rfl rfl ?_
    rintro _ _ ⟨rfl, rfl⟩
    have hT := bgR_b (m := m) [24] _ hT
    have hQ := hQ.bg [24]
    try dsimp only [pu]
    refine E_aload_n dX12_redMark_16 rfl ?_
    refine E_bipush dX12_redMark_17 (by decide) ?_
    refine i_X12_294 rfl dX12_redMark_19 (by exact hO.o) (c_began (by exact hO) (by exact hT)) (by omega) (Nat.le_of_ble_eq_true rfl) rfl rfl ?_
    rintro _ _ ⟨rfl, rfl⟩
    have hT := bgR_b (m := m) [21] _ hT
    have hQ := hQ.bg [21]
    try dsimp only [pu]
    refine E_aload_n dX12_redMark_22 rfl ?_
    refine E_bipush dX12_redMark_23 (by decide) ?_
    refine i_X12_294 rfl dX12_redMark_25 (by exact hO.o) (c_began (by exact hO) (by exact hT)) (by omega) (Nat.le_of_ble_eq_true rfl) rfl rfl ?_
    rintro _ _ ⟨rfl, rfl⟩
    have hT := bgR_b (m := m) [20] _ hT
    have hQ := hQ.bg [20]
    try dsimp only [pu]
    refine E_iload_n dX12_redMark_28 rfl ?_
    refine E_aload_n dX12_redMark_29 rfl ?_
    refine E_iload_n dX12_redMark_30 rfl ?_
    refine E_iconst dX12_redMark_31 (by decide) ?_
    refine i_X12_202 rfl dX12_redMark_32 (by exact hO.o) (c_of (by exact hO) (by exact hQ) (j := 87 + 6 * p) (by omega) (by omega) (by omega)) (by omega) (Nat.le_of_ble_eq_true rfl) rfl rfl ?_
    rintro _ _ ⟨rfl, rfl⟩
    try dsimp only [pu]
    refine E_iadd dX12_redMark_35 (by omega) (by omega) ?_
    refine E_istore_n dX12_redMark_36 rfl (by decide) ?_
    try dsimp only [List.set]
    refine E_aload_n dX12_redMark_37 rfl ?_
    refine E_iload_n dX12_redMark_38 rfl ?_
    refine E_iconst dX12_redMark_39 (by decide) ?_
    refine i_X12_202 rfl dX12_redMark_40 (by exact hO.o) (c_of (by exact hO) (by exact hQ) (j := 84 + 6 * p) (by omega) (by omega) (by omega)) (by omega) (Nat.le_of_ble_eq_true rfl) rfl rfl ?_
    rintro _ _ ⟨rfl, rfl⟩
    try dsimp only [pu]
    refine E_iconst dX12_redMark_43 (by decide) ?_
    refine E_icmp_ne (tgt := 55) dX12_redMark_44 (by decide) (fun h44 => ?_) (fun h44 => ?_)
    · exfalso; omega
    · refine E_iload_n dX12_redMark_47 rfl ?_
      refine E_sipush dX12_redMark_48 (by decide) ?_
      refine E_iadd dX12_redMark_51 (by omega) (by omega) ?_
      refine E_goto (tgt := 56) dX12_redMark_52 (by decide) ?_
      refine E_iret dX12_redMark_56 rfl ?_
      exact ⟨rfl, rfl⟩
set_option maxRecDepth 20000 in
set_option maxHeartbeats 3000000 in
theorem c_sizeOf1 {G : Ctx} {M : Mem} {m : Nat} {cd : CD} (hO : MO M m) (hQ : MC (mI M) m cd) (hW : WFc cd) (hT : 0 ≤ mI M m 27 ∧ mI M m 27 ≤ 16) {p : Int} (p0 : 0 ≤ p) (p1 : p < cd 2) (hk : cd (84 + 6 * p) = 1) {we : Int} (hwe : cd (86 + 6 * p) = we) (w9 : 0 ≤ we ∧ we ≤ 99) : CT G m_X12_sizeOf 2 0 0 [vR m, vI p] M (rB M m (we + (p + cd (87 + 6 * p))) [11, 10, 21, 20]) := by
  refine CT.of k_X12_sizeOf 2 (ls := [some (vR m), some (vI p), none, none]) rfl (Nat.le_of_ble_eq_true rfl) ?_
  have hpn := hW.pn
  have hya := hW.ya p0 p1
  refine E_aload_n dX12_sizeOf_0 rfl ?_
  refine E_iload_n dX12_sizeOf_1 rfl ?_
  refine E_iconst dX12_sizeOf_2 (by decide) ?_
  refine i_X12_202 rfl dX12_sizeOf_3 (by exact hO.o) (c_of (by exact hO) (by exact hQ) (j := 84 + 6 * p) (by omega) (by omega) (by omega)) (by omega) (Nat.le_of_ble_eq_true rfl) rfl rfl ?_
  rintro _ _ ⟨rfl, rfl⟩
  try dsimp only [pu]
  refine E_istore_n dX12_sizeOf_6 rfl (by decide) ?_
  try dsimp only [List.set]
  refine E_iload_n dX12_sizeOf_7 rfl ?_
  refine E_iconst dX12_sizeOf_8 (by decide) ?_
  refine E_icmp_ne (tgt := 18) dX12_sizeOf_9 (by decide) (fun h9 => ?_) (fun h9 => ?_)
  · refine E_iload_n dX12_sizeOf_18 rfl ?_
    refine E_iconst dX12_sizeOf_19 (by decide) ?_
    refine E_icmp_eq (tgt := 28) dX12_sizeOf_20 (by decide) (fun h20 => ?_) (fun h20 => ?_)
    · exfalso; omega
    · refine E_iload_n dX12_sizeOf_23 rfl ?_
      refine E_iconst dX12_sizeOf_24 (by decide) ?_
      refine E_icmp_ne (tgt := 44) dX12_sizeOf_25 (by decide) (fun h25 => ?_) (fun h25 => ?_)
      · refine E_aload_n dX12_sizeOf_44 rfl ?_
        refine E_aload_n dX12_sizeOf_45 rfl ?_
        refine E_iload_n dX12_sizeOf_46 rfl ?_
        refine i_X12_240 rfl dX12_sizeOf_47 (by exact hO.o) (c_isReddish (by exact hO) (by exact hQ) hW p0 p1) (by omega) (Nat.le_of_ble_eq_true rfl) rfl rfl ?_
        rintro _ _ ⟨rfl, rfl⟩
        try dsimp only [pu]
        refine E_if_eq (tgt := 58) dX12_sizeOf_50 (by decide) (fun h50 => ?_) (fun h50 => ?_)
        · exfalso; revert h50; rw [show fTak cd p = false by unfold fTak; rw [hk]; rfl]; decide
        · simp only [tB0, ne_eq, Bool.not_eq_false, Bool.not_eq_true, decide_eq_true_eq, decide_eq_false_iff_not, Classical.not_not] at h50
          refine E_bipush dX12_sizeOf_53 (by decide) ?_
          refine E_goto (tgt := 60) dX12_sizeOf_55 (by decide) ?_
          refine i_X12_294 rfl dX12_sizeOf_60 (by exact hO.o) (c_began (by exact hO) (by exact hT)) (by omega) (Nat.le_of_ble_eq_true rfl) rfl rfl ?_
          rintro _ _ ⟨rfl, rfl⟩
          have hT := bgR_b (m := m) [11] _ hT
          have hQ := hQ.bg [11]
          try dsimp only [pu]
          refine E_aload_n dX12_sizeOf_63 rfl ?_
          refine E_iload_n dX12_sizeOf_64 rfl ?_
          refine i_X12_297 rfl dX12_sizeOf_65 (by exact hO.o) (c_plainSize (by exact hO) (by exact hQ) hW (by exact hT) p0 p1 hwe) (by omega) (Nat.le_of_ble_eq_true rfl) rfl rfl ?_
          rintro _ _ ⟨rfl, rfl⟩
          have hT := bgR_b (m := m) [10] _ hT
          have hQ := hQ.bg [10]
          try dsimp only [pu]
          refine E_istore_n dX12_sizeOf_68 rfl (by decide) ?_
          try dsimp only [List.set]
          refine E_iload_n dX12_sizeOf_69 rfl ?_
          refine E_aload_n dX12_sizeOf_70 rfl ?_
          refine E_iload_n dX12_sizeOf_71 rfl ?_
          refine i_X12_240 rfl dX12_sizeOf_72 (by exact hO.o) (c_isReddish (by exact hO) (by exact hQ) hW p0 p1) (by omega) (Nat.le_of_ble_eq_true rfl) rfl rfl ?_
          rintro _ _ ⟨rfl, rfl⟩
          try dsimp only [pu]
          refine E_if_eq (tgt := 86) dX12_sizeOf_75 (by decide) (fun h75 => ?_) (fun h75 => ?_)
          · exfalso; revert h75; rw [show fTak cd p = false by unfold fTak; rw [hk]; rfl]; decide
          · simp only [tB0, ne_eq, Bool.not_eq_false, Bool.not_eq_true, decide_eq_true_eq, decide_eq_false_iff_not, Classical.not_not] at h75
            refine E_aload_n dX12_sizeOf_78 rfl ?_
            refine E_iload_n dX12_sizeOf_79 rfl ?_
            refine i_X12_300 rfl dX12_sizeOf_80 (by exact hO.o) (c_redMark1 (by exact hO) (by exact hQ) hW (by exact hT) p0 p1 hk) (by omega) (Nat.le_of_ble_eq_true rfl) rfl rfl ?_
            rintro _ _ ⟨rfl, rfl⟩
            try dsimp only [pu]
            refine E_goto (tgt := 93) dX12_sizeOf_83 (by decide) ?_
            refine E_iadd dX12_sizeOf_93 (by omega) (by omega) ?_
            refine E_istore_n dX12_sizeOf_94 rfl (by decide) ?_
            try dsimp only [List.set]
            refine E_iload_n dX12_sizeOf_95 rfl ?_
            refine E_iconst dX12_sizeOf_96 (by decide) ?_
            refine E_icmp_ne (tgt := 105) dX12_sizeOf_97 (by decide) (fun h97 => ?_) (fun h97 => ?_)
            · refine E_iload_n dX12_sizeOf_105 rfl ?_
              refine E_iconst dX12_sizeOf_106 (by decide) ?_
              refine E_icmp_ne (tgt := 116) dX12_sizeOf_107 (by decide) (fun h107 => ?_) (fun h107 => ?_)
              · refine E_iload_n dX12_sizeOf_116 rfl ?_
                refine E_iret dX12_sizeOf_117 rfl ?_
                exact ⟨by first | rfl | (congr 2; omega), rfl⟩
              · exfalso; omega
            · exfalso; omega
      · exfalso; omega
  · exfalso; omega
set_option maxRecDepth 20000 in
set_option maxHeartbeats 3000000 in
theorem c_sizeOf2 {G : Ctx} {M : Mem} {m : Nat} {cd : CD} (hO : MO M m) (hQ : MC (mI M) m cd) (hW : WFc cd) (hT : 0 ≤ mI M m 27 ∧ mI M m 27 ≤ 16) {p : Int} (p0 : 0 ≤ p) (p1 : p < cd 2) (hk : cd (84 + 6 * p) = 2) {we : Int} (hwe : cd (86 + 6 * p) = we) (w9 : 0 ≤ we ∧ we ≤ 99) : CT G m_X12_sizeOf 2 0 0 [vR m, vI p] M (rB M m (-(we + (p + cd (87 + 6 * p) + 1000))) [12, 11, 10, 24, 21, 20]) := by
  refine CT.of k_X12_sizeOf 2 (ls := [some (vR m), some (vI p), none, none]) rfl (Nat.le_of_ble_eq_true rfl) ?_
  have hpn := hW.pn
  have hya := hW.ya p0 p1
  refine E_aload_n dX12_sizeOf_0 rfl ?_
  refine E_iload_n dX12_sizeOf_1 rfl ?_
  refine E_iconst dX12_sizeOf_2 (by decide) ?_
  refine i_X12_202 rfl dX12_sizeOf_3 (by exact hO.o) (c_of (by exact hO) (by exact hQ) (j := 84 + 6 * p) (by omega) (by omega) (by omega)) (by omega) (Nat.le_of_ble_eq_true rfl) rfl rfl ?_
  rintro _ _ ⟨rfl, rfl⟩
  try dsimp only [pu]
  refine E_istore_n dX12_sizeOf_6 rfl (by decide) ?_
  try dsimp only [List.set]
  refine E_iload_n dX12_sizeOf_7 rfl ?_
  refine E_iconst dX12_sizeOf_8 (by decide) ?_
  refine E_icmp_ne (tgt := 18) dX12_sizeOf_9 (by decide) (fun h9 => ?_) (fun h9 => ?_)
  · refine E_iload_n dX12_sizeOf_18 rfl ?_
    refine E_iconst dX12_sizeOf_19 (by decide) ?_
    refine E_icmp_eq (tgt := 28) dX12_sizeOf_20 (by decide) (fun h20 => ?_) (fun h20 => ?_)
    · refine E_aload_n dX12_sizeOf_28 rfl ?_
      refine E_iload_n dX12_sizeOf_29 rfl ?_
      refine E_iconst dX12_sizeOf_30 (by decide) ?_
      refine E_icmp_ne (tgt := 39) dX12_sizeOf_31 (by decide) (fun h31 => ?_) (fun h31 => ?_)
      · exfalso; omega
      · refine E_bipush dX12_sizeOf_34 (by decide) ?_
        refine E_goto (tgt := 41) dX12_sizeOf_36 (by decide) ?_
        refine i_X12_294 rfl dX12_sizeOf_41 (by exact hO.o) (c_began (by exact hO) (by exact hT)) (by omega) (Nat.le_of_ble_eq_true rfl) rfl rfl ?_
        rintro _ _ ⟨rfl, rfl⟩
        have hT := bgR_b (m := m) [12] _ hT
        have hQ := hQ.bg [12]
        try dsimp only [pu]
        refine E_aload_n dX12_sizeOf_44 rfl ?_
        refine E_aload_n dX12_sizeOf_45 rfl ?_
        refine E_iload_n dX12_sizeOf_46 rfl ?_
        refine i_X12_240 rfl dX12_sizeOf_47 (by exact hO.o) (c_isReddish (by exact hO) (by exact hQ) hW p0 p1) (by omega) (Nat.le_of_ble_eq_true rfl) rfl rfl ?_
        rintro _ _ ⟨rfl, rfl⟩
        try dsimp only [pu]
        refine E_if_eq (tgt := 58) dX12_sizeOf_50 (by decide) (fun h50 => ?_) (fun h50 => ?_)
        · exfalso; revert h50; rw [show fTak cd p = false by unfold fTak; rw [hk]; rfl]; decide
        · simp only [tB0, ne_eq, Bool.not_eq_false, Bool.not_eq_true, decide_eq_true_eq, decide_eq_false_iff_not, Classical.not_not] at h50
          refine E_bipush dX12_sizeOf_53 (by decide) ?_
          refine E_goto (tgt := 60) dX12_sizeOf_55 (by decide) ?_
          refine i_X12_294 rfl dX12_sizeOf_60 (by exact hO.o) (c_began (by exact hO) (by exact hT)) (by omega) (Nat.le_of_ble_eq_true rfl) rfl rfl ?_
          rintro _ _ ⟨rfl, rfl⟩
          have hT := bgR_b (m := m) [11] _ hT
          have hQ := hQ.bg [11]
          try dsimp only [pu]
          refine E_aload_n dX12_sizeOf_63 rfl ?_
          refine E_iload_n dX12_sizeOf_64 rfl ?_
          refine i_X12_297 rfl dX12_sizeOf_65 (by exact hO.o) (c_plainSize (by exact hO) (by exact hQ) hW (by exact hT) p0 p1 hwe) (by omega) (Nat.le_of_ble_eq_true rfl) rfl rfl ?_
          rintro _ _ ⟨rfl, rfl⟩
          have hT := bgR_b (m := m) [10] _ hT
          have hQ := hQ.bg [10]
          try dsimp only [pu]
          refine E_istore_n dX12_sizeOf_68 rfl (by decide) ?_
          try dsimp only [List.set]
          refine E_iload_n dX12_sizeOf_69 rfl ?_
          refine E_aload_n dX12_sizeOf_70 rfl ?_
          refine E_iload_n dX12_sizeOf_71 rfl ?_
          refine i_X12_240 rfl dX12_sizeOf_72 (by exact hO.o) (c_isReddish (by exact hO) (by exact hQ) hW p0 p1) (by omega) (Nat.le_of_ble_eq_true rfl) rfl rfl ?_
          rintro _ _ ⟨rfl, rfl⟩
          try dsimp only [pu]
          refine E_if_eq (tgt := 86) dX12_sizeOf_75 (by decide) (fun h75 => ?_) (fun h75 => ?_)
          · exfalso; revert h75; rw [show fTak cd p = false by unfold fTak; rw [hk]; rfl]; decide
          · simp only [tB0, ne_eq, Bool.not_eq_false, Bool.not_eq_true, decide_eq_true_eq, decide_eq_false_iff_not, Classical.not_not] at h75
            refine E_aload_n dX12_sizeOf_78 rfl ?_
            refine E_iload_n dX12_sizeOf_79 rfl ?_
            refine i_X12_300 rfl dX12_sizeOf_80 (by exact hO.o) (c_redMark2 (by exact hO) (by exact hQ) hW (by exact hT) p0 p1 hk) (by omega) (Nat.le_of_ble_eq_true rfl) rfl rfl ?_
            rintro _ _ ⟨rfl, rfl⟩
            try dsimp only [pu]
            refine E_goto (tgt := 93) dX12_sizeOf_83 (by decide) ?_
            refine E_iadd dX12_sizeOf_93 (by omega) (by omega) ?_
            refine E_istore_n dX12_sizeOf_94 rfl (by decide) ?_
            try dsimp only [List.set]
            refine E_iload_n dX12_sizeOf_95 rfl ?_
            refine E_iconst dX12_sizeOf_96 (by decide) ?_
            refine E_icmp_ne (tgt := 105) dX12_sizeOf_97 (by decide) (fun h97 => ?_) (fun h97 => ?_)
            · exfalso; omega
            · refine E_iload_n dX12_sizeOf_100 rfl ?_
              refine E_ineg dX12_sizeOf_101 (by omega) (by omega) ?_
              refine E_goto (tgt := 117) dX12_sizeOf_102 (by decide) ?_
              refine E_iret dX12_sizeOf_117 rfl ?_
              exact ⟨by first | rfl | (congr 2; omega), rfl⟩
    · exfalso; omega
  · exfalso; omega
set_option maxRecDepth 20000 in
set_option maxHeartbeats 3000000 in
theorem c_sizeOf3 {G : Ctx} {M : Mem} {m : Nat} {cd : CD} (hO : MO M m) (hQ : MC (mI M) m cd) (hW : WFc cd) (hT : 0 ≤ mI M m 27 ∧ mI M m 27 ≤ 16) {p : Int} (p0 : 0 ≤ p) (p1 : p < cd 2) (hk : cd (84 + 6 * p) = 3) {we : Int} (hwe : cd (86 + 6 * p) = we) (w9 : 0 ≤ we ∧ we ≤ 99) : CT G m_X12_sizeOf 2 0 0 [vR m, vI p] M (rB M m (we - cd (87 + 6 * p)) [13, 10]) := by
  refine CT.of k_X12_sizeOf 2 (ls := [some (vR m), some (vI p), none, none]) rfl (Nat.le_of_ble_eq_true rfl) ?_
  have hpn := hW.pn
  have hya := hW.ya p0 p1
  refine E_aload_n dX12_sizeOf_0 rfl ?_
  refine E_iload_n dX12_sizeOf_1 rfl ?_
  refine E_iconst dX12_sizeOf_2 (by decide) ?_
  refine i_X12_202 rfl dX12_sizeOf_3 (by exact hO.o) (c_of (by exact hO) (by exact hQ) (j := 84 + 6 * p) (by omega) (by omega) (by omega)) (by omega) (Nat.le_of_ble_eq_true rfl) rfl rfl ?_
  rintro _ _ ⟨rfl, rfl⟩
  try dsimp only [pu]
  refine E_istore_n dX12_sizeOf_6 rfl (by decide) ?_
  try dsimp only [List.set]
  refine E_iload_n dX12_sizeOf_7 rfl ?_
  refine E_iconst dX12_sizeOf_8 (by decide) ?_
  refine E_icmp_ne (tgt := 18) dX12_sizeOf_9 (by decide) (fun h9 => ?_) (fun h9 => ?_)
  · refine E_iload_n dX12_sizeOf_18 rfl ?_
    refine E_iconst dX12_sizeOf_19 (by decide) ?_
    refine E_icmp_eq (tgt := 28) dX12_sizeOf_20 (by decide) (fun h20 => ?_) (fun h20 => ?_)
    · exfalso; omega
    · refine E_iload_n dX12_sizeOf_23 rfl ?_
      refine E_iconst dX12_sizeOf_24 (by decide) ?_
      refine E_icmp_ne (tgt := 44) dX12_sizeOf_25 (by decide) (fun h25 => ?_) (fun h25 => ?_)
      · refine E_aload_n dX12_sizeOf_44 rfl ?_
        refine E_aload_n dX12_sizeOf_45 rfl ?_
        refine E_iload_n dX12_sizeOf_46 rfl ?_
        refine i_X12_240 rfl dX12_sizeOf_47 (by exact hO.o) (c_isReddish (by exact hO) (by exact hQ) hW p0 p1) (by omega) (Nat.le_of_ble_eq_true rfl) rfl rfl ?_
        rintro _ _ ⟨rfl, rfl⟩
        try dsimp only [pu]
        refine E_if_eq (tgt := 58) dX12_sizeOf_50 (by decide) (fun h50 => ?_) (fun h50 => ?_)
        · simp only [tB0, ne_eq, Bool.not_eq_false, Bool.not_eq_true, decide_eq_true_eq, decide_eq_false_iff_not, Classical.not_not] at h50
          refine E_bipush dX12_sizeOf_58 (by decide) ?_
          refine i_X12_294 rfl dX12_sizeOf_60 (by exact hO.o) (c_began (by exact hO) (by exact hT)) (by omega) (Nat.le_of_ble_eq_true rfl) rfl rfl ?_
          rintro _ _ ⟨rfl, rfl⟩
          have hT := bgR_b (m := m) [13] _ hT
          have hQ := hQ.bg [13]
          try dsimp only [pu]
          refine E_aload_n dX12_sizeOf_63 rfl ?_
          refine E_iload_n dX12_sizeOf_64 rfl ?_
          refine i_X12_297 rfl dX12_sizeOf_65 (by exact hO.o) (c_plainSize (by exact hO) (by exact hQ) hW (by exact hT) p0 p1 hwe) (by omega) (Nat.le_of_ble_eq_true rfl) rfl rfl ?_
          rintro _ _ ⟨rfl, rfl⟩
          have hT := bgR_b (m := m) [10] _ hT
          have hQ := hQ.bg [10]
          try dsimp only [pu]
          refine E_istore_n dX12_sizeOf_68 rfl (by decide) ?_
          try dsimp only [List.set]
          refine E_iload_n dX12_sizeOf_69 rfl ?_
          refine E_aload_n dX12_sizeOf_70 rfl ?_
          refine E_iload_n dX12_sizeOf_71 rfl ?_
          refine i_X12_240 rfl dX12_sizeOf_72 (by exact hO.o) (c_isReddish (by exact hO) (by exact hQ) hW p0 p1) (by omega) (Nat.le_of_ble_eq_true rfl) rfl rfl ?_
          rintro _ _ ⟨rfl, rfl⟩
          try dsimp only [pu]
          refine E_if_eq (tgt := 86) dX12_sizeOf_75 (by decide) (fun h75 => ?_) (fun h75 => ?_)
          · simp only [tB0, ne_eq, Bool.not_eq_false, Bool.not_eq_true, decide_eq_true_eq, decide_eq_false_iff_not, Classical.not_not] at h75
            refine E_aload_n dX12_sizeOf_86 rfl ?_
            refine E_iload_n dX12_sizeOf_87 rfl ?_
            refine E_iconst dX12_sizeOf_88 (by decide) ?_
            refine i_X12_202 rfl dX12_sizeOf_89 (by exact hO.o) (c_of (by exact hO) (by exact hQ) (j := 87 + 6 * p) (by omega) (by omega) (by omega)) (by omega) (Nat.le_of_ble_eq_true rfl) rfl rfl ?_
            rintro _ _ ⟨rfl, rfl⟩
            try dsimp only [pu]
            refine E_ineg dX12_sizeOf_92 (by omega) (by omega) ?_
            refine E_iadd dX12_sizeOf_93 (by omega) (by omega) ?_
            refine E_istore_n dX12_sizeOf_94 rfl (by decide) ?_
            try dsimp only [List.set]
            refine E_iload_n dX12_sizeOf_95 rfl ?_
            refine E_iconst dX12_sizeOf_96 (by decide) ?_
            refine E_icmp_ne (tgt := 105) dX12_sizeOf_97 (by decide) (fun h97 => ?_) (fun h97 => ?_)
            · refine E_iload_n dX12_sizeOf_105 rfl ?_
              refine E_iconst dX12_sizeOf_106 (by decide) ?_
              refine E_icmp_ne (tgt := 116) dX12_sizeOf_107 (by decide) (fun h107 => ?_) (fun h107 => ?_)
              · refine E_iload_n dX12_sizeOf_116 rfl ?_
                refine E_iret dX12_sizeOf_117 rfl ?_
                exact ⟨by first | rfl | (congr 2; omega), rfl⟩
              · exfalso; omega
            · exfalso; omega
          · exfalso; revert h75; rw [show fTak cd p = true by unfold fTak; rw [hk]; rfl]; decide
        · exfalso; revert h50; rw [show fTak cd p = true by unfold fTak; rw [hk]; rfl]; decide
      · exfalso; omega
  · exfalso; omega
set_option maxRecDepth 20000 in
set_option maxHeartbeats 3000000 in
theorem c_sizeOf4 {G : Ctx} {M : Mem} {m : Nat} {cd : CD} (hO : MO M m) (hQ : MC (mI M) m cd) (hW : WFc cd) (hT : 0 ≤ mI M m 27 ∧ mI M m 27 ≤ 16) {p : Int} (p0 : 0 ≤ p) (p1 : p < cd 2) (hk : cd (84 + 6 * p) = 4) {we : Int} (hwe : cd (86 + 6 * p) = we) (w9 : 0 ≤ we ∧ we ≤ 99) : CT G m_X12_sizeOf 2 0 0 [vR m, vI p] M (rB M m (we) [10]) := by
  refine CT.of k_X12_sizeOf 2 (ls := [some (vR m), some (vI p), none, none]) rfl (Nat.le_of_ble_eq_true rfl) ?_
  have hpn := hW.pn
  have hya := hW.ya p0 p1
  refine E_aload_n dX12_sizeOf_0 rfl ?_
  refine E_iload_n dX12_sizeOf_1 rfl ?_
  refine E_iconst dX12_sizeOf_2 (by decide) ?_
  refine i_X12_202 rfl dX12_sizeOf_3 (by exact hO.o) (c_of (by exact hO) (by exact hQ) (j := 84 + 6 * p) (by omega) (by omega) (by omega)) (by omega) (Nat.le_of_ble_eq_true rfl) rfl rfl ?_
  rintro _ _ ⟨rfl, rfl⟩
  try dsimp only [pu]
  refine E_istore_n dX12_sizeOf_6 rfl (by decide) ?_
  try dsimp only [List.set]
  refine E_iload_n dX12_sizeOf_7 rfl ?_
  refine E_iconst dX12_sizeOf_8 (by decide) ?_
  refine E_icmp_ne (tgt := 18) dX12_sizeOf_9 (by decide) (fun h9 => ?_) (fun h9 => ?_)
  · exfalso; omega
  · refine E_aload_n dX12_sizeOf_12 rfl ?_
    refine E_iload_n dX12_sizeOf_13 rfl ?_
    refine i_X12_297 rfl dX12_sizeOf_14 (by exact hO.o) (c_plainSize (by exact hO) (by exact hQ) hW (by exact hT) p0 p1 hwe) (by omega) (Nat.le_of_ble_eq_true rfl) rfl rfl ?_
    rintro _ _ ⟨rfl, rfl⟩
    have hT := bgR_b (m := m) [10] _ hT
    have hQ := hQ.bg [10]
    try dsimp only [pu]
    refine E_iret dX12_sizeOf_17 rfl ?_
    exact ⟨by first | rfl | (congr 2; omega), rfl⟩
set_option maxRecDepth 20000 in
set_option maxHeartbeats 3000000 in
theorem c_sizeOf5 {G : Ctx} {M : Mem} {m : Nat} {cd : CD} (hO : MO M m) (hQ : MC (mI M) m cd) (hW : WFc cd) (hT : 0 ≤ mI M m 27 ∧ mI M m 27 ≤ 16) {p : Int} (p0 : 0 ≤ p) (p1 : p < cd 2) (hk : cd (84 + 6 * p) = 5) {we : Int} (hwe : cd (86 + 6 * p) = we) (w9 : 0 ≤ we ∧ we ≤ 99) : CT G m_X12_sizeOf 2 0 0 [vR m, vI p] M (rB M m (2 * (we - cd (87 + 6 * p))) [14, 13, 10]) := by
  refine CT.of k_X12_sizeOf 2 (ls := [some (vR m), some (vI p), none, none]) rfl (Nat.le_of_ble_eq_true rfl) ?_
  have hpn := hW.pn
  have hya := hW.ya p0 p1
  refine E_aload_n dX12_sizeOf_0 rfl ?_
  refine E_iload_n dX12_sizeOf_1 rfl ?_
  refine E_iconst dX12_sizeOf_2 (by decide) ?_
  refine i_X12_202 rfl dX12_sizeOf_3 (by exact hO.o) (c_of (by exact hO) (by exact hQ) (j := 84 + 6 * p) (by omega) (by omega) (by omega)) (by omega) (Nat.le_of_ble_eq_true rfl) rfl rfl ?_
  rintro _ _ ⟨rfl, rfl⟩
  try dsimp only [pu]
  refine E_istore_n dX12_sizeOf_6 rfl (by decide) ?_
  try dsimp only [List.set]
  refine E_iload_n dX12_sizeOf_7 rfl ?_
  refine E_iconst dX12_sizeOf_8 (by decide) ?_
  refine E_icmp_ne (tgt := 18) dX12_sizeOf_9 (by decide) (fun h9 => ?_) (fun h9 => ?_)
  · refine E_iload_n dX12_sizeOf_18 rfl ?_
    refine E_iconst dX12_sizeOf_19 (by decide) ?_
    refine E_icmp_eq (tgt := 28) dX12_sizeOf_20 (by decide) (fun h20 => ?_) (fun h20 => ?_)
    · exfalso; omega
    · refine E_iload_n dX12_sizeOf_23 rfl ?_
      refine E_iconst dX12_sizeOf_24 (by decide) ?_
      refine E_icmp_ne (tgt := 44) dX12_sizeOf_25 (by decide) (fun h25 => ?_) (fun h25 => ?_)
      · exfalso; omega
      · refine E_aload_n dX12_sizeOf_28 rfl ?_
        refine E_iload_n dX12_sizeOf_29 rfl ?_
        refine E_iconst dX12_sizeOf_30 (by decide) ?_
        refine E_icmp_ne (tgt := 39) dX12_sizeOf_31 (by decide) (fun h31 => ?_) (fun h31 => ?_)
        · refine E_bipush dX12_sizeOf_39 (by decide) ?_
          refine i_X12_294 rfl dX12_sizeOf_41 (by exact hO.o) (c_began (by exact hO) (by exact hT)) (by omega) (Nat.le_of_ble_eq_true rfl) rfl rfl ?_
          rintro _ _ ⟨rfl, rfl⟩
          have hT := bgR_b (m := m) [14] _ hT
          have hQ := hQ.bg [14]
          try dsimp only [pu]
          refine E_aload_n dX12_sizeOf_44 rfl ?_
          refine E_aload_n dX12_sizeOf_45 rfl ?_
          refine E_iload_n dX12_sizeOf_46 rfl ?_
          refine i_X12_240 rfl dX12_sizeOf_47 (by exact hO.o) (c_isReddish (by exact hO) (by exact hQ) hW p0 p1) (by omega) (Nat.le_of_ble_eq_true rfl) rfl rfl ?_
          rintro _ _ ⟨rfl, rfl⟩
          try dsimp only [pu]
          refine E_if_eq (tgt := 58) dX12_sizeOf_50 (by decide) (fun h50 => ?_) (fun h50 => ?_)
          · simp only [tB0, ne_eq, Bool.not_eq_false, Bool.not_eq_true, decide_eq_true_eq, decide_eq_false_iff_not, Classical.not_not] at h50
            refine E_bipush dX12_sizeOf_58 (by decide) ?_
            refine i_X12_294 rfl dX12_sizeOf_60 (by exact hO.o) (c_began (by exact hO) (by exact hT)) (by omega) (Nat.le_of_ble_eq_true rfl) rfl rfl ?_
            rintro _ _ ⟨rfl, rfl⟩
            have hT := bgR_b (m := m) [13] _ hT
            have hQ := hQ.bg [13]
            try dsimp only [pu]
            refine E_aload_n dX12_sizeOf_63 rfl ?_
            refine E_iload_n dX12_sizeOf_64 rfl ?_
            refine i_X12_297 rfl dX12_sizeOf_65 (by exact hO.o) (c_plainSize (by exact hO) (by exact hQ) hW (by exact hT) p0 p1 hwe) (by omega) (Nat.le_of_ble_eq_true rfl) rfl rfl ?_
            rintro _ _ ⟨rfl, rfl⟩
            have hT := bgR_b (m := m) [10] _ hT
            have hQ := hQ.bg [10]
            try dsimp only [pu]
            refine E_istore_n dX12_sizeOf_68 rfl (by decide) ?_
            try dsimp only [List.set]
            refine E_iload_n dX12_sizeOf_69 rfl ?_
            refine E_aload_n dX12_sizeOf_70 rfl ?_
            refine E_iload_n dX12_sizeOf_71 rfl ?_
            refine i_X12_240 rfl dX12_sizeOf_72 (by exact hO.o) (c_isReddish (by exact hO) (by exact hQ) hW p0 p1) (by omega) (Nat.le_of_ble_eq_true rfl) rfl rfl ?_
            rintro _ _ ⟨rfl, rfl⟩
            try dsimp only [pu]
            refine E_if_eq (tgt := 86) dX12_sizeOf_75 (by decide) (fun h75 => ?_) (fun h75 => ?_)
            · simp only [tB0, ne_eq, Bool.not_eq_false, Bool.not_eq_true, decide_eq_true_eq, decide_eq_false_iff_not, Classical.not_not] at h75
              refine E_aload_n dX12_sizeOf_86 rfl ?_
              refine E_iload_n dX12_sizeOf_87 rfl ?_
              refine E_iconst dX12_sizeOf_88 (by decide) ?_
              refine i_X12_202 rfl dX12_sizeOf_89 (by exact hO.o) (c_of (by exact hO) (by exact hQ) (j := 87 + 6 * p) (by omega) (by omega) (by omega)) (by omega) (Nat.le_of_ble_eq_true rfl) rfl rfl ?_
              rintro _ _ ⟨rfl, rfl⟩
              try dsimp only [pu]
              refine E_ineg dX12_sizeOf_92 (by omega) (by omega) ?_
              refine E_iadd dX12_sizeOf_93 (by omega) (by omega) ?_
              refine E_istore_n dX12_sizeOf_94 rfl (by decide) ?_
              try dsimp only [List.set]
              refine E_iload_n dX12_sizeOf_95 rfl ?_
              refine E_iconst dX12_sizeOf_96 (by decide) ?_
              refine E_icmp_ne (tgt := 105) dX12_sizeOf_97 (by decide) (fun h97 => ?_) (fun h97 => ?_)
              · refine E_iload_n dX12_sizeOf_105 rfl ?_
                refine E_iconst dX12_sizeOf_106 (by decide) ?_
                refine E_icmp_ne (tgt := 116) dX12_sizeOf_107 (by decide) (fun h107 => ?_) (fun h107 => ?_)
                · exfalso; omega
                · refine E_iconst dX12_sizeOf_110 (by decide) ?_
                  refine E_iload_n dX12_sizeOf_111 rfl ?_
                  refine E_imul dX12_sizeOf_112 (by omega) (by omega) ?_
                  refine E_goto (tgt := 117) dX12_sizeOf_113 (by decide) ?_
                  refine E_iret dX12_sizeOf_117 rfl ?_
                  exact ⟨by first | rfl | (congr 2; omega), rfl⟩
              · exfalso; omega
            · exfalso; revert h75; rw [show fTak cd p = true by unfold fTak; rw [hk]; rfl]; decide
          · exfalso; revert h50; rw [show fTak cd p = true by unfold fTak; rw [hk]; rfl]; decide
        · exfalso; omega
  · exfalso; omega
