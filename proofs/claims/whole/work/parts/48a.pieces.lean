set_option maxRecDepth 20000 in
set_option maxHeartbeats 3000000 in
theorem c_pieceAsked1 {G : Ctx} {M : Mem} (hX : XO M) {a : Nat} {cd : CD} (hRc : mR M 47 0 = a) (hC : CA M a) (hD : CC (mI M) a cd) (hW : WFc cd) (hE : EC (mI M) 47 cd (cWe cd)) {p : Int} (p0 : 0 ≤ p) (p1 : p < cd 2) (hN : 92 ≤ mN M) (hk : cd (84 + 6 * p) = 1) : CT G m_X11_pieceAsked 4 1 4 [vR 21, vI p] M (fun r M' => r = some (vR (mN M)) ∧ M' = mPc M 3 p (cWe cd p) (cd (87 + 6 * p))) := by
  refine CT.of k_X11_pieceAsked 2 (ls := [some (vR 21), some (vI p), none, none]) rfl (Nat.le_of_ble_eq_true rfl) ?_
  have hpn := hW.pn
  refine E_aload_n dX11_pieceAsked_0 rfl ?_
  refine g_X11_48 rfl dX11_pieceAsked_1 hX.o hX.wash ?_
  refine g_X11_195 rfl dX11_pieceAsked_4 hX.w0.o hX.w0.wet ?_
  refine E_iload_n dX11_pieceAsked_7 rfl ?_
  refine E_iald dX11_pieceAsked_8 hX.w0.s_wet (by omega) (by omega) (hE _ (by omega) (by omega)) ?_
  refine E_istore_n dX11_pieceAsked_9 rfl (by decide) ?_
  try dsimp only [List.set]
  refine E_aload_n dX11_pieceAsked_10 rfl ?_
  refine g_X11_48 rfl dX11_pieceAsked_11 hX.o hX.wash ?_
  refine g_X11_168 rfl dX11_pieceAsked_14 hX.w0.o hRc ?_
  refine g_X11_209 rfl dX11_pieceAsked_17 hC.o hC.yards ?_
  refine E_iload_n dX11_pieceAsked_20 rfl ?_
  refine E_iald dX11_pieceAsked_21 hC.s_yards (by omega) (by omega) (hD.yards (by omega) (by omega)) ?_
  refine E_istore_n dX11_pieceAsked_22 rfl (by decide) ?_
  try dsimp only [List.set]
  refine E_aload_n dX11_pieceAsked_23 rfl ?_
  refine g_X11_48 rfl dX11_pieceAsked_24 hX.o hX.wash ?_
  refine g_X11_168 rfl dX11_pieceAsked_27 hX.w0.o hRc ?_
  refine g_X11_274 rfl dX11_pieceAsked_30 hC.o hC.kinds ?_
  refine E_iload_n dX11_pieceAsked_33 rfl ?_
  refine E_iald dX11_pieceAsked_34 hC.s_kinds (by omega) (by omega) (hD.kinds (by omega) (by omega)) ?_
  by_cases q35_1 : cd (84 + 6 * p) = 1
  · refine E_tabIn (off := 29) (tgt := 64) dX11_pieceAsked_35 (by omega) (by omega) (by rw [q35_1]; rfl) (by decide) ?_
    refine n_X11_376 rfl dX11_pieceAsked_64 ?_
    refine E_dup dX11_pieceAsked_67 rfl ?_
    refine E_iload_n dX11_pieceAsked_68 rfl ?_
    refine E_iload_n dX11_pieceAsked_69 rfl ?_
    refine E_iload_n dX11_pieceAsked_70 rfl ?_
    refine E_aload_n dX11_pieceAsked_71 rfl ?_
    refine g_X11_26 rfl dX11_pieceAsked_72 ((mS_new (by omega)).trans hX.o) ((congrFun (mR_new (by omega)) 7).trans hX.trace) ?_
    refine i_X11_378 rfl dX11_pieceAsked_75 (by omega) (c_X4_init_3 (by exact mS_new0 _ _) (by omega)) (by omega) (Nat.le_of_ble_eq_true rfl) rfl rfl ?_
    rintro _ _ ⟨rfl, rfl⟩
    try dsimp only [pu]
    refine E_aret dX11_pieceAsked_78 rfl (Or.inl ⟨_, rfl⟩) ?_
    exact ⟨rfl, rfl⟩
  by_cases q35_2 : cd (84 + 6 * p) = 2
  · exfalso; omega
  by_cases q35_3 : cd (84 + 6 * p) = 3
  · exfalso; omega
  by_cases q35_4 : cd (84 + 6 * p) = 4
  · exfalso; omega
  exfalso; omega
set_option maxRecDepth 20000 in
set_option maxHeartbeats 3000000 in
theorem c_pieceAsked2 {G : Ctx} {M : Mem} (hX : XO M) {a : Nat} {cd : CD} (hRc : mR M 47 0 = a) (hC : CA M a) (hD : CC (mI M) a cd) (hW : WFc cd) (hE : EC (mI M) 47 cd (cWe cd)) {p : Int} (p0 : 0 ≤ p) (p1 : p < cd 2) (hN : 92 ≤ mN M) (hk : cd (84 + 6 * p) = 2) : CT G m_X11_pieceAsked 4 1 4 [vR 21, vI p] M (fun r M' => r = some (vR (mN M)) ∧ M' = mPc M 0 p (cWe cd p) (cd (87 + 6 * p))) := by
  refine CT.of k_X11_pieceAsked 2 (ls := [some (vR 21), some (vI p), none, none]) rfl (Nat.le_of_ble_eq_true rfl) ?_
  have hpn := hW.pn
  refine E_aload_n dX11_pieceAsked_0 rfl ?_
  refine g_X11_48 rfl dX11_pieceAsked_1 hX.o hX.wash ?_
  refine g_X11_195 rfl dX11_pieceAsked_4 hX.w0.o hX.w0.wet ?_
  refine E_iload_n dX11_pieceAsked_7 rfl ?_
  refine E_iald dX11_pieceAsked_8 hX.w0.s_wet (by omega) (by omega) (hE _ (by omega) (by omega)) ?_
  refine E_istore_n dX11_pieceAsked_9 rfl (by decide) ?_
  try dsimp only [List.set]
  refine E_aload_n dX11_pieceAsked_10 rfl ?_
  refine g_X11_48 rfl dX11_pieceAsked_11 hX.o hX.wash ?_
  refine g_X11_168 rfl dX11_pieceAsked_14 hX.w0.o hRc ?_
  refine g_X11_209 rfl dX11_pieceAsked_17 hC.o hC.yards ?_
  refine E_iload_n dX11_pieceAsked_20 rfl ?_
  refine E_iald dX11_pieceAsked_21 hC.s_yards (by omega) (by omega) (hD.yards (by omega) (by omega)) ?_
  refine E_istore_n dX11_pieceAsked_22 rfl (by decide) ?_
  try dsimp only [List.set]
  refine E_aload_n dX11_pieceAsked_23 rfl ?_
  refine g_X11_48 rfl dX11_pieceAsked_24 hX.o hX.wash ?_
  refine g_X11_168 rfl dX11_pieceAsked_27 hX.w0.o hRc ?_
  refine g_X11_274 rfl dX11_pieceAsked_30 hC.o hC.kinds ?_
  refine E_iload_n dX11_pieceAsked_33 rfl ?_
  refine E_iald dX11_pieceAsked_34 hC.s_kinds (by omega) (by omega) (hD.kinds (by omega) (by omega)) ?_
  by_cases q35_1 : cd (84 + 6 * p) = 1
  · exfalso; omega
  by_cases q35_2 : cd (84 + 6 * p) = 2
  · refine E_tabIn (off := 44) (tgt := 79) dX11_pieceAsked_35 (by omega) (by omega) (by rw [q35_2]; rfl) (by decide) ?_
    refine n_X11_381 rfl dX11_pieceAsked_79 ?_
    refine E_dup dX11_pieceAsked_82 rfl ?_
    refine E_iload_n dX11_pieceAsked_83 rfl ?_
    refine E_iload_n dX11_pieceAsked_84 rfl ?_
    refine E_iload_n dX11_pieceAsked_85 rfl ?_
    refine E_aload_n dX11_pieceAsked_86 rfl ?_
    refine g_X11_26 rfl dX11_pieceAsked_87 ((mS_new (by omega)).trans hX.o) ((congrFun (mR_new (by omega)) 7).trans hX.trace) ?_
    refine i_X11_383 rfl dX11_pieceAsked_90 (by omega) (c_X0_init_0 (by exact mS_new0 _ _) (by omega)) (by omega) (Nat.le_of_ble_eq_true rfl) rfl rfl ?_
    rintro _ _ ⟨rfl, rfl⟩
    try dsimp only [pu]
    refine E_aret dX11_pieceAsked_93 rfl (Or.inl ⟨_, rfl⟩) ?_
    exact ⟨rfl, rfl⟩
  by_cases q35_3 : cd (84 + 6 * p) = 3
  · exfalso; omega
  by_cases q35_4 : cd (84 + 6 * p) = 4
  · exfalso; omega
  exfalso; omega
set_option maxRecDepth 20000 in
set_option maxHeartbeats 3000000 in
theorem c_pieceAsked3 {G : Ctx} {M : Mem} (hX : XO M) {a : Nat} {cd : CD} (hRc : mR M 47 0 = a) (hC : CA M a) (hD : CC (mI M) a cd) (hW : WFc cd) (hE : EC (mI M) 47 cd (cWe cd)) {p : Int} (p0 : 0 ≤ p) (p1 : p < cd 2) (hN : 92 ≤ mN M) (hk : cd (84 + 6 * p) = 3) : CT G m_X11_pieceAsked 4 1 4 [vR 21, vI p] M (fun r M' => r = some (vR (mN M)) ∧ M' = mPc M 9 p (cWe cd p) (cd (87 + 6 * p))) := by
  refine CT.of k_X11_pieceAsked 2 (ls := [some (vR 21), some (vI p), none, none]) rfl (Nat.le_of_ble_eq_true rfl) ?_
  have hpn := hW.pn
  refine E_aload_n dX11_pieceAsked_0 rfl ?_
  refine g_X11_48 rfl dX11_pieceAsked_1 hX.o hX.wash ?_
  refine g_X11_195 rfl dX11_pieceAsked_4 hX.w0.o hX.w0.wet ?_
  refine E_iload_n dX11_pieceAsked_7 rfl ?_
  refine E_iald dX11_pieceAsked_8 hX.w0.s_wet (by omega) (by omega) (hE _ (by omega) (by omega)) ?_
  refine E_istore_n dX11_pieceAsked_9 rfl (by decide) ?_
  try dsimp only [List.set]
  refine E_aload_n dX11_pieceAsked_10 rfl ?_
  refine g_X11_48 rfl dX11_pieceAsked_11 hX.o hX.wash ?_
  refine g_X11_168 rfl dX11_pieceAsked_14 hX.w0.o hRc ?_
  refine g_X11_209 rfl dX11_pieceAsked_17 hC.o hC.yards ?_
  refine E_iload_n dX11_pieceAsked_20 rfl ?_
  refine E_iald dX11_pieceAsked_21 hC.s_yards (by omega) (by omega) (hD.yards (by omega) (by omega)) ?_
  refine E_istore_n dX11_pieceAsked_22 rfl (by decide) ?_
  try dsimp only [List.set]
  refine E_aload_n dX11_pieceAsked_23 rfl ?_
  refine g_X11_48 rfl dX11_pieceAsked_24 hX.o hX.wash ?_
  refine g_X11_168 rfl dX11_pieceAsked_27 hX.w0.o hRc ?_
  refine g_X11_274 rfl dX11_pieceAsked_30 hC.o hC.kinds ?_
  refine E_iload_n dX11_pieceAsked_33 rfl ?_
  refine E_iald dX11_pieceAsked_34 hC.s_kinds (by omega) (by omega) (hD.kinds (by omega) (by omega)) ?_
  by_cases q35_1 : cd (84 + 6 * p) = 1
  · exfalso; omega
  by_cases q35_2 : cd (84 + 6 * p) = 2
  · exfalso; omega
  by_cases q35_3 : cd (84 + 6 * p) = 3
  · refine E_tabIn (off := 59) (tgt := 94) dX11_pieceAsked_35 (by omega) (by omega) (by rw [q35_3]; rfl) (by decide) ?_
    refine n_X11_384 rfl dX11_pieceAsked_94 ?_
    refine E_dup dX11_pieceAsked_97 rfl ?_
    refine E_iload_n dX11_pieceAsked_98 rfl ?_
    refine E_iload_n dX11_pieceAsked_99 rfl ?_
    refine E_iload_n dX11_pieceAsked_100 rfl ?_
    refine E_aload_n dX11_pieceAsked_101 rfl ?_
    refine g_X11_26 rfl dX11_pieceAsked_102 ((mS_new (by omega)).trans hX.o) ((congrFun (mR_new (by omega)) 7).trans hX.trace) ?_
    refine i_X11_386 rfl dX11_pieceAsked_105 (by omega) (c_X10_init_9 (by exact mS_new0 _ _) (by omega)) (by omega) (Nat.le_of_ble_eq_true rfl) rfl rfl ?_
    rintro _ _ ⟨rfl, rfl⟩
    try dsimp only [pu]
    refine E_aret dX11_pieceAsked_108 rfl (Or.inl ⟨_, rfl⟩) ?_
    exact ⟨rfl, rfl⟩
  by_cases q35_4 : cd (84 + 6 * p) = 4
  · exfalso; omega
  exfalso; omega
set_option maxRecDepth 20000 in
set_option maxHeartbeats 3000000 in
theorem c_pieceAsked4 {G : Ctx} {M : Mem} (hX : XO M) {a : Nat} {cd : CD} (hRc : mR M 47 0 = a) (hC : CA M a) (hD : CC (mI M) a cd) (hW : WFc cd) (hE : EC (mI M) 47 cd (cWe cd)) {p : Int} (p0 : 0 ≤ p) (p1 : p < cd 2) (hN : 92 ≤ mN M) (hk : cd (84 + 6 * p) = 4) : CT G m_X11_pieceAsked 4 1 4 [vR 21, vI p] M (fun r M' => r = some (vR (mN M)) ∧ M' = mPc M 5 p (cWe cd p) (cd (87 + 6 * p))) := by
  refine CT.of k_X11_pieceAsked 2 (ls := [some (vR 21), some (vI p), none, none]) rfl (Nat.le_of_ble_eq_true rfl) ?_
  have hpn := hW.pn
  refine E_aload_n dX11_pieceAsked_0 rfl ?_
  refine g_X11_48 rfl dX11_pieceAsked_1 hX.o hX.wash ?_
  refine g_X11_195 rfl dX11_pieceAsked_4 hX.w0.o hX.w0.wet ?_
  refine E_iload_n dX11_pieceAsked_7 rfl ?_
  refine E_iald dX11_pieceAsked_8 hX.w0.s_wet (by omega) (by omega) (hE _ (by omega) (by omega)) ?_
  refine E_istore_n dX11_pieceAsked_9 rfl (by decide) ?_
  try dsimp only [List.set]
  refine E_aload_n dX11_pieceAsked_10 rfl ?_
  refine g_X11_48 rfl dX11_pieceAsked_11 hX.o hX.wash ?_
  refine g_X11_168 rfl dX11_pieceAsked_14 hX.w0.o hRc ?_
  refine g_X11_209 rfl dX11_pieceAsked_17 hC.o hC.yards ?_
  refine E_iload_n dX11_pieceAsked_20 rfl ?_
  refine E_iald dX11_pieceAsked_21 hC.s_yards (by omega) (by omega) (hD.yards (by omega) (by omega)) ?_
  refine E_istore_n dX11_pieceAsked_22 rfl (by decide) ?_
  try dsimp only [List.set]
  refine E_aload_n dX11_pieceAsked_23 rfl ?_
  refine g_X11_48 rfl dX11_pieceAsked_24 hX.o hX.wash ?_
  refine g_X11_168 rfl dX11_pieceAsked_27 hX.w0.o hRc ?_
  refine g_X11_274 rfl dX11_pieceAsked_30 hC.o hC.kinds ?_
  refine E_iload_n dX11_pieceAsked_33 rfl ?_
  refine E_iald dX11_pieceAsked_34 hC.s_kinds (by omega) (by omega) (hD.kinds (by omega) (by omega)) ?_
  by_cases q35_1 : cd (84 + 6 * p) = 1
  · exfalso; omega
  by_cases q35_2 : cd (84 + 6 * p) = 2
  · exfalso; omega
  by_cases q35_3 : cd (84 + 6 * p) = 3
  · exfalso; omega
  by_cases q35_4 : cd (84 + 6 * p) = 4
  · refine E_tabIn (off := 74) (tgt := 109) dX11_pieceAsked_35 (by omega) (by omega) (by rw [q35_4]; rfl) (by decide) ?_
    refine n_X11_387 rfl dX11_pieceAsked_109 ?_
    refine E_dup dX11_pieceAsked_112 rfl ?_
    refine E_iload_n dX11_pieceAsked_113 rfl ?_
    refine E_iload_n dX11_pieceAsked_114 rfl ?_
    refine E_iload_n dX11_pieceAsked_115 rfl ?_
    refine E_aload_n dX11_pieceAsked_116 rfl ?_
    refine g_X11_26 rfl dX11_pieceAsked_117 ((mS_new (by omega)).trans hX.o) ((congrFun (mR_new (by omega)) 7).trans hX.trace) ?_
    refine i_X11_389 rfl dX11_pieceAsked_120 (by omega) (c_X6_init_5 (by exact mS_new0 _ _) (by omega)) (by omega) (Nat.le_of_ble_eq_true rfl) rfl rfl ?_
    rintro _ _ ⟨rfl, rfl⟩
    try dsimp only [pu]
    refine E_aret dX11_pieceAsked_123 rfl (Or.inl ⟨_, rfl⟩) ?_
    exact ⟨rfl, rfl⟩
  exfalso; omega
set_option maxRecDepth 20000 in
set_option maxHeartbeats 3000000 in
theorem c_pieceAsked5 {G : Ctx} {M : Mem} (hX : XO M) {a : Nat} {cd : CD} (hRc : mR M 47 0 = a) (hC : CA M a) (hD : CC (mI M) a cd) (hW : WFc cd) (hE : EC (mI M) 47 cd (cWe cd)) {p : Int} (p0 : 0 ≤ p) (p1 : p < cd 2) (hN : 92 ≤ mN M) (hk : cd (84 + 6 * p) = 5) : CT G m_X11_pieceAsked 4 1 4 [vR 21, vI p] M (fun r M' => r = some (vR (mN M)) ∧ M' = mPc M 6 p (cWe cd p) (cd (87 + 6 * p))) := by
  refine CT.of k_X11_pieceAsked 2 (ls := [some (vR 21), some (vI p), none, none]) rfl (Nat.le_of_ble_eq_true rfl) ?_
  have hpn := hW.pn
  refine E_aload_n dX11_pieceAsked_0 rfl ?_
  refine g_X11_48 rfl dX11_pieceAsked_1 hX.o hX.wash ?_
  refine g_X11_195 rfl dX11_pieceAsked_4 hX.w0.o hX.w0.wet ?_
  refine E_iload_n dX11_pieceAsked_7 rfl ?_
  refine E_iald dX11_pieceAsked_8 hX.w0.s_wet (by omega) (by omega) (hE _ (by omega) (by omega)) ?_
  refine E_istore_n dX11_pieceAsked_9 rfl (by decide) ?_
  try dsimp only [List.set]
  refine E_aload_n dX11_pieceAsked_10 rfl ?_
  refine g_X11_48 rfl dX11_pieceAsked_11 hX.o hX.wash ?_
  refine g_X11_168 rfl dX11_pieceAsked_14 hX.w0.o hRc ?_
  refine g_X11_209 rfl dX11_pieceAsked_17 hC.o hC.yards ?_
  refine E_iload_n dX11_pieceAsked_20 rfl ?_
  refine E_iald dX11_pieceAsked_21 hC.s_yards (by omega) (by omega) (hD.yards (by omega) (by omega)) ?_
  refine E_istore_n dX11_pieceAsked_22 rfl (by decide) ?_
  try dsimp only [List.set]
  refine E_aload_n dX11_pieceAsked_23 rfl ?_
  refine g_X11_48 rfl dX11_pieceAsked_24 hX.o hX.wash ?_
  refine g_X11_168 rfl dX11_pieceAsked_27 hX.w0.o hRc ?_
  refine g_X11_274 rfl dX11_pieceAsked_30 hC.o hC.kinds ?_
  refine E_iload_n dX11_pieceAsked_33 rfl ?_
  refine E_iald dX11_pieceAsked_34 hC.s_kinds (by omega) (by omega) (hD.kinds (by omega) (by omega)) ?_
  by_cases q35_1 : cd (84 + 6 * p) = 1
  · exfalso; omega
  by_cases q35_2 : cd (84 + 6 * p) = 2
  · exfalso; omega
  by_cases q35_3 : cd (84 + 6 * p) = 3
  · exfalso; omega
  by_cases q35_4 : cd (84 + 6 * p) = 4
  · exfalso; omega
  refine E_tabOut (tgt := 124) dX11_pieceAsked_35 (by omega) (by decide) ?_
  refine n_X11_390 rfl dX11_pieceAsked_124 ?_
  refine E_dup dX11_pieceAsked_127 rfl ?_
  refine E_iload_n dX11_pieceAsked_128 rfl ?_
  refine E_iload_n dX11_pieceAsked_129 rfl ?_
  refine E_iload_n dX11_pieceAsked_130 rfl ?_
  refine E_aload_n dX11_pieceAsked_131 rfl ?_
  refine g_X11_26 rfl dX11_pieceAsked_132 ((mS_new (by omega)).trans hX.o) ((congrFun (mR_new (by omega)) 7).trans hX.trace) ?_
  refine i_X11_392 rfl dX11_pieceAsked_135 (by omega) (c_X7_init_6 (by exact mS_new0 _ _) (by omega)) (by omega) (Nat.le_of_ble_eq_true rfl) rfl rfl ?_
  rintro _ _ ⟨rfl, rfl⟩
  try dsimp only [pu]
  refine E_aret dX11_pieceAsked_138 rfl (Or.inl ⟨_, rfl⟩) ?_
  exact ⟨rfl, rfl⟩
set_option maxRecDepth 20000 in
set_option maxHeartbeats 3000000 in
theorem c_isOfKind1 {G : Ctx} {M : Mem} {b : Nat} (hs : mS M b = (4, 3)) {f : Int} (f0 : 0 ≤ f ∧ f ≤ 5) : CT G m_X11_isOfKind 0 0 0 [vR b, vI f] M (rI M (tB (isO 1 f))) := by
  refine CT.of k_X11_isOfKind 0 (ls := [some (vR b), some (vI f)]) rfl (Nat.le_of_ble_eq_true rfl) ?_
  refine E_iload_n dX11_isOfKind_0 rfl ?_
  by_cases q1_1 : f = 1
  · refine E_tabIn (off := 35) (tgt := 36) dX11_isOfKind_1 (by omega) (by omega) (by rw [q1_1]; rfl) (by decide) ?_
    refine E_aload_n dX11_isOfKind_36 rfl ?_
    refine E_instS (ci := 3) rfl (by exact hs) rw_892 dX11_isOfKind_37 ?_
    refine E_zret dX11_isOfKind_40 rfl (by decide) ?_
    exact ⟨by rw [q1_1]; rfl, rfl⟩
  by_cases q1_2 : f = 2
  · refine E_tabIn (off := 40) (tgt := 41) dX11_isOfKind_1 (by omega) (by omega) (by rw [q1_2]; rfl) (by decide) ?_
    refine E_aload_n dX11_isOfKind_41 rfl ?_
    refine E_instN (ci := 3) (nm := "CourtWash$Black") (i := 3) rfl (by exact hs) rw_928 rfl dX11_isOfKind_42 ?_
    refine E_zret dX11_isOfKind_45 rfl (by decide) ?_
    exact ⟨by rw [q1_2]; rfl, rfl⟩
  by_cases q1_3 : f = 3
  · refine E_tabIn (off := 45) (tgt := 46) dX11_isOfKind_1 (by omega) (by omega) (by rw [q1_3]; rfl) (by decide) ?_
    refine E_aload_n dX11_isOfKind_46 rfl ?_
    refine E_instN (ci := 3) (nm := "CourtWash$Wool") (i := 4) rfl (by exact hs) rw_939 rfl dX11_isOfKind_47 ?_
    refine E_zret dX11_isOfKind_50 rfl (by decide) ?_
    exact ⟨by rw [q1_3]; rfl, rfl⟩
  by_cases q1_4 : f = 4
  · refine E_tabIn (off := 50) (tgt := 51) dX11_isOfKind_1 (by omega) (by omega) (by rw [q1_4]; rfl) (by decide) ?_
    refine E_aload_n dX11_isOfKind_51 rfl ?_
    refine E_instN (ci := 3) (nm := "CourtWash$Sheet") (i := 5) rfl (by exact hs) rw_950 rfl dX11_isOfKind_52 ?_
    refine E_zret dX11_isOfKind_55 rfl (by decide) ?_
    exact ⟨by rw [q1_4]; rfl, rfl⟩
  by_cases q1_5 : f = 5
  · refine E_tabIn (off := 55) (tgt := 56) dX11_isOfKind_1 (by omega) (by omega) (by rw [q1_5]; rfl) (by decide) ?_
    refine E_aload_n dX11_isOfKind_56 rfl ?_
    refine E_instN (ci := 3) (nm := "CourtWash$Sock") (i := 6) rfl (by exact hs) rw_961 rfl dX11_isOfKind_57 ?_
    refine E_zret dX11_isOfKind_60 rfl (by decide) ?_
    exact ⟨by rw [q1_5]; rfl, rfl⟩
  refine E_tabOut (tgt := 61) dX11_isOfKind_1 (by omega) (by decide) ?_
  refine E_iconst dX11_isOfKind_61 (by decide) ?_
  refine E_zret dX11_isOfKind_62 rfl (by decide) ?_
  exact ⟨by rw [show f = 0 by omega]; rfl, rfl⟩
set_option maxRecDepth 20000 in
set_option maxHeartbeats 3000000 in
theorem c_isOfKind2 {G : Ctx} {M : Mem} {b : Nat} (hs : mS M b = (4, 0)) {f : Int} (f0 : 0 ≤ f ∧ f ≤ 5) : CT G m_X11_isOfKind 0 0 0 [vR b, vI f] M (rI M (tB (isO 2 f))) := by
  refine CT.of k_X11_isOfKind 0 (ls := [some (vR b), some (vI f)]) rfl (Nat.le_of_ble_eq_true rfl) ?_
  refine E_iload_n dX11_isOfKind_0 rfl ?_
  by_cases q1_1 : f = 1
  · refine E_tabIn (off := 35) (tgt := 36) dX11_isOfKind_1 (by omega) (by omega) (by rw [q1_1]; rfl) (by decide) ?_
    refine E_aload_n dX11_isOfKind_36 rfl ?_
    refine E_instU (ci := 0) (nm := "CourtWash$Red") (up := "CourtWash$Piece") rfl (by exact hs) rw_892 rw_938 rw_927 dX11_isOfKind_37 ?_
    refine E_zret dX11_isOfKind_40 rfl (by decide) ?_
    exact ⟨by rw [q1_1]; rfl, rfl⟩
  by_cases q1_2 : f = 2
  · refine E_tabIn (off := 40) (tgt := 41) dX11_isOfKind_1 (by omega) (by omega) (by rw [q1_2]; rfl) (by decide) ?_
    refine E_aload_n dX11_isOfKind_41 rfl ?_
    refine E_instS (ci := 0) rfl (by exact hs) rw_928 dX11_isOfKind_42 ?_
    refine E_zret dX11_isOfKind_45 rfl (by decide) ?_
    exact ⟨by rw [q1_2]; rfl, rfl⟩
  by_cases q1_3 : f = 3
  · refine E_tabIn (off := 45) (tgt := 46) dX11_isOfKind_1 (by omega) (by omega) (by rw [q1_3]; rfl) (by decide) ?_
    refine E_aload_n dX11_isOfKind_46 rfl ?_
    refine E_instN (ci := 0) (nm := "CourtWash$Wool") (i := 0) rfl (by exact hs) rw_939 rfl dX11_isOfKind_47 ?_
    refine E_zret dX11_isOfKind_50 rfl (by decide) ?_
    exact ⟨by rw [q1_3]; rfl, rfl⟩
  by_cases q1_4 : f = 4
  · refine E_tabIn (off := 50) (tgt := 51) dX11_isOfKind_1 (by omega) (by omega) (by rw [q1_4]; rfl) (by decide) ?_
    refine E_aload_n dX11_isOfKind_51 rfl ?_
    refine E_instN (ci := 0) (nm := "CourtWash$Sheet") (i := 1) rfl (by exact hs) rw_950 rfl dX11_isOfKind_52 ?_
    refine E_zret dX11_isOfKind_55 rfl (by decide) ?_
    exact ⟨by rw [q1_4]; rfl, rfl⟩
  by_cases q1_5 : f = 5
  · refine E_tabIn (off := 55) (tgt := 56) dX11_isOfKind_1 (by omega) (by omega) (by rw [q1_5]; rfl) (by decide) ?_
    refine E_aload_n dX11_isOfKind_56 rfl ?_
    refine E_instN (ci := 0) (nm := "CourtWash$Sock") (i := 2) rfl (by exact hs) rw_961 rfl dX11_isOfKind_57 ?_
    refine E_zret dX11_isOfKind_60 rfl (by decide) ?_
    exact ⟨by rw [q1_5]; rfl, rfl⟩
  refine E_tabOut (tgt := 61) dX11_isOfKind_1 (by omega) (by decide) ?_
  refine E_iconst dX11_isOfKind_61 (by decide) ?_
  refine E_zret dX11_isOfKind_62 rfl (by decide) ?_
  exact ⟨by rw [show f = 0 by omega]; rfl, rfl⟩
set_option maxRecDepth 20000 in
set_option maxHeartbeats 3000000 in
theorem c_isOfKind3 {G : Ctx} {M : Mem} {b : Nat} (hs : mS M b = (4, 9)) {f : Int} (f0 : 0 ≤ f ∧ f ≤ 5) : CT G m_X11_isOfKind 0 0 0 [vR b, vI f] M (rI M (tB (isO 3 f))) := by
  refine CT.of k_X11_isOfKind 0 (ls := [some (vR b), some (vI f)]) rfl (Nat.le_of_ble_eq_true rfl) ?_
  refine E_iload_n dX11_isOfKind_0 rfl ?_
  by_cases q1_1 : f = 1
  · refine E_tabIn (off := 35) (tgt := 36) dX11_isOfKind_1 (by omega) (by omega) (by rw [q1_1]; rfl) (by decide) ?_
    refine E_aload_n dX11_isOfKind_36 rfl ?_
    refine E_instN (ci := 9) (nm := "CourtWash$Red") (i := 7) rfl (by exact hs) rw_892 rfl dX11_isOfKind_37 ?_
    refine E_zret dX11_isOfKind_40 rfl (by decide) ?_
    exact ⟨by rw [q1_1]; rfl, rfl⟩
  by_cases q1_2 : f = 2
  · refine E_tabIn (off := 40) (tgt := 41) dX11_isOfKind_1 (by omega) (by omega) (by rw [q1_2]; rfl) (by decide) ?_
    refine E_aload_n dX11_isOfKind_41 rfl ?_
    refine E_instN (ci := 9) (nm := "CourtWash$Black") (i := 8) rfl (by exact hs) rw_928 rfl dX11_isOfKind_42 ?_
    refine E_zret dX11_isOfKind_45 rfl (by decide) ?_
    exact ⟨by rw [q1_2]; rfl, rfl⟩
  by_cases q1_3 : f = 3
  · refine E_tabIn (off := 45) (tgt := 46) dX11_isOfKind_1 (by omega) (by omega) (by rw [q1_3]; rfl) (by decide) ?_
    refine E_aload_n dX11_isOfKind_46 rfl ?_
    refine E_instS (ci := 9) rfl (by exact hs) rw_939 dX11_isOfKind_47 ?_
    refine E_zret dX11_isOfKind_50 rfl (by decide) ?_
    exact ⟨by rw [q1_3]; rfl, rfl⟩
  by_cases q1_4 : f = 4
  · refine E_tabIn (off := 50) (tgt := 51) dX11_isOfKind_1 (by omega) (by omega) (by rw [q1_4]; rfl) (by decide) ?_
    refine E_aload_n dX11_isOfKind_51 rfl ?_
    refine E_instN (ci := 9) (nm := "CourtWash$Sheet") (i := 9) rfl (by exact hs) rw_950 rfl dX11_isOfKind_52 ?_
    refine E_zret dX11_isOfKind_55 rfl (by decide) ?_
    exact ⟨by rw [q1_4]; rfl, rfl⟩
  by_cases q1_5 : f = 5
  · refine E_tabIn (off := 55) (tgt := 56) dX11_isOfKind_1 (by omega) (by omega) (by rw [q1_5]; rfl) (by decide) ?_
    refine E_aload_n dX11_isOfKind_56 rfl ?_
    refine E_instN (ci := 9) (nm := "CourtWash$Sock") (i := 10) rfl (by exact hs) rw_961 rfl dX11_isOfKind_57 ?_
    refine E_zret dX11_isOfKind_60 rfl (by decide) ?_
    exact ⟨by rw [q1_5]; rfl, rfl⟩
  refine E_tabOut (tgt := 61) dX11_isOfKind_1 (by omega) (by decide) ?_
  refine E_iconst dX11_isOfKind_61 (by decide) ?_
  refine E_zret dX11_isOfKind_62 rfl (by decide) ?_
  exact ⟨by rw [show f = 0 by omega]; rfl, rfl⟩
set_option maxRecDepth 20000 in
set_option maxHeartbeats 3000000 in
theorem c_isOfKind4 {G : Ctx} {M : Mem} {b : Nat} (hs : mS M b = (4, 5)) {f : Int} (f0 : 0 ≤ f ∧ f ≤ 5) : CT G m_X11_isOfKind 0 0 0 [vR b, vI f] M (rI M (tB (isO 4 f))) := by
  refine CT.of k_X11_isOfKind 0 (ls := [some (vR b), some (vI f)]) rfl (Nat.le_of_ble_eq_true rfl) ?_
  refine E_iload_n dX11_isOfKind_0 rfl ?_
  by_cases q1_1 : f = 1
  · refine E_tabIn (off := 35) (tgt := 36) dX11_isOfKind_1 (by omega) (by omega) (by rw [q1_1]; rfl) (by decide) ?_
    refine E_aload_n dX11_isOfKind_36 rfl ?_
    refine E_instN (ci := 5) (nm := "CourtWash$Red") (i := 11) rfl (by exact hs) rw_892 rfl dX11_isOfKind_37 ?_
    refine E_zret dX11_isOfKind_40 rfl (by decide) ?_
    exact ⟨by rw [q1_1]; rfl, rfl⟩
  by_cases q1_2 : f = 2
  · refine E_tabIn (off := 40) (tgt := 41) dX11_isOfKind_1 (by omega) (by omega) (by rw [q1_2]; rfl) (by decide) ?_
    refine E_aload_n dX11_isOfKind_41 rfl ?_
    refine E_instN (ci := 5) (nm := "CourtWash$Black") (i := 12) rfl (by exact hs) rw_928 rfl dX11_isOfKind_42 ?_
    refine E_zret dX11_isOfKind_45 rfl (by decide) ?_
    exact ⟨by rw [q1_2]; rfl, rfl⟩
  by_cases q1_3 : f = 3
  · refine E_tabIn (off := 45) (tgt := 46) dX11_isOfKind_1 (by omega) (by omega) (by rw [q1_3]; rfl) (by decide) ?_
    refine E_aload_n dX11_isOfKind_46 rfl ?_
    refine E_instN (ci := 5) (nm := "CourtWash$Wool") (i := 13) rfl (by exact hs) rw_939 rfl dX11_isOfKind_47 ?_
    refine E_zret dX11_isOfKind_50 rfl (by decide) ?_
    exact ⟨by rw [q1_3]; rfl, rfl⟩
  by_cases q1_4 : f = 4
  · refine E_tabIn (off := 50) (tgt := 51) dX11_isOfKind_1 (by omega) (by omega) (by rw [q1_4]; rfl) (by decide) ?_
    refine E_aload_n dX11_isOfKind_51 rfl ?_
    refine E_instS (ci := 5) rfl (by exact hs) rw_950 dX11_isOfKind_52 ?_
    refine E_zret dX11_isOfKind_55 rfl (by decide) ?_
    exact ⟨by rw [q1_4]; rfl, rfl⟩
  by_cases q1_5 : f = 5
  · refine E_tabIn (off := 55) (tgt := 56) dX11_isOfKind_1 (by omega) (by omega) (by rw [q1_5]; rfl) (by decide) ?_
    refine E_aload_n dX11_isOfKind_56 rfl ?_
    refine E_instN (ci := 5) (nm := "CourtWash$Sock") (i := 14) rfl (by exact hs) rw_961 rfl dX11_isOfKind_57 ?_
    refine E_zret dX11_isOfKind_60 rfl (by decide) ?_
    exact ⟨by rw [q1_5]; rfl, rfl⟩
  refine E_tabOut (tgt := 61) dX11_isOfKind_1 (by omega) (by decide) ?_
  refine E_iconst dX11_isOfKind_61 (by decide) ?_
  refine E_zret dX11_isOfKind_62 rfl (by decide) ?_
  exact ⟨by rw [show f = 0 by omega]; rfl, rfl⟩
set_option maxRecDepth 20000 in
set_option maxHeartbeats 3000000 in
theorem c_isOfKind5 {G : Ctx} {M : Mem} {b : Nat} (hs : mS M b = (4, 6)) {f : Int} (f0 : 0 ≤ f ∧ f ≤ 5) : CT G m_X11_isOfKind 0 0 0 [vR b, vI f] M (rI M (tB (isO 5 f))) := by
  refine CT.of k_X11_isOfKind 0 (ls := [some (vR b), some (vI f)]) rfl (Nat.le_of_ble_eq_true rfl) ?_
  refine E_iload_n dX11_isOfKind_0 rfl ?_
  by_cases q1_1 : f = 1
  · refine E_tabIn (off := 35) (tgt := 36) dX11_isOfKind_1 (by omega) (by omega) (by rw [q1_1]; rfl) (by decide) ?_
    refine E_aload_n dX11_isOfKind_36 rfl ?_
    refine E_instN (ci := 6) (nm := "CourtWash$Red") (i := 15) rfl (by exact hs) rw_892 rfl dX11_isOfKind_37 ?_
    refine E_zret dX11_isOfKind_40 rfl (by decide) ?_
    exact ⟨by rw [q1_1]; rfl, rfl⟩
  by_cases q1_2 : f = 2
  · refine E_tabIn (off := 40) (tgt := 41) dX11_isOfKind_1 (by omega) (by omega) (by rw [q1_2]; rfl) (by decide) ?_
    refine E_aload_n dX11_isOfKind_41 rfl ?_
    refine E_instN (ci := 6) (nm := "CourtWash$Black") (i := 16) rfl (by exact hs) rw_928 rfl dX11_isOfKind_42 ?_
    refine E_zret dX11_isOfKind_45 rfl (by decide) ?_
    exact ⟨by rw [q1_2]; rfl, rfl⟩
  by_cases q1_3 : f = 3
  · refine E_tabIn (off := 45) (tgt := 46) dX11_isOfKind_1 (by omega) (by omega) (by rw [q1_3]; rfl) (by decide) ?_
    refine E_aload_n dX11_isOfKind_46 rfl ?_
    refine E_instU (ci := 6) (nm := "CourtWash$Wool") (up := "CourtWash$Piece") rfl (by exact hs) rw_939 rw_971 rw_949 dX11_isOfKind_47 ?_
    refine E_zret dX11_isOfKind_50 rfl (by decide) ?_
    exact ⟨by rw [q1_3]; rfl, rfl⟩
  by_cases q1_4 : f = 4
  · refine E_tabIn (off := 50) (tgt := 51) dX11_isOfKind_1 (by omega) (by omega) (by rw [q1_4]; rfl) (by decide) ?_
    refine E_aload_n dX11_isOfKind_51 rfl ?_
    refine E_instN (ci := 6) (nm := "CourtWash$Sheet") (i := 17) rfl (by exact hs) rw_950 rfl dX11_isOfKind_52 ?_
    refine E_zret dX11_isOfKind_55 rfl (by decide) ?_
    exact ⟨by rw [q1_4]; rfl, rfl⟩
  by_cases q1_5 : f = 5
  · refine E_tabIn (off := 55) (tgt := 56) dX11_isOfKind_1 (by omega) (by omega) (by rw [q1_5]; rfl) (by decide) ?_
    refine E_aload_n dX11_isOfKind_56 rfl ?_
    refine E_instS (ci := 6) rfl (by exact hs) rw_961 dX11_isOfKind_57 ?_
    refine E_zret dX11_isOfKind_60 rfl (by decide) ?_
    exact ⟨by rw [q1_5]; rfl, rfl⟩
  refine E_tabOut (tgt := 61) dX11_isOfKind_1 (by omega) (by decide) ?_
  refine E_iconst dX11_isOfKind_61 (by decide) ?_
  refine E_zret dX11_isOfKind_62 rfl (by decide) ?_
  exact ⟨by rw [show f = 0 by omega]; rfl, rfl⟩
