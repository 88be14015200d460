/-! ===== 53: rings of the class ===== -/
/-- two rows are made, the first is filled with -1 -/
def m2r (M : Mem) (n : Nat) : Mem := mJ (mNew (mNew M (1, n)) (1, n)) (fil (mI (mNew (mNew M (1, n)) (1, n))) (mN M) 0 n (-1))
theorem m2r_ex (M : Mem) (n : Nat) : EX M (m2r M n) := by
  refine ⟨Nat.le_trans (Nat.le_succ _) (Nat.le_succ _), fun b hb => ⟨?_, ?_, ?_⟩⟩
  · show mS (mNew (mNew M (1, n)) (1, n)) b = mS M b
    rw [mS_new (by rw [mN_new]; omega), mS_new (by omega)]
  · funext j
    show fil (mI (mNew (mNew M (1, n)) (1, n))) (mN M) 0 n (-1) b j = mI M b j
    rw [fil_ne _ (by omega), mI_new (by rw [mN_new]; omega), mI_new (by omega)]
  · show mR (mNew (mNew M (1, n)) (1, n)) b = mR M b
    rw [mR_new (by rw [mN_new]; omega), mR_new (by omega)]
theorem m2r_y (M : Mem) (n : Nat) : mS (m2r M n) (mN M) = (1, n) := by
  show mS (mNew (mNew M (1, n)) (1, n)) (mN M) = (1, n)
  rw [mS_new (by rw [mN_new]; omega)]; exact mS_new0 _ _
theorem m2r_z (M : Mem) (n : Nat) : mS (m2r M n) (mN M + 1) = (1, n) := mS_new0 (mNew M (1, n)) (1, n)
theorem EX.tr {M M1 M2 : Mem} (h : EX M M1) (g : EX M1 M2) : EX M M2 := ⟨Nat.le_trans h.1 g.1, fun b hb => by
  have h1 := h.2 b hb
  have h2 := g.2 b (Nat.lt_of_lt_of_le hb h.1)
  exact ⟨h2.1.trans h1.1, h2.2.1.trans h1.2.1, h2.2.2.trans h1.2.2⟩⟩
theorem EX.j {M M1 : Mem} {I : AS} (h : EX M M1) (e : ∀ b j, b < mN M → I b j = mI M1 b j) : EX M (mJ M1 I) := ⟨h.1, fun b hb => ⟨(h.2 b hb).1, (funext fun j => e b j hb).trans (h.2 b hb).2.1, (h.2 b hb).2.2⟩⟩
set_option maxRecDepth 20000 in
set_option maxHeartbeats 3000000 in
theorem c_linesByRings {G : Ctx} {M : Mem} (hX : XO M) (hN : 92 ≤ mN M) {a : Nat} {cd : CD} (hRc : mR M 47 0 = a) (hC : CA M a) (haN : a + 13 < mN M) (hD : CC (mI M) a cd) (hW : WFc cd) {h : Int → Int} (n : Nat) (n6 : n ≤ 6) (hL : HL cd h n) {x1 : Nat} (hx1 : x1 < mN M) (hx : mS M x1 = (1, n)) (hh : ∀ i : Int, 0 ≤ i → i < n → mI M x1 i = h i) : CT G m_X11_linesByRings 4 2 (n + n) [vR 21, vR x1] M (fun r M' => r = some (vR (mN M)) ∧ EX M M' ∧ mN M' = mN M + 2 ∧ mS M' (mN M) = (1, n) ∧ ∀ i : Int, 0 ≤ i → i < n → mI M' (mN M) i = nm1 (rgI cd h n n (fun _ => -1000000) i)) := by
  refine CT.of k_X11_linesByRings 5 (ls := [some (vR 21), some (vR x1), none, none, none, none, none]) rfl (Nat.le_of_ble_eq_true rfl) ?_
  refine EV.room (kc := 0 + 1 + 1) (ks := 0 + n + n) (by omega) (by omega) ?_
  refine E_aload_n dX11_linesByRings_0 rfl ?_
  refine E_alen dX11_linesByRings_1 hx ?_
  refine E_istore_n dX11_linesByRings_2 rfl (by decide) ?_
  try dsimp only [List.set]
  refine E_iload_n dX11_linesByRings_3 rfl ?_
  refine E_newI (N := n) dX11_linesByRings_4 n_arrI rfl (by omega) ?_
  refine E_astore_n dX11_linesByRings_6 rfl (by decide) ?_
  try dsimp only [List.set]
  refine E_iload_n dX11_linesByRings_7 rfl ?_
  refine E_newI (N := n) dX11_linesByRings_8 n_arrI rfl (by omega) ?_
  refine E_astore dX11_linesByRings_10 rfl (by decide) ?_
  try dsimp only [List.set]
  refine E_aload_n dX11_linesByRings_12 rfl ?_
  refine E_iconst dX11_linesByRings_13 (by decide) ?_
  refine i_X11_358 rfl dX11_linesByRings_14 (c_fill n (by exact m2r_y M n) (by omega)) (by omega) (Nat.le_of_ble_eq_true rfl) rfl rfl ?_
  rintro _ _ ⟨rfl, rfl⟩
  change EV _ _ _ _ _ _ _ _ _ (m2r M n)
  try dsimp only [pu]
  refine E_iconst dX11_linesByRings_17 (by decide) ?_
  refine E_istore dX11_linesByRings_18 rfl (by decide) ?_
  try dsimp only [List.set]
  have hE := m2r_ex M n
  have e2 : ∀ b j, b < mN M → mI (m2r M n) b j = mI M b j := fun b j hb => congrFun (hE.2 b hb).2.1 j
  refine EV.post (fun x M' hq => ?_) (l_rg (M := m2r M n) (y := mN M) (z := mN M + 1) (hX.ex hN hE) ((congrFun (hE.2 47 (by omega)).2.2 0).trans hRc) (hC.ex haN hE) (hD.off (fun b j b0 b1 => e2 b j (by omega))) hW n n6 hL ((hE.2 x1 hx1).1.trans hx) (m2r_y M n) (m2r_z M n) (fun i i0 i1 => (e2 _ _ hx1).trans (hh i i0 i1)) (by omega) (by omega) n 0 (mI (m2r M n)) _ (by omega) ⟨fun _ _ _ _ => rfl, fun i i0 i1 => ?_⟩)
  · obtain ⟨rfl, I, rfl, hI1, hI2⟩ := hq
    exact ⟨rfl, hE.j (fun b j hb => hI1 b j (by omega) (by omega)), rfl, m2r_y M n, hI2⟩
  · show fil (mI (mNew (mNew M (1, n)) (1, n))) (mN M) 0 n (-1) (mN M) i = _; rw [fil_at _ (by omega)]; rfl
set_option maxRecDepth 20000 in
set_option maxHeartbeats 3000000 in
theorem x_rings {G : Ctx} {M : Mem} {A : AS} {B : Int} (hI : CI M A) (hG : GA A B) (hB : B ≤ 900000) {a c w : Int} (c0 : -2147483648 ≤ c - 1 ∧ c ≤ 2147483647) : CT G m_X11_rings 5 3 18 [vR 21, vI a, vI c, vI w] M (xM M (s_rings A a c w) (t_rings A a c w)) := by
  refine CT.of k_X11_rings 1 (ls := [some (vR 21), some (vI a), some (vI c), some (vI w), none]) rfl (Nat.le_of_ble_eq_true rfl) ?_
  obtain ⟨hX, hN, hR, hT, hK, hS, hW0, hW1, hW2⟩ := id hI
  obtain ⟨ca, hRc, hC, hca, haN, hD, hH, hE, hSn, hg, hZ⟩ := hW0
  have hW := hG.w.c
  have hpn := hW.pn
  have hl8 := hW.ln
  have hr8 := hW.rn
  have hgg := hG.w.g
  have hth := hG.th
  have hV := hG.w.hv
  refine E_aload_n dX11_rings_0 rfl ?_
  refine i_X11_158 rfl dX11_rings_1 (by exact hX.o) (c_noCourt hX hRc hC hD) (by omega) (Nat.le_of_ble_eq_true rfl) rfl rfl ?_
  rintro _ _ ⟨rfl, rfl⟩
  try dsimp only [pu]
  refine E_if_eq (tgt := 10) dX11_rings_4 (by decide) (fun h4 => ?_) (fun h4 => ?_)
  · simp only [tB0, ne_eq, Bool.not_eq_false, Bool.not_eq_true, decide_eq_true_eq, decide_eq_false_iff_not, Classical.not_not] at h4
    refine E_aload_n dX11_rings_10 rfl ?_
    refine g_X11_10 rfl dX11_rings_11 hX.o hX.rows ?_
    refine E_iload_n dX11_rings_14 rfl ?_
    refine i_X11_64 rfl dX11_rings_15 (by exact hX.rp.o) (c_xIsRow (by exact hX.rp)) (by omega) (Nat.le_of_ble_eq_true rfl) rfl rfl ?_
    rintro _ _ ⟨rfl, rfl⟩
    try dsimp only [pu]
    refine E_if_eq (tgt := 42) dX11_rings_18 (by decide) (fun h18 => ?_) (fun h18 => ?_)
    · simp only [tB0, ne_eq, Bool.not_eq_false, Bool.not_eq_true, decide_eq_true_eq, decide_eq_false_iff_not, Classical.not_not] at h18
      refine c_X11_72 rfl dX11_rings_42 ?_
      refine E_iret dX11_rings_44 rfl ?_
      refine ⟨?_, ?_, (FX.rfl' M)⟩
      · congr 2; unfold s_rings; rw [if_neg (by omega), if_pos (by omega)]; try rfl
      · unfold t_rings; rw [if_neg (by omega), if_pos (by omega)]; exact hI
    · simp only [tB0, ne_eq, Bool.not_eq_false, Bool.not_eq_true, decide_eq_true_eq, decide_eq_false_iff_not, Classical.not_not] at h18
      refine E_iload_n dX11_rings_21 rfl ?_
      refine E_iconst dX11_rings_22 (by decide) ?_
      refine E_bipush dX11_rings_23 (by decide) ?_
      refine i_X11_68 rfl dX11_rings_25 c_isIn (by omega) (Nat.le_of_ble_eq_true rfl) rfl rfl ?_
      rintro _ _ ⟨rfl, rfl⟩
      try dsimp only [pu]
      refine E_if_eq (tgt := 42) dX11_rings_28 (by decide) (fun h28 => ?_) (fun h28 => ?_)
      · simp only [tB0, ne_eq, Bool.not_eq_false, Bool.not_eq_true, decide_eq_true_eq, decide_eq_false_iff_not, Classical.not_not] at h28
        refine c_X11_72 rfl dX11_rings_42 ?_
        refine E_iret dX11_rings_44 rfl ?_
        refine ⟨?_, ?_, (FX.rfl' M)⟩
        · congr 2; unfold s_rings; rw [if_neg (by omega), if_pos (by omega)]; try rfl
        · unfold t_rings; rw [if_neg (by omega), if_pos (by omega)]; exact hI
      · simp only [tB0, ne_eq, Bool.not_eq_false, Bool.not_eq_true, decide_eq_true_eq, decide_eq_false_iff_not, Classical.not_not] at h28
        refine E_iload_n dX11_rings_31 rfl ?_
        refine E_iconst dX11_rings_32 (by decide) ?_
        refine E_iload_n dX11_rings_33 rfl ?_
        refine E_iconst dX11_rings_34 (by decide) ?_
        refine E_isub dX11_rings_35 (by omega) (by omega) ?_
        refine i_X11_68 rfl dX11_rings_36 c_isIn (by omega) (Nat.le_of_ble_eq_true rfl) rfl rfl ?_
        rintro _ _ ⟨rfl, rfl⟩
        try dsimp only [pu]
        refine E_if_ne (tgt := 45) dX11_rings_39 (by decide) (fun h39 => ?_) (fun h39 => ?_)
        · simp only [tB0, ne_eq, Bool.not_eq_false, Bool.not_eq_true, decide_eq_true_eq, decide_eq_false_iff_not, Classical.not_not] at h39
          obtain ⟨n, rfl⟩ := Int.eq_ofNat_of_zero_le (show 0 ≤ c by omega)
          have hsz := hG.sz (r := a) (by omega) (by omega)
          have hln := hG.ln (r := a) (by omega) (by omega)
          refine E_aload_n dX11_rings_45 rfl ?_
          refine g_X11_10 rfl dX11_rings_46 hX.o hX.rows ?_
          refine E_iload_n dX11_rings_49 rfl ?_
          refine i_X11_84 rfl dX11_rings_50 (by exact hX.rp.o) (c_isMissing (by exact hX.rp) (by omega) (hR a (by omega) (by omega)).1) (by omega) (Nat.le_of_ble_eq_true rfl) rfl rfl ?_
          rintro _ _ ⟨rfl, rfl⟩
          try dsimp only [pu]
          refine E_if_eq (tgt := 62) dX11_rings_53 (by decide) (fun h53 => ?_) (fun h53 => ?_)
          · simp only [tB0, ne_eq, Bool.not_eq_false, Bool.not_eq_true, decide_eq_true_eq, decide_eq_false_iff_not, Classical.not_not] at h53
            refine E_aload_n dX11_rings_62 rfl ?_
            refine g_X11_10 rfl dX11_rings_63 hX.o hX.rows ?_
            refine E_iload_n dX11_rings_66 rfl ?_
            refine E_iconst dX11_rings_67 (by decide) ?_
            refine E_iload_n dX11_rings_68 rfl ?_
            refine i_X11_87 rfl dX11_rings_69 (by exact hX.rp.o) (c_hasItems (by exact hX.rp) (by omega) ((hR a (by omega) (by omega)).2 (by omega)).1 hsz (by omega)) (by omega) (Nat.le_of_ble_eq_true rfl) rfl rfl ?_
            rintro _ _ ⟨rfl, rfl⟩
            try dsimp only [pu]
            refine E_if_ne (tgt := 81) dX11_rings_72 (by decide) (fun h72 => ?_) (fun h72 => ?_)
            · simp only [tB0, ne_eq, Bool.not_eq_false, Bool.not_eq_true, decide_eq_true_eq, decide_eq_false_iff_not, Classical.not_not] at h72
              have hfi : ∀ k : Int, 0 ≤ k → k < n → mI M 25 (40 * a + k) = (fun p => A 3 (40 * a + p)) k := fun k k0 k1 => ((hR a (by omega) (by omega)).2 (by omega)).2 k (by omega) (by omega)
              refine E_aload_n dX11_rings_81 rfl ?_
              refine g_X11_10 rfl dX11_rings_82 hX.o hX.rows ?_
              refine E_iload_n dX11_rings_85 rfl ?_
              refine E_iconst dX11_rings_86 (by decide) ?_
              refine E_iload_n dX11_rings_87 rfl ?_
              refine E_iconst dX11_rings_88 (by decide) ?_
              refine E_aload_n dX11_rings_89 rfl ?_
              refine g_X11_48 rfl dX11_rings_90 hX.o hX.wash ?_
              refine g_X11_168 rfl dX11_rings_93 hX.w0.o hRc ?_
              refine g_X11_131 rfl dX11_rings_96 hC.o hD.lnc ?_
              refine E_iconst dX11_rings_99 (by decide) ?_
              refine E_isub dX11_rings_100 (by omega) (by omega) ?_
              refine i_X11_175 rfl dX11_rings_101 (by exact hX.rp.o) (c_areIn (by exact hX.rp) (by omega) n (by omega) (g := (fun p => A 3 (40 * a + p))) (by exact fun k k0 k1 => by rw [Int.zero_add]; exact hfi k k0 k1)) (by omega) (Nat.le_of_ble_eq_true rfl) rfl rfl ?_
              rintro _ _ ⟨rfl, rfl⟩
              try dsimp only [pu]
              refine E_if_eq (tgt := 119) dX11_rings_104 (by decide) (fun h104 => ?_) (fun h104 => ?_)
              · simp only [tB0, ne_eq, Bool.not_eq_false, Bool.not_eq_true, decide_eq_true_eq, decide_eq_false_iff_not, Classical.not_not] at h104
                refine c_X11_72 rfl dX11_rings_119 ?_
                refine E_iret dX11_rings_121 rfl ?_
                refine ⟨?_, ?_, FX.rfl' M⟩
                · unfold s_rings; simp only [Int.toNat_natCast]; rw [if_neg (by omega), if_neg (by omega), if_neg (by omega), if_neg (by omega), if_pos (fun z => by rw [show fIn _ _ _ n = false from h104] at z; exact absurd z.1 (by simp))]
                · unfold t_rings; simp only [Int.toNat_natCast]; rw [if_neg (by omega), if_neg (by omega), if_neg (by omega), if_neg (by omega), if_pos (fun z => by rw [show fIn _ _ _ n = false from h104] at z; exact absurd z.1 (by simp))]; exact hI
              · simp only [tB0, ne_eq, Bool.not_eq_false, Bool.not_eq_true, decide_eq_true_eq, decide_eq_false_iff_not, Classical.not_not] at h104
                refine E_aload_n dX11_rings_107 rfl ?_
                refine g_X11_10 rfl dX11_rings_108 hX.o hX.rows ?_
                refine E_iload_n dX11_rings_111 rfl ?_
                refine E_iload_n dX11_rings_112 rfl ?_
                refine i_X11_250 rfl dX11_rings_113 (by exact hX.rp.o) (c_areUnlike (by exact hX.rp) (by omega) n (by omega) (g := (fun p => A 3 (40 * a + p))) (by exact hfi)) (by omega) (Nat.le_of_ble_eq_true rfl) rfl rfl ?_
                rintro _ _ ⟨rfl, rfl⟩
                try dsimp only [pu]
                refine E_if_ne (tgt := 122) dX11_rings_116 (by decide) (fun h116 => ?_) (fun h116 => ?_)
                · simp only [tB0, ne_eq, Bool.not_eq_false, Bool.not_eq_true, decide_eq_true_eq, decide_eq_false_iff_not, Classical.not_not] at h116
                  have hHL := HL.of h104 h116
                  refine EV.room (kc := 0 + 2 + 1) (ks := 0 + (n + n) + n) (by omega) (by omega) ?_
                  refine E_aload_n dX11_rings_122 rfl ?_
                  refine E_aload_n dX11_rings_123 rfl ?_
                  refine g_X11_10 rfl dX11_rings_124 hX.o hX.rows ?_
                  refine E_iload_n dX11_rings_127 rfl ?_
                  refine E_iload_n dX11_rings_128 rfl ?_
                  refine i_X11_253 rfl dX11_rings_129 (by exact hX.rp.o) (c_firstItems (by exact hX.rp) (by omega) (by omega) n (by omega)) (by omega) (Nat.le_of_ble_eq_true rfl) rfl rfl ?_
                  rintro _ M9 ⟨rfl, hE9, hN9, hs9, hv9⟩
                  have hI9 := hI.ex hE9
                  have e9 : ∀ b j, b < mN M → mI M9 b j = mI M b j := fun b j hb => congrFun (hE9.2 b hb).2.1 j
                  try dsimp only [pu]
                  refine i_X11_257 rfl dX11_rings_132 (by exact hI9.1.o) (c_linesByRings hI9.1 hI9.2.1 ((congrFun (hE9.2 47 (by omega)).2.2 0).trans hRc) (hC.ex haN hE9) (by omega) (by exact hD.off (fun b j b0 b1 => e9 b j (by omega))) hW (h := (fun p => A 3 (40 * a + p))) n (by omega) hHL (x1 := mN M) (by omega) hs9 (fun i i0 i1 => (hv9 i i0 i1).trans (hfi i i0 i1))) (by omega) (Nat.le_of_ble_eq_true rfl) rfl rfl ?_
                  rintro _ M8 ⟨rfl, hE8, hN8, hs8, hv8⟩
                  have hI8 := hI9.ex hE8
                  have hF8 : FX M M8 := (FX.ex hN hE9).tr (FX.ex (by omega) hE8)
                  try dsimp only [pu]
                  refine E_astore dX11_rings_135 rfl (by decide) ?_
                  try dsimp only [List.set]
                  refine E_aload_n dX11_rings_137 rfl ?_
                  refine E_aload dX11_rings_138 rfl ?_
                  refine E_iload_n dX11_rings_140 rfl ?_
                  refine E_iald dX11_rings_141 hs8 (by omega) (by omega) (hv8 _ (by omega) (by omega)) ?_
                  refine i_X11_81 rfl dX11_rings_142 (by exact hI8.1.o) (c_unfound (by exact hI8.1.o)) (by omega) (Nat.le_of_ble_eq_true rfl) rfl rfl ?_
                  rintro _ _ ⟨rfl, rfl⟩
                  try dsimp only [pu]
                  refine E_iret dX11_rings_145 rfl ?_
                  have hgl := GL.i hHL n (g := (fun _ => -1000000)) (fun i _ _ => Or.inl rfl) w (by omega) (by omega)
                  have hdn := rgI_more hHL n (fun _ => -1000000) (cnt_b _ n).2
                  obtain ⟨wn, rfl⟩ := Int.eq_ofNat_of_zero_le (show 0 ≤ w by omega)
                  have hne := cnt_0 n hdn wn (by omega)
                  have hne2 := of_decide_eq_false hne
                  refine ⟨?_, ?_, hF8.w (by omega)⟩
                  · unfold s_rings; simp only [Int.toNat_natCast]; rw [if_neg (by omega), if_neg (by omega), if_neg (by omega), if_neg (by omega), if_neg (fun z => z ⟨h104, h116⟩)]
                    congr 2; unfold nm1; rw [if_neg hne2]
                  · unfold t_rings; simp only [Int.toNat_natCast]; rw [if_neg (by omega), if_neg (by omega), if_neg (by omega), if_neg (by omega), if_neg (fun z => z ⟨h104, h116⟩)]; exact hI8.st 0
                · simp only [tB0, ne_eq, Bool.not_eq_false, Bool.not_eq_true, decide_eq_true_eq, decide_eq_false_iff_not, Classical.not_not] at h116
                  refine c_X11_72 rfl dX11_rings_119 ?_
                  refine E_iret dX11_rings_121 rfl ?_
                  refine ⟨?_, ?_, FX.rfl' M⟩
                  · unfold s_rings; simp only [Int.toNat_natCast]; rw [if_neg (by omega), if_neg (by omega), if_neg (by omega), if_neg (by omega), if_pos (fun z => by rw [show fUn _ n = false from h116] at z; exact absurd z.2 (by simp))]
                  · unfold t_rings; simp only [Int.toNat_natCast]; rw [if_neg (by omega), if_neg (by omega), if_neg (by omega), if_neg (by omega), if_pos (fun z => by rw [show fUn _ n = false from h116] at z; exact absurd z.2 (by simp))]; exact hI
            · simp only [tB0, ne_eq, Bool.not_eq_false, Bool.not_eq_true, decide_eq_true_eq, decide_eq_false_iff_not, Classical.not_not] at h72
              refine E_aload_n dX11_rings_75 rfl ?_
              refine E_iconst dX11_rings_76 (by decide) ?_
              refine i_X11_73 rfl dX11_rings_77 (by exact hX.o) (c_found (by exact hX.o) (by omega) (by omega)) (by omega) (Nat.le_of_ble_eq_true rfl) rfl rfl ?_
              rintro _ _ ⟨rfl, rfl⟩
              try dsimp only [pu]
              refine E_iret dX11_rings_80 rfl ?_
              refine ⟨?_, ?_, ((FX.rfl' M).w (by omega))⟩
              · congr 2; unfold s_rings; rw [if_neg (by omega), if_neg (by omega), if_neg (by omega), if_pos (by omega)]; try rfl
              · unfold t_rings; rw [if_neg (by omega), if_neg (by omega), if_neg (by omega), if_pos (by omega)]; exact (hI.st 2)
          · simp only [tB0, ne_eq, Bool.not_eq_false, Bool.not_eq_true, decide_eq_true_eq, decide_eq_false_iff_not, Classical.not_not] at h53
            refine E_aload_n dX11_rings_56 rfl ?_
            refine E_iconst dX11_rings_57 (by decide) ?_
            refine i_X11_73 rfl dX11_rings_58 (by exact hX.o) (c_found (by exact hX.o) (by omega) (by omega)) (by omega) (Nat.le_of_ble_eq_true rfl) rfl rfl ?_
            rintro _ _ ⟨rfl, rfl⟩
            try dsimp only [pu]
            refine E_iret dX11_rings_61 rfl ?_
            refine ⟨?_, ?_, ((FX.rfl' M).w (by omega))⟩
            · congr 2; unfold s_rings; rw [if_neg (by omega), if_neg (by omega), if_pos (by omega)]; try rfl
            · unfold t_rings; rw [if_neg (by omega), if_neg (by omega), if_pos (by omega)]; exact (hI.st 1)
        · simp only [tB0, ne_eq, Bool.not_eq_false, Bool.not_eq_true, decide_eq_true_eq, decide_eq_false_iff_not, Classical.not_not] at h39
          refine c_X11_72 rfl dX11_rings_42 ?_
          refine E_iret dX11_rings_44 rfl ?_
          refine ⟨?_, ?_, (FX.rfl' M)⟩
          · congr 2; unfold s_rings; rw [if_neg (by omega), if_pos (by omega)]; try rfl
          · unfold t_rings; rw [if_neg (by omega), if_pos (by omega)]; exact hI
  · simp only [tB0, ne_eq, Bool.not_eq_false, Bool.not_eq_true, decide_eq_true_eq, decide_eq_false_iff_not, Classical.not_not] at h4
    refine c_X11_154 rfl dX11_rings_7 ?_
    refine E_iret dX11_rings_9 rfl ?_
    refine ⟨?_, ?_, (FX.rfl' M)⟩
    · congr 2; unfold s_rings; rw [if_pos (by omega)]; try rfl
    · unfold t_rings; rw [if_pos (by omega)]; exact hI
