/-! ===== 66: plans of the reference: a row of lines put up ===== -/
set_option maxRecDepth 20000 in
set_option maxHeartbeats 3000000 in
theorem l_dby2 {G : Ctx} {M : Mem} {m : Nat} {cd : CD} (hO : MO M m) (hQ : MC (mI M) m cd) (hW : WFc cd) (g0 : 0 ≤ cd 3) (g1 : cd 3 ≤ 900000) (np : Nat) (hn : cd 2 = np) (rn : Nat) (hrn : cd 1 = rn) (L : Nat) (hL : cd 0 = L) (n : Nat) (n4 : n ≤ 4) (nn : n ≤ np) {hu0 : Int → Int} {row : Nat} {Q : Option MV → Mem → Prop} (KR : ∀ I : AS, (∀ b (j : Int), b ≠ m + 7 → I b j = mI M b j) → dL cd np rn n L n 0 hu0 row = 49 → Q (some (vI (-1000000))) (mJ M I)) (K : ∀ (I : AS) (hu : Int → Int) (left X : Nat), (∀ b (j : Int), b ≠ m + 7 → I b j = mI M b j) → (∀ q : Int, 0 ≤ q → q < cd 2 → I (m + 7) q = hu q) → HV cd hu → dL cd np rn n L n 0 hu0 row = tmD cd hu np 0 n → EV G m_X12_dryBy 4 0 0 Q 82 [some (vR m), some (vI (n : Int)), some (vI (row : Int)), some (vI (left : Int)), some (vI (X : Int)), some (vI (n : Int)), none, none] [] (mJ M I)) : ∀ (k r : Nat) (I : Nat → Int → Int) (hu : Int → Int) (left X : Nat), r + k = n → ((∀ b (j : Int), b ≠ m + 7 → I b j = mI M b j) ∧ (∀ q : Int, 0 ≤ q → q < cd 2 → I (m + 7) q = hu q) ∧ HV cd hu ∧ dL cd np rn n L n 0 hu0 row = dL cd np rn n L (n - r) r hu left ∧ left < L ^ (n - r) ∧ (r < n → X = L ^ (n - 1 - r))) → EV G m_X12_dryBy 4 0 0 (Q) 38 [some (vR m), some (vI (n : Int)), some (vI (row : Int)), some (vI (left : Int)), some (vI (X : Int)), some (vI (r : Int)), none, none] [] (mJ M I) := by
  intro k
  induction k with
  | zero =>
    intro r I hu left X hr hi
    obtain rfl : r = n := by omega
    refine E_iload dX12_dryBy_38 rfl ?_
    refine E_iload_n dX12_dryBy_40 rfl ?_
    refine E_icmp_ge (tgt := 82) dX12_dryBy_41 (by decide) (fun h41 => ?_) (fun h41 => ?_)
    · exact K I hu left X hi.1 hi.2.1 hi.2.2.1 (hi.2.2.2.1.trans (by rw [Nat.sub_self]; rfl))
    · exfalso; omega
  | succ k ih =>
    intro r I hu left X hr hi
    obtain ⟨w, hw⟩ : ∃ w, n - r = w + 1 := ⟨n - 1 - r, by omega⟩
    have hX : X = L ^ w := by rw [hi.2.2.2.2.2 (by omega), show n - 1 - r = w by omega]
    have hl8 := hW.ln
    have hpn := hW.pn
    have hlt : left < X * L := by
      have z := hi.2.2.2.2.1
      rw [hw, Nat.pow_succ, ← hX] at z; exact z
    have hX0 : 0 < X := by
      rcases Nat.eq_zero_or_pos X with z | z
      · rw [z, Nat.zero_mul] at hlt; omega
      · exact z
    have hL0 : 0 < L := by
      rcases Nat.eq_zero_or_pos L with z | z
      · rw [z, Nat.mul_zero] at hlt; omega
      · exact z
    have hX4 : X ≤ 4096 := by rw [hX]; exact powB (by omega) (by omega)
    obtain ⟨l, hl⟩ : ∃ l, l = left / X := ⟨_, rfl⟩
    have hlL : l < L := by rw [hl]; exact Nat.div_lt_of_lt_mul hlt
    obtain ⟨l2, hl2⟩ : ∃ l2, l2 = left % X := ⟨_, rfl⟩
    have hlX : l2 < X := by rw [hl2]; exact Nat.mod_lt _ hX0
    obtain ⟨X2, hX2⟩ : ∃ X2, X2 = X / L := ⟨_, rfl⟩
    have hX5 : X2 ≤ 4096 := by rw [hX2]; exact Nat.le_trans (Nat.div_le_self _ _) hX4
    have ed : Int.tdiv (left : Int) (X : Int) = (l : Int) := by rw [hl]; rfl
    have em : Int.tmod (left : Int) (X : Int) = (l2 : Int) := by rw [hl2]; rfl
    have e3 : Int.tdiv (X : Int) (L : Int) = (X2 : Int) := by rw [hX2]; rfl
    have hdl : dL cd np rn n L n 0 hu0 row = if (fRef cd hu (cd 3) (r : Int) (l : Int) np rn) = 0 then dL cd np rn n L w (r + 1) (upH hu (r : Int) (l : Int)) l2 else 49 := by
      rw [hi.2.2.2.1, hw, hl, hl2, hX]; rfl
    have hQI : MC (mI (mJ M I)) m cd := fun k h0 h1 => (hi.1 _ _ (by omega)).trans (hQ k h0 h1)
    refine E_iload dX12_dryBy_38 rfl ?_
    refine E_iload_n dX12_dryBy_40 rfl ?_
    refine E_icmp_ge (tgt := 82) dX12_dryBy_41 (by decide) (fun h41 => ?_) (fun h41 => ?_)
    · exfalso; omega
    · refine E_aload_n dX12_dryBy_44 rfl ?_
      refine E_iload dX12_dryBy_45 rfl ?_
      refine E_iload_n dX12_dryBy_47 rfl ?_
      refine E_iload dX12_dryBy_48 rfl ?_
      refine E_idiv dX12_dryBy_50 (by omega) (by rw [ed]; omega) (by rw [ed]; omega) ?_
      rw [ed]
      refine i_X12_224 rfl dX12_dryBy_51 (by exact hO.o) (c_comes (hO.j I) hQI hW hi.2.1 g0 (by omega) np hn rn hrn (by omega) (by omega) (by omega) (by omega)) (by omega) (Nat.le_of_ble_eq_true rfl) rfl rfl ?_
      rintro _ M9 ⟨rfl, hM⟩
      obtain ⟨J, rfl, hJ7, hJo⟩ := com_mem hi.2.1 hM
      have hQJ : MC (mI (mJ M J)) m cd := fun k h0 h1 => (hJo _ _ (by omega)).trans (hQI k h0 h1)
      try dsimp only [pu]
      refine E_if_ge (tgt := 60) dX12_dryBy_54 (by decide) (fun h54 => ?_) (fun h54 => ?_)
      · refine E_iload_n dX12_dryBy_60 rfl ?_
        refine E_iload dX12_dryBy_61 rfl ?_
        refine E_irem dX12_dryBy_63 (by omega) (by rw [ed]; omega) (by rw [ed]; omega) ?_
        rw [em]
        refine E_istore_n dX12_dryBy_64 rfl (by decide) ?_
        try dsimp only [List.set]
        refine E_iload dX12_dryBy_65 rfl ?_
        refine E_aload_n dX12_dryBy_67 rfl ?_
        refine g_X12_19 rfl dX12_dryBy_68 hO.o hO.court ?_
        refine E_iconst dX12_dryBy_71 (by decide) ?_
        refine E_iald dX12_dryBy_72 hO.s_court (by omega) (by omega) ((hQJ.at (j := 0) (by omega) (by omega) (by omega)).trans hL) ?_
        refine E_idiv dX12_dryBy_73 (by omega) (by rw [e3]; omega) (by rw [e3]; omega) ?_
        rw [e3]
        refine E_istore dX12_dryBy_74 rfl (by decide) ?_
        try dsimp only [List.set]
        refine E_iinc dX12_dryBy_76 rfl (by omega) (by omega) (by decide) rfl (by decide) ?_
        try dsimp only [List.set]
        refine E_goto (tgt := 38) dX12_dryBy_79 (by decide) ?_
        have hz : (fRef cd hu (cd 3) (r : Int) (l : Int) np rn) = 0 := by
          rcases fRef_sg cd hu (cd 3) r l np rn with hz | hz
          · exact hz
          · exfalso; rw [if_neg (by omega)] at h54; omega
        rw [if_pos hz] at hJ7
        rw [if_pos hz] at hdl
        refine EV.mq rfl rfl (ih (r + 1) J (upH hu (r : Int) (l : Int)) l2 X2 (by omega) ⟨fun b j hb => (hJo b j hb).trans (hi.1 b j hb), hJ7, hi.2.2.1.up ⟨by omega, by omega⟩, by rw [hdl, show n - (r + 1) = w by omega], ?_, fun h => ?_⟩)
        · rw [show n - (r + 1) = w by omega, ← hX]; exact hlX
        · rw [hX2, hX, show w = (n - 1 - (r + 1)) + 1 by omega, Nat.pow_succ, Nat.mul_div_cancel _ hL0]
      · refine c_X12_89 rfl dX12_dryBy_57 ?_
        refine E_iret dX12_dryBy_59 rfl ?_
        have hz : (fRef cd hu (cd 3) (r : Int) (l : Int) np rn) ≠ 0 := fun hz => by
          have := fLeft_nn hW (by omega) hz
          rw [if_pos hz] at h54; omega
        exact KR J (fun b j hb => (hJo b j hb).trans (hi.1 b j hb)) (by rw [hdl, if_neg hz])
set_option maxRecDepth 20000 in
set_option maxHeartbeats 3000000 in
theorem c_dryBy {G : Ctx} {M : Mem} {m : Nat} {cd : CD} (hO : MO M m) (hQ : MC (mI M) m cd) (hW : WFc cd) (hV : HV cd (cHu cd)) (hw9 : ∀ p, 0 ≤ p → p < cd 2 → 0 ≤ cWe cd p ∧ cWe cd p ≤ 99) (hs1 : ∀ p, 0 ≤ p → p < cd 2 → cSn cd p = 0 ∨ cSn cd p = 1) (g0 : 0 ≤ cd 3) (g1 : cd 3 ≤ 900000) (np : Nat) (hn : cd 2 = np) (rn : Nat) (hrn : cd 1 = rn) (L : Nat) (hL : cd 0 = L) (n : Nat) (n1 : 1 ≤ n) (n4 : n ≤ 4) (nn : n ≤ np) (row : Nat) (hrow : row < L ^ n) : CT G m_X12_dryBy 4 0 0 [vR m, vI (n : Int), vI (row : Int)] M ((fun x M' => x = some (vI (if (dL cd np rn n L n 0 (cHu cd) row) = 49 then -1000000 else (dL cd np rn n L n 0 (cHu cd) row))) ∧ ∃ I, M' = mJ M I ∧ ∀ b (j : Int), b ≠ m + 7 → b ≠ m + 8 → ¬ (b = m ∧ j = 20) → I b j = mI M b j)) := by
  refine CT.of k_X12_dryBy 5 (ls := [some (vR m), some (vI (n : Int)), some (vI (row : Int)), none, none, none, none, none]) rfl (Nat.le_of_ble_eq_true rfl) ?_
  refine E_aload_n dX12_dryBy_0 rfl ?_
  refine i_X12_221 rfl dX12_dryBy_1 (by exact hO.o) (c_layNow hO hQ hW hs1 np hn) (by omega) (Nat.le_of_ble_eq_true rfl) rfl rfl ?_
  rintro _ _ ⟨rfl, I, rfl, hI⟩
  have hQI : MC (mI (mJ M I)) m cd := fun k h0 h1 => (hI.1 _ _ (by omega) (by omega) (by omega)).trans (hQ k h0 h1)
  have hHI : ∀ q, 0 ≤ q → q < cd 2 → I (m + 7) q = cHu cd q := fun q q0 q1 => (hI.2.1 q q0 (by omega)).1
  try dsimp only [pu]
  refine E_iload_n dX12_dryBy_4 rfl ?_
  refine E_istore_n dX12_dryBy_5 rfl (by decide) ?_
  try dsimp only [List.set]
  refine E_iconst dX12_dryBy_6 (by decide) ?_
  refine E_istore dX12_dryBy_7 rfl (by decide) ?_
  try dsimp only [List.set]
  refine E_iconst dX12_dryBy_9 (by decide) ?_
  refine E_istore dX12_dryBy_10 rfl (by decide) ?_
  try dsimp only [List.set]
  refine EV.lq (by rw [Nat.sub_self]; rfl) (l_dby1 (hO.j I) hQI hW L hL n n4 (x2 := (row : Int)) ?_ (n - 1) 1 (by omega) (by omega))
  refine E_iconst dX12_dryBy_35 (by decide) ?_
  refine E_istore dX12_dryBy_36 rfl (by decide) ?_
  try dsimp only [List.set]
  refine EV.mq rfl rfl (l_dby2 (hO.j I) hQI hW g0 g1 np hn rn hrn L hL n n4 nn (hu0 := cHu cd) (row := row) ?_ ?_ n 0 I (cHu cd) row (L ^ (n - 1)) (by omega) ⟨fun _ _ _ => rfl, hHI, hV, by rw [Nat.sub_zero], by rw [Nat.sub_zero]; exact hrow, fun _ => by rw [Nat.sub_zero]⟩)
  · intro J hJ hd
    exact ⟨by rw [if_pos hd], J, rfl, fun b j h1 h2 h3 => (hJ b j h1).trans (hI.1 b j h1 h2 h3)⟩
  · intro J hu left X hJ1 hJ2 hVu hJd
    have hJ1 : ∀ b (j : Int), b ≠ m + 7 → J b j = I b j := hJ1
    have hQIJ : QI M m cd hu (cWe cd) (cSn cd) (cd 3) np 0 J := ⟨fun b j h1 h2 h3 => (hJ1 b j h1).trans (hI.1 b j h1 h2 h3), hJ2, fun p p0 p1 => (hJ1 _ _ (by omega)).trans (hI.2.1 p p0 (by omega)).2, by rw [hJ1 m 20 (by omega)]; exact hI.2.2⟩
    have hsm := some_eq n n4
    have hs2 : 2 ^ n ≤ 16 := Nat.pow_le_pow_right (n := 2) (by decide) n4
    refine E_iconst dX12_dryBy_82 (by decide) ?_
    refine E_iload_n dX12_dryBy_83 rfl ?_
    refine E_ishl dX12_dryBy_84 ?_
    refine E_iconst dX12_dryBy_85 (by decide) ?_
    refine E_isub dX12_dryBy_86 (by omega) (by omega) ?_
    refine E_istore dX12_dryBy_87 rfl (by decide) ?_
    try dsimp only [List.set]
    refine E_aload_n dX12_dryBy_89 rfl ?_
    refine g_X12_199 rfl dX12_dryBy_90 hO.o rfl ?_
    refine E_iload dX12_dryBy_93 rfl ?_
    refine E_iand dX12_dryBy_95 ?_
    refine E_istore dX12_dryBy_96 rfl (by decide) ?_
    try dsimp only [List.set]
    refine E_iconst dX12_dryBy_98 (by decide) ?_
    refine E_istore dX12_dryBy_99 rfl (by decide) ?_
    try dsimp only [List.set]
    refine EV.post (fun x M' hq => ?_) (EV.mq rfl rfl (l_dby hO hQ hW hVu hw9 hs1 np hn g0 g1 n n4 nn (s0 := J m 20) (by rw [hJ1 m 20 (by omega)]; exact hI.2.2) 49 0 J (by omega) hQIJ))
    obtain ⟨rfl, K, rfl, hK⟩ := hq
    exact ⟨by rw [hJd]; rfl, K, rfl, hK⟩
