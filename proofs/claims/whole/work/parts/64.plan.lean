/-! ===== 64: plans of the reference: how soon they are dry ===== -/
set_option maxRecDepth 20000 in
set_option maxHeartbeats 3000000 in
theorem l_dby {G : Ctx} {M : Mem} {m : Nat} {cd : CD} (hO : MO M m) (hQ : MC (mI M) m cd) (hW : WFc cd) {hu : Int → Int} (hV : HV cd hu) (hw9 : ∀ p, 0 ≤ p → p < cd 2 → 0 ≤ cWe cd p ∧ cWe cd p ≤ 99) (hs1 : ∀ p, 0 ≤ p → p < cd 2 → cSn cd p = 0 ∨ cSn cd p = 1) (np : Nat) (hn : cd 2 = np) (g0 : 0 ≤ cd 3) (g1 : cd 3 ≤ 900000) (n : Nat) (n4 : n ≤ 4) (nn : n ≤ np) {s0 : Int} (h0 : BS s0 np (fun p => decide (cSn cd p = 1))) {x2 x3 : Int} {x4 : Int} : ∀ (k r : Nat) (I : Nat → Int → Int), r + k = 49 → QI M m cd hu (cWe cd) (cSn cd) (cd 3) np r I → EV G m_X12_dryBy 4 0 0 (fun x M' => x = some (vI (if ltE (eD cd hu np (cWe cd) (cSn cd) (cd 3) 0 n) k r = 49 then -1000000 else ltE (eD cd hu np (cWe cd) (cSn cd) (cd 3) 0 n) k r)) ∧ ∃ I, M' = mJ M I ∧ ∀ b (j : Int), b ≠ m + 7 → b ≠ m + 8 → ¬ (b = m ∧ j = 20) → I b j = mI M b j) 101 [some (vR m), some (vI (n : Int)), some (vI x2), some (vI x3), some (vI x4), some (vI (bShl 1 n - 1)), some (vI (bAnd s0 (bShl 1 n - 1))), some (vI (r : Int))] [] (mJ M I) := by
  intro k
  induction k with
  | zero =>
    intro r I hr hi
    obtain rfl : r = 49 := by omega
    have hQI : MC (mI (mJ M I)) m cd := fun k h0 h1 => (hi.1 _ _ (by omega) (by omega) (by omega)).trans (hQ k h0 h1)
    have hl8 := hW.ln
    have hpn := hW.pn
    refine E_iload dX12_dryBy_101 rfl ?_
    refine E_bipush dX12_dryBy_103 (by decide) ?_
    refine E_icmp_gt (tgt := 154) dX12_dryBy_105 (by decide) (fun h105 => ?_) (fun h105 => ?_)
    · refine c_X12_89 rfl dX12_dryBy_154 ?_
      refine E_iret dX12_dryBy_156 rfl ?_
      exact ⟨rfl, I, rfl, hi.1⟩
    · exfalso; omega
  | succ k ih =>
    intro r I hr hi
    have hQI : MC (mI (mJ M I)) m cd := fun k h0 h1 => (hi.1 _ _ (by omega) (by omega) (by omega)).trans (hQ k h0 h1)
    have hl8 := hW.ln
    have hpn := hW.pn
    have hsame := (hi.2.2.2.same h0 n4 nn).trans (new_same (cd := cd) (hu := hu) (np := np) (we := cWe cd) (g := cd 3) (t := r) (by omega) hs1)
    have hdl := fDrB_low (we := itW cd hu np (cWe cd) (cd 3) r) (n := n) (fun p hp => (itW_b hw9 r p (by omega) (by omega)).1) np
    rw [show min np n = n by omega] at hdl
    refine E_iload dX12_dryBy_101 rfl ?_
    refine E_bipush dX12_dryBy_103 (by decide) ?_
    refine E_icmp_gt (tgt := 154) dX12_dryBy_105 (by decide) (fun h105 => ?_) (fun h105 => ?_)
    · exfalso; omega
    · refine E_aload_n dX12_dryBy_108 rfl ?_
      refine g_X12_199 rfl dX12_dryBy_109 hO.o rfl ?_
      refine E_iload dX12_dryBy_112 rfl ?_
      refine E_iand dX12_dryBy_114 ?_
      refine E_iload dX12_dryBy_115 rfl ?_
      refine E_icmp_eq (tgt := 123) dX12_dryBy_117 (by decide) (fun h117 => ?_) (fun h117 => ?_)
      · refine E_aload_n dX12_dryBy_123 rfl ?_
        refine E_iload dX12_dryBy_124 rfl ?_
        refine i_X12_257 rfl dX12_dryBy_126 (by exact hO.o) (c_mAreDry (hO.j I) hQI hW np hn hi.2.2.1 (BS.low n4 nn)) (by omega) (Nat.le_of_ble_eq_true rfl) rfl rfl ?_
        rintro _ _ ⟨rfl, rfl⟩
        try dsimp only [pu]
        refine E_if_eq (tgt := 135) dX12_dryBy_129 (by decide) (fun h129 => ?_) (fun h129 => ?_)
        · simp only [tB0, ne_eq, Bool.not_eq_false, Bool.not_eq_true, decide_eq_true_eq, decide_eq_false_iff_not, Classical.not_not] at h129
          refine E_aload_n dX12_dryBy_135 rfl ?_
          refine E_aload_n dX12_dryBy_136 rfl ?_
          refine g_X12_19 rfl dX12_dryBy_137 hO.o hO.court ?_
          refine E_iconst dX12_dryBy_140 (by decide) ?_
          refine E_iald dX12_dryBy_141 hO.s_court (by omega) (by omega) (hQI.at (j := 3) (by omega) (by omega) (by omega)) ?_
          refine E_iload dX12_dryBy_142 rfl ?_
          refine E_iadd dX12_dryBy_144 (by omega) (by omega) ?_
          refine i_X12_245 rfl dX12_dryBy_145 (by exact hO.o) (c_goOn (hO.j I) hQI hW hV hi.2.1 hi.2.2.1 (itW_b hw9 r) np hn hi.2.2.2 (q := cd 3 + r) (by omega) (by omega)) (by omega) (Nat.le_of_ble_eq_true rfl) rfl rfl ?_
          rintro _ _ ⟨rfl, J, rfl, hJ⟩
          try dsimp only [pu]
          refine E_iinc dX12_dryBy_148 rfl (by omega) (by omega) (by decide) rfl (by decide) ?_
          try dsimp only [List.set]
          refine E_goto (tgt := 101) dX12_dryBy_151 (by decide) ?_
          have e : ltE (eD cd hu np (cWe cd) (cSn cd) (cd 3) 0 n) (k + 1) r = ltE (eD cd hu np (cWe cd) (cSn cd) (cd 3) 0 n) k (r + 1) := by simp only [ltE]; rw [if_neg (by unfold eD; rw [← hdl, h129]; simp)]
          rw [e]
          exact EV.mq rfl rfl (ih (r + 1) J (by omega) (hi.step hn hJ))
        · simp only [tB0, ne_eq, Bool.not_eq_false, Bool.not_eq_true, decide_eq_true_eq, decide_eq_false_iff_not, Classical.not_not] at h129
          refine E_iload dX12_dryBy_132 rfl ?_
          refine E_iret dX12_dryBy_134 rfl ?_
          have hnf := hsame.mp h117
          have e : ltE (eD cd hu np (cWe cd) (cSn cd) (cd 3) 0 n) (k + 1) r = (r : Int) := by simp only [ltE]; rw [if_pos (by unfold eD; rw [← hdl, h129, hnf]; rfl)]
          exact ⟨by rw [e, if_neg (by omega)], I, rfl, hi.1⟩
      · refine c_X12_89 rfl dX12_dryBy_120 ?_
        refine E_iret dX12_dryBy_122 rfl ?_
        have hnw : fNew (itS cd hu np (cWe cd) (cSn cd) (cd 3) r) (cSn cd) 0 n = true := by
          cases hb : fNew (itS cd hu np (cWe cd) (cSn cd) (cd 3) r) (cSn cd) 0 n
          · exact absurd (hsame.mpr hb) h117
          · rfl
        have e : ltE (eD cd hu np (cWe cd) (cSn cd) (cd 3) 0 n) (k + 1) r = (r : Int) + ((k + 1 : Nat) : Int) := ltE_none (k + 1) r (fun j j0 j1 => by
          unfold eD
          have z := new_keep hnw (j - r)
          rw [show r + (j - r) = j by omega] at z
          rw [z]; simp)
        exact ⟨by rw [if_pos (by rw [e]; omega)], I, rfl, hi.1⟩
