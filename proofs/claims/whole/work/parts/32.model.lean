/-! ===== 32: the reference: dry ones of a set ===== -/
def fDrB (b : Nat → Bool) (we : Int → Int) : Nat → Bool
  | 0 => true
  | k + 1 => fDrB b we k && (!b k || decide (we k = 0))
set_option maxRecDepth 20000 in
set_option maxHeartbeats 1200000 in
theorem l_mAreDry {G : Ctx} {M : Mem} {m : Nat} {cd : CD} (hO : MO M m) (hQ : MC (mI M) m cd) (hW : WFc cd) (n : Nat) (hn : cd 2 = n) {we : Int → Int} {b : Nat → Bool} {s : Int} (hE : ∀ p, 0 ≤ p → p < cd 2 → mI M (m + 8) p = we p) (hB : BS s n b) : ∀ (k r : Nat) , r + k = n → EV G m_X12_areDry 1 0 0 (rI M (tB (fDrB b we n))) 4 [some (vR m), some (vI s), some (vI (tB (fDrB b we r))), some (vI (r : Int))] [] M := by
  intro k
  induction k with
  | zero =>
    intro r  hr
    obtain rfl : r = n := by omega
    have hpn := hW.pn
    have hl8 := hW.ln
    have hr8 := hW.rn
    refine E_iload_n dX12_areDry_4 rfl ?_
    refine E_aload_n dX12_areDry_5 rfl ?_
    refine g_X12_19 rfl dX12_areDry_6 hO.o hO.court ?_
    refine E_iconst dX12_areDry_9 (by decide) ?_
    refine E_iald dX12_areDry_10 hO.s_court (by omega) (by omega) (hQ.at (j := 2) (by omega) (by omega) (by omega)) ?_
    refine E_icmp_ge (tgt := 47) dX12_areDry_11 (by decide) (fun h11 => ?_) (fun h11 => ?_)
    · refine E_iload_n dX12_areDry_47 rfl ?_
      refine E_zret dX12_areDry_48 rfl (tB_nar _) ?_
      exact ⟨rfl, rfl⟩
    · exfalso; omega
  | succ k ih =>
    intro r  hr
    have hpn := hW.pn
    have hl8 := hW.ln
    have hr8 := hW.rn
    have hbt := hB.bit (p := r) (by omega) (by omega)
    refine E_iload_n dX12_areDry_4 rfl ?_
    refine E_aload_n dX12_areDry_5 rfl ?_
    refine g_X12_19 rfl dX12_areDry_6 hO.o hO.court ?_
    refine E_iconst dX12_areDry_9 (by decide) ?_
    refine E_iald dX12_areDry_10 hO.s_court (by omega) (by omega) (hQ.at (j := 2) (by omega) (by omega) (by omega)) ?_
    refine E_icmp_ge (tgt := 47) dX12_areDry_11 (by decide) (fun h11 => ?_) (fun h11 => ?_)
    · exfalso; omega
    · refine E_iload_n dX12_areDry_14 rfl ?_
      refine E_if_eq (tgt := 39) dX12_areDry_15 (by decide) (fun h15 => ?_) (fun h15 => ?_)
      · simp only [tB0, ne_eq, Bool.not_eq_false, Bool.not_eq_true, decide_eq_true_eq, decide_eq_false_iff_not, Classical.not_not] at h15
        refine E_iconst dX12_areDry_39 (by decide) ?_
        refine E_istore_n dX12_areDry_40 rfl (by decide) ?_
        try dsimp only [List.set]
        refine E_iinc dX12_areDry_41 rfl (by omega) (by omega) (by decide) rfl (by decide) ?_
        try dsimp only [List.set]
        refine E_goto (tgt := 4) dX12_areDry_44 (by decide) ?_
        exact EV.lq (by simp only [fDrB, h15, Bool.false_and]; rfl) (ih (r + 1) (by omega))
      · simp only [tB0, ne_eq, Bool.not_eq_false, Bool.not_eq_true, decide_eq_true_eq, decide_eq_false_iff_not, Classical.not_not] at h15
        refine E_iload_n dX12_areDry_18 rfl ?_
        refine E_iload_n dX12_areDry_19 rfl ?_
        refine E_ishr dX12_areDry_20 ?_
        refine E_iconst dX12_areDry_21 (by decide) ?_
        refine E_iand dX12_areDry_22 ?_
        rw [hbt]
        refine E_if_eq (tgt := 35) dX12_areDry_23 (by decide) (fun h23 => ?_) (fun h23 => ?_)
        · simp only [tB0, ne_eq, Bool.not_eq_false, Bool.not_eq_true, decide_eq_true_eq, decide_eq_false_iff_not, Classical.not_not] at h23
          refine E_iconst dX12_areDry_35 (by decide) ?_
          refine E_goto (tgt := 40) dX12_areDry_36 (by decide) ?_
          refine E_istore_n dX12_areDry_40 rfl (by decide) ?_
          try dsimp only [List.set]
          refine E_iinc dX12_areDry_41 rfl (by omega) (by omega) (by decide) rfl (by decide) ?_
          try dsimp only [List.set]
          refine E_goto (tgt := 4) dX12_areDry_44 (by decide) ?_
          exact EV.lq (by simp only [fDrB, h15, h23, Bool.true_and, Bool.not_false, Bool.true_or]; rfl) (ih (r + 1) (by omega))
        · simp only [tB0, ne_eq, Bool.not_eq_false, Bool.not_eq_true, decide_eq_true_eq, decide_eq_false_iff_not, Classical.not_not] at h23
          refine E_aload_n dX12_areDry_26 rfl ?_
          refine g_X12_31 rfl dX12_areDry_27 hO.o hO.wet ?_
          refine E_iload_n dX12_areDry_30 rfl ?_
          refine E_iald dX12_areDry_31 hO.s_wet (by omega) (by omega) (hE _ (by omega) (by omega)) ?_
          refine E_if_ne (tgt := 39) dX12_areDry_32 (by decide) (fun h32 => ?_) (fun h32 => ?_)
          · refine E_iconst dX12_areDry_39 (by decide) ?_
            refine E_istore_n dX12_areDry_40 rfl (by decide) ?_
            try dsimp only [List.set]
            refine E_iinc dX12_areDry_41 rfl (by omega) (by omega) (by decide) rfl (by decide) ?_
            try dsimp only [List.set]
            refine E_goto (tgt := 4) dX12_areDry_44 (by decide) ?_
            exact EV.lq (by simp only [fDrB, h15, h23, Bool.true_and, Bool.not_true, Bool.false_or]; rw [decide_eq_false (by omega)]; rfl) (ih (r + 1) (by omega))
          · refine E_iconst dX12_areDry_35 (by decide) ?_
            refine E_goto (tgt := 40) dX12_areDry_36 (by decide) ?_
            refine E_istore_n dX12_areDry_40 rfl (by decide) ?_
            try dsimp only [List.set]
            refine E_iinc dX12_areDry_41 rfl (by omega) (by omega) (by decide) rfl (by decide) ?_
            try dsimp only [List.set]
            refine E_goto (tgt := 4) dX12_areDry_44 (by decide) ?_
            exact EV.lq (by simp only [fDrB, h15, h23, Bool.true_and, Bool.not_true, Bool.false_or]; rw [decide_eq_true (by omega)]; rfl) (ih (r + 1) (by omega))
set_option maxRecDepth 20000 in
set_option maxHeartbeats 1200000 in
theorem c_mAreDry {G : Ctx} {M : Mem} {m : Nat} {cd : CD} (hO : MO M m) (hQ : MC (mI M) m cd) (hW : WFc cd) (n : Nat) (hn : cd 2 = n) {we : Int → Int} {b : Nat → Bool} {s : Int} (hE : ∀ p, 0 ≤ p → p < cd 2 → mI M (m + 8) p = we p) (hB : BS s n b) : CT G m_X12_areDry 1 0 0 [vR m, vI s] M (rI M (tB (fDrB b we n))) := by
  refine CT.of k_X12_areDry 2 (ls := [some (vR m), some (vI s), none, none]) rfl (Nat.le_of_ble_eq_true rfl) ?_
  refine E_iconst dX12_areDry_0 (by decide) ?_
  refine E_istore_n dX12_areDry_1 rfl (by decide) ?_
  try dsimp only [List.set]
  refine E_iconst dX12_areDry_2 (by decide) ?_
  refine E_istore_n dX12_areDry_3 rfl (by decide) ?_
  try dsimp only [List.set]
  exact l_mAreDry hO hQ hW n hn hE hB n 0 (by omega)
