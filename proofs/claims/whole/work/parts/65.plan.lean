/-! ===== 65: plans of the reference: the first row ===== -/
set_option maxRecDepth 20000 in
set_option maxHeartbeats 3000000 in
theorem l_dby1 {G : Ctx} {M : Mem} {m : Nat} {cd : CD} (hO : MO M m) (hQ : MC (mI M) m cd) (hW : WFc cd) (L : Nat) (hL : cd 0 = L) (n : Nat) (n4 : n ≤ 4) {x2 : Int} {Q : Option MV → Mem → Prop} (K : EV G m_X12_dryBy 4 0 0 Q 35 [some (vR m), some (vI (n : Int)), some (vI x2), some (vI x2), some (vI ((L ^ (n - 1) : Nat) : Int)), some (vI (n : Int)), none, none] [] M) : ∀ (k r : Nat) , r + k = n → 1 ≤ r → EV G m_X12_dryBy 4 0 0 (Q) 12 [some (vR m), some (vI (n : Int)), some (vI x2), some (vI x2), some (vI ((L ^ (r - 1) : Nat) : Int)), some (vI (r : Int)), none, none] [] M := by
  intro k
  induction k with
  | zero =>
    intro r  hr hi
    obtain rfl : r = n := by omega
    have hl8 := hW.ln
    refine E_iload dX12_dryBy_12 rfl ?_
    refine E_iload_n dX12_dryBy_14 rfl ?_
    refine E_icmp_ge (tgt := 35) dX12_dryBy_15 (by decide) (fun h15 => ?_) (fun h15 => ?_)
    · exact K
    · exfalso; omega
  | succ k ih =>
    intro r  hr hi
    have hl8 := hW.ln
    have hp0 := powB (L := L) (r := r - 1) (by omega) (by omega)
    have hp1 := powB (L := L) (r := r) (by omega) (by omega)
    have hpe : ((L ^ (r - 1) : Nat) : Int) * (L : Int) = ((L ^ r : Nat) : Int) := by
      rw [← Int.natCast_mul, ← Nat.pow_succ, show (r - 1).succ = r by omega]
    refine E_iload dX12_dryBy_12 rfl ?_
    refine E_iload_n dX12_dryBy_14 rfl ?_
    refine E_icmp_ge (tgt := 35) dX12_dryBy_15 (by decide) (fun h15 => ?_) (fun h15 => ?_)
    · exfalso; omega
    · refine E_iload dX12_dryBy_18 rfl ?_
      refine E_aload_n dX12_dryBy_20 rfl ?_
      refine g_X12_19 rfl dX12_dryBy_21 hO.o hO.court ?_
      refine E_iconst dX12_dryBy_24 (by decide) ?_
      refine E_iald dX12_dryBy_25 hO.s_court (by omega) (by omega) ((hQ.at (j := 0) (by omega) (by omega) (by omega)).trans hL) ?_
      refine E_imul dX12_dryBy_26 (by omega) (by omega) ?_
      refine E_istore dX12_dryBy_27 rfl (by decide) ?_
      try dsimp only [List.set]
      refine E_iinc dX12_dryBy_29 rfl (by omega) (by omega) (by decide) rfl (by decide) ?_
      try dsimp only [List.set]
      refine E_goto (tgt := 12) dX12_dryBy_32 (by decide) ?_
      rw [hpe]
      exact EV.lq rfl (ih (r + 1) (by omega) (by omega))
