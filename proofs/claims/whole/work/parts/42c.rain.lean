set_option maxRecDepth 20000 in
set_option maxHeartbeats 3000000 in
theorem l_nextIn {G : Ctx} {M : Mem} {m : Nat} {cd : CD} (hO : MO M m) (hQ : MC (mI M) m cd) (hW : WFc cd) (n : Nat) (hn : cd 2 = n) {s : Int} {tk : Nat → Bool} (hB : BS s n tk) : ∀ (k r : Nat) (z : Option MV), r + k = n → EV G m_X12_nextIn 1 0 0 (rI M (nx cd (fun p => hg_ cd p && !tk p) n)) 5 [some (vR m), some (vI s), some (vI (nx cd (fun p => hg_ cd p && !tk p) r)), some (vI (r : Int)), z] [] M := by
  intro k
  induction k with
  | zero =>
    intro r z hr
    obtain rfl : r = n := by omega
    have hpn := hW.pn
    refine E_iload_n dX12_nextIn_5 rfl ?_
    refine E_aload_n dX12_nextIn_6 rfl ?_
    refine g_X12_19 rfl dX12_nextIn_7 hO.o hO.court ?_
    refine E_iconst dX12_nextIn_10 (by decide) ?_
    refine E_iald dX12_nextIn_11 hO.s_court (by omega) (by omega) (hQ.at (j := 2) (by omega) (by omega) (by omega)) ?_
    refine E_icmp_ge (tgt := 79) dX12_nextIn_12 (by decide) (fun h12 => ?_) (fun h12 => ?_)
    · refine E_iload_n dX12_nextIn_79 rfl ?_
      refine E_iret dX12_nextIn_80 rfl ?_
      exact ⟨rfl, rfl⟩
    · exfalso; omega
  | succ k ih =>
    intro r z hr
    have hpn := hW.pn
    have hbt := hB.bit (p := r) (by omega) (by omega)
    have hr2 := nx_r cd (fun p => hg_ cd p && !tk p) r
    refine E_iload_n dX12_nextIn_5 rfl ?_
    refine E_aload_n dX12_nextIn_6 rfl ?_
    refine g_X12_19 rfl dX12_nextIn_7 hO.o hO.court ?_
    refine E_iconst dX12_nextIn_10 (by decide) ?_
    refine E_iald dX12_nextIn_11 hO.s_court (by omega) (by omega) (hQ.at (j := 2) (by omega) (by omega) (by omega)) ?_
    refine E_icmp_ge (tgt := 79) dX12_nextIn_12 (by decide) (fun h12 => ?_) (fun h12 => ?_)
    · exfalso; omega
    · refine E_aload_n dX12_nextIn_15 rfl ?_
      refine E_iload_n dX12_nextIn_16 rfl ?_
      refine E_iconst dX12_nextIn_17 (by decide) ?_
      refine i_X12_202 rfl dX12_nextIn_18 (by exact hO.o) (c_of hO hQ (j := 88 + 6 * ↑r) (by omega) (by omega) (by omega)) (by omega) (Nat.le_of_ble_eq_true rfl) rfl rfl ?_
      rintro _ _ ⟨rfl, rfl⟩
      try dsimp only [pu]
      refine c_X12_89 rfl dX12_nextIn_21 ?_
      refine E_icmp_eq (tgt := 38) dX12_nextIn_23 (by decide) (fun h23 => ?_) (fun h23 => ?_)
      · refine E_iconst dX12_nextIn_38 (by decide) ?_
        refine E_istore dX12_nextIn_39 rfl (by decide) ?_
        try dsimp only [List.set]
        refine E_iload dX12_nextIn_41 rfl ?_
        refine E_if_eq (tgt := 71) dX12_nextIn_43 (by decide) (fun h43 => ?_) (fun h43 => ?_)
        · refine E_iload_n dX12_nextIn_71 rfl ?_
          refine E_istore_n dX12_nextIn_72 rfl (by decide) ?_
          try dsimp only [List.set]
          refine E_iinc dX12_nextIn_73 rfl (by omega) (by omega) (by decide) rfl (by decide) ?_
          try dsimp only [List.set]
          refine E_goto (tgt := 5) dX12_nextIn_76 (by decide) ?_
          have hb : (fun p => hg_ cd p && !tk p) r = false := by unfold hg_ cHu; simp only []; rw [decide_eq_false (by omega)]; rfl
          have e : nx cd (fun p => hg_ cd p && !tk p) (r + 1) = nx cd (fun p => hg_ cd p && !tk p) r := by simp only [nx]; rw [if_neg (fun z => by rw [show (hg_ cd r && !tk r) = false from hb] at z; exact absurd z.1 (by simp))]
          exact EV.lq (by rw [e]; rfl) (ih (r + 1) _ (by omega))
        · exfalso; omega
      · refine E_iload_n dX12_nextIn_26 rfl ?_
        refine E_iload_n dX12_nextIn_27 rfl ?_
        refine E_ishr dX12_nextIn_28 ?_
        refine E_iconst dX12_nextIn_29 (by decide) ?_
        refine E_iand dX12_nextIn_30 ?_
        rw [hbt]
        refine E_if_ne (tgt := 38) dX12_nextIn_31 (by decide) (fun h31 => ?_) (fun h31 => ?_)
        · simp only [tB0, ne_eq, Bool.not_eq_false, Bool.not_eq_true, decide_eq_true_eq, decide_eq_false_iff_not, Classical.not_not] at h31
          refine E_iconst dX12_nextIn_38 (by decide) ?_
          refine E_istore dX12_nextIn_39 rfl (by decide) ?_
          try dsimp only [List.set]
          refine E_iload dX12_nextIn_41 rfl ?_
          refine E_if_eq (tgt := 71) dX12_nextIn_43 (by decide) (fun h43 => ?_) (fun h43 => ?_)
          · refine E_iload_n dX12_nextIn_71 rfl ?_
            refine E_istore_n dX12_nextIn_72 rfl (by decide) ?_
            try dsimp only [List.set]
            refine E_iinc dX12_nextIn_73 rfl (by omega) (by omega) (by decide) rfl (by decide) ?_
            try dsimp only [List.set]
            refine E_goto (tgt := 5) dX12_nextIn_76 (by decide) ?_
            have hb : (fun p => hg_ cd p && !tk p) r = false := by unfold hg_ cHu; simp only []; rw [show tk r = true from h31]; simp
            have e : nx cd (fun p => hg_ cd p && !tk p) (r + 1) = nx cd (fun p => hg_ cd p && !tk p) r := by simp only [nx]; rw [if_neg (fun z => by rw [show (hg_ cd r && !tk r) = false from hb] at z; exact absurd z.1 (by simp))]
            exact EV.lq (by rw [e]; rfl) (ih (r + 1) _ (by omega))
          · exfalso; omega
        · simp only [tB0, ne_eq, Bool.not_eq_false, Bool.not_eq_true, decide_eq_true_eq, decide_eq_false_iff_not, Classical.not_not] at h31
          refine E_iconst dX12_nextIn_34 (by decide) ?_
          refine E_goto (tgt := 39) dX12_nextIn_35 (by decide) ?_
          refine E_istore dX12_nextIn_39 rfl (by decide) ?_
          try dsimp only [List.set]
          refine E_iload dX12_nextIn_41 rfl ?_
          refine E_if_eq (tgt := 71) dX12_nextIn_43 (by decide) (fun h43 => ?_) (fun h43 => ?_)
          · exfalso; omega
          · refine E_iload_n dX12_nextIn_46 rfl ?_
            refine c_X12_89 rfl dX12_nextIn_47 ?_
            refine E_icmp_eq (tgt := 67) dX12_nextIn_49 (by decide) (fun h49 => ?_) (fun h49 => ?_)
            · refine E_iload_n dX12_nextIn_67 rfl ?_
              refine E_goto (tgt := 72) dX12_nextIn_68 (by decide) ?_
              refine E_istore_n dX12_nextIn_72 rfl (by decide) ?_
              try dsimp only [List.set]
              refine E_iinc dX12_nextIn_73 rfl (by omega) (by omega) (by decide) rfl (by decide) ?_
              try dsimp only [List.set]
              refine E_goto (tgt := 5) dX12_nextIn_76 (by decide) ?_
              have hb : (fun p => hg_ cd p && !tk p) r = true := by unfold hg_ cHu; simp only []; rw [decide_eq_true (by omega), show tk r = false from h31]; rfl
              have e : nx cd (fun p => hg_ cd p && !tk p) (r + 1) = r := by simp only [nx]; rw [if_pos ⟨hb, by omega⟩]
              exact EV.lq (by rw [e]; rfl) (ih (r + 1) _ (by omega))
            · refine E_aload_n dX12_nextIn_52 rfl ?_
              refine E_iload_n dX12_nextIn_53 rfl ?_
              refine E_iconst dX12_nextIn_54 (by decide) ?_
              refine i_X12_202 rfl dX12_nextIn_55 (by exact hO.o) (c_of hO hQ (j := 87 + 6 * ↑r) (by omega) (by omega) (by omega)) (by omega) (Nat.le_of_ble_eq_true rfl) rfl rfl ?_
              rintro _ _ ⟨rfl, rfl⟩
              try dsimp only [pu]
              refine E_aload_n dX12_nextIn_58 rfl ?_
              refine E_iload_n dX12_nextIn_59 rfl ?_
              refine E_iconst dX12_nextIn_60 (by decide) ?_
              refine i_X12_202 rfl dX12_nextIn_61 (by exact hO.o) (c_of hO hQ (j := 87 + 6 * nx cd (fun p => hg_ cd p && !tk p) r) (by omega) (by omega) (by omega)) (by omega) (Nat.le_of_ble_eq_true rfl) rfl rfl ?_
              rintro _ _ ⟨rfl, rfl⟩
              try dsimp only [pu]
              refine E_icmp_le (tgt := 71) dX12_nextIn_64 (by decide) (fun h64 => ?_) (fun h64 => ?_)
              · refine E_iload_n dX12_nextIn_71 rfl ?_
                refine E_istore_n dX12_nextIn_72 rfl (by decide) ?_
                try dsimp only [List.set]
                refine E_iinc dX12_nextIn_73 rfl (by omega) (by omega) (by decide) rfl (by decide) ?_
                try dsimp only [List.set]
                refine E_goto (tgt := 5) dX12_nextIn_76 (by decide) ?_
                have hb : (fun p => hg_ cd p && !tk p) r = true := by unfold hg_ cHu; simp only []; rw [decide_eq_true (by omega), show tk r = false from h31]; rfl
                have e : nx cd (fun p => hg_ cd p && !tk p) (r + 1) = nx cd (fun p => hg_ cd p && !tk p) r := by simp only [nx]; rw [if_neg (fun z => by omega)]
                exact EV.lq (by rw [e]; rfl) (ih (r + 1) _ (by omega))
              · refine E_iload_n dX12_nextIn_67 rfl ?_
                refine E_goto (tgt := 72) dX12_nextIn_68 (by decide) ?_
                refine E_istore_n dX12_nextIn_72 rfl (by decide) ?_
                try dsimp only [List.set]
                refine E_iinc dX12_nextIn_73 rfl (by omega) (by omega) (by decide) rfl (by decide) ?_
                try dsimp only [List.set]
                refine E_goto (tgt := 5) dX12_nextIn_76 (by decide) ?_
                have hb : (fun p => hg_ cd p && !tk p) r = true := by unfold hg_ cHu; simp only []; rw [decide_eq_true (by omega), show tk r = false from h31]; rfl
                have e : nx cd (fun p => hg_ cd p && !tk p) (r + 1) = r := by simp only [nx]; rw [if_pos ⟨hb, by omega⟩]
                exact EV.lq (by rw [e]; rfl) (ih (r + 1) _ (by omega))
set_option maxRecDepth 20000 in
set_option maxHeartbeats 3000000 in
theorem c_nextIn {G : Ctx} {M : Mem} {m : Nat} {cd : CD} (hO : MO M m) (hQ : MC (mI M) m cd) (hW : WFc cd) (n : Nat) (hn : cd 2 = n) {s : Int} {tk : Nat → Bool} (hB : BS s n tk) : CT G m_X12_nextIn 1 0 0 [vR m, vI s] M (rI M (nx cd (fun p => hg_ cd p && !tk p) n)) := by
  refine CT.of k_X12_nextIn 3 (ls := [some (vR m), some (vI s), none, none, none]) rfl (Nat.le_of_ble_eq_true rfl) ?_
  refine c_X12_89 rfl dX12_nextIn_0 ?_
  refine E_istore_n dX12_nextIn_2 rfl (by decide) ?_
  try dsimp only [List.set]
  refine E_iconst dX12_nextIn_3 (by decide) ?_
  refine E_istore_n dX12_nextIn_4 rfl (by decide) ?_
  try dsimp only [List.set]
  exact l_nextIn hO hQ hW n hn hB n 0 _ (by omega)
