/-! ===== 29: Court: the lines below, a line at a place ===== -/
set_option maxRecDepth 20000 in
set_option maxHeartbeats 1200000 in
theorem l_nextBelow {G : Ctx} {M : Mem} {a : Nat} {cd : CD} (hC : CA M a) (n : Nat) (hn : cd 0 = n) (h8 : n ≤ 8) (hlc : mI M a 1 = cd 0) (hf : ∀ l, 0 ≤ l → l < cd 0 → mI M (a + 2) l = cd (28 + 3 * l)) (hc : ∀ l, 0 ≤ l → l < cd 0 → mI M (a + 3) l = cd (29 + 3 * l)) {l : Int} (l0 : 0 ≤ l) (l1 : l < cd 0) : ∀ (k r : Nat) , r + k = n → EV G m_X1_nextBelow 0 0 0 (rI M (nm1 (fBel cd l n))) 4 [some (vR a), some (vI l), some (vI (nm1 (fBel cd l r))), some (vI (r : Int))] [] M := by
  intro k
  induction k with
  | zero =>
    intro r  hr
    obtain rfl : r = n := by omega
    refine E_iload_n dX1_nextBelow_4 rfl ?_
    refine E_aload_n dX1_nextBelow_5 rfl ?_
    refine g_X1_51 rfl dX1_nextBelow_6 hC.o (hlc.trans hn) ?_
    refine E_icmp_ge (tgt := 69) dX1_nextBelow_9 (by decide) (fun h9 => ?_) (fun h9 => ?_)
    · refine E_iload_n dX1_nextBelow_69 rfl ?_
      refine E_iret dX1_nextBelow_70 rfl ?_
      exact ⟨rfl, rfl⟩
    · exfalso; omega
  | succ k ih =>
    intro r  hr
    have hb := fBel_r cd l r
    refine E_iload_n dX1_nextBelow_4 rfl ?_
    refine E_aload_n dX1_nextBelow_5 rfl ?_
    refine g_X1_51 rfl dX1_nextBelow_6 hC.o (hlc.trans hn) ?_
    refine E_icmp_ge (tgt := 69) dX1_nextBelow_9 (by decide) (fun h9 => ?_) (fun h9 => ?_)
    · exfalso; omega
    · refine E_aload_n dX1_nextBelow_12 rfl ?_
      refine g_X1_18 rfl dX1_nextBelow_13 hC.o hC.columns ?_
      refine E_iload_n dX1_nextBelow_16 rfl ?_
      refine E_iald dX1_nextBelow_17 hC.s_columns (by omega) (by omega) (hc _ (by omega) (by omega)) ?_
      refine E_aload_n dX1_nextBelow_18 rfl ?_
      refine g_X1_18 rfl dX1_nextBelow_19 hC.o hC.columns ?_
      refine E_iload_n dX1_nextBelow_22 rfl ?_
      refine E_iald dX1_nextBelow_23 hC.s_columns (by omega) (by omega) (hc _ (by omega) (by omega)) ?_
      refine E_icmp_ne (tgt := 63) dX1_nextBelow_24 (by decide) (fun h24 => ?_) (fun h24 => ?_)
      · refine E_iinc dX1_nextBelow_63 rfl (by omega) (by omega) (by decide) rfl (by decide) ?_
        try dsimp only [List.set]
        refine E_goto (tgt := 4) dX1_nextBelow_66 (by decide) ?_
        exact EV.lq (by simp only [fBel]; rw [if_neg (fun z => by have z1 := z.1; have z2 := z.2; omega)]; rfl) (ih (r + 1) (by omega))
      · refine E_aload_n dX1_nextBelow_27 rfl ?_
        refine g_X1_15 rfl dX1_nextBelow_28 hC.o hC.floors ?_
        refine E_iload_n dX1_nextBelow_31 rfl ?_
        refine E_iald dX1_nextBelow_32 hC.s_floors (by omega) (by omega) (hf _ (by omega) (by omega)) ?_
        refine E_aload_n dX1_nextBelow_33 rfl ?_
        refine g_X1_15 rfl dX1_nextBelow_34 hC.o hC.floors ?_
        refine E_iload_n dX1_nextBelow_37 rfl ?_
        refine E_iald dX1_nextBelow_38 hC.s_floors (by omega) (by omega) (hf _ (by omega) (by omega)) ?_
        refine E_icmp_ge (tgt := 63) dX1_nextBelow_39 (by decide) (fun h39 => ?_) (fun h39 => ?_)
        · refine E_iinc dX1_nextBelow_63 rfl (by omega) (by omega) (by decide) rfl (by decide) ?_
          try dsimp only [List.set]
          refine E_goto (tgt := 4) dX1_nextBelow_66 (by decide) ?_
          exact EV.lq (by simp only [fBel]; rw [if_neg (fun z => by have z1 := z.1; have z2 := z.2; omega)]; rfl) (ih (r + 1) (by omega))
        · refine E_iload_n dX1_nextBelow_42 rfl ?_
          refine E_if_lt (tgt := 61) dX1_nextBelow_43 (by decide) (fun h43 => ?_) (fun h43 => ?_)
          · refine E_iload_n dX1_nextBelow_61 rfl ?_
            refine E_istore_n dX1_nextBelow_62 rfl (by decide) ?_
            try dsimp only [List.set]
            refine E_iinc dX1_nextBelow_63 rfl (by omega) (by omega) (by decide) rfl (by decide) ?_
            try dsimp only [List.set]
            refine E_goto (tgt := 4) dX1_nextBelow_66 (by decide) ?_
            exact EV.lq (by simp only [fBel]; rw [if_pos ⟨⟨by omega, by omega⟩, Or.inl (by unfold nm1 at h43; split at h43 <;> omega)⟩]; simp only [nm1]; rw [if_neg (by omega)]; rfl) (ih (r + 1) (by omega))
          · have hnn : nm1 (fBel cd l r) = fBel cd l r := by unfold nm1 at h43 ⊢; split <;> omega
            refine E_aload_n dX1_nextBelow_46 rfl ?_
            refine g_X1_15 rfl dX1_nextBelow_47 hC.o hC.floors ?_
            refine E_iload_n dX1_nextBelow_50 rfl ?_
            refine E_iald dX1_nextBelow_51 hC.s_floors (by omega) (by omega) (hf _ (by omega) (by omega)) ?_
            refine E_aload_n dX1_nextBelow_52 rfl ?_
            refine g_X1_15 rfl dX1_nextBelow_53 hC.o hC.floors ?_
            refine E_iload_n dX1_nextBelow_56 rfl ?_
            refine E_iald dX1_nextBelow_57 hC.s_floors (by omega) (by omega) ((congrArg (mI M (a + 2)) hnn).trans (hf _ (by omega) (by omega))) ?_
            refine E_icmp_le (tgt := 63) dX1_nextBelow_58 (by decide) (fun h58 => ?_) (fun h58 => ?_)
            · refine E_iinc dX1_nextBelow_63 rfl (by omega) (by omega) (by decide) rfl (by decide) ?_
              try dsimp only [List.set]
              refine E_goto (tgt := 4) dX1_nextBelow_66 (by decide) ?_
              exact EV.lq (by simp only [fBel]; rw [if_neg (fun z => by have z1 := z.1; have z2 := z.2; omega)]; rfl) (ih (r + 1) (by omega))
            · refine E_iload_n dX1_nextBelow_61 rfl ?_
              refine E_istore_n dX1_nextBelow_62 rfl (by decide) ?_
              try dsimp only [List.set]
              refine E_iinc dX1_nextBelow_63 rfl (by omega) (by omega) (by decide) rfl (by decide) ?_
              try dsimp only [List.set]
              refine E_goto (tgt := 4) dX1_nextBelow_66 (by decide) ?_
              exact EV.lq (by simp only [fBel]; rw [if_pos ⟨⟨by omega, by omega⟩, Or.inr (by omega)⟩]; simp only [nm1]; rw [if_neg (by omega)]; rfl) (ih (r + 1) (by omega))
set_option maxRecDepth 20000 in
set_option maxHeartbeats 1200000 in
theorem c_nextBelow {G : Ctx} {M : Mem} {a : Nat} {cd : CD} (hC : CA M a) (n : Nat) (hn : cd 0 = n) (h8 : n ≤ 8) (hlc : mI M a 1 = cd 0) (hf : ∀ l, 0 ≤ l → l < cd 0 → mI M (a + 2) l = cd (28 + 3 * l)) (hc : ∀ l, 0 ≤ l → l < cd 0 → mI M (a + 3) l = cd (29 + 3 * l)) {l : Int} (l0 : 0 ≤ l) (l1 : l < cd 0) : CT G m_X1_nextBelow 0 0 0 [vR a, vI l] M (rI M (nm1 (fBel cd l n))) := by
  refine CT.of k_X1_nextBelow 2 (ls := [some (vR a), some (vI l), none, none]) rfl (Nat.le_of_ble_eq_true rfl) ?_
  refine E_iconst dX1_nextBelow_0 (by decide) ?_
  refine E_istore_n dX1_nextBelow_1 rfl (by decide) ?_
  try dsimp only [List.set]
  refine E_iconst dX1_nextBelow_2 (by decide) ?_
  refine E_istore_n dX1_nextBelow_3 rfl (by decide) ?_
  try dsimp only [List.set]
  exact EV.lq rfl (l_nextBelow hC n hn h8 hlc hf hc l0 l1 n 0 (by omega))
set_option maxRecDepth 20000 in
set_option maxHeartbeats 1200000 in
theorem l_findBelow {G : Ctx} {M : Mem} {a : Nat} {cd : CD} (hC : CA M a) (n : Nat) (hn : cd 0 = n) (h8 : n ≤ 8) (hlc : mI M a 1 = cd 0) (hf : ∀ l, 0 ≤ l → l < cd 0 → mI M (a + 2) l = cd (28 + 3 * l)) (hc : ∀ l, 0 ≤ l → l < cd 0 → mI M (a + 3) l = cd (29 + 3 * l)) : ∀ (k r : Nat) (I : Nat → Int → Int), r + k = n → ((∀ b j, b ≠ a + 5 → I b j = mI M b j) ∧ ∀ l : Int, 0 ≤ l → l < r → I (a + 5) l = nm1 (fBel cd l n)) → EV G m_X1_findLinesBelow 1 0 0 (rJ M (fun I => (∀ b j, b ≠ a + 5 → I b j = mI M b j) ∧ ∀ l : Int, 0 ≤ l → l < n → I (a + 5) l = nm1 (fBel cd l n))) 2 [some (vR a), some (vI (r : Int))] [] (mJ M I) := by
  intro k
  induction k with
  | zero =>
    intro r I hr hi
    obtain rfl : r = n := by omega
    have hlI : mI (mJ M I) a 1 = cd 0 := (hi.1 _ _ (by omega)).trans hlc
    have hfI : ∀ l, 0 ≤ l → l < cd 0 → mI (mJ M I) (a + 2) l = cd (28 + 3 * l) := fun l l0 l1 => (hi.1 _ _ (by omega)).trans (hf l l0 l1)
    have hcI : ∀ l, 0 ≤ l → l < cd 0 → mI (mJ M I) (a + 3) l = cd (29 + 3 * l) := fun l l0 l1 => (hi.1 _ _ (by omega)).trans (hc l l0 l1)
    refine E_iload_n dX1_findLinesBelow_2 rfl ?_
    refine E_aload_n dX1_findLinesBelow_3 rfl ?_
    refine g_X1_51 rfl dX1_findLinesBelow_4 hC.o (hlI.trans hn) ?_
    refine E_icmp_ge (tgt := 27) dX1_findLinesBelow_7 (by decide) (fun h7 => ?_) (fun h7 => ?_)
    · refine E_vret dX1_findLinesBelow_27 rfl ?_
      exact ⟨rfl, I, rfl, hi⟩
    · exfalso; omega
  | succ k ih =>
    intro r I hr hi
    have hlI : mI (mJ M I) a 1 = cd 0 := (hi.1 _ _ (by omega)).trans hlc
    have hfI : ∀ l, 0 ≤ l → l < cd 0 → mI (mJ M I) (a + 2) l = cd (28 + 3 * l) := fun l l0 l1 => (hi.1 _ _ (by omega)).trans (hf l l0 l1)
    have hcI : ∀ l, 0 ≤ l → l < cd 0 → mI (mJ M I) (a + 3) l = cd (29 + 3 * l) := fun l l0 l1 => (hi.1 _ _ (by omega)).trans (hc l l0 l1)
    refine E_iload_n dX1_findLinesBelow_2 rfl ?_
    refine E_aload_n dX1_findLinesBelow_3 rfl ?_
    refine g_X1_51 rfl dX1_findLinesBelow_4 hC.o (hlI.trans hn) ?_
    refine E_icmp_ge (tgt := 27) dX1_findLinesBelow_7 (by decide) (fun h7 => ?_) (fun h7 => ?_)
    · exfalso; omega
    · refine E_aload_n dX1_findLinesBelow_10 rfl ?_
      refine g_X1_24 rfl dX1_findLinesBelow_11 hC.o hC.below ?_
      refine E_iload_n dX1_findLinesBelow_14 rfl ?_
      refine E_aload_n dX1_findLinesBelow_15 rfl ?_
      refine E_iload_n dX1_findLinesBelow_16 rfl ?_
      refine i_X1_61 rfl dX1_findLinesBelow_17 (by exact hC.o) (c_nextBelow (hC.j I) n hn h8 hlI hfI hcI (by omega) (by omega)) (by omega) (Nat.le_of_ble_eq_true rfl) rfl rfl ?_
      rintro _ _ ⟨rfl, rfl⟩
      try dsimp only [pu]
      refine E_iast dX1_findLinesBelow_20 hC.s_below (by omega) (by omega) ?_
      refine E_iinc dX1_findLinesBelow_21 rfl (by omega) (by omega) (by decide) rfl (by decide) ?_
      try dsimp only [List.set]
      refine E_goto (tgt := 2) dX1_findLinesBelow_24 (by decide) ?_
      exact EV.mq rfl rfl (ih (r + 1) (up2 I (a + 5) r (nm1 (fBel cd r n))) (by omega) ⟨fun b j hb => by rw [up2_ne _ _ (fun h => hb h.1)]; exact hi.1 b j hb, fun l l0 l1 => by
        by_cases hl : l = r
        · subst hl; rw [up2_self]
        · rw [up2_ne _ _ (fun h => hl h.2)]; exact hi.2 l l0 (by omega)⟩)
set_option maxRecDepth 20000 in
set_option maxHeartbeats 1200000 in
theorem c_findLinesBelow {G : Ctx} {M : Mem} {a : Nat} {cd : CD} (hC : CA M a) (n : Nat) (hn : cd 0 = n) (h8 : n ≤ 8) (hlc : mI M a 1 = cd 0) (hf : ∀ l, 0 ≤ l → l < cd 0 → mI M (a + 2) l = cd (28 + 3 * l)) (hc : ∀ l, 0 ≤ l → l < cd 0 → mI M (a + 3) l = cd (29 + 3 * l)) : CT G m_X1_findLinesBelow 1 0 0 [vR a] M (rJ M (fun I => (∀ b j, b ≠ a + 5 → I b j = mI M b j) ∧ ∀ l : Int, 0 ≤ l → l < n → I (a + 5) l = nm1 (fBel cd l n))) := by
  refine CT.of k_X1_findLinesBelow 1 (ls := [some (vR a), none]) rfl (Nat.le_of_ble_eq_true rfl) ?_
  refine E_iconst dX1_findLinesBelow_0 (by decide) ?_
  refine E_istore_n dX1_findLinesBelow_1 rfl (by decide) ?_
  try dsimp only [List.set]
  exact l_findBelow hC n hn h8 hlc hf hc n 0 (mI M) (by omega) ⟨fun _ _ _ => rfl, fun l l0 l1 => by omega⟩
