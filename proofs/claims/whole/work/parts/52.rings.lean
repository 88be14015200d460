/-! ===== 52: rings: turn, rings of the reference ===== -/
set_option maxRecDepth 20000 in
set_option maxHeartbeats 3000000 in
theorem l_turn1 {G : Ctx} {M : Mem} {m : Nat} {cd : CD} (hO : MO M m) (hQ : MC (mI M) m cd) (hW : WFc cd) {h g : Int → Int} (n : Nat) (n6 : n ≤ 6) (hL : HL cd h n) (hh : ∀ i : Int, 0 ≤ i → i < n → mI M (m + 9) i = h i) (hgt : ∀ i : Int, 0 ≤ i → i < n → mI M (m + 10) i = g i) {Q : Option MV → Mem → Prop} (K : ∀ I : AS, ((∀ b j, b ≠ m + 11 → I b j = mI M b j) ∧ ∀ i : Int, 0 ≤ i → i < n → g i = -1000000 → I (m + 11) i = pt cd h g n i) → EV G m_X12_turn 4 0 0 Q 32 [some (vR m), some (vI (n : Int)), some (vI 0), some (vI (n : Int)), none] [] (mJ M I)) : ∀ (k r : Nat) (I : Nat → Int → Int), r + k = n → ((∀ b j, b ≠ m + 11 → I b j = mI M b j) ∧ ∀ i : Int, 0 ≤ i → i < r → g i = -1000000 → I (m + 11) i = pt cd h g n i) → EV G m_X12_turn 4 0 0 (Q) 4 [some (vR m), some (vI (n : Int)), some (vI 0), some (vI (r : Int)), none] [] (mJ M I) := by
  intro k
  induction k with
  | zero =>
    intro r I hr hi
    obtain rfl : r = n := by omega
    refine E_iload_n dX12_turn_4 rfl ?_
    refine E_iload_n dX12_turn_5 rfl ?_
    refine E_icmp_ge (tgt := 32) dX12_turn_6 (by decide) (fun h6 => ?_) (fun h6 => ?_)
    · exact K I hi
    · exfalso; omega
  | succ k ih =>
    intro r I hr hi
    have hQI : MC (mI (mJ M I)) m cd := fun k h0 h1 => (hi.1 _ _ (by omega)).trans (hQ k h0 h1)
    have hhI : ∀ i : Int, 0 ≤ i → i < n → I (m + 9) i = h i := fun i i0 i1 => (hi.1 _ _ (by omega)).trans (hh i i0 i1)
    have hgI : ∀ i : Int, 0 ≤ i → i < n → I (m + 10) i = g i := fun i i0 i1 => (hi.1 _ _ (by omega)).trans (hgt i i0 i1)
    refine E_iload_n dX12_turn_4 rfl ?_
    refine E_iload_n dX12_turn_5 rfl ?_
    refine E_icmp_ge (tgt := 32) dX12_turn_6 (by decide) (fun h6 => ?_) (fun h6 => ?_)
    · exfalso; omega
    · refine E_aload_n dX12_turn_9 rfl ?_
      refine g_X12_37 rfl dX12_turn_10 hO.o hO.gets ?_
      refine E_iload_n dX12_turn_13 rfl ?_
      refine E_iald dX12_turn_14 hO.s_gets (by omega) (by omega) (hgI _ (by omega) (by omega)) ?_
      refine c_X12_89 rfl dX12_turn_15 ?_
      refine E_icmp_ne (tgt := 26) dX12_turn_17 (by decide) (fun h17 => ?_) (fun h17 => ?_)
      · refine E_iinc dX12_turn_26 rfl (by omega) (by omega) (by decide) rfl (by decide) ?_
        try dsimp only [List.set]
        refine E_goto (tgt := 4) dX12_turn_29 (by decide) ?_
        refine EV.mq rfl rfl (ih (r + 1) I (by omega) ⟨hi.1, fun i i0 i1 ig => ?_⟩)
        by_cases e : i = r
        · subst e; omega
        · exact hi.2 i i0 (by omega) ig
      · refine E_aload_n dX12_turn_20 rfl ?_
        refine E_iload_n dX12_turn_21 rfl ?_
        refine E_iload_n dX12_turn_22 rfl ?_
        refine i_X12_271 rfl dX12_turn_23 (by exact hO.o) (c_point (by exact hO) (by exact hQI) hW n n6 hL (by exact hhI) (by exact hgI) r (by omega)) (by omega) (Nat.le_of_ble_eq_true rfl) rfl rfl ?_
        rintro _ _ ⟨rfl, rfl⟩
        try dsimp only [pu]
        refine E_iinc dX12_turn_26 rfl (by omega) (by omega) (by decide) rfl (by decide) ?_
        try dsimp only [List.set]
        refine E_goto (tgt := 4) dX12_turn_29 (by decide) ?_
        refine EV.mq rfl rfl (ih (r + 1) (up2 I (m + 11) r (bst cd h g r n)) (by omega) ⟨fun b j hb => (up2_ne _ _ (fun w => hb w.1)).trans (hi.1 b j hb), fun i i0 i1 ig => ?_⟩)
        by_cases e : i = r
        · rw [e, up2_self]; rfl
        · rw [up2_ne _ _ (by omega)]; exact hi.2 i i0 (by omega) ig
set_option maxRecDepth 20000 in
set_option maxHeartbeats 3000000 in
theorem l_turn2 {G : Ctx} {M : Mem} {m : Nat} {cd : CD} (hO : MO M m) (hQ : MC (mI M) m cd) (hW : WFc cd) {h g : Int → Int} (n : Nat) (n6 : n ≤ 6) (hL : HL cd h n) (hh : ∀ i : Int, 0 ≤ i → i < n → mI M (m + 9) i = h i) (hgt : ∀ i : Int, 0 ≤ i → i < n → mI M (m + 10) i = g i) (hp : ∀ i : Int, 0 ≤ i → i < n → g i = -1000000 → mI M (m + 11) i = pt cd h g n i) {Q : Option MV → Mem → Prop} (K : ∀ s : Int, BS s n (fun k => ung g k && inR (pt cd h g n) (k : Int) n) → EV G m_X12_turn 4 0 0 Q 75 [some (vR m), some (vI (n : Int)), some (vI s), some (vI (n : Int)), none] [] M) : ∀ (k r : Nat) (s : Int), r + k = n → BS s r (fun k => ung g k && inR (pt cd h g n) (k : Int) n) → EV G m_X12_turn 4 0 0 (Q) 34 [some (vR m), some (vI (n : Int)), some (vI s), some (vI (r : Int)), none] [] M := by
  intro k
  induction k with
  | zero =>
    intro r s hr hi
    obtain rfl : r = n := by omega
    refine E_iload_n dX12_turn_34 rfl ?_
    refine E_iload_n dX12_turn_35 rfl ?_
    refine E_icmp_ge (tgt := 75) dX12_turn_36 (by decide) (fun h36 => ?_) (fun h36 => ?_)
    · exact K _ hi
    · exfalso; omega
  | succ k ih =>
    intro r s hr hi
    refine E_iload_n dX12_turn_34 rfl ?_
    refine E_iload_n dX12_turn_35 rfl ?_
    refine E_icmp_ge (tgt := 75) dX12_turn_36 (by decide) (fun h36 => ?_) (fun h36 => ?_)
    · exfalso; omega
    · refine E_iload_n dX12_turn_39 rfl ?_
      refine E_aload_n dX12_turn_40 rfl ?_
      refine g_X12_37 rfl dX12_turn_41 hO.o hO.gets ?_
      refine E_iload_n dX12_turn_44 rfl ?_
      refine E_iald dX12_turn_45 hO.s_gets (by omega) (by omega) (hgt _ (by omega) (by omega)) ?_
      refine c_X12_89 rfl dX12_turn_46 ?_
      refine E_icmp_ne (tgt := 66) dX12_turn_48 (by decide) (fun h48 => ?_) (fun h48 => ?_)
      · refine E_iconst dX12_turn_66 (by decide) ?_
        refine E_ior dX12_turn_67 ?_
        refine E_istore_n dX12_turn_68 rfl (by decide) ?_
        try dsimp only [List.set]
        refine E_iinc dX12_turn_69 rfl (by omega) (by omega) (by decide) rfl (by decide) ?_
        try dsimp only [List.set]
        refine E_goto (tgt := 34) dX12_turn_72 (by decide) ?_
        exact EV.lq (by rw [bOr_0 (by have := hi.ran; omega) (by have := hi.ran; omega)]; rfl) (ih (r + 1) s (by omega) (hi.skip (by unfold ung; (try dsimp only); rw [decide_eq_false (by omega)]; rfl)))
      · have hgr : g r = -1000000 := by omega
        have ho := orb (U := fun x => (0 ≤ x ∧ x < n) ∧ g x = -1000000) (fun x hx => pt_u (cd := cd) (h := h) hx) (k := (r : Int)) ⟨⟨by omega, by omega⟩, hgr⟩
        refine E_aload_n dX12_turn_51 rfl ?_
        refine E_iload_n dX12_turn_52 rfl ?_
        refine E_iload_n dX12_turn_53 rfl ?_
        refine i_X12_274 rfl dX12_turn_54 (by exact hO.o) (c_mIsInRing (f := pt cd h g n) hO n n6 (by omega) (fun j => hp _ (ho j).1.1 (ho j).1.2 (ho j).2) (fun j => (ho j).1)) (by omega) (Nat.le_of_ble_eq_true rfl) rfl rfl ?_
        rintro _ _ ⟨rfl, rfl⟩
        rw [inR_succ (fun j => (ho j).1)]
        try dsimp only [pu]
        refine E_if_eq (tgt := 66) dX12_turn_57 (by decide) (fun h57 => ?_) (fun h57 => ?_)
        · simp only [tB0, ne_eq, Bool.not_eq_false, Bool.not_eq_true, decide_eq_true_eq, decide_eq_false_iff_not, Classical.not_not] at h57
          refine E_iconst dX12_turn_66 (by decide) ?_
          refine E_ior dX12_turn_67 ?_
          refine E_istore_n dX12_turn_68 rfl (by decide) ?_
          try dsimp only [List.set]
          refine E_iinc dX12_turn_69 rfl (by omega) (by omega) (by decide) rfl (by decide) ?_
          try dsimp only [List.set]
          refine E_goto (tgt := 34) dX12_turn_72 (by decide) ?_
          exact EV.lq (by rw [bOr_0 (by have := hi.ran; omega) (by have := hi.ran; omega)]; rfl) (ih (r + 1) s (by omega) (hi.skip (by (try dsimp only); rw [show inR (pt cd h g n) (r : Int) n = false from h57, Bool.and_false])))
        · simp only [tB0, ne_eq, Bool.not_eq_false, Bool.not_eq_true, decide_eq_true_eq, decide_eq_false_iff_not, Classical.not_not] at h57
          refine E_iconst dX12_turn_60 (by decide) ?_
          refine E_iload_n dX12_turn_61 rfl ?_
          refine E_ishl dX12_turn_62 ?_
          refine E_goto (tgt := 67) dX12_turn_63 (by decide) ?_
          refine E_ior dX12_turn_67 ?_
          refine E_istore_n dX12_turn_68 rfl (by decide) ?_
          try dsimp only [List.set]
          refine E_iinc dX12_turn_69 rfl (by omega) (by omega) (by decide) rfl (by decide) ?_
          try dsimp only [List.set]
          refine E_goto (tgt := 34) dX12_turn_72 (by decide) ?_
          exact EV.lq rfl (ih (r + 1) _ (by omega) (hi.add (by omega) (by unfold ung; (try dsimp only); rw [decide_eq_true hgr, show inR (pt cd h g n) (r : Int) n = true from h57]; rfl)))
set_option maxRecDepth 20000 in
set_option maxHeartbeats 3000000 in
theorem l_turn3 {G : Ctx} {M : Mem} {m : Nat} {cd : CD} (hO : MO M m) (hQ : MC (mI M) m cd) (hW : WFc cd) {h g : Int → Int} (n : Nat) (n6 : n ≤ 6) (hL : HL cd h n) (hh : ∀ i : Int, 0 ≤ i → i < n → mI M (m + 9) i = h i) (hgt : ∀ i : Int, 0 ≤ i → i < n → mI M (m + 10) i = g i) (hp : ∀ i : Int, 0 ≤ i → i < n → g i = -1000000 → mI M (m + 11) i = pt cd h g n i) {s : Int} (hB : BS s n (fun k => ung g k && inR (pt cd h g n) (k : Int) n)) {Q : Option MV → Mem → Prop} (K : ∀ I : AS, ((∀ b j, b ≠ m + 10 → I b j = mI M b j) ∧ ∀ i : Int, 0 ≤ i → i < n → I (m + 10) i = if i < n then rgT cd h n g i else g i) → EV G m_X12_turn 4 0 0 Q 123 [some (vR m), some (vI (n : Int)), some (vI s), some (vI (n : Int)), none] [] (mJ M I)) : ∀ (k r : Nat) (I : Nat → Int → Int), r + k = n → ((∀ b j, b ≠ m + 10 → I b j = mI M b j) ∧ ∀ i : Int, 0 ≤ i → i < n → I (m + 10) i = if i < r then rgT cd h n g i else g i) → EV G m_X12_turn 4 0 0 (Q) 77 [some (vR m), some (vI (n : Int)), some (vI s), some (vI (r : Int)), none] [] (mJ M I) := by
  intro k
  induction k with
  | zero =>
    intro r I hr hi
    obtain rfl : r = n := by omega
    refine E_iload_n dX12_turn_77 rfl ?_
    refine E_iload_n dX12_turn_78 rfl ?_
    refine E_icmp_ge (tgt := 123) dX12_turn_79 (by decide) (fun h79 => ?_) (fun h79 => ?_)
    · exact K I hi
    · exfalso; omega
  | succ k ih =>
    intro r I hr hi
    have hbt : bAnd (bShr s (r : Int)) 1 = tB (ung g r && inR (pt cd h g n) (r : Int) n) := hB.bit (p := r) (by omega) (by omega)
    have hyr : I (m + 10) (r : Int) = g r := by have w := hi.2 r (by omega) (by omega); rw [if_neg (by omega)] at w; exact w
    refine E_iload_n dX12_turn_77 rfl ?_
    refine E_iload_n dX12_turn_78 rfl ?_
    refine E_icmp_ge (tgt := 123) dX12_turn_79 (by decide) (fun h79 => ?_) (fun h79 => ?_)
    · exfalso; omega
    · refine E_aload_n dX12_turn_82 rfl ?_
      refine g_X12_37 rfl dX12_turn_83 hO.o hO.gets ?_
      refine E_iload_n dX12_turn_86 rfl ?_
      refine E_iload_n dX12_turn_87 rfl ?_
      refine E_iload_n dX12_turn_88 rfl ?_
      refine E_ishr dX12_turn_89 ?_
      refine E_iconst dX12_turn_90 (by decide) ?_
      refine E_iand dX12_turn_91 ?_
      refine E_iconst dX12_turn_92 (by decide) ?_
      refine E_icmp_ne (tgt := 110) dX12_turn_93 (by decide) (fun h93 => ?_) (fun h93 => ?_)
      · have hno : ¬ (ung g r && inR (pt cd h g n) (r : Int) n) = true := fun z => by rw [hbt] at h93; (try dsimp only at h93); rw [z] at h93; exact h93 rfl
        refine E_aload_n dX12_turn_110 rfl ?_
        refine g_X12_37 rfl dX12_turn_111 hO.o hO.gets ?_
        refine E_iload_n dX12_turn_114 rfl ?_
        refine E_iald dX12_turn_115 hO.s_gets (by omega) (by omega) hyr ?_
        refine E_iast dX12_turn_116 hO.s_gets (by omega) (by omega) ?_
        refine E_iinc dX12_turn_117 rfl (by omega) (by omega) (by decide) rfl (by decide) ?_
        try dsimp only [List.set]
        refine E_goto (tgt := 77) dX12_turn_120 (by decide) ?_
        have er : rgT cd h n g (r : Int) = g r := by unfold rgT; rw [if_neg (fun w => hno (by unfold ung; (try dsimp only); rw [decide_eq_true w.2.1, w.2.2]; rfl))]
        refine EV.mq rfl rfl (ih (r + 1) (up2 I (m + 10) r (g r)) (by omega) ⟨fun b j hb => (up2_ne _ _ (fun w => hb w.1)).trans (hi.1 b j hb), fun i i0 i1 => ?_⟩)
        by_cases e : i = r
        · rw [e, up2_self, if_pos (by omega), er]
        · rw [up2_ne _ _ (by omega), hi.2 i i0 i1]
          by_cases q : i < r
          · rw [if_pos q, if_pos (by omega)]
          · rw [if_neg q, if_neg (by omega)]
      · have hb1 : (ung g r && inR (pt cd h g n) (r : Int) n) = true := by revert h93; rw [hbt]; cases (ung g r && inR (pt cd h g n) (r : Int) n) <;> simp [tB]
        have hgr : g r = -1000000 := of_decide_eq_true (Bool.and_eq_true _ _ ▸ hb1).1
        have hin : inR (pt cd h g n) (r : Int) n = true := (Bool.and_eq_true _ _ ▸ hb1).2
        have hpu := pt_u (cd := cd) (h := h) (n := n) (x := (r : Int)) ⟨⟨by omega, by omega⟩, hgr⟩
        refine E_aload_n dX12_turn_96 rfl ?_
        refine g_X12_34 rfl dX12_turn_97 hO.o hO.has ?_
        refine E_aload_n dX12_turn_100 rfl ?_
        refine g_X12_40 rfl dX12_turn_101 hO.o hO.points ?_
        refine E_iload_n dX12_turn_104 rfl ?_
        refine E_iald dX12_turn_105 hO.s_points (by omega) (by omega) ((hi.1 _ _ (by omega)).trans (hp _ (by omega) (by omega) hgr)) ?_
        refine E_iald dX12_turn_106 hO.s_has (by omega) (by omega) ((hi.1 _ _ (by omega)).trans (hh _ (by omega) (by omega))) ?_
        refine E_goto (tgt := 116) dX12_turn_107 (by decide) ?_
        refine E_iast dX12_turn_116 hO.s_gets (by omega) (by omega) ?_
        refine E_iinc dX12_turn_117 rfl (by omega) (by omega) (by decide) rfl (by decide) ?_
        try dsimp only [List.set]
        refine E_goto (tgt := 77) dX12_turn_120 (by decide) ?_
        have er : rgT cd h n g (r : Int) = h (pt cd h g n r) := by unfold rgT; rw [if_pos ⟨⟨by omega, by omega⟩, hgr, hin⟩]
        refine EV.mq rfl rfl (ih (r + 1) (up2 I (m + 10) r (h (pt cd h g n r))) (by omega) ⟨fun b j hb => (up2_ne _ _ (fun w => hb w.1)).trans (hi.1 b j hb), fun i i0 i1 => ?_⟩)
        by_cases e : i = r
        · rw [e, up2_self, if_pos (by omega), er]
        · rw [up2_ne _ _ (by omega), hi.2 i i0 i1]
          by_cases q : i < r
          · rw [if_pos q, if_pos (by omega)]
          · rw [if_neg q, if_neg (by omega)]
set_option maxRecDepth 20000 in
set_option maxHeartbeats 3000000 in
theorem l_turn4 {G : Ctx} {M : Mem} {m : Nat} (hO : MO M m) {g : Int → Int} (n : Nat) (n6 : n ≤ 6) {s : Int} (hgt : ∀ i : Int, 0 ≤ i → i < n → mI M (m + 10) i = g i) : ∀ (k r : Nat) , r + k = n → EV G m_X12_turn 0 0 0 (rI M (tB (anyU g n))) 128 [some (vR m), some (vI (n : Int)), some (vI s), some (vI (tB (anyU g r))), some (vI (r : Int))] [] M := by
  intro k
  induction k with
  | zero =>
    intro r  hr
    obtain rfl : r = n := by omega
    refine E_iload dX12_turn_128 rfl ?_
    refine E_iload_n dX12_turn_130 rfl ?_
    refine E_icmp_ge (tgt := 162) dX12_turn_131 (by decide) (fun h131 => ?_) (fun h131 => ?_)
    · refine E_iload_n dX12_turn_162 rfl ?_
      refine E_zret dX12_turn_163 rfl (tB_nar _) ?_
      exact ⟨rfl, rfl⟩
    · exfalso; omega
  | succ k ih =>
    intro r  hr
    refine E_iload dX12_turn_128 rfl ?_
    refine E_iload_n dX12_turn_130 rfl ?_
    refine E_icmp_ge (tgt := 162) dX12_turn_131 (by decide) (fun h131 => ?_) (fun h131 => ?_)
    · exfalso; omega
    · refine E_iload_n dX12_turn_134 rfl ?_
      refine E_if_ne (tgt := 150) dX12_turn_135 (by decide) (fun h135 => ?_) (fun h135 => ?_)
      · simp only [tB0, ne_eq, Bool.not_eq_false, Bool.not_eq_true, decide_eq_true_eq, decide_eq_false_iff_not, Classical.not_not] at h135
        refine E_iconst dX12_turn_150 (by decide) ?_
        refine E_goto (tgt := 155) dX12_turn_151 (by decide) ?_
        refine E_istore_n dX12_turn_155 rfl (by decide) ?_
        try dsimp only [List.set]
        refine E_iinc dX12_turn_156 rfl (by omega) (by omega) (by decide) rfl (by decide) ?_
        try dsimp only [List.set]
        refine E_goto (tgt := 128) dX12_turn_159 (by decide) ?_
        have e : anyU g (r + 1) = true := by simp only [anyU]; rw [show anyU g r = true from h135]; rfl
        exact EV.lq (by rw [e]; rfl) (ih (r + 1) (by omega))
      · simp only [tB0, ne_eq, Bool.not_eq_false, Bool.not_eq_true, decide_eq_true_eq, decide_eq_false_iff_not, Classical.not_not] at h135
        refine E_aload_n dX12_turn_138 rfl ?_
        refine g_X12_37 rfl dX12_turn_139 hO.o hO.gets ?_
        refine E_iload dX12_turn_142 rfl ?_
        refine E_iald dX12_turn_144 hO.s_gets (by omega) (by omega) (hgt _ (by omega) (by omega)) ?_
        refine c_X12_89 rfl dX12_turn_145 ?_
        refine E_icmp_ne (tgt := 154) dX12_turn_147 (by decide) (fun h147 => ?_) (fun h147 => ?_)
        · refine E_iconst dX12_turn_154 (by decide) ?_
          refine E_istore_n dX12_turn_155 rfl (by decide) ?_
          try dsimp only [List.set]
          refine E_iinc dX12_turn_156 rfl (by omega) (by omega) (by decide) rfl (by decide) ?_
          try dsimp only [List.set]
          refine E_goto (tgt := 128) dX12_turn_159 (by decide) ?_
          have e : anyU g (r + 1) = false := by simp only [anyU]; rw [show anyU g r = false from h135, Bool.false_or]; exact decide_eq_false (by omega)
          exact EV.lq (by rw [e]; rfl) (ih (r + 1) (by omega))
        · refine E_iconst dX12_turn_150 (by decide) ?_
          refine E_goto (tgt := 155) dX12_turn_151 (by decide) ?_
          refine E_istore_n dX12_turn_155 rfl (by decide) ?_
          try dsimp only [List.set]
          refine E_iinc dX12_turn_156 rfl (by omega) (by omega) (by decide) rfl (by decide) ?_
          try dsimp only [List.set]
          refine E_goto (tgt := 128) dX12_turn_159 (by decide) ?_
          have e : anyU g (r + 1) = true := by simp only [anyU]; rw [show anyU g r = false from h135, Bool.false_or]; exact decide_eq_true (by omega)
          exact EV.lq (by rw [e]; rfl) (ih (r + 1) (by omega))
set_option maxRecDepth 20000 in
set_option maxHeartbeats 3000000 in
theorem c_turn {G : Ctx} {M : Mem} {m : Nat} {cd : CD} (hO : MO M m) (hQ : MC (mI M) m cd) (hW : WFc cd) {h g : Int → Int} (n : Nat) (n6 : n ≤ 6) (hL : HL cd h n) (hh : ∀ i : Int, 0 ≤ i → i < n → mI M (m + 9) i = h i) (hgt : ∀ i : Int, 0 ≤ i → i < n → mI M (m + 10) i = g i) : CT G m_X12_turn 4 0 0 [vR m, vI (n : Int)] M (fun x M' => x = some (vI (tB (anyU (rgT cd h n g) n))) ∧ ∃ I, M' = mJ M I ∧ (∀ b j, b ≠ m + 10 → b ≠ m + 11 → I b j = mI M b j) ∧ ∀ i : Int, 0 ≤ i → i < n → I (m + 10) i = rgT cd h n g i) := by
  refine CT.of k_X12_turn 3 (ls := [some (vR m), some (vI (n : Int)), none, none, none]) rfl (Nat.le_of_ble_eq_true rfl) ?_
  refine E_iconst dX12_turn_0 (by decide) ?_
  refine E_istore_n dX12_turn_1 rfl (by decide) ?_
  try dsimp only [List.set]
  refine E_iconst dX12_turn_2 (by decide) ?_
  refine E_istore_n dX12_turn_3 rfl (by decide) ?_
  try dsimp only [List.set]
  refine l_turn1 hO hQ hW n n6 hL hh hgt (fun I hI => ?_) n 0 (mI M) (by omega) ⟨fun _ _ _ => rfl, fun i i0 i1 => by omega⟩
  refine E_iconst dX12_turn_32 (by decide) ?_
  refine E_istore_n dX12_turn_33 rfl (by decide) ?_
  try dsimp only [List.set]
  have hQI : MC (mI (mJ M I)) m cd := fun k h0 h1 => (hI.1 _ _ (by omega)).trans (hQ k h0 h1)
  have hhI : ∀ i : Int, 0 ≤ i → i < n → I (m + 9) i = h i := fun i i0 i1 => (hI.1 _ _ (by omega)).trans (hh i i0 i1)
  have hgI : ∀ i : Int, 0 ≤ i → i < n → I (m + 10) i = g i := fun i i0 i1 => (hI.1 _ _ (by omega)).trans (hgt i i0 i1)
  refine l_turn2 (M := mJ M I) (hO.j I) hQI hW n n6 hL hhI hgI hI.2 (fun s hs => ?_) n 0 0 (by omega) (BS.nil _)
  refine E_iconst dX12_turn_75 (by decide) ?_
  refine E_istore_n dX12_turn_76 rfl (by decide) ?_
  try dsimp only [List.set]
  refine l_turn3 (M := mJ M I) (hO.j I) hQI hW n n6 hL hhI hgI hI.2 hs (fun J hJ => ?_) n 0 I (by omega) ⟨fun _ _ _ => rfl, fun i i0 i1 => by rw [if_neg (by omega)]; exact hgI i i0 i1⟩
  have hJ1 : ∀ b j, b ≠ m + 10 → J b j = I b j := hJ.1
  have hJ2 : ∀ i : Int, 0 ≤ i → i < n → J (m + 10) i = rgT cd h n g i := fun i i0 i1 => by rw [hJ.2 i i0 i1, if_pos (by omega)]
  refine E_iconst dX12_turn_123 (by decide) ?_
  refine E_istore_n dX12_turn_124 rfl (by decide) ?_
  try dsimp only [List.set]
  refine E_iconst dX12_turn_125 (by decide) ?_
  refine E_istore dX12_turn_126 rfl (by decide) ?_
  try dsimp only [List.set]
  refine EV.post (fun x M' hq => ?_) (EV.deep (d := 0) (by omega) (l_turn4 (M := mJ M J) (hO.j J) n n6 (g := rgT cd h n g) hJ2 n 0 (by omega)))
  obtain ⟨rfl, rfl⟩ := hq
  exact ⟨rfl, J, rfl, fun b j q1 q2 => (hJ1 b j q1).trans (hI.1 b j q2), hJ2⟩
