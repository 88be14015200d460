/-! ===== 67: plan of the reference ===== -/
theorem dL_b (cd : CD) (np rn n L : Nat) : ∀ (m p : Nat) (hu : Int → Int) (r : Nat), 0 ≤ dL cd np rn n L m p hu r ∧ dL cd np rn n L m p hu r ≤ 49
  | 0, p, hu, r => tmD_b cd hu np 0 n
  | m + 1, p, hu, r => by
    simp only [dL]
    split
    · exact dL_b cd np rn n L m _ _ _
    · exact ⟨by omega, by omega⟩
theorem bR_le (d : Nat → Int) : ∀ R : Nat, (bR d R).2 ≤ R
  | 0 => Nat.le_refl _
  | R + 1 => by
    have ih := bR_le d R
    simp only [bR]
    split
    · show R ≤ R + 1; omega
    · omega
def bB (d : Nat → Int) (R : Nat) : Int := if (bR d R).1 = 49 then -1000000 else ((bR d R).2 : Int)
def bT (d : Nat → Int) (R : Nat) : Int := if (bR d R).1 = 49 then -1000000 else (bR d R).1
theorem bB_or (d : Nat → Int) (R : Nat) : ((bR d R).1 = 49 ∧ bB d R = -1000000 ∧ bT d R = -1000000) ∨ ((bR d R).1 ≠ 49 ∧ bB d R = ((bR d R).2 : Int) ∧ bT d R = (bR d R).1) := by
  unfold bB bT
  by_cases h : (bR d R).1 = 49
  · rw [if_pos h, if_pos h]; exact Or.inl ⟨h, rfl, rfl⟩
  · rw [if_neg h, if_neg h]; exact Or.inr ⟨h, rfl, rfl⟩
theorem bR_49 (d : Nat → Int) : ∀ R : Nat, (bR d R).1 ≤ 49
  | 0 => Int.le_refl _
  | R + 1 => by
    have ih := bR_49 d R
    simp only [bR]
    split
    · show d R ≤ 49; omega
    · exact ih
theorem bB_put {d : Nat → Int} {R : Nat} (h : d R < (bR d R).1) : bB d (R + 1) = (R : Int) ∧ bT d (R + 1) = d R := by
  have e : bR d (R + 1) = (d R, R) := by simp only [bR]; rw [if_pos h]
  have h9 := bR_49 d R
  have h1 : (bR d (R + 1)).1 ≠ 49 := by rw [e]; show d R ≠ 49; omega
  unfold bB bT
  rw [if_neg h1, if_neg h1, e]
  exact ⟨rfl, rfl⟩
theorem bB_skip {d : Nat → Int} {R : Nat} (h : ¬ d R < (bR d R).1) : bB d (R + 1) = bB d R ∧ bT d (R + 1) = bT d R := by
  have e : bR d (R + 1) = bR d R := by simp only [bR]; rw [if_neg h]
  unfold bB bT
  rw [e]
  exact ⟨rfl, rfl⟩
set_option maxRecDepth 20000 in
set_option maxHeartbeats 3000000 in
theorem l_plan1 {G : Ctx} {M : Mem} {m : Nat} {cd : CD} (hO : MO M m) (hQ : MC (mI M) m cd) (hW : WFc cd) (L : Nat) (hL : cd 0 = L) (n : Nat) (n4 : n ≤ 4) {k0 : Int} {Q : Option MV → Mem → Prop} (K : EV G m_X12_plan 5 0 0 Q 81 [some (vR m), some (vI (n : Int)), some (vI k0), some (vI ((L ^ n : Nat) : Int)), some (vI (n : Int)), none, none, none, none] [] M) : ∀ (k r : Nat) , r + k = n → EV G m_X12_plan 5 0 0 (Q) 60 [some (vR m), some (vI (n : Int)), some (vI k0), some (vI ((L ^ r : Nat) : Int)), some (vI (r : Int)), none, none, none, none] [] M := by
  intro k
  induction k with
  | zero =>
    intro r  hr
    obtain rfl : r = n := by omega
    refine E_iload dX12_plan_60 rfl ?_
    refine E_iload_n dX12_plan_62 rfl ?_
    refine E_icmp_ge (tgt := 81) dX12_plan_63 (by decide) (fun h63 => ?_) (fun h63 => ?_)
    · exact K
    · exfalso; omega
  | succ k ih =>
    intro r  hr
    have hl8 := hW.ln
    have hp0 := powB (L := L) (r := r) (by omega) (by omega)
    have hp1 := powB (L := L) (r := r + 1) (by omega) (by omega)
    have hpe : ((L ^ r : Nat) : Int) * (L : Int) = ((L ^ (r + 1) : Nat) : Int) := by
      rw [← Int.natCast_mul, ← Nat.pow_succ]
    refine E_iload dX12_plan_60 rfl ?_
    refine E_iload_n dX12_plan_62 rfl ?_
    refine E_icmp_ge (tgt := 81) dX12_plan_63 (by decide) (fun h63 => ?_) (fun h63 => ?_)
    · exfalso; omega
    · refine E_iload_n dX12_plan_66 rfl ?_
      refine E_aload_n dX12_plan_67 rfl ?_
      refine g_X12_19 rfl dX12_plan_68 hO.o hO.court ?_
      refine E_iconst dX12_plan_71 (by decide) ?_
      refine E_iald dX12_plan_72 hO.s_court (by omega) (by omega) ((hQ.at (j := 0) (by omega) (by omega) (by omega)).trans hL) ?_
      refine E_imul dX12_plan_73 (by omega) (by omega) ?_
      refine E_istore_n dX12_plan_74 rfl (by decide) ?_
      try dsimp only [List.set]
      refine E_iinc dX12_plan_75 rfl (by omega) (by omega) (by decide) rfl (by decide) ?_
      try dsimp only [List.set]
      refine E_goto (tgt := 60) dX12_plan_78 (by decide) ?_
      rw [hpe]
      exact EV.lq rfl (ih (r + 1) (by omega))
set_option maxRecDepth 20000 in
set_option maxHeartbeats 3000000 in
theorem l_plan2 {G : Ctx} {M : Mem} {m : Nat} {cd : CD} (hO : MO M m) (hQ : MC (mI M) m cd) (hW : WFc cd) (hV : HV cd (cHu cd)) (hw9 : ∀ p, 0 ≤ p → p < cd 2 → 0 ≤ cWe cd p ∧ cWe cd p ≤ 99) (hs1 : ∀ p, 0 ≤ p → p < cd 2 → cSn cd p = 0 ∨ cSn cd p = 1) (g0 : 0 ≤ cd 3) (g1 : cd 3 ≤ 900000) (np : Nat) (hn : cd 2 = np) (rn : Nat) (hrn : cd 1 = rn) (L : Nat) (hL : cd 0 = L) (n : Nat) (n1 : 1 ≤ n) (n4 : n ≤ 4) (nn : n ≤ np) {k0 : Int} (R : Nat) (hR : R = L ^ n) {Q : Option MV → Mem → Prop} (K : ∀ (I : AS) (z7 z8 : Option MV), (∀ b (j : Int), b ≠ m + 7 → b ≠ m + 8 → ¬ (b = m ∧ j = 20) → I b j = mI M b j) → EV G m_X12_plan 5 0 0 Q 169 [some (vR m), some (vI (n : Int)), some (vI k0), some (vI (R : Int)), some (vI (bB (dL cd np rn n L n 0 (cHu cd)) R)), some (vI (bT (dL cd np rn n L n 0 (cHu cd)) R)), some (vI (R : Int)), z7, z8] [] (mJ M I)) : ∀ (k r : Nat) (I : Nat → Int → Int) (z7 z8 : Option MV), r + k = R → (∀ b (j : Int), b ≠ m + 7 → b ≠ m + 8 → ¬ (b = m ∧ j = 20) → I b j = mI M b j) → EV G m_X12_plan 5 0 0 (Q) 92 [some (vR m), some (vI (n : Int)), some (vI k0), some (vI (R : Int)), some (vI (bB (dL cd np rn n L n 0 (cHu cd)) r)), some (vI (bT (dL cd np rn n L n 0 (cHu cd)) r)), some (vI (r : Int)), z7, z8] [] (mJ M I) := by
  intro k
  induction k with
  | zero =>
    intro r I z7 z8 hr hi
    obtain rfl : r = R := by omega
    refine E_iload dX12_plan_92 rfl ?_
    refine E_iload_n dX12_plan_94 rfl ?_
    refine E_icmp_ge (tgt := 169) dX12_plan_95 (by decide) (fun h95 => ?_) (fun h95 => ?_)
    · exact K I z7 z8 hi
    · exfalso; omega
  | succ k ih =>
    intro r I z7 z8 hr hi
    have hl8 := hW.ln
    have hpn := hW.pn
    have hp0 := powB (L := L) (r := n) (by omega) n4
    have hQI : MC (mI (mJ M I)) m cd := fun k h0 h1 => (hi _ _ (by omega) (by omega) (by omega)).trans (hQ k h0 h1)
    have hbo := bB_or (dL cd np rn n L n 0 (cHu cd)) r
    have hb9 := bR_49 (dL cd np rn n L n 0 (cHu cd)) r
    have hbl := bR_le (dL cd np rn n L n 0 (cHu cd)) r
    have hdb := dL_b cd np rn n L n 0 (cHu cd) r
    have hrow : r < L ^ n := by rw [← hR]; omega
    refine E_iload dX12_plan_92 rfl ?_
    refine E_iload_n dX12_plan_94 rfl ?_
    refine E_icmp_ge (tgt := 169) dX12_plan_95 (by decide) (fun h95 => ?_) (fun h95 => ?_)
    · exfalso; omega
    · refine E_aload_n dX12_plan_98 rfl ?_
      refine E_iload_n dX12_plan_99 rfl ?_
      refine E_iload dX12_plan_100 rfl ?_
      refine i_X12_260 rfl dX12_plan_102 (by exact hO.o) (c_dryBy (hO.j I) hQI hW hV hw9 hs1 g0 g1 np hn rn hrn L hL n n1 n4 nn r hrow) (by omega) (Nat.le_of_ble_eq_true rfl) rfl rfl ?_
      rintro _ _ ⟨rfl, J, rfl, hJ⟩
      have hv : ((dL cd np rn n L n 0 (cHu cd)) r = 49 ∧ (if (dL cd np rn n L n 0 (cHu cd)) r = 49 then (-1000000 : Int) else (dL cd np rn n L n 0 (cHu cd)) r) = -1000000) ∨ ((dL cd np rn n L n 0 (cHu cd)) r ≠ 49 ∧ (if (dL cd np rn n L n 0 (cHu cd)) r = 49 then (-1000000 : Int) else (dL cd np rn n L n 0 (cHu cd)) r) = (dL cd np rn n L n 0 (cHu cd)) r) := by
        by_cases h : (dL cd np rn n L n 0 (cHu cd)) r = 49
        · exact Or.inl ⟨h, if_pos h⟩
        · exact Or.inr ⟨h, if_neg h⟩
      generalize hve : (if (dL cd np rn n L n 0 (cHu cd)) r = 49 then (-1000000 : Int) else (dL cd np rn n L n 0 (cHu cd)) r) = v at hv ⊢
      try dsimp only [pu]
      refine E_istore dX12_plan_105 rfl (by decide) ?_
      try dsimp only [List.set]
      refine E_iload dX12_plan_107 rfl ?_
      refine c_X12_89 rfl dX12_plan_109 ?_
      refine E_icmp_eq (tgt := 132) dX12_plan_111 (by decide) (fun h111 => ?_) (fun h111 => ?_)
      · refine E_iconst dX12_plan_132 (by decide) ?_
        refine E_istore dX12_plan_133 rfl (by decide) ?_
        try dsimp only [List.set]
        refine E_iload dX12_plan_135 rfl ?_
        refine E_if_eq (tgt := 145) dX12_plan_137 (by decide) (fun h137 => ?_) (fun h137 => ?_)
        · refine E_iload dX12_plan_145 rfl ?_
          refine E_istore dX12_plan_147 rfl (by decide) ?_
          try dsimp only [List.set]
          refine E_iload dX12_plan_149 rfl ?_
          refine E_if_eq (tgt := 159) dX12_plan_151 (by decide) (fun h151 => ?_) (fun h151 => ?_)
          · refine E_iload dX12_plan_159 rfl ?_
            refine E_istore dX12_plan_161 rfl (by decide) ?_
            try dsimp only [List.set]
            refine E_iinc dX12_plan_163 rfl (by omega) (by omega) (by decide) rfl (by decide) ?_
            try dsimp only [List.set]
            refine E_goto (tgt := 92) dX12_plan_166 (by decide) ?_
            have e := bB_skip (d := (dL cd np rn n L n 0 (cHu cd))) (R := r) (by omega)
            refine EV.mq (by rw [e.1, e.2]; rfl) rfl (ih (r + 1) J _ _ (by omega) (fun b j h1 h2 h3 => (hJ b j h1 h2 h3).trans (hi b j h1 h2 h3)))
          · exfalso; omega
        · exfalso; omega
      · refine E_iload dX12_plan_114 rfl ?_
        refine c_X12_89 rfl dX12_plan_116 ?_
        refine E_icmp_eq (tgt := 128) dX12_plan_118 (by decide) (fun h118 => ?_) (fun h118 => ?_)
        · refine E_iconst dX12_plan_128 (by decide) ?_
          refine E_goto (tgt := 133) dX12_plan_129 (by decide) ?_
          refine E_istore dX12_plan_133 rfl (by decide) ?_
          try dsimp only [List.set]
          refine E_iload dX12_plan_135 rfl ?_
          refine E_if_eq (tgt := 145) dX12_plan_137 (by decide) (fun h137 => ?_) (fun h137 => ?_)
          · exfalso; omega
          · refine E_iload dX12_plan_140 rfl ?_
            refine E_goto (tgt := 147) dX12_plan_142 (by decide) ?_
            refine E_istore dX12_plan_147 rfl (by decide) ?_
            try dsimp only [List.set]
            refine E_iload dX12_plan_149 rfl ?_
            refine E_if_eq (tgt := 159) dX12_plan_151 (by decide) (fun h151 => ?_) (fun h151 => ?_)
            · exfalso; omega
            · refine E_iload dX12_plan_154 rfl ?_
              refine E_goto (tgt := 161) dX12_plan_156 (by decide) ?_
              refine E_istore dX12_plan_161 rfl (by decide) ?_
              try dsimp only [List.set]
              refine E_iinc dX12_plan_163 rfl (by omega) (by omega) (by decide) rfl (by decide) ?_
              try dsimp only [List.set]
              refine E_goto (tgt := 92) dX12_plan_166 (by decide) ?_
              have e := bB_put (d := (dL cd np rn n L n 0 (cHu cd))) (R := r) (by omega)
              have hvd : v = (dL cd np rn n L n 0 (cHu cd)) r := by omega
              refine EV.mq (by rw [e.1, e.2, hvd]; rfl) rfl (ih (r + 1) J _ _ (by omega) (fun b j h1 h2 h3 => (hJ b j h1 h2 h3).trans (hi b j h1 h2 h3)))
        · refine E_iload dX12_plan_121 rfl ?_
          refine E_iload dX12_plan_123 rfl ?_
          refine E_icmp_ge (tgt := 132) dX12_plan_125 (by decide) (fun h125 => ?_) (fun h125 => ?_)
          · refine E_iconst dX12_plan_132 (by decide) ?_
            refine E_istore dX12_plan_133 rfl (by decide) ?_
            try dsimp only [List.set]
            refine E_iload dX12_plan_135 rfl ?_
            refine E_if_eq (tgt := 145) dX12_plan_137 (by decide) (fun h137 => ?_) (fun h137 => ?_)
            · refine E_iload dX12_plan_145 rfl ?_
              refine E_istore dX12_plan_147 rfl (by decide) ?_
              try dsimp only [List.set]
              refine E_iload dX12_plan_149 rfl ?_
              refine E_if_eq (tgt := 159) dX12_plan_151 (by decide) (fun h151 => ?_) (fun h151 => ?_)
              · refine E_iload dX12_plan_159 rfl ?_
                refine E_istore dX12_plan_161 rfl (by decide) ?_
                try dsimp only [List.set]
                refine E_iinc dX12_plan_163 rfl (by omega) (by omega) (by decide) rfl (by decide) ?_
                try dsimp only [List.set]
                refine E_goto (tgt := 92) dX12_plan_166 (by decide) ?_
                have e := bB_skip (d := (dL cd np rn n L n 0 (cHu cd))) (R := r) (by omega)
                refine EV.mq (by rw [e.1, e.2]; rfl) rfl (ih (r + 1) J _ _ (by omega) (fun b j h1 h2 h3 => (hJ b j h1 h2 h3).trans (hi b j h1 h2 h3)))
              · exfalso; omega
            · exfalso; omega
          · refine E_iconst dX12_plan_128 (by decide) ?_
            refine E_goto (tgt := 133) dX12_plan_129 (by decide) ?_
            refine E_istore dX12_plan_133 rfl (by decide) ?_
            try dsimp only [List.set]
            refine E_iload dX12_plan_135 rfl ?_
            refine E_if_eq (tgt := 145) dX12_plan_137 (by decide) (fun h137 => ?_) (fun h137 => ?_)
            · exfalso; omega
            · refine E_iload dX12_plan_140 rfl ?_
              refine E_goto (tgt := 147) dX12_plan_142 (by decide) ?_
              refine E_istore dX12_plan_147 rfl (by decide) ?_
              try dsimp only [List.set]
              refine E_iload dX12_plan_149 rfl ?_
              refine E_if_eq (tgt := 159) dX12_plan_151 (by decide) (fun h151 => ?_) (fun h151 => ?_)
              · exfalso; omega
              · refine E_iload dX12_plan_154 rfl ?_
                refine E_goto (tgt := 161) dX12_plan_156 (by decide) ?_
                refine E_istore dX12_plan_161 rfl (by decide) ?_
                try dsimp only [List.set]
                refine E_iinc dX12_plan_163 rfl (by omega) (by omega) (by decide) rfl (by decide) ?_
                try dsimp only [List.set]
                refine E_goto (tgt := 92) dX12_plan_166 (by decide) ?_
                have e := bB_put (d := (dL cd np rn n L n 0 (cHu cd))) (R := r) (by omega)
                have hvd : v = (dL cd np rn n L n 0 (cHu cd)) r := by omega
                refine EV.mq (by rw [e.1, e.2, hvd]; rfl) rfl (ih (r + 1) J _ _ (by omega) (fun b j h1 h2 h3 => (hJ b j h1 h2 h3).trans (hi b j h1 h2 h3)))
set_option maxRecDepth 20000 in
set_option maxHeartbeats 3000000 in
theorem l_plan3 {G : Ctx} {M : Mem} {m : Nat} {cd : CD} (hO : MO M m) (hQ : MC (mI M) m cd) (hW : WFc cd) (L : Nat) (hL : cd 0 = L) (hL0 : 0 < L) (n : Nat) (n4 : n ≤ 4) {k0 R t0 : Int} (bl : Nat) (hbl : bl ≤ 4096) (w : Nat) (hw : (w : Int) = n - 1 - k0) (hk0 : 0 ≤ k0 ∧ k0 ≤ n) {z7 z8 : Option MV} {Q : Option MV → Mem → Prop} (K : EV G m_X12_plan 5 0 0 Q 211 [some (vR m), some (vI (n : Int)), some (vI k0), some (vI R), some (vI ((bl / L ^ w : Nat) : Int)), some (vI t0), some (vI ((n : Int) - 1 - w)), z7, z8] [] M) : ∀ (k r : Nat) , r + k = w → EV G m_X12_plan 5 0 0 (Q) 188 [some (vR m), some (vI (n : Int)), some (vI k0), some (vI R), some (vI ((bl / L ^ r : Nat) : Int)), some (vI t0), some (vI ((n : Int) - 1 - r)), z7, z8] [] M := by
  intro k
  induction k with
  | zero =>
    intro r  hr
    obtain rfl : r = w := by omega
    refine E_iload dX12_plan_188 rfl ?_
    refine E_iload_n dX12_plan_190 rfl ?_
    refine E_icmp_le (tgt := 211) dX12_plan_191 (by decide) (fun h191 => ?_) (fun h191 => ?_)
    · exact K
    · exfalso; omega
  | succ k ih =>
    intro r  hr
    have hl8 := hW.ln
    obtain ⟨q1, hq1⟩ : ∃ q1, q1 = bl / L ^ (r + 1) := ⟨_, rfl⟩
    have hb2 : q1 ≤ bl := by rw [hq1]; exact Nat.div_le_self _ _
    have ed : Int.tdiv ((bl / L ^ r : Nat) : Int) (L : Int) = (q1 : Int) := by
      rw [hq1, Nat.pow_succ, ← Nat.div_div_eq_div_mul]; rfl
    refine E_iload dX12_plan_188 rfl ?_
    refine E_iload_n dX12_plan_190 rfl ?_
    refine E_icmp_le (tgt := 211) dX12_plan_191 (by decide) (fun h191 => ?_) (fun h191 => ?_)
    · exfalso; omega
    · refine E_iload dX12_plan_194 rfl ?_
      refine E_aload_n dX12_plan_196 rfl ?_
      refine g_X12_19 rfl dX12_plan_197 hO.o hO.court ?_
      refine E_iconst dX12_plan_200 (by decide) ?_
      refine E_iald dX12_plan_201 hO.s_court (by omega) (by omega) ((hQ.at (j := 0) (by omega) (by omega) (by omega)).trans hL) ?_
      refine E_idiv dX12_plan_202 (by omega) (by rw [ed]; omega) (by rw [ed]; omega) ?_
      rw [ed]
      refine E_istore dX12_plan_203 rfl (by decide) ?_
      try dsimp only [List.set]
      refine E_iinc dX12_plan_205 rfl (by omega) (by omega) (by decide) rfl (by decide) ?_
      try dsimp only [List.set]
      refine E_goto (tgt := 188) dX12_plan_208 (by decide) ?_
      exact EV.lq (by rw [← hq1, show (n : Int) - 1 - ((r + 1 : Nat) : Int) = (n : Int) - 1 - r + -1 by omega]) (ih (r + 1) (by omega))
set_option maxRecDepth 20000 in
set_option maxHeartbeats 3000000 in
theorem r_plan {G : Ctx} {M : Mem} {m : Nat} {A : AS} {B : Int} (hO : MO M m) (hV : MA (mI M) m A) (hG : GA A B) (hB : B ≤ 900000) {n0 k : Int} (np : Nat) (hn : A 4 2 = np) (rn : Nat) (hrn : A 4 1 = rn) (L : Nat) (hL : A 4 0 = L) : CT G m_X12_plan 5 0 0 [vR m, vI n0, vI k] M (rM M m (s_plan A n0 k np rn L) A) := by
  refine CT.of k_X12_plan 6 (ls := [some (vR m), some (vI n0), some (vI k), none, none, none, none, none, none]) rfl (Nat.le_of_ble_eq_true rfl) ?_
  refine E_aload_n dX12_plan_0 rfl ?_
  refine E_iconst dX12_plan_1 (by decide) ?_
  refine p_X12_53 rfl dX12_plan_2 hO.o ?_
  obtain ⟨M1, e1, hO, hV, hF⟩ := thr hO hV
  refine EV.mq rfl e1.symm ?_
  clear e1
  have hQ := hV.mc
  have hW := hG.w.c
  have hpn := hW.pn
  have hl8 := hW.ln
  have hr8 := hW.rn
  have hgg := hG.w.g
  have hth := hG.th
  refine E_aload_n dX12_plan_5 rfl ?_
  refine g_X12_192 rfl dX12_plan_6 hO.o (hV.2 7 (by unfold SJ; omega)) ?_
  refine E_if_ne (tgt := 15) dX12_plan_9 (by decide) (fun h9 => ?_) (fun h9 => ?_)
  · refine E_iload_n dX12_plan_15 rfl ?_
    refine E_i2l dX12_plan_16 ?_
    refine E_lconst (x := 1) dX12_plan_17 (by decide) ?_
    refine c_X12_250 rfl dX12_plan_18 ?_
    refine i_X12_63 rfl dX12_plan_21 c_in (by omega) (Nat.le_of_ble_eq_true rfl) rfl rfl ?_
    rintro _ _ ⟨rfl, rfl⟩
    try dsimp only [pu]
    refine E_if_eq (tgt := 52) dX12_plan_24 (by decide) (fun h24 => ?_) (fun h24 => ?_)
    · simp only [tB0, ne_eq, Bool.not_eq_false, Bool.not_eq_true, decide_eq_true_eq, decide_eq_false_iff_not, Classical.not_not] at h24
      refine c_X12_73 rfl dX12_plan_52 ?_
      refine E_iret dX12_plan_54 rfl ?_
      refine ⟨?_, hF, hV⟩
      congr 2; unfold s_plan; rw [if_neg (by omega), if_neg (by omega)]
    · simp only [tB0, ne_eq, Bool.not_eq_false, Bool.not_eq_true, decide_eq_true_eq, decide_eq_false_iff_not, Classical.not_not] at h24
      refine E_iload_n dX12_plan_27 rfl ?_
      refine E_aload_n dX12_plan_28 rfl ?_
      refine g_X12_19 rfl dX12_plan_29 hO.o hO.court ?_
      refine E_iconst dX12_plan_32 (by decide) ?_
      refine E_iald dX12_plan_33 hO.s_court (by omega) (by omega) (hQ.at (j := 2) (by omega) (by omega) (by omega)) ?_
      refine E_icmp_gt (tgt := 52) dX12_plan_34 (by decide) (fun h34 => ?_) (fun h34 => ?_)
      · refine c_X12_73 rfl dX12_plan_52 ?_
        refine E_iret dX12_plan_54 rfl ?_
        refine ⟨?_, hF, hV⟩
        congr 2; unfold s_plan; rw [if_neg (by omega), if_neg (by omega)]
      · refine E_iload_n dX12_plan_37 rfl ?_
        refine E_i2l dX12_plan_38 ?_
        refine c_X12_248 rfl dX12_plan_39 ?_
        refine E_iload_n dX12_plan_42 rfl ?_
        refine E_iconst dX12_plan_43 (by decide) ?_
        refine E_isub dX12_plan_44 (by omega) (by omega) ?_
        refine E_i2l dX12_plan_45 ?_
        refine i_X12_63 rfl dX12_plan_46 c_in (by omega) (Nat.le_of_ble_eq_true rfl) rfl rfl ?_
        rintro _ _ ⟨rfl, rfl⟩
        try dsimp only [pu]
        refine E_if_ne (tgt := 55) dX12_plan_49 (by decide) (fun h49 => ?_) (fun h49 => ?_)
        · simp only [tB0, ne_eq, Bool.not_eq_false, Bool.not_eq_true, decide_eq_true_eq, decide_eq_false_iff_not, Classical.not_not] at h49
          refine E_iconst dX12_plan_55 (by decide) ?_
          refine E_istore_n dX12_plan_56 rfl (by decide) ?_
          try dsimp only [List.set]
          refine E_iconst dX12_plan_57 (by decide) ?_
          refine E_istore dX12_plan_58 rfl (by decide) ?_
          try dsimp only [List.set]
          obtain ⟨n, rfl⟩ := Int.eq_ofNat_of_zero_le (show 0 ≤ n0 by omega)
          refine EV.lq (by rw [Nat.pow_zero]; rfl) (l_plan1 hO hQ hW L hL n (by omega) (k0 := k) ?_ n 0 (by omega))
          refine c_X12_89 rfl dX12_plan_81 ?_
          refine E_istore dX12_plan_83 rfl (by decide) ?_
          try dsimp only [List.set]
          refine c_X12_89 rfl dX12_plan_85 ?_
          refine E_istore dX12_plan_87 rfl (by decide) ?_
          try dsimp only [List.set]
          refine E_iconst dX12_plan_89 (by decide) ?_
          refine E_istore dX12_plan_90 rfl (by decide) ?_
          try dsimp only [List.set]
          obtain ⟨R, hR⟩ : ∃ R, R = L ^ n := ⟨_, rfl⟩
          rw [← hR]
          refine EV.mq rfl rfl (l_plan2 hO hQ hW hG.w.hv hG.w.we hG.w.sn hgg.1 (by omega) np hn rn hrn L hL n (by omega) (by omega) (by omega) (k0 := k) R hR ?_ R 0 (mI M1) none none (by omega) (fun _ _ _ _ _ => rfl))
          intro J z7 z8 hJ
          have hQJ : MC (mI (mJ M1 J)) m (A 4) := fun k h0 h1 => (hJ _ _ (by omega) (by omega) (by omega)).trans (hQ k h0 h1)
          have hp0 := powB (L := L) (r := n) (by omega) (by omega)
          have hbo := bB_or (dL (A 4) np rn n L n 0 (cHu (A 4))) R
          refine E_iload dX12_plan_169 rfl ?_
          refine c_X12_89 rfl dX12_plan_171 ?_
          refine E_icmp_eq (tgt := 180) dX12_plan_173 (by decide) (fun h173 => ?_) (fun h173 => ?_)
          · refine E_iload dX12_plan_180 rfl ?_
            refine E_iret dX12_plan_182 rfl ?_
            refine ⟨?_, hF.j (fun b j hb => hJ b j (by omega) (by omega) (by omega)), hV.of (fun k j hs => hJ _ _ (by unfold SA at hs; omega) (by unfold SA at hs; omega) (by unfold SA at hs; omega)) (fun j hs => hJ _ _ (by omega) (by omega) (by unfold SJ at hs; omega))⟩
            congr 2; unfold s_plan bP; rw [if_neg (by omega), if_pos (by omega), Int.toNat_natCast]; rw [← hR]; rw [if_pos (by omega)]; omega
          · refine E_iload_n dX12_plan_176 rfl ?_
            refine E_if_ge (tgt := 183) dX12_plan_177 (by decide) (fun h177 => ?_) (fun h177 => ?_)
            · refine E_iload_n dX12_plan_183 rfl ?_
              refine E_iconst dX12_plan_184 (by decide) ?_
              refine E_isub dX12_plan_185 (by omega) (by omega) ?_
              refine E_istore dX12_plan_186 rfl (by decide) ?_
              try dsimp only [List.set]
              have hb9 : (bR (dL (A 4) np rn n L n 0 (cHu (A 4))) R).1 ≠ 49 := by omega
              have hL0 : 0 < L := by
                rcases Nat.eq_zero_or_pos L with z | z
                · exfalso; apply hb9; rw [hR, z, Nat.zero_pow (by omega)]; rfl
                · exact z
              obtain ⟨kk, rfl⟩ := Int.eq_ofNat_of_zero_le (show 0 ≤ k by omega)
              obtain ⟨bl, hbl⟩ : ∃ bl, bl = (bR (dL (A 4) np rn n L n 0 (cHu (A 4))) R).2 := ⟨_, rfl⟩
              obtain ⟨q1, hq1⟩ : ∃ q1, q1 = bl / L ^ (n - 1 - kk) / L := ⟨_, rfl⟩
              have ed : Int.tdiv ((bl / L ^ (n - 1 - kk) : Nat) : Int) (L : Int) = (q1 : Int) := by rw [hq1]; rfl
              have hb2 : q1 ≤ bl := by rw [hq1]; exact Nat.le_trans (Nat.div_le_self _ _) (Nat.div_le_self _ _)
              have hle := bR_le (dL (A 4) np rn n L n 0 (cHu (A 4))) R
              refine EV.lq (by rw [Nat.pow_zero, Nat.div_one, hbl, show bB (dL (A 4) np rn n L n 0 (cHu (A 4))) R = ((bR (dL (A 4) np rn n L n 0 (cHu (A 4))) R).2 : Int) by omega]; simp) (l_plan3 (hO.j J) hQJ hW L hL hL0 n (by omega) (k0 := (kk : Int)) (R := (R : Int)) (t0 := bT (dL (A 4) np rn n L n 0 (cHu (A 4))) R) bl (by omega) (n - 1 - kk) (by omega) ⟨by omega, by omega⟩ (z7 := z7) (z8 := z8) ?_ (n - 1 - kk) 0 (by omega))
              refine E_iload dX12_plan_211 rfl ?_
              refine E_aload_n dX12_plan_213 rfl ?_
              refine g_X12_19 rfl dX12_plan_214 hO.o hO.court ?_
              refine E_iconst dX12_plan_217 (by decide) ?_
              refine E_iald dX12_plan_218 hO.s_court (by omega) (by omega) ((hQJ.at (j := 0) (by omega) (by omega) (by omega)).trans hL) ?_
              refine E_irem dX12_plan_219 (by omega) (by rw [ed]; omega) (by rw [ed]; omega) ?_
              refine E_iret dX12_plan_220 rfl ?_
              refine ⟨?_, hF.j (fun b j hb => hJ b j (by omega) (by omega) (by omega)), hV.of (fun k j hs => hJ _ _ (by unfold SA at hs; omega) (by unfold SA at hs; omega) (by unfold SA at hs; omega)) (fun j hs => hJ _ _ (by omega) (by omega) (by unfold SJ at hs; omega))⟩
              congr 2; unfold s_plan bP; rw [if_neg (by omega), if_pos (by omega), Int.toNat_natCast]; rw [← hR, if_neg (by omega), if_neg (by omega), Int.toNat_natCast, ← hbl]; rfl
            · refine E_iload dX12_plan_180 rfl ?_
              refine E_iret dX12_plan_182 rfl ?_
              refine ⟨?_, hF.j (fun b j hb => hJ b j (by omega) (by omega) (by omega)), hV.of (fun k j hs => hJ _ _ (by unfold SA at hs; omega) (by unfold SA at hs; omega) (by unfold SA at hs; omega)) (fun j hs => hJ _ _ (by omega) (by omega) (by unfold SJ at hs; omega))⟩
              congr 2; unfold s_plan bP; rw [if_neg (by omega), if_pos (by omega), Int.toNat_natCast]; rw [← hR]; rw [if_neg (by omega), if_pos (by omega)]; omega
        · simp only [tB0, ne_eq, Bool.not_eq_false, Bool.not_eq_true, decide_eq_true_eq, decide_eq_false_iff_not, Classical.not_not] at h49
          refine c_X12_73 rfl dX12_plan_52 ?_
          refine E_iret dX12_plan_54 rfl ?_
          refine ⟨?_, hF, hV⟩
          congr 2; unfold s_plan; rw [if_neg (by omega), if_neg (by omega)]
  · refine c_X12_208 rfl dX12_plan_12 ?_
    refine E_iret dX12_plan_14 rfl ?_
    refine ⟨?_, hF, hV⟩
    congr 2; unfold s_plan; rw [if_pos (by omega)]
