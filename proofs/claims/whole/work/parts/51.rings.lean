/-! ===== 51: rings of the reference ===== -/
def anyU (g : Int → Int) : Nat → Bool
  | 0 => false
  | k + 1 => anyU g k || decide (g k = -1000000)
theorem anyU_c (g : Int → Int) : ∀ n : Nat, (anyU g n = true → 1 ≤ cnt (ung g) n) ∧ (anyU g n = false → cnt (ung g) n ≤ 0)
  | 0 => ⟨fun h => by simp [anyU] at h, fun _ => Int.le_refl _⟩
  | n + 1 => by
    have ih := anyU_c g n
    have hb := cnt_b (ung g) n
    have ht := tB_ran (ung g n)
    simp only [anyU, cnt]
    constructor
    · intro h
      rcases Bool.or_eq_true _ _ ▸ h with h | h
      · have := ih.1 h; omega
      · rw [show ung g n = true from h]; show _ ≤ _ + 1; omega
    · intro h
      have h1 := (Bool.or_eq_false_iff.mp h)
      have := ih.2 h1.1
      rw [show ung g n = false from h1.2]; show _ + 0 ≤ _; omega
/-- what is told for people: lines, all unlike -/
theorem fUn_inj {f : Int → Int} : ∀ {n : Nat}, fUn f n = true → ∀ i j : Int, 0 ≤ i → i < n → 0 ≤ j → j < n → f i = f j → i = j := by
  have hh : ∀ (n : Nat) (x : Int), fHas f x n = false → ∀ j : Int, 0 ≤ j → j < n → x ≠ f j := by
    intro n x
    induction n with
    | zero => intro _ j j0 j1; omega
    | succ n ih =>
      intro h j j0 j1
      have h1 := Bool.or_eq_false_iff.mp h
      by_cases e : j = n
      · rw [e]; exact of_decide_eq_false h1.2
      · exact ih h1.1 j j0 (by omega)
  intro n
  induction n with
  | zero => intro _ i j i0 i1; omega
  | succ n ih =>
    intro h i j i0 i1 j0 j1 e
    simp only [fUn, Bool.and_eq_true, Bool.not_eq_true'] at h
    by_cases ei : i = n
    · by_cases ej : j = n
      · omega
      · exact absurd (show f n = f j by rw [← ei]; exact e) (hh n _ h.2 j j0 (by omega))
    · by_cases ej : j = n
      · exact absurd (show f n = f i by rw [← ej]; exact e.symm) (hh n _ h.2 i i0 (by omega))
      · exact ih h.1 i j i0 (by omega) j0 (by omega) e
theorem HL.of {cd : CD} {f : Int → Int} {n : Nat} (h1 : fIn f 0 (cd 0 - 1) n = true) (h2 : fUn f n = true) : HL cd f n := ⟨fun i i0 i1 => by have := fIn_at h1 i i0 i1; omega, fun i j i0 i1 j0 j1 e => fUn_inj h2 i j i0 i1 j0 j1 e⟩
def s_rings (A : AS) (a c w : Int) : Int := if A 0 7 = 0 then -1000002 else if ¬ ((0 ≤ a ∧ a ≤ 7) ∧ (2 ≤ c ∧ c ≤ 6) ∧ (0 ≤ w ∧ w ≤ c - 1)) then -1000001 else if A 1 a < 0 then -1000011 else if A 2 a < c then -1000012 else if ¬ (fIn (fun p => A 3 (40 * a + p)) 0 (A 4 0 - 1) c.toNat = true ∧ fUn (fun p => A 3 (40 * a + p)) c.toNat = true) then -1000001 else rgI (A 4) (fun p => A 3 (40 * a + p)) c.toNat c.toNat (fun _ => -1000000) w
def t_rings (A : AS) (a c w : Int) : AS := if A 0 7 = 0 then A else if ¬ ((0 ≤ a ∧ a ≤ 7) ∧ (2 ≤ c ∧ c ≤ 6) ∧ (0 ≤ w ∧ w ≤ c - 1)) then A else if A 1 a < 0 then up2 A 0 1 1 else if A 2 a < c then up2 A 0 1 2 else if ¬ (fIn (fun p => A 3 (40 * a + p)) 0 (A 4 0 - 1) c.toNat = true ∧ fUn (fun p => A 3 (40 * a + p)) c.toNat = true) then A else up2 A 0 1 0
theorem GA.rings {A : AS} {B : Int} (h : GA A B) (a c w : Int) : GA (t_rings A a c w) B := by
  unfold t_rings
  repeat' split
  all_goals first | exact h | exact h.st (fun k j _ hk => up2_ne _ _ (by omega))
set_option maxRecDepth 20000 in
set_option maxHeartbeats 3000000 in
theorem l_point {G : Ctx} {M : Mem} {m : Nat} {cd : CD} (hO : MO M m) (hQ : MC (mI M) m cd) (hW : WFc cd) {h g : Int → Int} (n : Nat) (n6 : n ≤ 6) (hL : HL cd h n) (hh : ∀ i : Int, 0 ≤ i → i < n → mI M (m + 9) i = h i) (hgt : ∀ i : Int, 0 ≤ i → i < n → mI M (m + 10) i = g i) (v : Nat) (hk : v < n) {Q : Option MV → Mem → Prop} (K : ∀ z : Option MV, EV G m_X12_point 3 0 0 Q 115 [some (vR m), some (vI (n : Int)), some (vI (v : Int)), some (vI (bst cd h g v n)), some (vI (n : Int)), z] [] M) : ∀ (k r : Nat) (z : Option MV), r + k = n → EV G m_X12_point 3 0 0 (Q) 6 [some (vR m), some (vI (n : Int)), some (vI (v : Int)), some (vI (bst cd h g v r)), some (vI (r : Int)), z] [] M := by
  intro k
  induction k with
  | zero =>
    intro r z hr
    obtain rfl : r = n := by omega
    refine E_iload dX12_point_6 rfl ?_
    refine E_iload_n dX12_point_8 rfl ?_
    refine E_icmp_ge (tgt := 115) dX12_point_9 (by decide) (fun h9 => ?_) (fun h9 => ?_)
    · exact K _
    · exfalso; omega
  | succ k ih =>
    intro r z hr
    have hbr := bst_r cd h g v r
    have hl8 := hW.ln
    have hhr := hL.1 r (by omega) (by omega)
    refine E_iload dX12_point_6 rfl ?_
    refine E_iload_n dX12_point_8 rfl ?_
    refine E_icmp_ge (tgt := 115) dX12_point_9 (by decide) (fun h9 => ?_) (fun h9 => ?_)
    · exfalso; omega
    · refine E_aload_n dX12_point_12 rfl ?_
      refine g_X12_37 rfl dX12_point_13 hO.o hO.gets ?_
      refine E_iload dX12_point_16 rfl ?_
      refine E_iald dX12_point_18 hO.s_gets (by omega) (by omega) (hgt _ (by omega) (by omega)) ?_
      refine c_X12_89 rfl dX12_point_19 ?_
      refine E_icmp_ne (tgt := 109) dX12_point_21 (by decide) (fun h21 => ?_) (fun h21 => ?_)
      · refine E_iinc dX12_point_109 rfl (by omega) (by omega) (by decide) rfl (by decide) ?_
        try dsimp only [List.set]
        refine E_goto (tgt := 6) dX12_point_112 (by decide) ?_
        have e : bst cd h g v (r + 1) = bst cd h g v r := by simp only [bst]; rw [if_neg (fun z => by omega)]
        exact EV.lq (by rw [e]; rfl) (ih (r + 1) _ (by omega))
      · refine E_iload_n dX12_point_24 rfl ?_
        refine c_X12_89 rfl dX12_point_25 ?_
        refine E_icmp_ne (tgt := 34) dX12_point_27 (by decide) (fun h27 => ?_) (fun h27 => ?_)
        · have hhb := hL.1 (bst cd h g v r) (by omega) (by omega)
          have hs1 := fSunN_b cd (h r) (4 * v) 0 4
          have hs2 := fSunN_b cd (h (bst cd h g v r)) (4 * v) 0 4
          refine E_aload_n dX12_point_34 rfl ?_
          refine E_aload_n dX12_point_35 rfl ?_
          refine g_X12_34 rfl dX12_point_36 hO.o hO.has ?_
          refine E_iload dX12_point_39 rfl ?_
          refine E_iald dX12_point_41 hO.s_has (by omega) (by omega) (hh _ (by omega) (by omega)) ?_
          refine E_iconst dX12_point_42 (by decide) ?_
          refine E_iload_n dX12_point_43 rfl ?_
          refine E_imul dX12_point_44 (by omega) (by omega) ?_
          refine E_iconst dX12_point_45 (by decide) ?_
          refine E_iload_n dX12_point_46 rfl ?_
          refine E_imul dX12_point_47 (by omega) (by omega) ?_
          refine E_iconst dX12_point_48 (by decide) ?_
          refine E_iadd dX12_point_49 (by omega) (by omega) ?_
          refine E_iconst dX12_point_50 (by decide) ?_
          refine i_X12_267 rfl dX12_point_51 (by exact hO.o) (c_sunsOf hO hQ hW (l := h (r : Int)) (by omega) (by omega) (by omega) 4 (by omega) (by omega) (by omega) (by omega)) (by omega) (Nat.le_of_ble_eq_true rfl) rfl rfl ?_
          rintro _ _ ⟨rfl, rfl⟩
          try dsimp only [pu]
          refine E_aload_n dX12_point_54 rfl ?_
          refine E_aload_n dX12_point_55 rfl ?_
          refine g_X12_34 rfl dX12_point_56 hO.o hO.has ?_
          refine E_iload_n dX12_point_59 rfl ?_
          refine E_iald dX12_point_60 hO.s_has (by omega) (by omega) (hh _ (by omega) (by omega)) ?_
          refine E_iconst dX12_point_61 (by decide) ?_
          refine E_iload_n dX12_point_62 rfl ?_
          refine E_imul dX12_point_63 (by omega) (by omega) ?_
          refine E_iconst dX12_point_64 (by decide) ?_
          refine E_iload_n dX12_point_65 rfl ?_
          refine E_imul dX12_point_66 (by omega) (by omega) ?_
          refine E_iconst dX12_point_67 (by decide) ?_
          refine E_iadd dX12_point_68 (by omega) (by omega) ?_
          refine E_iconst dX12_point_69 (by decide) ?_
          refine i_X12_267 rfl dX12_point_70 (by exact hO.o) (c_sunsOf hO hQ hW (l := h (bst cd h g v r)) (by omega) (by omega) (by omega) 4 (by omega) (by omega) (by omega) (by omega)) (by omega) (Nat.le_of_ble_eq_true rfl) rfl rfl ?_
          rintro _ _ ⟨rfl, rfl⟩
          try dsimp only [pu]
          refine E_isub dX12_point_73 (by omega) (by omega) ?_
          refine E_istore dX12_point_74 rfl (by decide) ?_
          try dsimp only [List.set]
          refine E_iload dX12_point_76 rfl ?_
          refine E_if_gt (tgt := 102) dX12_point_78 (by decide) (fun h78 => ?_) (fun h78 => ?_)
          · refine E_iload dX12_point_102 rfl ?_
            refine E_goto (tgt := 108) dX12_point_104 (by decide) ?_
            refine E_istore_n dX12_point_108 rfl (by decide) ?_
            try dsimp only [List.set]
            refine E_iinc dX12_point_109 rfl (by omega) (by omega) (by decide) rfl (by decide) ?_
            try dsimp only [List.set]
            refine E_goto (tgt := 6) dX12_point_112 (by decide) ?_
            have e : bst cd h g v (r + 1) = r := by simp only [bst]; rw [if_pos ⟨by omega, Or.inr (by unfold sunK; omega)⟩]
            exact EV.lq (by rw [e]; rfl) (ih (r + 1) _ (by omega))
          · refine E_iload dX12_point_81 rfl ?_
            refine E_if_ne (tgt := 107) dX12_point_83 (by decide) (fun h83 => ?_) (fun h83 => ?_)
            · refine E_iload_n dX12_point_107 rfl ?_
              refine E_istore_n dX12_point_108 rfl (by decide) ?_
              try dsimp only [List.set]
              refine E_iinc dX12_point_109 rfl (by omega) (by omega) (by decide) rfl (by decide) ?_
              try dsimp only [List.set]
              refine E_goto (tgt := 6) dX12_point_112 (by decide) ?_
              have e : bst cd h g v (r + 1) = bst cd h g v r := by simp only [bst]; rw [if_neg (fun z => by rcases z.2 with q | q; (· omega); (· unfold sunK at q; omega))]
              exact EV.lq (by rw [e]; rfl) (ih (r + 1) _ (by omega))
            · refine E_aload_n dX12_point_86 rfl ?_
              refine g_X12_34 rfl dX12_point_87 hO.o hO.has ?_
              refine E_iload dX12_point_90 rfl ?_
              refine E_iald dX12_point_92 hO.s_has (by omega) (by omega) (hh _ (by omega) (by omega)) ?_
              refine E_aload_n dX12_point_93 rfl ?_
              refine g_X12_34 rfl dX12_point_94 hO.o hO.has ?_
              refine E_iload_n dX12_point_97 rfl ?_
              refine E_iald dX12_point_98 hO.s_has (by omega) (by omega) (hh _ (by omega) (by omega)) ?_
              refine E_icmp_ge (tgt := 107) dX12_point_99 (by decide) (fun h99 => ?_) (fun h99 => ?_)
              · refine E_iload_n dX12_point_107 rfl ?_
                refine E_istore_n dX12_point_108 rfl (by decide) ?_
                try dsimp only [List.set]
                refine E_iinc dX12_point_109 rfl (by omega) (by omega) (by decide) rfl (by decide) ?_
                try dsimp only [List.set]
                refine E_goto (tgt := 6) dX12_point_112 (by decide) ?_
                have e : bst cd h g v (r + 1) = bst cd h g v r := by simp only [bst]; rw [if_neg (fun z => by rcases z.2 with q | q; (· omega); (· unfold sunK at q; omega))]
                exact EV.lq (by rw [e]; rfl) (ih (r + 1) _ (by omega))
              · refine E_iload dX12_point_102 rfl ?_
                refine E_goto (tgt := 108) dX12_point_104 (by decide) ?_
                refine E_istore_n dX12_point_108 rfl (by decide) ?_
                try dsimp only [List.set]
                refine E_iinc dX12_point_109 rfl (by omega) (by omega) (by decide) rfl (by decide) ?_
                try dsimp only [List.set]
                refine E_goto (tgt := 6) dX12_point_112 (by decide) ?_
                have e : bst cd h g v (r + 1) = r := by simp only [bst]; rw [if_pos ⟨by omega, Or.inr (by unfold sunK; omega)⟩]
                exact EV.lq (by rw [e]; rfl) (ih (r + 1) _ (by omega))
        · refine E_iconst dX12_point_30 (by decide) ?_
          refine E_goto (tgt := 74) dX12_point_31 (by decide) ?_
          refine E_istore dX12_point_74 rfl (by decide) ?_
          try dsimp only [List.set]
          refine E_iload dX12_point_76 rfl ?_
          refine E_if_gt (tgt := 102) dX12_point_78 (by decide) (fun h78 => ?_) (fun h78 => ?_)
          · refine E_iload dX12_point_102 rfl ?_
            refine E_goto (tgt := 108) dX12_point_104 (by decide) ?_
            refine E_istore_n dX12_point_108 rfl (by decide) ?_
            try dsimp only [List.set]
            refine E_iinc dX12_point_109 rfl (by omega) (by omega) (by decide) rfl (by decide) ?_
            try dsimp only [List.set]
            refine E_goto (tgt := 6) dX12_point_112 (by decide) ?_
            have e : bst cd h g v (r + 1) = r := by simp only [bst]; rw [if_pos ⟨by omega, Or.inl (by omega)⟩]
            exact EV.lq (by rw [e]; rfl) (ih (r + 1) _ (by omega))
          · exfalso; omega
set_option maxRecDepth 20000 in
set_option maxHeartbeats 3000000 in
theorem c_point {G : Ctx} {M : Mem} {m : Nat} {cd : CD} (hO : MO M m) (hQ : MC (mI M) m cd) (hW : WFc cd) {h g : Int → Int} (n : Nat) (n6 : n ≤ 6) (hL : HL cd h n) (hh : ∀ i : Int, 0 ≤ i → i < n → mI M (m + 9) i = h i) (hgt : ∀ i : Int, 0 ≤ i → i < n → mI M (m + 10) i = g i) (v : Nat) (hk : v < n) : CT G m_X12_point 3 0 0 [vR m, vI (n : Int), vI (v : Int)] M (fun x M' => x = none ∧ M' = mWI M (m + 11) v (bst cd h g v n)) := by
  refine CT.of k_X12_point 3 (ls := [some (vR m), some (vI (n : Int)), some (vI (v : Int)), none, none, none]) rfl (Nat.le_of_ble_eq_true rfl) ?_
  refine c_X12_89 rfl dX12_point_0 ?_
  refine E_istore_n dX12_point_2 rfl (by decide) ?_
  try dsimp only [List.set]
  refine E_iconst dX12_point_3 (by decide) ?_
  refine E_istore dX12_point_4 rfl (by decide) ?_
  try dsimp only [List.set]
  refine l_point hO hQ hW n n6 hL hh hgt v hk (fun z => ?_) n 0 _ (by omega)
  refine E_aload_n dX12_point_115 rfl ?_
  refine g_X12_40 rfl dX12_point_116 hO.o hO.points ?_
  refine E_iload_n dX12_point_119 rfl ?_
  refine E_iload_n dX12_point_120 rfl ?_
  refine E_iast dX12_point_121 hO.s_points (by omega) (by omega) ?_
  refine E_vret dX12_point_122 rfl ?_
  exact ⟨rfl, rfl⟩
set_option maxRecDepth 20000 in
set_option maxHeartbeats 3000000 in
theorem l_mring {G : Ctx} {M : Mem} {m : Nat} (hO : MO M m) {f : Int → Int} (n : Nat) (n6 : n ≤ 6) {v : Int} (k0 : 0 ≤ v ∧ v < n) (hp : ∀ j, mI M (m + 11) (itP f v j) = itP f v (j + 1)) (hr_ : ∀ j, 0 ≤ itP f v j ∧ itP f v j < n) : ∀ (k r : Nat) , r + k = n → inR f v r = false → EV G m_X12_isInRing 0 0 0 (rI M (tB (inR f v (n + 1)))) 10 [some (vR m), some (vI (n : Int)), some (vI v), some (vI (itP f v (r + 1))), some (vI (r : Int))] [] M := by
  intro k
  induction k with
  | zero =>
    intro r  hr hi_
    obtain rfl : r = n := by omega
    refine E_iload dX12_isInRing_10 rfl ?_
    refine E_iload_n dX12_isInRing_12 rfl ?_
    refine E_icmp_ge (tgt := 34) dX12_isInRing_13 (by decide) (fun h13 => ?_) (fun h13 => ?_)
    · refine E_iload_n dX12_isInRing_34 rfl ?_
      refine E_iload_n dX12_isInRing_35 rfl ?_
      refine E_icmp_ne (tgt := 43) dX12_isInRing_36 (by decide) (fun h36 => ?_) (fun h36 => ?_)
      · refine E_iconst dX12_isInRing_43 (by decide) ?_
        refine E_zret dX12_isInRing_44 rfl (by decide) ?_
        refine ⟨?_, rfl⟩
        have e : inR f v (r + 1) = false := by simp only [inR, hi_, Bool.false_or]; exact decide_eq_false (by omega)
        rw [e]; rfl
      · refine E_iconst dX12_isInRing_39 (by decide) ?_
        refine E_goto (tgt := 44) dX12_isInRing_40 (by decide) ?_
        refine E_zret dX12_isInRing_44 rfl (by decide) ?_
        refine ⟨?_, rfl⟩
        have e : inR f v (r + 1) = true := by simp only [inR, hi_, Bool.false_or]; exact decide_eq_true (by omega)
        rw [inR_mono e (show r + 1 ≤ r + 1 by omega)]; rfl
    · exfalso; omega
  | succ k ih =>
    intro r  hr hi_
    refine E_iload dX12_isInRing_10 rfl ?_
    refine E_iload_n dX12_isInRing_12 rfl ?_
    refine E_icmp_ge (tgt := 34) dX12_isInRing_13 (by decide) (fun h13 => ?_) (fun h13 => ?_)
    · exfalso; omega
    · refine E_iload_n dX12_isInRing_16 rfl ?_
      refine E_iload_n dX12_isInRing_17 rfl ?_
      refine E_icmp_eq (tgt := 34) dX12_isInRing_18 (by decide) (fun h18 => ?_) (fun h18 => ?_)
      · refine E_iload_n dX12_isInRing_34 rfl ?_
        refine E_iload_n dX12_isInRing_35 rfl ?_
        refine E_icmp_ne (tgt := 43) dX12_isInRing_36 (by decide) (fun h36 => ?_) (fun h36 => ?_)
        · exfalso; omega
        · refine E_iconst dX12_isInRing_39 (by decide) ?_
          refine E_goto (tgt := 44) dX12_isInRing_40 (by decide) ?_
          refine E_zret dX12_isInRing_44 rfl (by decide) ?_
          refine ⟨?_, rfl⟩
          have e : inR f v (r + 1) = true := by simp only [inR, hi_, Bool.false_or]; exact decide_eq_true (by omega)
          rw [inR_mono e (show r + 1 ≤ n + 1 by omega)]; rfl
      · refine E_aload_n dX12_isInRing_21 rfl ?_
        refine g_X12_40 rfl dX12_isInRing_22 hO.o hO.points ?_
        refine E_iload_n dX12_isInRing_25 rfl ?_
        refine E_iald dX12_isInRing_26 hO.s_points (by have := (hr_ (r + 1)).1; omega) (by have := (hr_ (r + 1)).2; omega) (hp (r + 1)) ?_
        refine E_istore_n dX12_isInRing_27 rfl (by decide) ?_
        try dsimp only [List.set]
        refine E_iinc dX12_isInRing_28 rfl (by omega) (by omega) (by decide) rfl (by decide) ?_
        try dsimp only [List.set]
        refine E_goto (tgt := 10) dX12_isInRing_31 (by decide) ?_
        exact EV.lq rfl (ih (r + 1) (by omega) (by simp only [inR, hi_, Bool.false_or]; exact decide_eq_false (by omega)))
set_option maxRecDepth 20000 in
set_option maxHeartbeats 3000000 in
theorem c_mIsInRing {G : Ctx} {M : Mem} {m : Nat} (hO : MO M m) {f : Int → Int} (n : Nat) (n6 : n ≤ 6) {v : Int} (k0 : 0 ≤ v ∧ v < n) (hp : ∀ j, mI M (m + 11) (itP f v j) = itP f v (j + 1)) (hr_ : ∀ j, 0 ≤ itP f v j ∧ itP f v j < n) : CT G m_X12_isInRing 0 0 0 [vR m, vI (n : Int), vI v] M (rI M (tB (inR f v (n + 1)))) := by
  refine CT.of k_X12_isInRing 2 (ls := [some (vR m), some (vI (n : Int)), some (vI v), none, none]) rfl (Nat.le_of_ble_eq_true rfl) ?_
  refine E_aload_n dX12_isInRing_0 rfl ?_
  refine g_X12_40 rfl dX12_isInRing_1 hO.o hO.points ?_
  refine E_iload_n dX12_isInRing_4 rfl ?_
  refine E_iald dX12_isInRing_5 hO.s_points (by omega) (by omega) (hp 0) ?_
  refine E_istore_n dX12_isInRing_6 rfl (by decide) ?_
  try dsimp only [List.set]
  refine E_iconst dX12_isInRing_7 (by decide) ?_
  refine E_istore dX12_isInRing_8 rfl (by decide) ?_
  try dsimp only [List.set]
  exact l_mring hO n n6 k0 hp hr_ n 0 (by omega) rfl
