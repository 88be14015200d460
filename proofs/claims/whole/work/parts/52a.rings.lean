set_option maxRecDepth 20000 in
set_option maxHeartbeats 3000000 in
theorem l_rwh {G : Ctx} {M : Mem} {m : Nat} {cd : CD} (hO : MO M m) (hQ : MC (mI M) m cd) (hW : WFc cd) {h gG : Int → Int} (n : Nat) (n6 : n ≤ 6) (hL : HL cd h n) (hh : ∀ i : Int, 0 ≤ i → i < n → mI M (m + 9) i = h i) {a w z4 : Int} {z6 : Option MV} {Q : Option MV → Mem → Prop} (K : ∀ (I : AS) (z5 : Option MV), (∀ b j, b ≠ m + 10 → b ≠ m + 11 → I b j = mI M b j) → (∀ i : Int, 0 ≤ i → i < n → I (m + 10) i = gG i) → EV G m_X12_rings 5 0 0 Q 188 [some (vR m), some (vI a), some (vI (n : Int)), some (vI w), some (vI z4), z5, z6] [] (mJ M I)) : ∀ (k r : Nat) (g : Int → Int) (I : AS), r + k = n → ((∀ b j, b ≠ m + 10 → b ≠ m + 11 → I b j = mI M b j) ∧ (∀ i : Int, 0 ≤ i → i < n → I (m + 10) i = g i) ∧ cnt (ung g) n ≤ k ∧ (∀ i, rgI cd h n k g i = gG i)) → EV G m_X12_rings 5 0 0 (Q) 173 [some (vR m), some (vI a), some (vI (n : Int)), some (vI w), some (vI z4), some (vI (tB (anyU g n))), z6] [] (mJ M I) := by
  intro k
  induction k with
  | zero =>
    intro r g I hr hi
    obtain rfl : r = n := by omega
    refine E_iload dX12_rings_173 rfl ?_
    refine E_if_eq (tgt := 188) dX12_rings_175 (by decide) (fun h175 => ?_) (fun h175 => ?_)
    · simp only [tB0, ne_eq, Bool.not_eq_false, Bool.not_eq_true, decide_eq_true_eq, decide_eq_false_iff_not, Classical.not_not] at h175
      refine K I _ hi.1 (fun i i0 i1 => ?_)
      rw [hi.2.1 i i0 i1, ← hi.2.2.2 i, rgI_id ((anyU_c g r).2 h175)]
    · exfalso; have hz := (anyU_c g r).1 (by revert h175; cases anyU g r <;> simp [tB]); omega
  | succ k ih =>
    intro r g I hr hi
    have hQI : MC (mI (mJ M I)) m cd := fun k h0 h1 => (hi.1 _ _ (by omega) (by omega)).trans (hQ k h0 h1)
    have hhI : ∀ i : Int, 0 ≤ i → i < n → I (m + 9) i = h i := fun i i0 i1 => (hi.1 _ _ (by omega) (by omega)).trans (hh i i0 i1)
    refine E_iload dX12_rings_173 rfl ?_
    refine E_if_eq (tgt := 188) dX12_rings_175 (by decide) (fun h175 => ?_) (fun h175 => ?_)
    · simp only [tB0, ne_eq, Bool.not_eq_false, Bool.not_eq_true, decide_eq_true_eq, decide_eq_false_iff_not, Classical.not_not] at h175
      refine K I _ hi.1 (fun i i0 i1 => ?_)
      rw [hi.2.1 i i0 i1, ← hi.2.2.2 i, rgI_id ((anyU_c g n).2 h175)]
    · simp only [tB0, ne_eq, Bool.not_eq_false, Bool.not_eq_true, decide_eq_true_eq, decide_eq_false_iff_not, Classical.not_not] at h175
      refine E_aload_n dX12_rings_178 rfl ?_
      refine E_iload_n dX12_rings_179 rfl ?_
      refine i_X12_279 rfl dX12_rings_180 (by exact hO.o) (c_turn (by exact hO) (by exact hQI) hW n n6 hL (by exact hhI) (by exact hi.2.1)) (by omega) (Nat.le_of_ble_eq_true rfl) rfl rfl ?_
      rintro _ _ ⟨rfl, J, rfl, hJ1, hJ2⟩
      have hJ1 : ∀ b j, b ≠ m + 10 → b ≠ m + 11 → J b j = I b j := hJ1
      try dsimp only [pu]
      refine E_istore dX12_rings_183 rfl (by decide) ?_
      try dsimp only [List.set]
      refine E_goto (tgt := 173) dX12_rings_185 (by decide) ?_
      have hls := rg_less hL ((anyU_c g n).1 h175)
      exact EV.mq rfl rfl (ih (r + 1) (rgT cd h n g) J (by omega) ⟨fun b j q1 q2 => (hJ1 b j q1 q2).trans (hi.1 b j q1 q2), hJ2, by omega, hi.2.2.2⟩)
set_option maxRecDepth 20000 in
set_option maxHeartbeats 3000000 in
theorem l_told {G : Ctx} {M : Mem} {m : Nat} {cd : CD} (hO : MO M m) (hQ : MC (mI M) m cd) (hW : WFc cd) {f : Int → Int} (n : Nat) (n6 : n ≤ 6) {a : Int} (a0 : 0 ≤ a ∧ a ≤ 7) (hf : ∀ i : Int, 0 ≤ i → i < n → mI M (m + 3) (40 * a + i) = f i) {w : Int} {Q : Option MV → Mem → Prop} (KB : ∀ I : AS, (∀ b j, b ≠ m + 9 → b ≠ m + 10 → I b j = mI M b j) → ¬ (fIn f 0 (cd 0 - 1) n = true ∧ fUn f n = true) → Q (some (vI (-1000001))) (mJ M I)) (K : ∀ (I : AS) (s : Int) (z6 : Option MV), (∀ b j, b ≠ m + 9 → b ≠ m + 10 → I b j = mI M b j) → (∀ i : Int, 0 ≤ i → i < n → I (m + 9) i = f i ∧ I (m + 10) i = -1000000) → (fIn f 0 (cd 0 - 1) n = true ∧ fUn f n = true) → EV G m_X12_rings 5 0 0 Q 165 [some (vR m), some (vI a), some (vI (n : Int)), some (vI w), some (vI s), some (vI (n : Int)), z6] [] (mJ M I)) : ∀ (k r : Nat) (I : AS) (s : Int) (z6 : Option MV), r + k = n → ((∀ b j, b ≠ m + 9 → b ≠ m + 10 → I b j = mI M b j) ∧ (∀ i : Int, 0 ≤ i → i < r → I (m + 9) i = f i ∧ I (m + 10) i = -1000000) ∧ (fIn f 0 (cd 0 - 1) r = true ∧ fUn f r = true) ∧ BS s 8 (fun l => fHas f (l : Int) r)) → EV G m_X12_rings 5 0 0 (Q) 89 [some (vR m), some (vI a), some (vI (n : Int)), some (vI w), some (vI s), some (vI (r : Int)), z6] [] (mJ M I) := by
  intro k
  induction k with
  | zero =>
    intro r I s z6 hr hi
    obtain rfl : r = n := by omega
    have hQI : MC (mI (mJ M I)) m cd := fun k h0 h1 => (hi.1 _ _ (by omega) (by omega)).trans (hQ k h0 h1)
    refine E_iload dX12_rings_89 rfl ?_
    refine E_iload_n dX12_rings_91 rfl ?_
    refine E_icmp_ge (tgt := 165) dX12_rings_92 (by decide) (fun h92 => ?_) (fun h92 => ?_)
    · exact K I _ _ hi.1 hi.2.1 hi.2.2.1
    · exfalso; omega
  | succ k ih =>
    intro r I s z6 hr hi
    have hQI : MC (mI (mJ M I)) m cd := fun k h0 h1 => (hi.1 _ _ (by omega) (by omega)).trans (hQ k h0 h1)
    have hl8 := hW.ln
    refine E_iload dX12_rings_89 rfl ?_
    refine E_iload_n dX12_rings_91 rfl ?_
    refine E_icmp_ge (tgt := 165) dX12_rings_92 (by decide) (fun h92 => ?_) (fun h92 => ?_)
    · exfalso; omega
    · refine E_aload_n dX12_rings_95 rfl ?_
      refine g_X12_16 rfl dX12_rings_96 hO.o hO.item ?_
      refine E_bipush dX12_rings_99 (by decide) ?_
      refine E_iload_n dX12_rings_101 rfl ?_
      refine E_imul dX12_rings_102 (by omega) (by omega) ?_
      refine E_iload dX12_rings_103 rfl ?_
      refine E_iadd dX12_rings_105 (by omega) (by omega) ?_
      refine E_iald dX12_rings_106 hO.s_item (by omega) (by omega) ((hi.1 _ _ (by omega) (by omega)).trans (hf _ (by omega) (by omega))) ?_
      refine E_istore dX12_rings_107 rfl (by decide) ?_
      try dsimp only [List.set]
      refine E_aload_n dX12_rings_109 rfl ?_
      refine E_iload dX12_rings_110 rfl ?_
      refine i_X12_218 rfl dX12_rings_112 (by exact hO.o) (c_mIsLine (by exact hO) (by exact hQI) hW) (by omega) (Nat.le_of_ble_eq_true rfl) rfl rfl ?_
      rintro _ _ ⟨rfl, rfl⟩
      try dsimp only [pu]
      refine E_if_eq (tgt := 129) dX12_rings_115 (by decide) (fun h115 => ?_) (fun h115 => ?_)
      · simp only [tB0, ne_eq, Bool.not_eq_false, Bool.not_eq_true, decide_eq_true_eq, decide_eq_false_iff_not, Classical.not_not] at h115
        refine c_X12_73 rfl dX12_rings_129 ?_
        refine E_iret dX12_rings_131 rfl ?_
        have e : fIn f 0 (cd 0 - 1) (r + 1) = false := by simp only [fIn, hi.2.2.1.1, Bool.true_and]; exact decide_eq_false (by omega)
        refine KB I hi.1 (fun z => ?_)
        rw [fIn_mono e (show r + 1 ≤ n by omega)] at z; exact absurd z.1 (by simp)
      · simp only [tB0, ne_eq, Bool.not_eq_false, Bool.not_eq_true, decide_eq_true_eq, decide_eq_false_iff_not, Classical.not_not] at h115
        obtain ⟨l, hl⟩ := Int.eq_ofNat_of_zero_le (show 0 ≤ f r by omega)
        have hbt : bAnd (bShr s (f r)) 1 = tB (fHas f (f r) r) := by rw [hl]; exact hi.2.2.2.bit (p := l) (by omega) (by omega)
        refine E_iload dX12_rings_118 rfl ?_
        refine E_iload dX12_rings_120 rfl ?_
        refine E_ishr dX12_rings_122 ?_
        refine E_iconst dX12_rings_123 (by decide) ?_
        refine E_iand dX12_rings_124 ?_
        refine E_iconst dX12_rings_125 (by decide) ?_
        refine E_icmp_ne (tgt := 132) dX12_rings_126 (by decide) (fun h126 => ?_) (fun h126 => ?_)
        · refine E_iload dX12_rings_132 rfl ?_
          refine E_iconst dX12_rings_134 (by decide) ?_
          refine E_iload dX12_rings_135 rfl ?_
          refine E_ishl dX12_rings_137 ?_
          refine E_ior dX12_rings_138 ?_
          refine E_istore dX12_rings_139 rfl (by decide) ?_
          try dsimp only [List.set]
          refine E_aload_n dX12_rings_141 rfl ?_
          refine g_X12_34 rfl dX12_rings_142 hO.o hO.has ?_
          refine E_iload dX12_rings_145 rfl ?_
          refine E_iload dX12_rings_147 rfl ?_
          refine E_iast dX12_rings_149 hO.s_has (by omega) (by omega) ?_
          refine E_aload_n dX12_rings_150 rfl ?_
          refine g_X12_37 rfl dX12_rings_151 hO.o hO.gets ?_
          refine E_iload dX12_rings_154 rfl ?_
          refine c_X12_89 rfl dX12_rings_156 ?_
          refine E_iast dX12_rings_158 hO.s_gets (by omega) (by omega) ?_
          refine E_iinc dX12_rings_159 rfl (by omega) (by omega) (by decide) rfl (by decide) ?_
          try dsimp only [List.set]
          refine E_goto (tgt := 89) dX12_rings_162 (by decide) ?_
          have hhas : fHas f (f r) r = false := by rw [hbt] at h126; revert h126; cases fHas f (f r) r <;> simp [tB]
          refine EV.mq rfl rfl (ih (r + 1) (up2 (up2 I (m + 9) r (f r)) (m + 10) r (-1000000)) (bOr s (bShl 1 (f r))) _ (by omega) ⟨fun b j q1 q2 => (up2_ne _ _ (fun w => q2 w.1)).trans ((up2_ne _ _ (fun w => q1 w.1)).trans (hi.1 b j q1 q2)), fun i i0 i1 => ?_, ⟨?_, ?_⟩, ?_⟩)
          · by_cases e : i = r
            · rw [e]; exact ⟨(up2_ne _ _ (by omega)).trans (up2_self _ _ _ _), up2_self _ _ _ _⟩
            · rw [up2_ne _ _ (by omega), up2_ne _ _ (by omega), up2_ne _ _ (by omega), up2_ne _ _ (by omega)]; exact hi.2.1 i i0 (by omega)
          · simp only [fIn, hi.2.2.1.1, Bool.true_and]; exact decide_eq_true (by omega)
          · simp only [fUn, hi.2.2.1.2, Bool.true_and]; rw [hhas]; rfl
          · rw [hl]
            refine (hi.2.2.2.set (k := l) (by omega) (by omega)).congr (fun p hp => ?_)
            simp only [fHas]; rw [hl]; congr 1; exact decide_eq_decide.mpr (by omega)
        · refine c_X12_73 rfl dX12_rings_129 ?_
          refine E_iret dX12_rings_131 rfl ?_
          have hhas : fHas f (f r) r = true := by rw [hbt] at h126; revert h126; cases fHas f (f r) r <;> simp [tB]
          have e : fUn f (r + 1) = false := by simp only [fUn, hi.2.2.1.2, Bool.true_and]; rw [hhas]; rfl
          refine KB I hi.1 (fun z => ?_)
          rw [fUn_mono e (show r + 1 ≤ n by omega)] at z; exact absurd z.2 (by simp)
set_option maxRecDepth 20000 in
set_option maxHeartbeats 3000000 in
theorem r_rings {G : Ctx} {M : Mem} {m : Nat} {A : AS} {B : Int} (hO : MO M m) (hV : MA (mI M) m A) (hG : GA A B) (hB : B ≤ 900000) {a c w : Int} (c0 : -2147483648 ≤ c - 1) : CT G m_X12_rings 5 0 0 [vR m, vI a, vI c, vI w] M (rM M m (s_rings A a c w) (t_rings A a c w)) := by
  refine CT.of k_X12_rings 3 (ls := [some (vR m), some (vI a), some (vI c), some (vI w), none, none, none]) rfl (Nat.le_of_ble_eq_true rfl) ?_
  refine E_aload_n dX12_rings_0 rfl ?_
  refine E_iconst dX12_rings_1 (by decide) ?_
  refine p_X12_53 rfl dX12_rings_2 hO.o ?_
  obtain ⟨M1, e1, hO, hV, hF⟩ := thr hO hV
  refine EV.mq rfl e1.symm ?_
  clear e1
  have hQ := hV.mc
  have hW := hG.w.c
  have hpn := hW.pn
  have hl8 := hW.ln
  have hr8 := hW.rn
  have hgg := hG.w.g
  have hth := hG.th
  refine E_aload_n dX12_rings_5 rfl ?_
  refine g_X12_192 rfl dX12_rings_6 hO.o (hV.2 7 (by unfold SJ; omega)) ?_
  refine E_if_ne (tgt := 15) dX12_rings_9 (by decide) (fun h9 => ?_) (fun h9 => ?_)
  · refine E_iload_n dX12_rings_15 rfl ?_
    refine i_X12_67 rfl dX12_rings_16 c_isRow (by omega) (Nat.le_of_ble_eq_true rfl) rfl rfl ?_
    rintro _ _ ⟨rfl, rfl⟩
    try dsimp only [pu]
    refine E_if_eq (tgt := 49) dX12_rings_19 (by decide) (fun h19 => ?_) (fun h19 => ?_)
    · simp only [tB0, ne_eq, Bool.not_eq_false, Bool.not_eq_true, decide_eq_true_eq, decide_eq_false_iff_not, Classical.not_not] at h19
      refine c_X12_73 rfl dX12_rings_49 ?_
      refine E_iret dX12_rings_51 rfl ?_
      refine ⟨?_, hF, ?_⟩
      · congr 2; unfold s_rings; rw [if_neg (by omega), if_pos (by omega)]; try rfl
      · unfold t_rings; rw [if_neg (by omega), if_pos (by omega)]; exact hV
    · simp only [tB0, ne_eq, Bool.not_eq_false, Bool.not_eq_true, decide_eq_true_eq, decide_eq_false_iff_not, Classical.not_not] at h19
      refine E_iload_n dX12_rings_22 rfl ?_
      refine E_i2l dX12_rings_23 ?_
      refine c_X12_71 rfl dX12_rings_24 ?_
      refine c_X12_277 rfl dX12_rings_27 ?_
      refine i_X12_63 rfl dX12_rings_30 c_in (by omega) (Nat.le_of_ble_eq_true rfl) rfl rfl ?_
      rintro _ _ ⟨rfl, rfl⟩
      try dsimp only [pu]
      refine E_if_eq (tgt := 49) dX12_rings_33 (by decide) (fun h33 => ?_) (fun h33 => ?_)
      · simp only [tB0, ne_eq, Bool.not_eq_false, Bool.not_eq_true, decide_eq_true_eq, decide_eq_false_iff_not, Classical.not_not] at h33
        refine c_X12_73 rfl dX12_rings_49 ?_
        refine E_iret dX12_rings_51 rfl ?_
        refine ⟨?_, hF, ?_⟩
        · congr 2; unfold s_rings; rw [if_neg (by omega), if_pos (by omega)]; try rfl
        · unfold t_rings; rw [if_neg (by omega), if_pos (by omega)]; exact hV
      · simp only [tB0, ne_eq, Bool.not_eq_false, Bool.not_eq_true, decide_eq_true_eq, decide_eq_false_iff_not, Classical.not_not] at h33
        refine E_iload_n dX12_rings_36 rfl ?_
        refine E_i2l dX12_rings_37 ?_
        refine E_lconst (x := 0) dX12_rings_38 (by decide) ?_
        refine E_iload_n dX12_rings_39 rfl ?_
        refine E_iconst dX12_rings_40 (by decide) ?_
        refine E_isub dX12_rings_41 (by omega) (by omega) ?_
        refine E_i2l dX12_rings_42 ?_
        refine i_X12_63 rfl dX12_rings_43 c_in (by omega) (Nat.le_of_ble_eq_true rfl) rfl rfl ?_
        rintro _ _ ⟨rfl, rfl⟩
        try dsimp only [pu]
        refine E_if_ne (tgt := 52) dX12_rings_46 (by decide) (fun h46 => ?_) (fun h46 => ?_)
        · simp only [tB0, ne_eq, Bool.not_eq_false, Bool.not_eq_true, decide_eq_true_eq, decide_eq_false_iff_not, Classical.not_not] at h46
          refine E_aload_n dX12_rings_52 rfl ?_
          refine g_X12_7 rfl dX12_rings_53 hO.o hO.lane ?_
          refine E_iload_n dX12_rings_56 rfl ?_
          refine E_iald dX12_rings_57 hO.s_lane (by omega) (by omega) (hV.1 1 _ (by unfold SA; omega)) ?_
          refine E_if_ge (tgt := 67) dX12_rings_58 (by decide) (fun h58 => ?_) (fun h58 => ?_)
          · refine E_iload_n dX12_rings_67 rfl ?_
            refine E_aload_n dX12_rings_68 rfl ?_
            refine g_X12_13 rfl dX12_rings_69 hO.o hO.many ?_
            refine E_iload_n dX12_rings_72 rfl ?_
            refine E_iald dX12_rings_73 hO.s_many (by omega) (by omega) (hV.1 2 _ (by unfold SA; omega)) ?_
            refine E_icmp_le (tgt := 83) dX12_rings_74 (by decide) (fun h74 => ?_) (fun h74 => ?_)
            · refine E_iconst dX12_rings_83 (by decide) ?_
              refine E_istore dX12_rings_84 rfl (by decide) ?_
              try dsimp only [List.set]
              refine E_iconst dX12_rings_86 (by decide) ?_
              refine E_istore dX12_rings_87 rfl (by decide) ?_
              try dsimp only [List.set]
              obtain ⟨n, rfl⟩ := Int.eq_ofNat_of_zero_le (show 0 ≤ c by omega)
              have hf : ∀ i : Int, 0 ≤ i → i < n → mI M1 (m + 3) (40 * a + i) = (fun p => A 3 (40 * a + p)) i := fun i i0 i1 => hV.1 3 _ (by unfold SA; omega)
              refine l_told hO hQ hW (f := (fun p => A 3 (40 * a + p))) n (by omega) (by omega) hf (fun I hI1 hno => ?_) (fun I s z6 hI1 hI2 hF2 => ?_) n 0 (mI M1) 0 _ (by omega) ⟨fun _ _ _ _ => rfl, fun i i0 i1 => by omega, ⟨rfl, rfl⟩, bs0 8⟩
              · refine ⟨?_, hF.j (fun b j hb => hI1 b j (by omega) (by omega)), ?_⟩
                · unfold s_rings; simp only [Int.toNat_natCast]; rw [if_neg (by omega), if_neg (by omega), if_neg (by omega), if_neg (by omega), if_pos hno]
                · unfold t_rings; simp only [Int.toNat_natCast]; rw [if_neg (by omega), if_neg (by omega), if_neg (by omega), if_neg (by omega), if_pos hno]
                  exact hV.of (fun k j hs => hI1 _ _ (by unfold SA at hs; omega) (by unfold SA at hs; omega)) (fun j hs => hI1 _ _ (by omega) (by omega))
              · refine E_aload_n dX12_rings_165 rfl ?_
                refine E_iconst dX12_rings_166 (by decide) ?_
                refine p_X12_57 rfl dX12_rings_167 hO.o ?_
                refine E_iconst dX12_rings_170 (by decide) ?_
                refine E_istore dX12_rings_171 rfl (by decide) ?_
                try dsimp only [List.set]
                have hQ2 : MC (mI (mWI (mJ M1 I) m 1 0)) m (A 4) := fun k k0 k1 => (mI_ne (by omega)).trans ((hI1 _ _ (by omega) (by omega)).trans (hQ k k0 k1))
                have hcb := cnt_b (ung (fun _ => -1000000)) n
                have hau : anyU (fun _ => -1000000) n = true := by obtain ⟨q, rfl⟩ : ∃ q, n = q + 1 := ⟨n - 1, by omega⟩; simp [anyU]
                refine EV.lq (by rw [hau]; rfl) (l_rwh (M := mWI (mJ M1 I) m 1 0) (gG := rgI (A 4) (fun p => A 3 (40 * a + p)) n n (fun _ => -1000000)) (by exact (hO.j I).w) hQ2 hW n (by omega) (HL.of hF2.1 hF2.2) (fun i i0 i1 => (mI_ne (by omega)).trans (hI2 i i0 i1).1) (fun J z5 hJ1 hJ2 => ?_) n 0 (fun _ => -1000000) (mI (mWI (mJ M1 I) m 1 0)) (by omega) ⟨fun _ _ _ _ => rfl, fun i i0 i1 => (mI_ne (by omega)).trans (hI2 i i0 i1).2, hcb.2, fun _ => rfl⟩)
                refine E_aload_n dX12_rings_188 rfl ?_
                refine g_X12_37 rfl dX12_rings_189 hO.o hO.gets ?_
                refine E_iload_n dX12_rings_192 rfl ?_
                refine E_iald dX12_rings_193 hO.s_gets (by omega) (by omega) (hJ2 _ (by omega) (by omega)) ?_
                refine E_iret dX12_rings_194 rfl ?_
                have hJo : ∀ b (j : Int), b ≠ m + 9 → b ≠ m + 10 → b ≠ m + 11 → ¬ (b = m ∧ j = 1) → J b j = mI M1 b j := fun b j q1 q2 q3 q4 => (hJ1 b j q2 q3).trans ((mI_ne q4).trans (hI1 b j q1 q2))
                have h1J : J m 1 = 0 := (hJ1 _ _ (by omega) (by omega)).trans mI_eq
                refine ⟨?_, hF.j (fun b j hb => hJo b j (by omega) (by omega) (by omega) (by omega)), ?_⟩
                · unfold s_rings; simp only [Int.toNat_natCast]; rw [if_neg (by omega), if_neg (by omega), if_neg (by omega), if_neg (by omega), if_neg (fun z => z hF2)]; try rfl
                · unfold t_rings; simp only [Int.toNat_natCast]; rw [if_neg (by omega), if_neg (by omega), if_neg (by omega), if_neg (by omega), if_neg (fun z => z hF2)]
                  refine ⟨fun k j hs => ?_, fun j hs => ?_⟩
                  · show J (m + k) j = _
                    rw [up2_ne _ _ (by unfold SA at hs; omega), hJo (m + k) j (by unfold SA at hs; omega) (by unfold SA at hs; omega) (by unfold SA at hs; omega) (by unfold SA at hs; omega)]; exact hV.1 k j hs
                  · by_cases e : j = 1
                    · rw [e, up2_self]; exact h1J
                    · show J m j = _
                      rw [up2_ne _ _ (by omega), hJo m j (by omega) (by omega) (by omega) (by omega)]; exact hV.2 j hs
            · refine E_aload_n dX12_rings_77 rfl ?_
              refine E_iconst dX12_rings_78 (by decide) ?_
              refine i_X12_74 rfl dX12_rings_79 (by exact hO.o) (c_finding hO.o (by omega) (by omega)) (by omega) (Nat.le_of_ble_eq_true rfl) rfl rfl ?_
              rintro _ _ ⟨rfl, rfl⟩
              try dsimp only [pu]
              refine E_iret dX12_rings_82 rfl ?_
              refine ⟨?_, (hF.w (b := m) (by omega) 1 2), ?_⟩
              · congr 2; unfold s_rings; rw [if_neg (by omega), if_neg (by omega), if_neg (by omega), if_pos (by omega)]; try rfl
              · unfold t_rings; rw [if_neg (by omega), if_neg (by omega), if_neg (by omega), if_pos (by omega)]; exact (hV.up0 1 2)
          · refine E_aload_n dX12_rings_61 rfl ?_
            refine E_iconst dX12_rings_62 (by decide) ?_
            refine i_X12_74 rfl dX12_rings_63 (by exact hO.o) (c_finding hO.o (by omega) (by omega)) (by omega) (Nat.le_of_ble_eq_true rfl) rfl rfl ?_
            rintro _ _ ⟨rfl, rfl⟩
            try dsimp only [pu]
            refine E_iret dX12_rings_66 rfl ?_
            refine ⟨?_, (hF.w (b := m) (by omega) 1 1), ?_⟩
            · congr 2; unfold s_rings; rw [if_neg (by omega), if_neg (by omega), if_pos (by omega)]; try rfl
            · unfold t_rings; rw [if_neg (by omega), if_neg (by omega), if_pos (by omega)]; exact (hV.up0 1 1)
        · simp only [tB0, ne_eq, Bool.not_eq_false, Bool.not_eq_true, decide_eq_true_eq, decide_eq_false_iff_not, Classical.not_not] at h46
          refine c_X12_73 rfl dX12_rings_49 ?_
          refine E_iret dX12_rings_51 rfl ?_
          refine ⟨?_, hF, ?_⟩
          · congr 2; unfold s_rings; rw [if_neg (by omega), if_pos (by omega)]; try rfl
          · unfold t_rings; rw [if_neg (by omega), if_pos (by omega)]; exact hV
  · refine c_X12_208 rfl dX12_rings_12 ?_
    refine E_iret dX12_rings_14 rfl ?_
    refine ⟨?_, hF, ?_⟩
    · congr 2; unfold s_rings; rw [if_pos (by omega)]; try rfl
    · unfold t_rings; rw [if_pos (by omega)]; exact hV
