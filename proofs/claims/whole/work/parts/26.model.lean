/-! ===== 26: the reference: goOn ===== -/
set_option maxRecDepth 20000 in
set_option maxHeartbeats 1200000 in
theorem l_go4 {G : Ctx} {M : Mem} {m : Nat} {cd : CD} (hO : MO M m) (hQ : MC (mI M) m cd) (hW : WFc cd) {hu v : Int → Int} {sb : Nat → Bool} (hV : HV cd hu) (hH : ∀ p, 0 ≤ p → p < cd 2 → mI M (m + 7) p = hu p) (hv9 : ∀ p, 0 ≤ p → p < cd 2 → 0 ≤ v p ∧ v p ≤ 99) (n : Nat) (hn : cd 2 = n) {q dr : Int} (t : Nat) (ht : t < n) (h3 : (bel cd (hu t)) ≠ -1000000) (K : ∀ I, GI4 M m cd hu v sb n t (bel cd (hu t)) n I → EV G m_X12_goOn 2 0 0 (rJ M (fun I => GI3 M m cd hu v sb n n I)) 235 [some (vR m), some (vI q), some (vI dr), some (vI (t : Int)), some (vI (bel cd (hu t))), some (vI (n : Int))] [] (mJ M I)) : ∀ (k r : Nat) (I : Nat → Int → Int), r + k = n → GI4 M m cd hu v sb n t (bel cd (hu t)) r I → EV G m_X12_goOn 2 0 0 (rJ M (fun I => GI3 M m cd hu v sb n n I)) 128 [some (vR m), some (vI q), some (vI dr), some (vI (t : Int)), some (vI (bel cd (hu t))), some (vI (r : Int))] [] (mJ M I) := by
  intro k
  induction k with
  | zero =>
    intro r I hr hi
    obtain rfl : r = n := by omega
    have hpn := hW.pn
    have hl8 := hW.ln
    have hr8 := hW.rn
    have hQI : MC (mI (mJ M I)) m cd := fun k h0 h1 => (hi.1 _ _ (by omega) (by omega)).trans (hQ k h0 h1)
    have hHI : ∀ p, 0 ≤ p → p < cd 2 → I (m + 7) p = hu p := fun p h0 h1 => (hi.1 _ _ (by omega) (by omega)).trans (hH p h0 h1)
    refine E_iload dX12_goOn_128 rfl ?_
    refine E_aload_n dX12_goOn_130 rfl ?_
    refine g_X12_19 rfl dX12_goOn_131 hO.o hO.court ?_
    refine E_iconst dX12_goOn_134 (by decide) ?_
    refine E_iald dX12_goOn_135 hO.s_court (by omega) (by omega) (hQI.at (j := 2) (by omega) (by omega) (by omega)) ?_
    refine E_icmp_ge (tgt := 235) dX12_goOn_136 (by decide) (fun h136 => ?_) (fun h136 => ?_)
    · exact K I hi
    · exfalso; omega
  | succ k ih =>
    intro r I hr hi
    have hpn := hW.pn
    have hl8 := hW.ln
    have hr8 := hW.rn
    have hQI : MC (mI (mJ M I)) m cd := fun k h0 h1 => (hi.1 _ _ (by omega) (by omega)).trans (hQ k h0 h1)
    have hHI : ∀ p, 0 ≤ p → p < cd 2 → I (m + 7) p = hu p := fun p h0 h1 => (hi.1 _ _ (by omega) (by omega)).trans (hH p h0 h1)
    have hwr : I (m + 8) (r : Int) = qW2 cd hu v t r := by have z := hi.2.1 r (by omega) (by omega); rw [if_neg (by omega)] at z; exact z
    have h9 := qW2_b (cd := cd) (hu := hu) (n := t) (hv9 r (by omega) (by omega))
    refine E_iload dX12_goOn_128 rfl ?_
    refine E_aload_n dX12_goOn_130 rfl ?_
    refine g_X12_19 rfl dX12_goOn_131 hO.o hO.court ?_
    refine E_iconst dX12_goOn_134 (by decide) ?_
    refine E_iald dX12_goOn_135 hO.s_court (by omega) (by omega) (hQI.at (j := 2) (by omega) (by omega) (by omega)) ?_
    refine E_icmp_ge (tgt := 235) dX12_goOn_136 (by decide) (fun h136 => ?_) (fun h136 => ?_)
    · exfalso; omega
    · refine E_iload dX12_goOn_139 rfl ?_
      refine c_X12_89 rfl dX12_goOn_141 ?_
      refine E_icmp_eq (tgt := 235) dX12_goOn_143 (by decide) (fun h143 => ?_) (fun h143 => ?_)
      · exfalso; omega
      · refine E_aload_n dX12_goOn_146 rfl ?_
        refine g_X12_28 rfl dX12_goOn_147 hO.o hO.hung ?_
        refine E_iload dX12_goOn_150 rfl ?_
        refine E_iald dX12_goOn_152 hO.s_hung (by omega) (by omega) (hHI _ (by omega) (by omega)) ?_
        refine E_iload dX12_goOn_153 rfl ?_
        refine E_icmp_ne (tgt := 229) dX12_goOn_155 (by decide) (fun h155 => ?_) (fun h155 => ?_)
        · refine E_iinc dX12_goOn_229 rfl (by omega) (by omega) (by decide) rfl (by decide) ?_
          try dsimp only [List.set]
          refine E_goto (tgt := 128) dX12_goOn_232 (by decide) ?_
          exact EV.mq rfl rfl (ih (r + 1) I (by omega) (go4_skip hi h155))
        · refine E_aload_n dX12_goOn_158 rfl ?_
          refine g_X12_31 rfl dX12_goOn_159 hO.o hO.wet ?_
          refine E_iload dX12_goOn_162 rfl ?_
          refine E_aload_n dX12_goOn_164 rfl ?_
          refine g_X12_31 rfl dX12_goOn_165 hO.o hO.wet ?_
          refine E_iload dX12_goOn_168 rfl ?_
          refine E_iald dX12_goOn_170 hO.s_wet (by omega) (by omega) hwr ?_
          refine E_iconst dX12_goOn_171 (by decide) ?_
          refine E_iadd dX12_goOn_172 (by omega) (by omega) ?_
          refine E_bipush dX12_goOn_173 (by decide) ?_
          refine E_icmp_le (tgt := 183) dX12_goOn_175 (by decide) (fun h175 => ?_) (fun h175 => ?_)
          · refine E_aload_n dX12_goOn_183 rfl ?_
            refine g_X12_31 rfl dX12_goOn_184 hO.o hO.wet ?_
            refine E_iload dX12_goOn_187 rfl ?_
            refine E_iald dX12_goOn_189 hO.s_wet (by omega) (by omega) hwr ?_
            refine E_iconst dX12_goOn_190 (by decide) ?_
            refine E_iadd dX12_goOn_191 (by omega) (by omega) ?_
            refine E_iast dX12_goOn_192 hO.s_wet (by omega) (by omega) ?_
            refine E_aload_n dX12_goOn_193 rfl ?_
            refine E_dup dX12_goOn_194 rfl ?_
            refine g_X12_199 rfl dX12_goOn_195 hO.o (mI_ne (by omega)) ?_
            refine E_aload_n dX12_goOn_198 rfl ?_
            refine E_iload_n dX12_goOn_199 rfl ?_
            refine E_iconst dX12_goOn_200 (by decide) ?_
            refine i_X12_202 rfl dX12_goOn_201 (by exact hO.o) (c_of (MO.w (hO.j I)) (MC.w hQI (by omega)) (j := 84 + 6 * ↑t) (by omega) (by omega) (by omega)) (by omega) (Nat.le_of_ble_eq_true rfl) rfl rfl ?_
            rintro _ _ ⟨rfl, rfl⟩
            try dsimp only [pu]
            refine E_iconst dX12_goOn_204 (by decide) ?_
            refine E_icmp_ne (tgt := 224) dX12_goOn_205 (by decide) (fun h205 => ?_) (fun h205 => ?_)
            · refine E_iconst dX12_goOn_224 (by decide) ?_
              refine E_ior dX12_goOn_225 ?_
              refine p_X12_199 rfl dX12_goOn_226 hO.o ?_
              refine E_iinc dX12_goOn_229 rfl (by omega) (by omega) (by decide) rfl (by decide) ?_
              try dsimp only [List.set]
              refine E_goto (tgt := 128) dX12_goOn_232 (by decide) ?_
              exact EV.mq rfl rfl (ih (r + 1) _ (by omega) (go4_step (X := qW2 cd hu v t ↑r + 3) hi (by omega) (by omega) (go4_bs0 hi (Or.inl h205))))
            · refine E_aload_n dX12_goOn_208 rfl ?_
              refine E_iload dX12_goOn_209 rfl ?_
              refine i_X12_240 rfl dX12_goOn_211 (by exact hO.o) (c_isReddish (MO.w (hO.j I)) (MC.w hQI (by omega)) hW (by omega) (by omega)) (by omega) (Nat.le_of_ble_eq_true rfl) rfl rfl ?_
              rintro _ _ ⟨rfl, rfl⟩
              try dsimp only [pu]
              refine E_if_ne (tgt := 224) dX12_goOn_214 (by decide) (fun h214 => ?_) (fun h214 => ?_)
              · simp only [tB0, ne_eq, Bool.not_eq_false, Bool.not_eq_true, decide_eq_true_eq, decide_eq_false_iff_not, Classical.not_not] at h214
                refine E_iconst dX12_goOn_224 (by decide) ?_
                refine E_ior dX12_goOn_225 ?_
                refine p_X12_199 rfl dX12_goOn_226 hO.o ?_
                refine E_iinc dX12_goOn_229 rfl (by omega) (by omega) (by decide) rfl (by decide) ?_
                try dsimp only [List.set]
                refine E_goto (tgt := 128) dX12_goOn_232 (by decide) ?_
                exact EV.mq rfl rfl (ih (r + 1) _ (by omega) (go4_step (X := qW2 cd hu v t ↑r + 3) hi (by omega) (by omega) (go4_bs0 hi (Or.inr (by simpa using h214)))))
              · simp only [tB0, ne_eq, Bool.not_eq_false, Bool.not_eq_true, decide_eq_true_eq, decide_eq_false_iff_not, Classical.not_not] at h214
                refine E_iconst dX12_goOn_217 (by decide) ?_
                refine E_iload dX12_goOn_218 rfl ?_
                refine E_ishl dX12_goOn_220 ?_
                refine E_goto (tgt := 225) dX12_goOn_221 (by decide) ?_
                refine E_ior dX12_goOn_225 ?_
                refine p_X12_199 rfl dX12_goOn_226 hO.o ?_
                refine E_iinc dX12_goOn_229 rfl (by omega) (by omega) (by decide) rfl (by decide) ?_
                try dsimp only [List.set]
                refine E_goto (tgt := 128) dX12_goOn_232 (by decide) ?_
                exact EV.mq rfl rfl (ih (r + 1) _ (by omega) (go4_step (X := qW2 cd hu v t ↑r + 3) hi (by omega) (by omega) (go4_bs hi (by omega) (by omega) (by omega) (by omega) (by simpa using h214))))
          · refine E_bipush dX12_goOn_178 (by decide) ?_
            refine E_goto (tgt := 192) dX12_goOn_180 (by decide) ?_
            refine E_iast dX12_goOn_192 hO.s_wet (by omega) (by omega) ?_
            refine E_aload_n dX12_goOn_193 rfl ?_
            refine E_dup dX12_goOn_194 rfl ?_
            refine g_X12_199 rfl dX12_goOn_195 hO.o (mI_ne (by omega)) ?_
            refine E_aload_n dX12_goOn_198 rfl ?_
            refine E_iload_n dX12_goOn_199 rfl ?_
            refine E_iconst dX12_goOn_200 (by decide) ?_
            refine i_X12_202 rfl dX12_goOn_201 (by exact hO.o) (c_of (MO.w (hO.j I)) (MC.w hQI (by omega)) (j := 84 + 6 * ↑t) (by omega) (by omega) (by omega)) (by omega) (Nat.le_of_ble_eq_true rfl) rfl rfl ?_
            rintro _ _ ⟨rfl, rfl⟩
            try dsimp only [pu]
            refine E_iconst dX12_goOn_204 (by decide) ?_
            refine E_icmp_ne (tgt := 224) dX12_goOn_205 (by decide) (fun h205 => ?_) (fun h205 => ?_)
            · refine E_iconst dX12_goOn_224 (by decide) ?_
              refine E_ior dX12_goOn_225 ?_
              refine p_X12_199 rfl dX12_goOn_226 hO.o ?_
              refine E_iinc dX12_goOn_229 rfl (by omega) (by omega) (by decide) rfl (by decide) ?_
              try dsimp only [List.set]
              refine E_goto (tgt := 128) dX12_goOn_232 (by decide) ?_
              exact EV.mq rfl rfl (ih (r + 1) _ (by omega) (go4_step (X := 99) hi (by omega) (by omega) (go4_bs0 hi (Or.inl h205))))
            · refine E_aload_n dX12_goOn_208 rfl ?_
              refine E_iload dX12_goOn_209 rfl ?_
              refine i_X12_240 rfl dX12_goOn_211 (by exact hO.o) (c_isReddish (MO.w (hO.j I)) (MC.w hQI (by omega)) hW (by omega) (by omega)) (by omega) (Nat.le_of_ble_eq_true rfl) rfl rfl ?_
              rintro _ _ ⟨rfl, rfl⟩
              try dsimp only [pu]
              refine E_if_ne (tgt := 224) dX12_goOn_214 (by decide) (fun h214 => ?_) (fun h214 => ?_)
              · simp only [tB0, ne_eq, Bool.not_eq_false, Bool.not_eq_true, decide_eq_true_eq, decide_eq_false_iff_not, Classical.not_not] at h214
                refine E_iconst dX12_goOn_224 (by decide) ?_
                refine E_ior dX12_goOn_225 ?_
                refine p_X12_199 rfl dX12_goOn_226 hO.o ?_
                refine E_iinc dX12_goOn_229 rfl (by omega) (by omega) (by decide) rfl (by decide) ?_
                try dsimp only [List.set]
                refine E_goto (tgt := 128) dX12_goOn_232 (by decide) ?_
                exact EV.mq rfl rfl (ih (r + 1) _ (by omega) (go4_step (X := 99) hi (by omega) (by omega) (go4_bs0 hi (Or.inr (by simpa using h214)))))
              · simp only [tB0, ne_eq, Bool.not_eq_false, Bool.not_eq_true, decide_eq_true_eq, decide_eq_false_iff_not, Classical.not_not] at h214
                refine E_iconst dX12_goOn_217 (by decide) ?_
                refine E_iload dX12_goOn_218 rfl ?_
                refine E_ishl dX12_goOn_220 ?_
                refine E_goto (tgt := 225) dX12_goOn_221 (by decide) ?_
                refine E_ior dX12_goOn_225 ?_
                refine p_X12_199 rfl dX12_goOn_226 hO.o ?_
                refine E_iinc dX12_goOn_229 rfl (by omega) (by omega) (by decide) rfl (by decide) ?_
                try dsimp only [List.set]
                refine E_goto (tgt := 128) dX12_goOn_232 (by decide) ?_
                exact EV.mq rfl rfl (ih (r + 1) _ (by omega) (go4_step (X := 99) hi (by omega) (by omega) (go4_bs hi (by omega) (by omega) (by omega) (by omega) (by simpa using h214))))
set_option maxRecDepth 20000 in
set_option maxHeartbeats 8000000 in
theorem l_go4n {G : Ctx} {M : Mem} {m : Nat} {cd : CD} (hO : MO M m) (hQ : MC (mI M) m cd) (hW : WFc cd) {hu v : Int → Int} {sb : Nat → Bool} (hV : HV cd hu) (hH : ∀ p, 0 ≤ p → p < cd 2 → mI M (m + 7) p = hu p) (hv9 : ∀ p, 0 ≤ p → p < cd 2 → 0 ≤ v p ∧ v p ≤ 99) (n : Nat) (hn : cd 2 = n) {q dr : Int} (t : Nat) (ht : t < n) (s : Nat) {I : Nat → Int → Int} (hi : GO M m I) (K : EV G m_X12_goOn 2 0 0 (rJ M (fun I => GI3 M m cd hu v sb n n I)) 235 [some (vR m), some (vI q), some (vI dr), some (vI (t : Int)), some (vI (-1000000)), some (vI (s : Int))] [] (mJ M I)) : EV G m_X12_goOn 2 0 0 (rJ M (fun I => GI3 M m cd hu v sb n n I)) 128 [some (vR m), some (vI q), some (vI dr), some (vI (t : Int)), some (vI (-1000000)), some (vI (s : Int))] [] (mJ M I) := by
  have hpn := hW.pn
  have hl8 := hW.ln
  have hr8 := hW.rn
  have hQI : MC (mI (mJ M I)) m cd := fun k h0 h1 => (hi _ _ (by omega) (by omega)).trans (hQ k h0 h1)
  refine E_iload dX12_goOn_128 rfl ?_
  refine E_aload_n dX12_goOn_130 rfl ?_
  refine g_X12_19 rfl dX12_goOn_131 hO.o hO.court ?_
  refine E_iconst dX12_goOn_134 (by decide) ?_
  refine E_iald dX12_goOn_135 hO.s_court (by omega) (by omega) (hQI.at (j := 2) (by omega) (by omega) (by omega)) ?_
  refine E_icmp_ge (tgt := 235) dX12_goOn_136 (by decide) (fun h136 => ?_) (fun h136 => ?_)
  · exact K
  · refine E_iload dX12_goOn_139 rfl ?_
    refine c_X12_89 rfl dX12_goOn_141 ?_
    refine E_icmp_eq (tgt := 235) dX12_goOn_143 (by decide) (fun h143 => ?_) (fun h143 => ?_)
    · exact K
    · exact absurd rfl h143
set_option maxRecDepth 20000 in
set_option maxHeartbeats 1200000 in
theorem l_go3 {G : Ctx} {M : Mem} {m : Nat} {cd : CD} (hO : MO M m) (hQ : MC (mI M) m cd) (hW : WFc cd) {hu v : Int → Int} {sb : Nat → Bool} (hV : HV cd hu) (hH : ∀ p, 0 ≤ p → p < cd 2 → mI M (m + 7) p = hu p) (hv9 : ∀ p, 0 ≤ p → p < cd 2 → 0 ≤ v p ∧ v p ≤ 99) (n : Nat) (hn : cd 2 = n) {q dr : Int} (hD : BS dr n (gDr hu v)) : ∀ (k r : Nat) (I : Nat → Int → Int) (z4 z5 : Option MV), r + k = n → GI3 M m cd hu v sb n r I → EV G m_X12_goOn 2 0 0 (rJ M (fun I => GI3 M m cd hu v sb n n I)) 89 [some (vR m), some (vI q), some (vI dr), some (vI (r : Int)), z4, z5] [] (mJ M I) := by
  intro k
  induction k with
  | zero =>
    intro r I z4 z5 hr hi
    obtain rfl : r = n := by omega
    have hpn := hW.pn
    have hl8 := hW.ln
    have hr8 := hW.rn
    have hQI : MC (mI (mJ M I)) m cd := fun k h0 h1 => (hi.1 _ _ (by omega) (by omega)).trans (hQ k h0 h1)
    have hHI : ∀ p, 0 ≤ p → p < cd 2 → I (m + 7) p = hu p := fun p h0 h1 => (hi.1 _ _ (by omega) (by omega)).trans (hH p h0 h1)
    refine E_iload_n dX12_goOn_89 rfl ?_
    refine E_aload_n dX12_goOn_90 rfl ?_
    refine g_X12_19 rfl dX12_goOn_91 hO.o hO.court ?_
    refine E_iconst dX12_goOn_94 (by decide) ?_
    refine E_iald dX12_goOn_95 hO.s_court (by omega) (by omega) (hQI.at (j := 2) (by omega) (by omega) (by omega)) ?_
    refine E_icmp_ge (tgt := 241) dX12_goOn_96 (by decide) (fun h96 => ?_) (fun h96 => ?_)
    · refine E_vret dX12_goOn_241 rfl ?_
      exact ⟨rfl, I, rfl, hi⟩
    · exfalso; omega
  | succ k ih =>
    intro r I z4 z5 hr hi
    have hpn := hW.pn
    have hl8 := hW.ln
    have hr8 := hW.rn
    have hQI : MC (mI (mJ M I)) m cd := fun k h0 h1 => (hi.1 _ _ (by omega) (by omega)).trans (hQ k h0 h1)
    have hHI : ∀ p, 0 ≤ p → p < cd 2 → I (m + 7) p = hu p := fun p h0 h1 => (hi.1 _ _ (by omega) (by omega)).trans (hH p h0 h1)
    have hv := hV r (by omega) (by omega)
    have hbd := hD.bit (p := r) (by omega) (by omega)
    refine E_iload_n dX12_goOn_89 rfl ?_
    refine E_aload_n dX12_goOn_90 rfl ?_
    refine g_X12_19 rfl dX12_goOn_91 hO.o hO.court ?_
    refine E_iconst dX12_goOn_94 (by decide) ?_
    refine E_iald dX12_goOn_95 hO.s_court (by omega) (by omega) (hQI.at (j := 2) (by omega) (by omega) (by omega)) ?_
    refine E_icmp_ge (tgt := 241) dX12_goOn_96 (by decide) (fun h96 => ?_) (fun h96 => ?_)
    · exfalso; omega
    · refine E_iload_n dX12_goOn_99 rfl ?_
      refine E_iload_n dX12_goOn_100 rfl ?_
      refine E_ishr dX12_goOn_101 ?_
      refine E_iconst dX12_goOn_102 (by decide) ?_
      refine E_iand dX12_goOn_103 ?_
      rw [hbd]
      refine E_iconst dX12_goOn_104 (by decide) ?_
      refine E_icmp_ne (tgt := 121) dX12_goOn_105 (by decide) (fun h105 => ?_) (fun h105 => ?_)
      · have hg : ¬ (hu r ≠ -1000000 ∧ 30 < v r) := by have z := h105; simp only [ne_eq, tB1, gDr, decide_eq_true_eq] at z; exact z
        clear h105
        refine c_X12_89 rfl dX12_goOn_121 ?_
        refine E_istore dX12_goOn_123 rfl (by decide) ?_
        try dsimp only [List.set]
        refine E_iconst dX12_goOn_125 (by decide) ?_
        refine E_istore dX12_goOn_126 rfl (by decide) ?_
        try dsimp only [List.set]
        exact l_go4n hO hQ hW hV hH hv9 n hn r (by omega) 0 hi.1 (by
          refine E_iinc dX12_goOn_235 rfl (by omega) (by omega) (by decide) rfl (by decide) ?_
          try dsimp only [List.set]
          refine E_goto (tgt := 89) dX12_goOn_238 (by decide) ?_
          exact EV.mq rfl rfl (ih (r + 1) I _ _ (by omega) (go3_skip hW hV hn hi (by omega))))
      · have hg : gDr hu v r = true := by have z := h105; simp only [ne_eq, Classical.not_not, tB1] at z; exact z
        have hg2 : hu r ≠ -1000000 ∧ 30 < v r := by have z := hg; simp only [gDr, decide_eq_true_eq] at z; exact z
        clear h105
        refine E_aload_n dX12_goOn_108 rfl ?_
        refine E_aload_n dX12_goOn_109 rfl ?_
        refine g_X12_28 rfl dX12_goOn_110 hO.o hO.hung ?_
        refine E_iload_n dX12_goOn_113 rfl ?_
        refine E_iald dX12_goOn_114 hO.s_hung (by omega) (by omega) (hHI _ (by omega) (by omega)) ?_
        refine i_X12_237 rfl dX12_goOn_115 (by exact hO.o) (c_below (hO.j I) hQI hW (by omega) (by omega)) (by omega) (Nat.le_of_ble_eq_true rfl) rfl rfl ?_
        rintro _ _ ⟨rfl, rfl⟩
        try dsimp only [pu]
        refine E_goto (tgt := 123) dX12_goOn_118 (by decide) ?_
        refine E_istore dX12_goOn_123 rfl (by decide) ?_
        try dsimp only [List.set]
        refine E_iconst dX12_goOn_125 (by decide) ?_
        refine E_istore dX12_goOn_126 rfl (by decide) ?_
        try dsimp only [List.set]
        by_cases h3 : bel cd (hu ↑r) = -1000000
        · rw [h3]
          exact l_go4n hO hQ hW hV hH hv9 n hn r (by omega) 0 hi.1 (by
            refine E_iinc dX12_goOn_235 rfl (by omega) (by omega) (by decide) rfl (by decide) ?_
            try dsimp only [List.set]
            refine E_goto (tgt := 89) dX12_goOn_238 (by decide) ?_
            exact EV.mq rfl rfl (ih (r + 1) I _ _ (by omega) (go3_skip hW hV hn hi (Or.inr (Or.inr h3)))))
        · refine l_go4 hO hQ hW hV hH hv9 n hn r (by omega) h3 (fun J hJ => ?_) n 0 I (by omega) (go4_0 hi)
          refine E_iinc dX12_goOn_235 rfl (by omega) (by omega) (by decide) rfl (by decide) ?_
          try dsimp only [List.set]
          refine E_goto (tgt := 89) dX12_goOn_238 (by decide) ?_
          exact EV.mq rfl rfl (ih (r + 1) J _ _ (by omega) (go4_end hW hJ hg2.1 hg2.2 h3))
set_option maxRecDepth 20000 in
set_option maxHeartbeats 1200000 in
theorem l_go2 {G : Ctx} {M : Mem} {m : Nat} {cd : CD} (hO : MO M m) (hQ : MC (mI M) m cd) (hW : WFc cd) {hu v : Int → Int} {sb : Nat → Bool} (hV : HV cd hu) (hH : ∀ p, 0 ≤ p → p < cd 2 → mI M (m + 7) p = hu p) (hv9 : ∀ p, 0 ≤ p → p < cd 2 → 0 ≤ v p ∧ v p ≤ 99) (n : Nat) (hn : cd 2 = n) {q : Int} (hE : ∀ p, 0 ≤ p → p < cd 2 → mI M (m + 8) p = v p) (K3 : ∀ (dr : Int) (z : Int), BS dr n (gDr hu v) → EV G m_X12_goOn 2 0 0 (rJ M (fun I => GI3 M m cd hu v sb n n I)) 87 [some (vR m), some (vI q), some (vI dr), some (vI z), none, none] [] M) : ∀ (k r : Nat) (s : Int), r + k = n → BS s r (gDr hu v) → EV G m_X12_goOn 2 0 0 (rJ M (fun I => GI3 M m cd hu v sb n n I)) 39 [some (vR m), some (vI q), some (vI s), some (vI (r : Int)), none, none] [] M := by
  intro k
  induction k with
  | zero =>
    intro r s hr hi
    obtain rfl : r = n := by omega
    have hpn := hW.pn
    have hl8 := hW.ln
    have hr8 := hW.rn
    refine E_iload_n dX12_goOn_39 rfl ?_
    refine E_aload_n dX12_goOn_40 rfl ?_
    refine g_X12_19 rfl dX12_goOn_41 hO.o hO.court ?_
    refine E_iconst dX12_goOn_44 (by decide) ?_
    refine E_iald dX12_goOn_45 hO.s_court (by omega) (by omega) (hQ.at (j := 2) (by omega) (by omega) (by omega)) ?_
    refine E_icmp_ge (tgt := 87) dX12_goOn_46 (by decide) (fun h46 => ?_) (fun h46 => ?_)
    · exact K3 _ _ hi
    · exfalso; omega
  | succ k ih =>
    intro r s hr hi
    have hpn := hW.pn
    have hl8 := hW.ln
    have hr8 := hW.rn
    refine E_iload_n dX12_goOn_39 rfl ?_
    refine E_aload_n dX12_goOn_40 rfl ?_
    refine g_X12_19 rfl dX12_goOn_41 hO.o hO.court ?_
    refine E_iconst dX12_goOn_44 (by decide) ?_
    refine E_iald dX12_goOn_45 hO.s_court (by omega) (by omega) (hQ.at (j := 2) (by omega) (by omega) (by omega)) ?_
    refine E_icmp_ge (tgt := 87) dX12_goOn_46 (by decide) (fun h46 => ?_) (fun h46 => ?_)
    · exfalso; omega
    · refine E_iload_n dX12_goOn_49 rfl ?_
      refine E_aload_n dX12_goOn_50 rfl ?_
      refine g_X12_28 rfl dX12_goOn_51 hO.o hO.hung ?_
      refine E_iload_n dX12_goOn_54 rfl ?_
      refine E_iald dX12_goOn_55 hO.s_hung (by omega) (by omega) (hH _ (by omega) (by omega)) ?_
      refine c_X12_89 rfl dX12_goOn_56 ?_
      refine E_icmp_eq (tgt := 78) dX12_goOn_58 (by decide) (fun h58 => ?_) (fun h58 => ?_)
      · refine E_iconst dX12_goOn_78 (by decide) ?_
        refine E_ior dX12_goOn_79 ?_
        refine E_istore_n dX12_goOn_80 rfl (by decide) ?_
        try dsimp only [List.set]
        refine E_iinc dX12_goOn_81 rfl (by omega) (by omega) (by decide) rfl (by decide) ?_
        try dsimp only [List.set]
        refine E_goto (tgt := 39) dX12_goOn_84 (by decide) ?_
        have hrn := hi.ran
        rw [bOr_0 (by omega) (by omega)]
        exact EV.lq rfl (ih (r + 1) _ (by omega) (hi.skip (decide_eq_false (by omega))))
      · refine E_aload_n dX12_goOn_61 rfl ?_
        refine g_X12_31 rfl dX12_goOn_62 hO.o hO.wet ?_
        refine E_iload_n dX12_goOn_65 rfl ?_
        refine E_iald dX12_goOn_66 hO.s_wet (by omega) (by omega) (hE _ (by omega) (by omega)) ?_
        refine E_bipush dX12_goOn_67 (by decide) ?_
        refine E_icmp_le (tgt := 78) dX12_goOn_69 (by decide) (fun h69 => ?_) (fun h69 => ?_)
        · refine E_iconst dX12_goOn_78 (by decide) ?_
          refine E_ior dX12_goOn_79 ?_
          refine E_istore_n dX12_goOn_80 rfl (by decide) ?_
          try dsimp only [List.set]
          refine E_iinc dX12_goOn_81 rfl (by omega) (by omega) (by decide) rfl (by decide) ?_
          try dsimp only [List.set]
          refine E_goto (tgt := 39) dX12_goOn_84 (by decide) ?_
          have hrn := hi.ran
          rw [bOr_0 (by omega) (by omega)]
          exact EV.lq rfl (ih (r + 1) _ (by omega) (hi.skip (decide_eq_false (by omega))))
        · refine E_iconst dX12_goOn_72 (by decide) ?_
          refine E_iload_n dX12_goOn_73 rfl ?_
          refine E_ishl dX12_goOn_74 ?_
          refine E_goto (tgt := 79) dX12_goOn_75 (by decide) ?_
          refine E_ior dX12_goOn_79 ?_
          refine E_istore_n dX12_goOn_80 rfl (by decide) ?_
          try dsimp only [List.set]
          refine E_iinc dX12_goOn_81 rfl (by omega) (by omega) (by decide) rfl (by decide) ?_
          try dsimp only [List.set]
          refine E_goto (tgt := 39) dX12_goOn_84 (by decide) ?_
          exact EV.lq rfl (ih (r + 1) _ (by omega) (hi.add (by omega) (decide_eq_true ⟨h58, by omega⟩)))
