/-! ===== 70: the class's reader: tokens ===== -/
/-- the tape, as the class holds it -/
def TP (I : AS) (a : Nat) (T : Int → Int) (N : Nat) : Prop := I a 1 = N ∧ N ≤ 500 ∧ ∀ k : Nat, k < N → I (a + 1) (k : Int) = sg (T (k : Int)) ∧ (0 ≤ T (k : Int) ∧ T (k : Int) ≤ 255)
/-- the class's reader holds p -/
def CR (T : Int → Int) (N : Nat) (I : AS) (a : Nat) (p : PT) : Prop := ∃ (s : Int) (f t : Nat), I a 2 = s ∧ I a 3 = f ∧ I a 4 = t ∧ TVs T N s f t ∧ (pE p = 0 → s = pS p ∧ f = pF p ∧ t = pT p) ∧ I a 5 = pE p ∧ (pE p ≠ 0 → I a 6 = pW p)
def RA (M : Mem) (a : Nat) (I : AS) : Prop := ∀ b (j : Int), ¬ (b = a ∧ 2 ≤ j ∧ j ≤ 6) → I b j = mI M b j
theorem RA.tr {M : Mem} {a : Nat} {I J : AS} (h : RA M a I) (g : RA (mJ M I) a J) : RA M a J := fun b j hb => (g b j hb).trans (h b j hb)
theorem RA.tp {M : Mem} {a : Nat} {I : AS} {T : Int → Int} {N : Nat} (h : RA M a I) (hT : TP (mI M) a T N) : TP I a T N := ⟨(h _ _ (by omega)).trans hT.1, hT.2.1, fun k hk => ⟨(h _ _ (by omega)).trans (hT.2.2 k hk).1, (hT.2.2 k hk).2⟩⟩
theorem mWI_2 (M : Mem) (a : Nat) (k x y : Int) : mWI (mWI M a k x) a k y = mWI M a k y := by
  show (M.1, (up2 (up2 M.2.1 a k x) a k y, M.2.2)) = (M.1, (up2 M.2.1 a k y, M.2.2))
  rw [up2_up2]
theorem nt_fin {T : Int → Int} {N : Nat} {M : Mem} {a : Nat} {p : PT} {f t : Nat} {s : Int} (h5 : mI M a 5 = 0) (he : pE p = 0) (hf : tkF T N (pT p) = f) (hs : tkS T N f = s) (ht : tkE T N f = t) (hv : TVs T N s f t) {M' : Mem} (e2 : mI M' a 2 = s) (e3 : mI M' a 3 = f) (e4 : mI M' a 4 = t) (eo : ∀ b (j : Int), ¬ (b = a ∧ 2 ≤ j ∧ j ≤ 4) → mI M' b j = mI M b j) (hM : M' = mJ M (mI M')) : ∃ I, M' = mJ M I ∧ RA M a I ∧ CR T N I a (pN T N p) := by
  refine ⟨mI M', hM, fun b j hb => eo b j (by omega), s, f, t, e2, e3, e4, hv, fun _ => ?_, ?_, fun h => ?_⟩
  · unfold pN; rw [if_pos he, hf, hs, ht]; exact ⟨rfl, rfl, rfl⟩
  · rw [pN_e, he, eo _ _ (by omega)]; exact h5
  · exact absurd (by rw [pN_e]; exact he) h
set_option maxRecDepth 20000 in
set_option maxHeartbeats 3000000 in
theorem c_sortAt {G : Ctx} {M : Mem} {a : Nat} (hR : RQ M a) {T : Int → Int} {k : Nat} (k5 : k < 500) (hx : mI M (a + 1) (k : Int) = sg (T (k : Int))) (hb : 0 ≤ T (k : Int) ∧ T (k : Int) ≤ 255) : CT G m_X3_sortAt 1 0 0 [vR a, vI (k : Int)] M (rI M (sB (T (k : Int)))) := by
  refine CT.of k_X3_sortAt 1 (ls := [some (vR a), some (vI (k : Int)), none]) rfl (Nat.le_of_ble_eq_true rfl) ?_
  refine E_aload_n dX3_sortAt_0 rfl ?_
  refine g_X3_11 rfl dX3_sortAt_1 hR.o hR.tape ?_
  refine E_iload_n dX3_sortAt_4 rfl ?_
  refine E_bald dX3_sortAt_5 hR.s_tape (by omega) (by omega) hx ?_
  refine E_istore_n dX3_sortAt_6 rfl (by decide) ?_
  try dsimp only [List.set]
  refine E_iload_n dX3_sortAt_7 rfl ?_
  refine E_bipush dX3_sortAt_8 (by decide) ?_
  refine E_icmp_eq (tgt := 19) dX3_sortAt_10 (by decide) (fun h10 => ?_) (fun h10 => ?_)
  · refine E_iconst dX3_sortAt_19 (by decide) ?_
    refine E_iret dX3_sortAt_20 rfl ?_
    have hsg : sg (T (k : Int)) = T (k : Int) ∨ (127 < T (k : Int) ∧ sg (T (k : Int)) = T (k : Int) - 256) := by
      unfold sg; split
      · exact Or.inl rfl
      · exact Or.inr ⟨by omega, rfl⟩
    refine ⟨?_, rfl⟩
    congr 2; unfold sB
    rw [if_pos (by omega)]
  · refine E_iload_n dX3_sortAt_13 rfl ?_
    refine E_bipush dX3_sortAt_14 (by decide) ?_
    refine E_icmp_ne (tgt := 21) dX3_sortAt_16 (by decide) (fun h16 => ?_) (fun h16 => ?_)
    · refine E_iload_n dX3_sortAt_21 rfl ?_
      refine E_bipush dX3_sortAt_22 (by decide) ?_
      refine E_bipush dX3_sortAt_24 (by decide) ?_
      refine i_X3_142 rfl dX3_sortAt_26 c_isIn (by omega) (Nat.le_of_ble_eq_true rfl) rfl rfl ?_
      rintro _ _ ⟨rfl, rfl⟩
      try dsimp only [pu]
      refine E_if_eq (tgt := 34) dX3_sortAt_29 (by decide) (fun h29 => ?_) (fun h29 => ?_)
      · simp only [tB0, ne_eq, Bool.not_eq_false, Bool.not_eq_true, decide_eq_true_eq, decide_eq_false_iff_not, Classical.not_not] at h29
        refine E_iload_n dX3_sortAt_34 rfl ?_
        refine E_bipush dX3_sortAt_35 (by decide) ?_
        refine E_bipush dX3_sortAt_37 (by decide) ?_
        refine i_X3_142 rfl dX3_sortAt_39 c_isIn (by omega) (Nat.le_of_ble_eq_true rfl) rfl rfl ?_
        rintro _ _ ⟨rfl, rfl⟩
        try dsimp only [pu]
        refine E_if_eq (tgt := 47) dX3_sortAt_42 (by decide) (fun h42 => ?_) (fun h42 => ?_)
        · simp only [tB0, ne_eq, Bool.not_eq_false, Bool.not_eq_true, decide_eq_true_eq, decide_eq_false_iff_not, Classical.not_not] at h42
          refine E_iload_n dX3_sortAt_47 rfl ?_
          refine E_bipush dX3_sortAt_48 (by decide) ?_
          refine E_icmp_ne (tgt := 57) dX3_sortAt_50 (by decide) (fun h50 => ?_) (fun h50 => ?_)
          · refine E_iconst dX3_sortAt_57 (by decide) ?_
            refine E_iret dX3_sortAt_58 rfl ?_
            have hsg : sg (T (k : Int)) = T (k : Int) ∨ (127 < T (k : Int) ∧ sg (T (k : Int)) = T (k : Int) - 256) := by
              unfold sg; split
              · exact Or.inl rfl
              · exact Or.inr ⟨by omega, rfl⟩
            refine ⟨?_, rfl⟩
            congr 2; unfold sB
            rw [if_neg (by omega), if_neg (by omega), if_neg (by omega), if_neg (by omega)]
          · refine E_iconst dX3_sortAt_53 (by decide) ?_
            refine E_goto (tgt := 58) dX3_sortAt_54 (by decide) ?_
            refine E_iret dX3_sortAt_58 rfl ?_
            have hsg : sg (T (k : Int)) = T (k : Int) ∨ (127 < T (k : Int) ∧ sg (T (k : Int)) = T (k : Int) - 256) := by
              unfold sg; split
              · exact Or.inl rfl
              · exact Or.inr ⟨by omega, rfl⟩
            refine ⟨?_, rfl⟩
            congr 2; unfold sB
            rw [if_neg (by omega), if_neg (by omega), if_neg (by omega), if_pos (by omega)]
        · simp only [tB0, ne_eq, Bool.not_eq_false, Bool.not_eq_true, decide_eq_true_eq, decide_eq_false_iff_not, Classical.not_not] at h42
          refine E_iconst dX3_sortAt_45 (by decide) ?_
          refine E_iret dX3_sortAt_46 rfl ?_
          have hsg : sg (T (k : Int)) = T (k : Int) ∨ (127 < T (k : Int) ∧ sg (T (k : Int)) = T (k : Int) - 256) := by
            unfold sg; split
            · exact Or.inl rfl
            · exact Or.inr ⟨by omega, rfl⟩
          refine ⟨?_, rfl⟩
          congr 2; unfold sB
          rw [if_neg (by omega), if_neg (by omega), if_pos (by omega)]
      · simp only [tB0, ne_eq, Bool.not_eq_false, Bool.not_eq_true, decide_eq_true_eq, decide_eq_false_iff_not, Classical.not_not] at h29
        refine E_iconst dX3_sortAt_32 (by decide) ?_
        refine E_iret dX3_sortAt_33 rfl ?_
        have hsg : sg (T (k : Int)) = T (k : Int) ∨ (127 < T (k : Int) ∧ sg (T (k : Int)) = T (k : Int) - 256) := by
          unfold sg; split
          · exact Or.inl rfl
          · exact Or.inr ⟨by omega, rfl⟩
        refine ⟨?_, rfl⟩
        congr 2; unfold sB
        rw [if_neg (by omega), if_pos (by omega)]
    · refine E_iconst dX3_sortAt_19 (by decide) ?_
      refine E_iret dX3_sortAt_20 rfl ?_
      have hsg : sg (T (k : Int)) = T (k : Int) ∨ (127 < T (k : Int) ∧ sg (T (k : Int)) = T (k : Int) - 256) := by
        unfold sg; split
        · exact Or.inl rfl
        · exact Or.inr ⟨by omega, rfl⟩
      refine ⟨?_, rfl⟩
      congr 2; unfold sB
      rw [if_pos (by omega)]
set_option maxRecDepth 20000 in
set_option maxHeartbeats 3000000 in
theorem l_nt1 {G : Ctx} {M : Mem} {a : Nat} (hR : RQ M a) {T : Int → Int} {N : Nat} (hT : TP (mI M) a T N) {R : Nat} {Q : Option MV → Mem → Prop} (K : EV G m_X3_nextToken 2 0 0 Q 36 [some (vR a), some (vI (R : Int))] [] M) : ∀ (k r : Nat) , r + k = N → ruS T N 5 k r = R → EV G m_X3_nextToken 2 0 0 (Q) 13 [some (vR a), some (vI (r : Int))] [] M := by
  intro k
  induction k with
  | zero =>
    intro r  hr hi
    obtain rfl : r = N := by omega
    have h500 := hT.2.1
    refine E_iload_n dX3_nextToken_13 rfl ?_
    refine E_aload_n dX3_nextToken_14 rfl ?_
    refine g_X3_15 rfl dX3_nextToken_15 hR.o hT.1 ?_
    refine E_icmp_ge (tgt := 36) dX3_nextToken_18 (by decide) (fun h18 => ?_) (fun h18 => ?_)
    · have e : r = R := hi
      rw [e]; exact K
    · exfalso; omega
  | succ k ih =>
    intro r  hr hi
    have h500 := hT.2.1
    refine E_iload_n dX3_nextToken_13 rfl ?_
    refine E_aload_n dX3_nextToken_14 rfl ?_
    refine g_X3_15 rfl dX3_nextToken_15 hR.o hT.1 ?_
    refine E_icmp_ge (tgt := 36) dX3_nextToken_18 (by decide) (fun h18 => ?_) (fun h18 => ?_)
    · exfalso; omega
    · refine E_aload_n dX3_nextToken_21 rfl ?_
      refine E_iload_n dX3_nextToken_22 rfl ?_
      refine i_X3_154 rfl dX3_nextToken_23 (by exact hR.o) (c_sortAt hR (k := r) (by omega) (hT.2.2 r (by omega)).1 (hT.2.2 r (by omega)).2) (by omega) (Nat.le_of_ble_eq_true rfl) rfl rfl ?_
      rintro _ _ ⟨rfl, rfl⟩
      try dsimp only [pu]
      refine E_iconst dX3_nextToken_26 (by decide) ?_
      refine E_icmp_ne (tgt := 36) dX3_nextToken_27 (by decide) (fun h27 => ?_) (fun h27 => ?_)
      · have e : ruS T N 5 (k + 1) r = r := by simp only [ruS]; rw [if_neg (fun z => h27 z.2)]
        rw [e] at hi
        rw [hi]; exact K
      · refine E_iinc dX3_nextToken_30 rfl (by omega) (by omega) (by decide) rfl (by decide) ?_
        try dsimp only [List.set]
        refine E_goto (tgt := 13) dX3_nextToken_33 (by decide) ?_
        have e : ruS T N 5 (k + 1) r = ruS T N 5 k (r + 1) := by simp only [ruS]; rw [if_pos ⟨by omega, by omega⟩]
        exact EV.lq rfl (ih (r + 1) (by omega) (by rw [← e]; exact hi))
set_option maxRecDepth 20000 in
set_option maxHeartbeats 3000000 in
theorem l_nt2 {G : Ctx} {M : Mem} {a : Nat} (hR : RQ M a) {T : Int → Int} {N : Nat} (hT : TP (mI M) a T N) {q x1 : Int} (hq : mI M a 2 = q) {R : Nat} {Q : Option MV → Mem → Prop} (K : EV G m_X3_nextToken 2 0 0 Q 131 [some (vR a), some (vI x1)] [] (mWI M a 4 (R : Int))) : ∀ (k r : Nat) , r + k = N → ruS T N q k r = R → EV G m_X3_nextToken 2 0 0 (Q) 92 [some (vR a), some (vI x1)] [] (mWI M a 4 (r : Int)) := by
  intro k
  induction k with
  | zero =>
    intro r  hr hi
    obtain rfl : r = N := by omega
    have h500 := hT.2.1
    refine E_aload_n dX3_nextToken_92 rfl ?_
    refine g_X3_28 rfl dX3_nextToken_93 (by exact hR.o) mI_eq ?_
    refine E_aload_n dX3_nextToken_96 rfl ?_
    refine g_X3_15 rfl dX3_nextToken_97 (by exact hR.o) ((mI_ne (by omega)).trans hT.1) ?_
    refine E_icmp_ge (tgt := 131) dX3_nextToken_100 (by decide) (fun h100 => ?_) (fun h100 => ?_)
    · have e : r = R := hi
      rw [e]; exact K
    · exfalso; omega
  | succ k ih =>
    intro r  hr hi
    have h500 := hT.2.1
    refine E_aload_n dX3_nextToken_92 rfl ?_
    refine g_X3_28 rfl dX3_nextToken_93 (by exact hR.o) mI_eq ?_
    refine E_aload_n dX3_nextToken_96 rfl ?_
    refine g_X3_15 rfl dX3_nextToken_97 (by exact hR.o) ((mI_ne (by omega)).trans hT.1) ?_
    refine E_icmp_ge (tgt := 131) dX3_nextToken_100 (by decide) (fun h100 => ?_) (fun h100 => ?_)
    · exfalso; omega
    · refine E_aload_n dX3_nextToken_103 rfl ?_
      refine E_aload_n dX3_nextToken_104 rfl ?_
      refine g_X3_28 rfl dX3_nextToken_105 (by exact hR.o) mI_eq ?_
      refine i_X3_154 rfl dX3_nextToken_108 (by exact (by exact hR.o)) (c_sortAt (M := mWI M a 4 (r : Int)) (by exact hR) (k := r) (by omega) ((mI_ne (by omega)).trans (hT.2.2 r (by omega)).1) (hT.2.2 r (by omega)).2) (by omega) (Nat.le_of_ble_eq_true rfl) rfl rfl ?_
      rintro _ _ ⟨rfl, rfl⟩
      try dsimp only [pu]
      refine E_aload_n dX3_nextToken_111 rfl ?_
      refine g_X3_47 rfl dX3_nextToken_112 (by exact hR.o) ((mI_ne (by omega)).trans hq) ?_
      refine E_icmp_ne (tgt := 131) dX3_nextToken_115 (by decide) (fun h115 => ?_) (fun h115 => ?_)
      · have e : ruS T N q (k + 1) r = r := by simp only [ruS]; rw [if_neg (fun z => h115 z.2)]
        rw [e] at hi
        rw [hi]; exact K
      · refine E_aload_n dX3_nextToken_118 rfl ?_
        refine E_dup dX3_nextToken_119 rfl ?_
        refine g_X3_28 rfl dX3_nextToken_120 (by exact hR.o) mI_eq ?_
        refine E_iconst dX3_nextToken_123 (by decide) ?_
        refine E_iadd dX3_nextToken_124 (by omega) (by omega) ?_
        refine p_X3_28 rfl dX3_nextToken_125 (by exact hR.o) ?_
        refine E_goto (tgt := 92) dX3_nextToken_128 (by decide) ?_
        have e : ruS T N q (k + 1) r = ruS T N q k (r + 1) := by simp only [ruS]; rw [if_pos ⟨by omega, by omega⟩]
        rw [mWI_2]
        exact EV.mq rfl rfl (ih (r + 1) (by omega) (by rw [← e]; exact hi))
set_option maxRecDepth 20000 in
set_option maxHeartbeats 3000000 in
theorem c_nextTok {G : Ctx} {M : Mem} {a : Nat} (hR : RQ M a) {T : Int → Int} {N : Nat} (hT : TP (mI M) a T N) {p : PT} (h5 : mI M a 5 = pE p) (hq4 : pE p = 0 → mI M a 4 = pT p ∧ pT p ≤ N) (hk : pE p ≠ 0 → CR T N (mI M) a p) : CT G m_X3_nextToken 2 0 0 [vR a] M (rJ M (fun I => RA M a I ∧ CR T N I a (pN T N p))) := by
  refine CT.of k_X3_nextToken 1 (ls := [some (vR a), none]) rfl (Nat.le_of_ble_eq_true rfl) ?_
  refine E_aload_n dX3_nextToken_0 rfl ?_
  refine g_X3_22 rfl dX3_nextToken_1 (by exact hR.o) h5 ?_
  refine E_if_eq (tgt := 8) dX3_nextToken_4 (by decide) (fun h4 => ?_) (fun h4 => ?_)
  · have he : pE p = 0 := by omega
    refine E_aload_n dX3_nextToken_8 rfl ?_
    refine g_X3_28 rfl dX3_nextToken_9 (by exact hR.o) (hq4 (by omega)).1 ?_
    refine E_istore_n dX3_nextToken_12 rfl (by decide) ?_
    try dsimp only [List.set]
    have h4p := hq4 he
    obtain ⟨f, hf⟩ : ∃ f, f = tkF T N (pT p) := ⟨_, rfl⟩
    have hfN : f ≤ N := by rw [hf]; exact tkF_le T h4p.2
    have hf5 : f < N → sB (T (f : Int)) ≠ 5 := by rw [hf]; exact tkF_nb T h4p.2
    have h500 := hT.2.1
    have hsb := sB_b (T (f : Int))
    refine l_nt1 hR hT (R := f) ?_ (N - pT p) (pT p) (by omega) (by rw [hf]; rfl)
    refine E_aload_n dX3_nextToken_36 rfl ?_
    refine E_iload_n dX3_nextToken_37 rfl ?_
    refine p_X3_50 rfl dX3_nextToken_38 (by exact hR.o) ?_
    refine E_aload_n dX3_nextToken_41 rfl ?_
    refine E_iload_n dX3_nextToken_42 rfl ?_
    refine E_aload_n dX3_nextToken_43 rfl ?_
    refine g_X3_15 rfl dX3_nextToken_44 (by exact hR.o) ((mI_ne (by omega)).trans hT.1) ?_
    refine E_icmp_ge (tgt := 58) dX3_nextToken_47 (by decide) (fun h47 => ?_) (fun h47 => ?_)
    · refine E_iconst dX3_nextToken_58 (by decide) ?_
      refine p_X3_47 rfl dX3_nextToken_59 (by exact hR.o) ?_
      refine E_aload_n dX3_nextToken_62 rfl ?_
      refine E_iload_n dX3_nextToken_63 rfl ?_
      refine E_iconst dX3_nextToken_64 (by decide) ?_
      refine E_iadd dX3_nextToken_65 (by omega) (by omega) ?_
      refine E_aload_n dX3_nextToken_66 rfl ?_
      refine g_X3_15 rfl dX3_nextToken_67 (by exact hR.o) ((mI_ne (by omega)).trans ((mI_ne (by omega)).trans hT.1)) ?_
      refine i_X3_158 rfl dX3_nextToken_70 c_mmin (by omega) (Nat.le_of_ble_eq_true rfl) rfl rfl ?_
      rintro _ _ ⟨rfl, rfl⟩
      rw [show min ((f : Int) + 1) (N : Int) = (f : Int) by omega]
      try dsimp only [pu]
      refine p_X3_28 rfl dX3_nextToken_73 (by exact hR.o) ?_
      refine E_aload_n dX3_nextToken_76 rfl ?_
      refine g_X3_47 rfl dX3_nextToken_77 (by exact hR.o) ((mI_ne (by omega)).trans mI_eq) ?_
      refine E_iconst dX3_nextToken_80 (by decide) ?_
      refine E_icmp_eq (tgt := 92) dX3_nextToken_81 (by decide) (fun h81 => ?_) (fun h81 => ?_)
      · exfalso; omega
      · refine E_aload_n dX3_nextToken_84 rfl ?_
        refine g_X3_47 rfl dX3_nextToken_85 (by exact hR.o) ((mI_ne (by omega)).trans mI_eq) ?_
        refine E_iconst dX3_nextToken_88 (by decide) ?_
        refine E_icmp_ne (tgt := 131) dX3_nextToken_89 (by decide) (fun h89 => ?_) (fun h89 => ?_)
        · have ht : tkE T N f = f := by unfold tkE; rw [if_neg (by omega)]
          refine E_aload_n dX3_nextToken_131 rfl ?_
          refine g_X3_47 rfl dX3_nextToken_132 (by exact hR.o) ((mI_ne (by omega)).trans mI_eq) ?_
          refine E_iconst dX3_nextToken_135 (by decide) ?_
          refine E_icmp_ne (tgt := 157) dX3_nextToken_136 (by decide) (fun h136 => ?_) (fun h136 => ?_)
          · refine E_vret dX3_nextToken_157 rfl ?_
            have hs : tkS T N f = 0 := by unfold tkS; rw [if_neg (by omega)]
            have hv := tk_v T hfN hf5
            rw [ht] at hv
            refine ⟨rfl, nt_fin (by omega) he hf.symm rfl ht hv (by simp only [mI, mWI, up2]; rw [hs]; simp) (by simp [mI, mWI, up2]) (by simp [mI, mWI, up2]) (fun b j hb => by simp only [mI, mWI, up2]; rw [if_neg (by omega)]; rw [if_neg (by omega)]; rw [if_neg (by omega)]) rfl⟩
          · exfalso; omega
        · exfalso; omega
    · refine E_aload_n dX3_nextToken_50 rfl ?_
      refine E_iload_n dX3_nextToken_51 rfl ?_
      refine i_X3_154 rfl dX3_nextToken_52 (by exact (by exact hR.o)) (c_sortAt (M := mWI M a 3 (f : Int)) (by exact hR) (k := f) (by omega) ((mI_ne (by omega)).trans (hT.2.2 f (by omega)).1) (hT.2.2 f (by omega)).2) (by omega) (Nat.le_of_ble_eq_true rfl) rfl rfl ?_
      rintro _ _ ⟨rfl, rfl⟩
      try dsimp only [pu]
      refine E_goto (tgt := 59) dX3_nextToken_55 (by decide) ?_
      refine p_X3_47 rfl dX3_nextToken_59 (by exact hR.o) ?_
      refine E_aload_n dX3_nextToken_62 rfl ?_
      refine E_iload_n dX3_nextToken_63 rfl ?_
      refine E_iconst dX3_nextToken_64 (by decide) ?_
      refine E_iadd dX3_nextToken_65 (by omega) (by omega) ?_
      refine E_aload_n dX3_nextToken_66 rfl ?_
      refine g_X3_15 rfl dX3_nextToken_67 (by exact hR.o) ((mI_ne (by omega)).trans ((mI_ne (by omega)).trans hT.1)) ?_
      refine i_X3_158 rfl dX3_nextToken_70 c_mmin (by omega) (Nat.le_of_ble_eq_true rfl) rfl rfl ?_
      rintro _ _ ⟨rfl, rfl⟩
      rw [show min ((f : Int) + 1) (N : Int) = ((f + 1 : Nat) : Int) by omega]
      try dsimp only [pu]
      refine p_X3_28 rfl dX3_nextToken_73 (by exact hR.o) ?_
      refine E_aload_n dX3_nextToken_76 rfl ?_
      refine g_X3_47 rfl dX3_nextToken_77 (by exact hR.o) ((mI_ne (by omega)).trans mI_eq) ?_
      refine E_iconst dX3_nextToken_80 (by decide) ?_
      refine E_icmp_eq (tgt := 92) dX3_nextToken_81 (by decide) (fun h81 => ?_) (fun h81 => ?_)
      · have hfn : f < N := by omega
        obtain ⟨t, ht⟩ : ∃ t, tkE T N f = t := ⟨_, rfl⟩
        have ht2 : ruS T N (sB (T (f : Int))) (N - (f + 1)) (f + 1) = t := by rw [← ht]; unfold tkE; rw [if_pos hfn, if_pos (by omega)]
        have htg := ruS_ge T N (sB (T (f : Int))) (N - (f + 1)) (f + 1)
        have htl := ruS_le T N (sB (T (f : Int))) (N - (f + 1)) (f + 1) (by omega)
        rw [ht2] at htg htl
        refine l_nt2 (M := (mWI (mWI M a 3 (f : Int)) a 2 (sB (T (f : Int))))) (by exact hR) ⟨(mI_ne (by omega)).trans ((mI_ne (by omega)).trans hT.1), hT.2.1, fun k hk => ⟨(mI_ne (by omega)).trans ((mI_ne (by omega)).trans (hT.2.2 k hk).1), (hT.2.2 k hk).2⟩⟩ (q := sB (T (f : Int))) mI_eq (R := t) ?_ (N - (f + 1)) (f + 1) (by omega) ht2
        refine E_aload_n dX3_nextToken_131 rfl ?_
        refine g_X3_47 rfl dX3_nextToken_132 (by exact hR.o) ((mI_ne (by omega)).trans mI_eq) ?_
        refine E_iconst dX3_nextToken_135 (by decide) ?_
        refine E_icmp_ne (tgt := 157) dX3_nextToken_136 (by decide) (fun h136 => ?_) (fun h136 => ?_)
        · refine E_vret dX3_nextToken_157 rfl ?_
          have hs : tkS T N f = sB (T (f : Int)) := by
            unfold tkS; rw [if_pos hfn, if_neg (by omega)]
          have hv := tk_v T hfN hf5
          rw [ht] at hv
          refine ⟨rfl, nt_fin (by omega) he hf.symm rfl ht hv (by simp only [mI, mWI, up2]; rw [hs]; simp) (by simp [mI, mWI, up2]) (by simp [mI, mWI, up2]) (fun b j hb => by simp only [mI, mWI, up2]; rw [if_neg (by omega)]; rw [if_neg (by omega)]; rw [if_neg (by omega)]) rfl⟩
        · refine E_aload_n dX3_nextToken_139 rfl ?_
          refine g_X3_28 rfl dX3_nextToken_140 (by exact hR.o) mI_eq ?_
          refine E_aload_n dX3_nextToken_143 rfl ?_
          refine g_X3_50 rfl dX3_nextToken_144 (by exact hR.o) ((mI_ne (by omega)).trans ((mI_ne (by omega)).trans mI_eq)) ?_
          refine E_isub dX3_nextToken_147 (by omega) (by omega) ?_
          refine E_iconst dX3_nextToken_148 (by decide) ?_
          refine E_icmp_le (tgt := 157) dX3_nextToken_149 (by decide) (fun h149 => ?_) (fun h149 => ?_)
          · refine E_vret dX3_nextToken_157 rfl ?_
            have hs : tkS T N f = sB (T (f : Int)) := by
              unfold tkS; rw [if_pos hfn, if_neg (by omega)]
            have hv := tk_v T hfN hf5
            rw [ht] at hv
            refine ⟨rfl, nt_fin (by omega) he hf.symm rfl ht hv (by simp only [mI, mWI, up2]; rw [hs]; simp) (by simp [mI, mWI, up2]) (by simp [mI, mWI, up2]) (fun b j hb => by simp only [mI, mWI, up2]; rw [if_neg (by omega)]; rw [if_neg (by omega)]; rw [if_neg (by omega)]) rfl⟩
          · refine E_aload_n dX3_nextToken_152 rfl ?_
            refine E_iconst dX3_nextToken_153 (by decide) ?_
            refine p_X3_47 rfl dX3_nextToken_154 (by exact hR.o) ?_
            refine E_vret dX3_nextToken_157 rfl ?_
            have hs : tkS T N f = 4 := by
              unfold tkS; rw [if_pos hfn, if_pos ⟨by omega, by omega⟩]
            have hv := tk_v T hfN hf5
            rw [ht] at hv
            refine ⟨rfl, nt_fin (by omega) he hf.symm rfl ht hv (by simp only [mI, mWI, up2]; rw [hs]; simp) (by simp [mI, mWI, up2]) (by simp [mI, mWI, up2]) (fun b j hb => by simp only [mI, mWI, up2]; rw [if_neg (by omega)]; rw [if_neg (by omega)]; rw [if_neg (by omega)]; rw [if_neg (by omega)]) rfl⟩
      · refine E_aload_n dX3_nextToken_84 rfl ?_
        refine g_X3_47 rfl dX3_nextToken_85 (by exact hR.o) ((mI_ne (by omega)).trans mI_eq) ?_
        refine E_iconst dX3_nextToken_88 (by decide) ?_
        refine E_icmp_ne (tgt := 131) dX3_nextToken_89 (by decide) (fun h89 => ?_) (fun h89 => ?_)
        · have hfn : f < N := by omega
          have ht : tkE T N f = f + 1 := by unfold tkE; rw [if_pos hfn, if_neg (by omega)]
          refine E_aload_n dX3_nextToken_131 rfl ?_
          refine g_X3_47 rfl dX3_nextToken_132 (by exact hR.o) ((mI_ne (by omega)).trans mI_eq) ?_
          refine E_iconst dX3_nextToken_135 (by decide) ?_
          refine E_icmp_ne (tgt := 157) dX3_nextToken_136 (by decide) (fun h136 => ?_) (fun h136 => ?_)
          · refine E_vret dX3_nextToken_157 rfl ?_
            have hs : tkS T N f = sB (T (f : Int)) := by
              unfold tkS; rw [if_pos hfn, if_neg (by omega)]
            have hv := tk_v T hfN hf5
            rw [ht] at hv
            refine ⟨rfl, nt_fin (by omega) he hf.symm rfl ht hv (by simp only [mI, mWI, up2]; rw [hs]; simp) (by simp [mI, mWI, up2]) (by simp [mI, mWI, up2]) (fun b j hb => by simp only [mI, mWI, up2]; rw [if_neg (by omega)]; rw [if_neg (by omega)]; rw [if_neg (by omega)]) rfl⟩
          · refine E_aload_n dX3_nextToken_139 rfl ?_
            refine g_X3_28 rfl dX3_nextToken_140 (by exact hR.o) mI_eq ?_
            refine E_aload_n dX3_nextToken_143 rfl ?_
            refine g_X3_50 rfl dX3_nextToken_144 (by exact hR.o) ((mI_ne (by omega)).trans ((mI_ne (by omega)).trans mI_eq)) ?_
            refine E_isub dX3_nextToken_147 (by omega) (by omega) ?_
            refine E_iconst dX3_nextToken_148 (by decide) ?_
            refine E_icmp_le (tgt := 157) dX3_nextToken_149 (by decide) (fun h149 => ?_) (fun h149 => ?_)
            · refine E_vret dX3_nextToken_157 rfl ?_
              have hs : tkS T N f = sB (T (f : Int)) := by
                unfold tkS; rw [if_pos hfn, if_neg (by omega)]
              have hv := tk_v T hfN hf5
              rw [ht] at hv
              refine ⟨rfl, nt_fin (by omega) he hf.symm rfl ht hv (by simp only [mI, mWI, up2]; rw [hs]; simp) (by simp [mI, mWI, up2]) (by simp [mI, mWI, up2]) (fun b j hb => by simp only [mI, mWI, up2]; rw [if_neg (by omega)]; rw [if_neg (by omega)]; rw [if_neg (by omega)]) rfl⟩
            · refine E_aload_n dX3_nextToken_152 rfl ?_
              refine E_iconst dX3_nextToken_153 (by decide) ?_
              refine p_X3_47 rfl dX3_nextToken_154 (by exact hR.o) ?_
              refine E_vret dX3_nextToken_157 rfl ?_
              have hs : tkS T N f = 4 := by
                unfold tkS; rw [if_pos hfn, if_pos ⟨by omega, by omega⟩]
              have hv := tk_v T hfN hf5
              rw [ht] at hv
              refine ⟨rfl, nt_fin (by omega) he hf.symm rfl ht hv (by simp only [mI, mWI, up2]; rw [hs]; simp) (by simp [mI, mWI, up2]) (by simp [mI, mWI, up2]) (fun b j hb => by simp only [mI, mWI, up2]; rw [if_neg (by omega)]; rw [if_neg (by omega)]; rw [if_neg (by omega)]; rw [if_neg (by omega)]) rfl⟩
        · have hfn : f < N := by omega
          obtain ⟨t, ht⟩ : ∃ t, tkE T N f = t := ⟨_, rfl⟩
          have ht2 : ruS T N (sB (T (f : Int))) (N - (f + 1)) (f + 1) = t := by rw [← ht]; unfold tkE; rw [if_pos hfn, if_pos (by omega)]
          have htg := ruS_ge T N (sB (T (f : Int))) (N - (f + 1)) (f + 1)
          have htl := ruS_le T N (sB (T (f : Int))) (N - (f + 1)) (f + 1) (by omega)
          rw [ht2] at htg htl
          refine l_nt2 (M := (mWI (mWI M a 3 (f : Int)) a 2 (sB (T (f : Int))))) (by exact hR) ⟨(mI_ne (by omega)).trans ((mI_ne (by omega)).trans hT.1), hT.2.1, fun k hk => ⟨(mI_ne (by omega)).trans ((mI_ne (by omega)).trans (hT.2.2 k hk).1), (hT.2.2 k hk).2⟩⟩ (q := sB (T (f : Int))) mI_eq (R := t) ?_ (N - (f + 1)) (f + 1) (by omega) ht2
          refine E_aload_n dX3_nextToken_131 rfl ?_
          refine g_X3_47 rfl dX3_nextToken_132 (by exact hR.o) ((mI_ne (by omega)).trans mI_eq) ?_
          refine E_iconst dX3_nextToken_135 (by decide) ?_
          refine E_icmp_ne (tgt := 157) dX3_nextToken_136 (by decide) (fun h136 => ?_) (fun h136 => ?_)
          · refine E_vret dX3_nextToken_157 rfl ?_
            have hs : tkS T N f = sB (T (f : Int)) := by
              unfold tkS; rw [if_pos hfn, if_neg (by omega)]
            have hv := tk_v T hfN hf5
            rw [ht] at hv
            refine ⟨rfl, nt_fin (by omega) he hf.symm rfl ht hv (by simp only [mI, mWI, up2]; rw [hs]; simp) (by simp [mI, mWI, up2]) (by simp [mI, mWI, up2]) (fun b j hb => by simp only [mI, mWI, up2]; rw [if_neg (by omega)]; rw [if_neg (by omega)]; rw [if_neg (by omega)]) rfl⟩
          · refine E_aload_n dX3_nextToken_139 rfl ?_
            refine g_X3_28 rfl dX3_nextToken_140 (by exact hR.o) mI_eq ?_
            refine E_aload_n dX3_nextToken_143 rfl ?_
            refine g_X3_50 rfl dX3_nextToken_144 (by exact hR.o) ((mI_ne (by omega)).trans ((mI_ne (by omega)).trans mI_eq)) ?_
            refine E_isub dX3_nextToken_147 (by omega) (by omega) ?_
            refine E_iconst dX3_nextToken_148 (by decide) ?_
            refine E_icmp_le (tgt := 157) dX3_nextToken_149 (by decide) (fun h149 => ?_) (fun h149 => ?_)
            · refine E_vret dX3_nextToken_157 rfl ?_
              have hs : tkS T N f = sB (T (f : Int)) := by
                unfold tkS; rw [if_pos hfn, if_neg (by omega)]
              have hv := tk_v T hfN hf5
              rw [ht] at hv
              refine ⟨rfl, nt_fin (by omega) he hf.symm rfl ht hv (by simp only [mI, mWI, up2]; rw [hs]; simp) (by simp [mI, mWI, up2]) (by simp [mI, mWI, up2]) (fun b j hb => by simp only [mI, mWI, up2]; rw [if_neg (by omega)]; rw [if_neg (by omega)]; rw [if_neg (by omega)]) rfl⟩
            · refine E_aload_n dX3_nextToken_152 rfl ?_
              refine E_iconst dX3_nextToken_153 (by decide) ?_
              refine p_X3_47 rfl dX3_nextToken_154 (by exact hR.o) ?_
              refine E_vret dX3_nextToken_157 rfl ?_
              have hs : tkS T N f = 4 := by
                unfold tkS; rw [if_pos hfn, if_pos ⟨by omega, by omega⟩]
              have hv := tk_v T hfN hf5
              rw [ht] at hv
              refine ⟨rfl, nt_fin (by omega) he hf.symm rfl ht hv (by simp only [mI, mWI, up2]; rw [hs]; simp) (by simp [mI, mWI, up2]) (by simp [mI, mWI, up2]) (fun b j hb => by simp only [mI, mWI, up2]; rw [if_neg (by omega)]; rw [if_neg (by omega)]; rw [if_neg (by omega)]; rw [if_neg (by omega)]) rfl⟩
  · refine E_vret dX3_nextToken_7 rfl ?_
    have hn : pE p ≠ 0 := by omega
    exact ⟨rfl, mI M, rfl, fun _ _ _ => rfl, by rw [pN_f hn]; exact hk hn⟩
