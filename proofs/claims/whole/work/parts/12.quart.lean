/-! ===== 12: Wash: quarters ===== -/
theorem WA.j {M : Mem} {w : Nat} (I : Nat → Int → Int) (h : WA M w) : WA (mJ M I) w := h
theorem CA.j {M : Mem} {a : Nat} (I : Nat → Int → Int) (h : CA M a) : CA (mJ M I) a := h
theorem CC.off {I J : Nat → Int → Int} {a : Nat} {cd : CD} (h : CC I a cd) (e : ∀ b j, a ≤ b → b ≤ a + 13 → J b j = I b j) : CC J a cd := by
  refine ⟨?_, ?_, ?_, ?_, ?_, ?_, ?_, ?_, ?_, ?_, ?_, ?_, ?_, ?_, ?_⟩
  · rw [e _ _ (by omega) (by omega)]; exact h.lnc
  · rw [e _ _ (by omega) (by omega)]; exact h.rnc
  · rw [e _ _ (by omega) (by omega)]; exact h.pnc
  · intro z h0 h1; rw [e _ _ (by omega) (by omega)]; exact h.day h0 h1
  · intro z h0 h1; rw [e _ _ (by omega) (by omega)]; exact h.floors h0 h1
  · intro z h0 h1; rw [e _ _ (by omega) (by omega)]; exact h.columns h0 h1
  · intro z h0 h1; rw [e _ _ (by omega) (by omega)]; exact h.wides h0 h1
  · intro z h0 h1; rw [e _ _ (by omega) (by omega)]; exact h.below h0 h1
  · intro z h0 h1; rw [e _ _ (by omega) (by omega)]; exact h.rightLines h0 h1
  · intro z h0 h1; rw [e _ _ (by omega) (by omega)]; exact h.rightFroms h0 h1
  · intro z h0 h1; rw [e _ _ (by omega) (by omega)]; exact h.rightTos h0 h1
  · intro z h0 h1; rw [e _ _ (by omega) (by omega)]; exact h.rightOwners h0 h1
  · intro z h0 h1; rw [e _ _ (by omega) (by omega)]; exact h.kinds h0 h1
  · intro z h0 h1; rw [e _ _ (by omega) (by omega)]; exact h.owners h0 h1
  · intro z h0 h1; rw [e _ _ (by omega) (by omega)]; exact h.yards h0 h1
theorem mI_ne {M : Mem} {a b : Nat} {k j x : Int} (h : ¬ (b = a ∧ j = k)) : mI (mWI M a k x) b j = mI M b j := up2_ne _ _ h
theorem mI_eq {M : Mem} {a : Nat} {k x : Int} : mI (mWI M a k x) a k = x := up2_self _ _ _ _
theorem nar01 {x : Int} (h : x = 0 ∨ x = 1) : narrow .boolean (.int (Int32.ofInt x)) = .int (Int32.ofInt x) := by rcases h with rfl | rfl <;> decide
def bel (cd : CD) (l : Int) : Int := fBel cd l (cd 0).toNat
theorem fBel_r (cd : CD) (l : Int) : ∀ k : Nat, fBel cd l k = -1000000 ∨ (0 ≤ fBel cd l k ∧ fBel cd l k < k)
  | 0 => Or.inl rfl
  | k + 1 => by
    have h := fBel_r cd l k
    simp only [fBel]
    split <;> omega
theorem bel_r {cd : CD} (hW : WFc cd) (l : Int) : bel cd l = -1000000 ∨ (0 ≤ bel cd l ∧ bel cd l < cd 0) := by
  have h := fBel_r cd l (cd 0).toNat
  have q := hW.ln
  unfold bel; omega
def qW1 (cd : CD) (hu we : Int → Int) (q : Int) (p : Int) : Int := if hu p = -1000000 then we p else max 0 (we p - fDry cd p (hu p) q)
/-- how many drip on a line, and whether a red one does; v: how wet they are -/
def gCnt (cd : CD) (hu v : Int → Int) (l : Int) : Nat → Int
  | 0 => 0
  | k + 1 => gCnt cd hu v l k + (if hu k ≠ -1000000 ∧ 30 < v k ∧ bel cd (hu k) = l then 1 else 0)
def gRed (cd : CD) (hu v : Int → Int) (l : Int) : Nat → Bool
  | 0 => false
  | k + 1 => gRed cd hu v l k || decide ((hu k ≠ -1000000 ∧ 30 < v k ∧ bel cd (hu k) = l) ∧ cd (84 + 6 * k) = 1)
theorem gCnt_b (cd : CD) (hu v : Int → Int) (l : Int) : ∀ n : Nat, 0 ≤ gCnt cd hu v l n ∧ gCnt cd hu v l n ≤ n
  | 0 => by simp [gCnt]
  | n + 1 => by have h := gCnt_b cd hu v l n; simp only [gCnt]; split <;> omega
def qW2 (cd : CD) (hu v : Int → Int) (n : Nat) (p : Int) : Int := if hu p = -1000000 then v p else min 99 (v p + 3 * gCnt cd hu v (hu p) n)
def qS2 (cd : CD) (hu v sn : Int → Int) (n : Nat) (p : Int) : Int := if hu p ≠ -1000000 ∧ gRed cd hu v (hu p) n = true ∧ fTak cd p = true then 1 else sn p
theorem gat_step {I : Nat → Int → Int} {cd : CD} {hu v : Int → Int} {w r : Nat} {u x : Int} (hi : ∀ l, 0 ≤ l → l < cd 0 → I (w + 4) l = gCnt cd hu v l r ∧ I (w + 5) l = tB (gRed cd hu v l r)) (h1 : hu r ≠ -1000000) (h2 : 30 < v r) (h3 : bel cd (hu r) = u)
    (hx : x = tB (gRed cd hu v u r || decide (cd (84 + 6 * r) = 1))) : ∀ l, 0 ≤ l → l < cd 0 → up2 (up2 I (w + 4) u (gCnt cd hu v u r + 1)) (w + 5) u x (w + 4) l = gCnt cd hu v l (r + 1) ∧ up2 (up2 I (w + 4) u (gCnt cd hu v u r + 1)) (w + 5) u x (w + 5) l = tB (gRed cd hu v l (r + 1)) := by
  intro l l0 l1
  obtain ⟨q1, q2⟩ := hi l l0 l1
  by_cases hl : l = u
  · subst hl
    refine ⟨?_, ?_⟩
    · rw [gCnt, if_pos ⟨h1, h2, h3⟩]
      simp [up2]
    · simp only [up2, gRed]
      simp [hx, h1, h2, h3]
  · have hl2 : ¬ bel cd (hu r) = l := by omega
    refine ⟨?_, ?_⟩
    · simp only [up2, gCnt]
      simp [hl, hl2, q1]
    · simp only [up2, gRed]
      simp [hl, hl2, q2]
theorem gat_skip {I : Nat → Int → Int} {cd : CD} {hu v : Int → Int} {w r : Nat} (hW : WFc cd) (hi : ∀ l, 0 ≤ l → l < cd 0 → I (w + 4) l = gCnt cd hu v l r ∧ I (w + 5) l = tB (gRed cd hu v l r)) (h : hu r = -1000000 ∨ v r ≤ 30 ∨ bel cd (hu r) = -1000000) : ∀ l, 0 ≤ l → l < cd 0 → I (w + 4) l = gCnt cd hu v l (r + 1) ∧ I (w + 5) l = tB (gRed cd hu v l (r + 1)) := by
  intro l l0 l1
  obtain ⟨q1, q2⟩ := hi l l0 l1
  have hn : ¬ (hu r ≠ -1000000 ∧ 30 < v r ∧ bel cd (hu r) = l) := by omega
  refine ⟨?_, ?_⟩
  · simp only [gCnt]; rw [if_neg hn, q1]; omega
  · simp only [gRed]; rw [q2]; simp [hn]
set_option maxRecDepth 20000 in
set_option maxHeartbeats 400000 in
theorem l_gather2 {G : Ctx} {M : Mem} {w a : Nat} {cd : CD} (hA : WA M w) (hRc : mR M w 0 = a) (hC : CA M a) (hD : CC (mI M) a cd) (hW : WFc cd) {hu : Int → Int} (hV : HV cd hu) (hH : HC (mI M) w cd hu) {v : Int → Int} (hE : EC (mI M) w cd v) (n : Nat) (hn : cd 2 = n) (hap : a + 13 < w ∨ w + 5 < a) : ∀ (k r : Nat) (I : Nat → Int → Int) (z : Option MV), r + k = n → ((∀ b j, b ≠ w + 4 → b ≠ w + 5 → I b j = mI M b j) ∧ ∀ l, 0 ≤ l → l < cd 0 → I (w + 4) l = gCnt cd hu v l r ∧ I (w + 5) l = tB (gRed cd hu v l r)) → EV G m_X9_gatherDrips 1 0 0 (rJ M (fun I => (∀ b j, b ≠ w + 4 → b ≠ w + 5 → I b j = mI M b j) ∧ ∀ l, 0 ≤ l → l < cd 0 → I (w + 4) l = gCnt cd hu v l n ∧ I (w + 5) l = tB (gRed cd hu v l n))) 35 [some (vR w), some (vI (r : Int)), z] [] (mJ M I) := by
  intro k
  induction k with
  | zero =>
    intro r I z hr hi
    obtain rfl : r = n := by omega
    have hpn := hW.pn
    have hl8 := hW.ln
    have hDI : CC I a cd := hD.off (fun b j h1 h2 => hi.1 b j (by omega) (by omega))
    have hHI : HC I w cd hu := fun p h0 h1 => (hi.1 _ _ (by omega) (by omega)).trans (hH p h0 h1)
    have hEI : EC I w cd v := fun p h0 h1 => (hi.1 _ _ (by omega) (by omega)).trans (hE p h0 h1)
    refine E_iload_n dX9_gatherDrips_35 rfl ?_
    refine E_aload_n dX9_gatherDrips_36 rfl ?_
    refine g_X9_30 rfl dX9_gatherDrips_37 hA.o hRc ?_
    refine g_X9_47 rfl dX9_gatherDrips_40 hC.o (hDI.pnc.trans hn) ?_
    refine E_icmp_ge (tgt := 137) dX9_gatherDrips_43 (by decide) (fun h43 => ?_) (fun h43 => ?_)
    · refine E_vret dX9_gatherDrips_137 rfl ?_
      exact ⟨rfl, I, rfl, hi⟩
    · exfalso; omega
  | succ k ih =>
    intro r I z hr hi
    have hpn := hW.pn
    have hl8 := hW.ln
    have hDI : CC I a cd := hD.off (fun b j h1 h2 => hi.1 b j (by omega) (by omega))
    have hHI : HC I w cd hu := fun p h0 h1 => (hi.1 _ _ (by omega) (by omega)).trans (hH p h0 h1)
    have hEI : EC I w cd v := fun p h0 h1 => (hi.1 _ _ (by omega) (by omega)).trans (hE p h0 h1)
    have hv := hV r (by omega) (by omega)
    have hbr := bel_r hW (hu r)
    have hcb := gCnt_b cd hu v (bel cd (hu r)) r
    have hnb : nm1 (fBel cd (hu r) (cd 0).toNat) = nm1 (bel cd (hu r)) := rfl
    have hnu : nm1 (hu r) = if hu r = -1000000 then -1 else hu r := rfl
    have hnbb : nm1 (bel cd (hu r)) = if bel cd (hu r) = -1000000 then -1 else bel cd (hu r) := rfl
    refine E_iload_n dX9_gatherDrips_35 rfl ?_
    refine E_aload_n dX9_gatherDrips_36 rfl ?_
    refine g_X9_30 rfl dX9_gatherDrips_37 hA.o hRc ?_
    refine g_X9_47 rfl dX9_gatherDrips_40 hC.o (hDI.pnc.trans hn) ?_
    refine E_icmp_ge (tgt := 137) dX9_gatherDrips_43 (by decide) (fun h43 => ?_) (fun h43 => ?_)
    · exfalso; omega
    · refine E_aload_n dX9_gatherDrips_46 rfl ?_
      refine E_iload_n dX9_gatherDrips_47 rfl ?_
      refine i_X9_54 rfl dX9_gatherDrips_48 (by exact hA.o) (c_isHung (hA.j I) hW hV hHI (by omega) (by omega)) (by omega) (Nat.le_of_ble_eq_true rfl) rfl rfl ?_
      rintro _ _ ⟨rfl, rfl⟩
      try dsimp only [pu]
      refine E_if_eq (tgt := 82) dX9_gatherDrips_51 (by decide) (fun h51 => ?_) (fun h51 => ?_)
      · simp only [tB0, ne_eq, Bool.not_eq_false, Bool.not_eq_true, decide_eq_true_eq, decide_eq_false_iff_not, Classical.not_not] at h51
        refine E_iconst dX9_gatherDrips_82 (by decide) ?_
        refine E_istore_n dX9_gatherDrips_83 rfl (by decide) ?_
        try dsimp only [List.set]
        refine E_iload_n dX9_gatherDrips_84 rfl ?_
        refine E_if_lt (tgt := 131) dX9_gatherDrips_85 (by decide) (fun h85 => ?_) (fun h85 => ?_)
        · refine E_iinc dX9_gatherDrips_131 rfl (by omega) (by omega) (by decide) rfl (by decide) ?_
          try dsimp only [List.set]
          refine E_goto (tgt := 35) dX9_gatherDrips_134 (by decide) ?_
          exact EV.mq rfl rfl (ih (r + 1) I _ (by omega) ⟨hi.1, gat_skip hW hi.2 (by omega)⟩)
        · exfalso; omega
      · simp only [tB0, ne_eq, Bool.not_eq_false, Bool.not_eq_true, decide_eq_true_eq, decide_eq_false_iff_not, Classical.not_not] at h51
        refine E_aload_n dX9_gatherDrips_54 rfl ?_
        refine g_X9_11 rfl dX9_gatherDrips_55 hA.o hA.wet ?_
        refine E_iload_n dX9_gatherDrips_58 rfl ?_
        refine E_iald dX9_gatherDrips_59 hA.s_wet (by omega) (by omega) (hEI _ (by omega) (by omega)) ?_
        refine E_bipush dX9_gatherDrips_60 (by decide) ?_
        refine E_icmp_le (tgt := 82) dX9_gatherDrips_62 (by decide) (fun h62 => ?_) (fun h62 => ?_)
        · refine E_iconst dX9_gatherDrips_82 (by decide) ?_
          refine E_istore_n dX9_gatherDrips_83 rfl (by decide) ?_
          try dsimp only [List.set]
          refine E_iload_n dX9_gatherDrips_84 rfl ?_
          refine E_if_lt (tgt := 131) dX9_gatherDrips_85 (by decide) (fun h85 => ?_) (fun h85 => ?_)
          · refine E_iinc dX9_gatherDrips_131 rfl (by omega) (by omega) (by decide) rfl (by decide) ?_
            try dsimp only [List.set]
            refine E_goto (tgt := 35) dX9_gatherDrips_134 (by decide) ?_
            exact EV.mq rfl rfl (ih (r + 1) I _ (by omega) ⟨hi.1, gat_skip hW hi.2 (by omega)⟩)
          · exfalso; omega
        · have hnn : nm1 (hu ↑r) = hu ↑r := by omega
          refine E_aload_n dX9_gatherDrips_65 rfl ?_
          refine g_X9_30 rfl dX9_gatherDrips_66 hA.o hRc ?_
          refine g_X9_102 rfl dX9_gatherDrips_69 hC.o hC.below ?_
          refine E_aload_n dX9_gatherDrips_72 rfl ?_
          refine g_X9_17 rfl dX9_gatherDrips_73 hA.o hA.where ?_
          refine E_iload_n dX9_gatherDrips_76 rfl ?_
          refine E_iald dX9_gatherDrips_77 hA.s_where (by omega) (by omega) ((hHI _ (by omega) (by omega)).trans hnn) ?_
          refine E_iald dX9_gatherDrips_78 hC.s_below (by omega) (by omega) (hDI.below (by omega) (by omega)) ?_
          refine E_goto (tgt := 83) dX9_gatherDrips_79 (by decide) ?_
          refine E_istore_n dX9_gatherDrips_83 rfl (by decide) ?_
          try dsimp only [List.set]
          refine E_iload_n dX9_gatherDrips_84 rfl ?_
          refine E_if_lt (tgt := 131) dX9_gatherDrips_85 (by decide) (fun h85 => ?_) (fun h85 => ?_)
          · refine E_iinc dX9_gatherDrips_131 rfl (by omega) (by omega) (by decide) rfl (by decide) ?_
            try dsimp only [List.set]
            refine E_goto (tgt := 35) dX9_gatherDrips_134 (by decide) ?_
            exact EV.mq rfl rfl (ih (r + 1) I _ (by omega) ⟨hi.1, gat_skip hW hi.2 (by omega)⟩)
          · have hub : nm1 (fBel cd (hu ↑r) (cd 0).toNat) = bel cd (hu ↑r) := by omega
            try rw [hub]
            refine E_aload_n dX9_gatherDrips_88 rfl ?_
            refine g_X9_24 rfl dX9_gatherDrips_89 hA.o hA.dripsOn ?_
            refine E_iload_n dX9_gatherDrips_92 rfl ?_
            refine E_dup2 dX9_gatherDrips_93 rfl rfl ?_
            refine E_iald dX9_gatherDrips_94 hA.s_dripsOn (by omega) (by omega) (hi.2 _ (by omega) (by omega)).1 ?_
            refine E_iconst dX9_gatherDrips_95 (by decide) ?_
            refine E_iadd dX9_gatherDrips_96 (by omega) (by omega) ?_
            refine E_iast dX9_gatherDrips_97 hA.s_dripsOn (by omega) (by omega) ?_
            refine E_aload_n dX9_gatherDrips_98 rfl ?_
            refine g_X9_27 rfl dX9_gatherDrips_99 hA.o hA.redOn ?_
            refine E_iload_n dX9_gatherDrips_102 rfl ?_
            refine E_aload_n dX9_gatherDrips_103 rfl ?_
            refine g_X9_27 rfl dX9_gatherDrips_104 hA.o hA.redOn ?_
            refine E_iload_n dX9_gatherDrips_107 rfl ?_
            refine E_zald dX9_gatherDrips_108 hA.s_redOn (by omega) (by omega) ((mI_ne (by omega)).trans (hi.2 _ (by omega) (by omega)).2) ?_
            refine E_if_ne (tgt := 125) dX9_gatherDrips_109 (by decide) (fun h109 => ?_) (fun h109 => ?_)
            · simp only [tB0, ne_eq, Bool.not_eq_false, Bool.not_eq_true, decide_eq_true_eq, decide_eq_false_iff_not, Classical.not_not] at h109
              refine E_iconst dX9_gatherDrips_125 (by decide) ?_
              refine E_goto (tgt := 130) dX9_gatherDrips_126 (by decide) ?_
              refine E_zast dX9_gatherDrips_130 hA.s_redOn (by omega) (by omega) (nar01 (by omega)) ?_
              refine E_iinc dX9_gatherDrips_131 rfl (by omega) (by omega) (by decide) rfl (by decide) ?_
              try dsimp only [List.set]
              refine E_goto (tgt := 35) dX9_gatherDrips_134 (by decide) ?_
              exact EV.mq rfl rfl (ih (r + 1) (up2 (up2 I (w + 4) (bel cd (hu r)) (gCnt cd hu v (bel cd (hu r)) r + 1)) (w + 5) (bel cd (hu r)) 1) _ (by omega) ⟨fun b j h1 h2 => by rw [up2_ne _ _ (fun h => h2 h.1), up2_ne _ _ (fun h => h1 h.1)]; exact hi.1 b j h1 h2, gat_step hi.2 (by omega) (by omega) rfl (by simp [tB, h109])⟩)
            · simp only [tB0, ne_eq, Bool.not_eq_false, Bool.not_eq_true, decide_eq_true_eq, decide_eq_false_iff_not, Classical.not_not] at h109
              refine E_aload_n dX9_gatherDrips_112 rfl ?_
              refine g_X9_30 rfl dX9_gatherDrips_113 hA.o hRc ?_
              refine g_X9_80 rfl dX9_gatherDrips_116 hC.o hC.kinds ?_
              refine E_iload_n dX9_gatherDrips_119 rfl ?_
              refine E_iald dX9_gatherDrips_120 hC.s_kinds (by omega) (by omega) ((mI_ne (by omega)).trans (hDI.kinds (by omega) (by omega))) ?_
              refine E_iconst dX9_gatherDrips_121 (by decide) ?_
              refine E_icmp_ne (tgt := 129) dX9_gatherDrips_122 (by decide) (fun h122 => ?_) (fun h122 => ?_)
              · refine E_iconst dX9_gatherDrips_129 (by decide) ?_
                refine E_zast dX9_gatherDrips_130 hA.s_redOn (by omega) (by omega) (nar01 (by omega)) ?_
                refine E_iinc dX9_gatherDrips_131 rfl (by omega) (by omega) (by decide) rfl (by decide) ?_
                try dsimp only [List.set]
                refine E_goto (tgt := 35) dX9_gatherDrips_134 (by decide) ?_
                exact EV.mq rfl rfl (ih (r + 1) (up2 (up2 I (w + 4) (bel cd (hu r)) (gCnt cd hu v (bel cd (hu r)) r + 1)) (w + 5) (bel cd (hu r)) 0) _ (by omega) ⟨fun b j h1 h2 => by rw [up2_ne _ _ (fun h => h2 h.1), up2_ne _ _ (fun h => h1 h.1)]; exact hi.1 b j h1 h2, gat_step hi.2 (by omega) (by omega) rfl (by simp [tB, h109, h122])⟩)
              · refine E_iconst dX9_gatherDrips_125 (by decide) ?_
                refine E_goto (tgt := 130) dX9_gatherDrips_126 (by decide) ?_
                refine E_zast dX9_gatherDrips_130 hA.s_redOn (by omega) (by omega) (nar01 (by omega)) ?_
                refine E_iinc dX9_gatherDrips_131 rfl (by omega) (by omega) (by decide) rfl (by decide) ?_
                try dsimp only [List.set]
                refine E_goto (tgt := 35) dX9_gatherDrips_134 (by decide) ?_
                exact EV.mq rfl rfl (ih (r + 1) (up2 (up2 I (w + 4) (bel cd (hu r)) (gCnt cd hu v (bel cd (hu r)) r + 1)) (w + 5) (bel cd (hu r)) 1) _ (by omega) ⟨fun b j h1 h2 => by rw [up2_ne _ _ (fun h => h2 h.1), up2_ne _ _ (fun h => h1 h.1)]; exact hi.1 b j h1 h2, gat_step hi.2 (by omega) (by omega) rfl (by have h9 := Classical.not_not.mp h122; simp [tB, h109, h9])⟩)
set_option maxRecDepth 20000 in
set_option maxHeartbeats 400000 in
theorem l_gather1 {G : Ctx} {M : Mem} {w a : Nat} {cd : CD} (hA : WA M w) (hRc : mR M w 0 = a) (hC : CA M a) (hD : CC (mI M) a cd) (hW : WFc cd) {hu : Int → Int} (hV : HV cd hu) (hH : HC (mI M) w cd hu) {v : Int → Int} (hE : EC (mI M) w cd v) (n : Nat) (hn : cd 2 = n) (hap : a + 13 < w ∨ w + 5 < a) (ln : Nat) (hlc : cd 0 = ln) : ∀ (k r : Nat) (I : Nat → Int → Int), r + k = ln → ((∀ b j, b ≠ w + 4 → b ≠ w + 5 → I b j = mI M b j) ∧ ∀ l : Int, 0 ≤ l → l < r → I (w + 4) l = 0 ∧ I (w + 5) l = 0) → EV G m_X9_gatherDrips 1 0 0 (rJ M (fun I => (∀ b j, b ≠ w + 4 → b ≠ w + 5 → I b j = mI M b j) ∧ ∀ l, 0 ≤ l → l < cd 0 → I (w + 4) l = gCnt cd hu v l n ∧ I (w + 5) l = tB (gRed cd hu v l n))) 2 [some (vR w), some (vI (r : Int)), none] [] (mJ M I) := by
  intro k
  induction k with
  | zero =>
    intro r I hr hi
    obtain rfl : r = ln := by omega
    have hpn := hW.pn
    have hl8 := hW.ln
    have hDI : CC I a cd := hD.off (fun b j h1 h2 => hi.1 b j (by omega) (by omega))
    refine E_iload_n dX9_gatherDrips_2 rfl ?_
    refine E_aload_n dX9_gatherDrips_3 rfl ?_
    refine g_X9_30 rfl dX9_gatherDrips_4 hA.o hRc ?_
    refine g_X9_99 rfl dX9_gatherDrips_7 hC.o (hDI.lnc.trans hlc) ?_
    refine E_icmp_ge (tgt := 33) dX9_gatherDrips_10 (by decide) (fun h10 => ?_) (fun h10 => ?_)
    · refine E_iconst dX9_gatherDrips_33 (by decide) ?_
      refine E_istore_n dX9_gatherDrips_34 rfl (by decide) ?_
      try dsimp only [List.set]
      exact l_gather2 hA hRc hC hD hW hV hH hE n hn hap n 0 I _ (by omega) ⟨hi.1, fun l l0 l1 => by have := hi.2 l l0 (by omega); simp [gCnt, gRed, tB, this]⟩
    · exfalso; omega
  | succ k ih =>
    intro r I hr hi
    have hpn := hW.pn
    have hl8 := hW.ln
    have hDI : CC I a cd := hD.off (fun b j h1 h2 => hi.1 b j (by omega) (by omega))
    refine E_iload_n dX9_gatherDrips_2 rfl ?_
    refine E_aload_n dX9_gatherDrips_3 rfl ?_
    refine g_X9_30 rfl dX9_gatherDrips_4 hA.o hRc ?_
    refine g_X9_99 rfl dX9_gatherDrips_7 hC.o (hDI.lnc.trans hlc) ?_
    refine E_icmp_ge (tgt := 33) dX9_gatherDrips_10 (by decide) (fun h10 => ?_) (fun h10 => ?_)
    · exfalso; omega
    · refine E_aload_n dX9_gatherDrips_13 rfl ?_
      refine g_X9_24 rfl dX9_gatherDrips_14 hA.o hA.dripsOn ?_
      refine E_iload_n dX9_gatherDrips_17 rfl ?_
      refine E_iconst dX9_gatherDrips_18 (by decide) ?_
      refine E_iast dX9_gatherDrips_19 hA.s_dripsOn (by omega) (by omega) ?_
      refine E_aload_n dX9_gatherDrips_20 rfl ?_
      refine g_X9_27 rfl dX9_gatherDrips_21 hA.o hA.redOn ?_
      refine E_iload_n dX9_gatherDrips_24 rfl ?_
      refine E_iconst dX9_gatherDrips_25 (by decide) ?_
      refine E_zast dX9_gatherDrips_26 hA.s_redOn (by omega) (by omega) (nar01 (Or.inl rfl)) ?_
      refine E_iinc dX9_gatherDrips_27 rfl (by omega) (by omega) (by decide) rfl (by decide) ?_
      try dsimp only [List.set]
      refine E_goto (tgt := 2) dX9_gatherDrips_30 (by decide) ?_
      exact EV.mq rfl rfl (ih (r + 1) (up2 (up2 I (w + 4) r 0) (w + 5) r 0) (by omega) ⟨fun b j h1 h2 => by rw [up2_ne _ _ (fun h => h2 h.1), up2_ne _ _ (fun h => h1 h.1)]; exact hi.1 b j h1 h2, fun l l0 l1 => by
        by_cases hl : l = r
        · subst hl; simp [up2]
        · have := hi.2 l l0 (by omega); simp [up2, hl, this]⟩)
set_option maxRecDepth 20000 in
set_option maxHeartbeats 400000 in
theorem c_gatherDrips {G : Ctx} {M : Mem} {w a : Nat} {cd : CD} (hA : WA M w) (hRc : mR M w 0 = a) (hC : CA M a) (hD : CC (mI M) a cd) (hW : WFc cd) {hu : Int → Int} (hV : HV cd hu) (hH : HC (mI M) w cd hu) {v : Int → Int} (hE : EC (mI M) w cd v) (n : Nat) (hn : cd 2 = n) (hap : a + 13 < w ∨ w + 5 < a) : CT G m_X9_gatherDrips 1 0 0 [vR w] M (rJ M (fun I => (∀ b j, b ≠ w + 4 → b ≠ w + 5 → I b j = mI M b j) ∧ ∀ l, 0 ≤ l → l < cd 0 → I (w + 4) l = gCnt cd hu v l n ∧ I (w + 5) l = tB (gRed cd hu v l n))) := by
  refine CT.of k_X9_gatherDrips 2 (ls := [some (vR w), none, none]) rfl (Nat.le_of_ble_eq_true rfl) ?_
  have hl8 := hW.ln
  obtain ⟨ln, hlc⟩ := Int.eq_ofNat_of_zero_le (show 0 ≤ cd 0 by omega)
  refine E_iconst dX9_gatherDrips_0 (by decide) ?_
  refine E_istore_n dX9_gatherDrips_1 rfl (by decide) ?_
  try dsimp only [List.set]
  exact l_gather1 hA hRc hC hD hW hV hH hE n hn hap ln hlc ln 0 (mI M) (by omega) ⟨fun _ _ _ _ => rfl, fun l l0 l1 => by omega⟩
