/-! ===== 35: the reference: feed, hang, quarters, dry, images ===== -/
theorem fd_9 (A : AS) (w c : Int) : ∀ r : Nat, fd A w c r 0 9 = A 0 9 + r
  | 0 => by simp [fd]
  | r + 1 => by simp only [fd]; rw [up2_self]; omega
theorem MA.pg {I K A : AS} {m : Nat} {f : CD} (h : MA I m A) (e : ∀ b (j : Int), b ≠ m + 4 → b ≠ m + 7 → b ≠ m + 8 → ¬ (b = m ∧ j = 20) → K b j = I b j) (hf : MC K m f) : MA K m (pg4 A f) := by
  refine ⟨fun k j hs => ?_, fun j hs => ?_⟩
  · unfold pg4
    by_cases h4 : k = 4
    · subst h4
      rw [if_pos rfl]
      exact hf j (by unfold SA at hs; omega) (by unfold SA at hs; omega)
    · rw [if_neg h4]
      unfold SA at hs
      exact (e _ _ (by omega) (by omega) (by omega) (by omega)).trans (h.1 k j (by unfold SA; omega))
  · unfold pg4
    rw [if_neg (by omega)]
    exact (e _ _ (by omega) (by omega) (by omega) (by unfold SJ at hs; omega)).trans (h.2 j hs)
theorem com_mem {M M' : Mem} {m : Nat} {I : AS} {hu : Int → Int} {p l n2 : Int} {c : Prop} [Decidable c] (h7 : ∀ q, 0 ≤ q → q < n2 → I (m + 7) q = hu q) (hM : M' = if c then mWI (mJ M I) (m + 7) p l else mJ M I) : ∃ J, M' = mJ M J ∧ (∀ q, 0 ≤ q → q < n2 → J (m + 7) q = (if c then upH hu p l else hu) q) ∧ ∀ b j, b ≠ m + 7 → J b j = I b j := by
  by_cases hc : c
  · rw [if_pos hc] at hM
    refine ⟨up2 I (m + 7) p l, hM, fun q q0 q1 => ?_, fun b j hb => up2_ne _ _ (fun z => hb z.1)⟩
    rw [if_pos hc]; unfold up2 upH
    by_cases hq : q = p
    · rw [if_pos ⟨rfl, hq⟩, if_pos hq]
    · rw [if_neg (fun z => hq z.2), if_neg hq]; exact h7 q q0 q1
  · rw [if_neg hc] at hM
    exact ⟨I, hM, fun q q0 q1 => by rw [if_neg hc]; exact h7 q q0 q1, fun _ _ _ => rfl⟩
/-- what is laid aside, r quarters on -/
def QI (M : Mem) (m : Nat) (cd : CD) (hu we sn : Int → Int) (g : Int) (n r : Nat) (I : AS) : Prop := (∀ b (j : Int), b ≠ m + 7 → b ≠ m + 8 → ¬ (b = m ∧ j = 20) → I b j = mI M b j) ∧ (∀ p, 0 ≤ p → p < cd 2 → I (m + 7) p = hu p) ∧ (∀ p, 0 ≤ p → p < cd 2 → I (m + 8) p = itW cd hu n we g r p) ∧ BS (I m 20) n (fun p => decide (itS cd hu n we sn g r p = 1))
theorem sb2_s (cd : CD) (hu v sn : Int → Int) (n k : Nat) : sb2 cd hu v (fun p => decide (sn p = 1)) n k = decide (qS2 cd hu v sn n k = 1) := by
  unfold sb2 qS2
  by_cases h : hu k ≠ -1000000 ∧ gRed cd hu v (hu k) n = true ∧ fTak cd k = true
  · rw [if_pos h]; simp [h.1, h.2.1, h.2.2]
  · rw [if_neg h]
    by_cases h1 : hu k = -1000000
    · simp [h1]
    · cases h2 : gRed cd hu v (hu k) n
      · simp
      · cases h3 : fTak cd k
        · simp
        · exact absurd ⟨h1, h2, h3⟩ h
theorem QI.step {M : Mem} {m : Nat} {cd : CD} {hu we sn : Int → Int} {g : Int} {n r : Nat} {I J : AS} (hn : cd 2 = n) (h : QI M m cd hu we sn g n r I) (hJ : GI3 (mJ M I) m cd hu (qW1 cd hu (itW cd hu n we g r) (Int.tmod (g + r) 24)) (fun p => decide (itS cd hu n we sn g r p = 1)) n n J) : QI M m cd hu we sn g n (r + 1) J := by
  obtain ⟨h1, h2, h3, h4⟩ := h
  obtain ⟨g1, g2, g3⟩ := hJ
  refine ⟨fun b j q1 q2 q3 => (g1 b j q2 q3).trans (h1 b j q1 q2 q3), fun p p0 p1 => (g1 _ _ (by omega) (by omega)).trans (h2 p p0 p1), fun p p0 p1 => g2 p p0 (by omega), ?_⟩
  exact g3.congr (fun p _ => sb2_s cd hu _ _ n p)
theorem LI.qi {M : Mem} {m : Nat} {cd : CD} {n : Nat} {I : AS} (hn : cd 2 = n) (h : LI M m cd n I) (g : Int) : QI M m cd (cHu cd) (cWe cd) (cSn cd) g n 0 I := ⟨h.1, fun p p0 p1 => (h.2.1 p p0 (by omega)).1, fun p p0 p1 => (h.2.1 p p0 (by omega)).2, h.2.2⟩
set_option maxRecDepth 20000 in
set_option maxHeartbeats 3000000 in
theorem l_feed {G : Ctx} {M : Mem} {m : Nat} {A : AS} (hO : MO M m) {w c : Int} (n : Nat) (hc : c = n) (n8 : n ≤ 8) (h9 : 0 ≤ A 0 9) (hs : A 0 9 + n ≤ 500) : ∀ (k r : Nat) (I : Nat → Int → Int), r + k = n → MA I m (fd A w c r) ∧ (∀ b j, (b < m ∨ m + 14 < b) → I b j = mI M b j) → EV G m_X12_feed 0 0 0 (fun x M' => x = some (vI (A 0 9 + c)) ∧ ∃ I, M' = mJ M I ∧ MA I m (fd A w c n) ∧ (∀ b j, (b < m ∨ m + 14 < b) → I b j = mI M b j)) 40 [some (vR m), some (vL w), none, some (vI c), some (vI (c - 1 - r))] [] (mJ M I) := by
  intro k
  induction k with
  | zero =>
    intro r I hr hi
    obtain rfl : r = n := by omega
    have h9I : I m 9 = A 0 9 + r := (hi.1.2 9 (by unfold SJ; omega)).trans (fd_9 A w c r)
    refine E_iload dX12_feed_40 rfl ?_
    refine E_if_lt (tgt := 82) dX12_feed_42 (by decide) (fun h42 => ?_) (fun h42 => ?_)
    · refine E_aload_n dX12_feed_82 rfl ?_
      refine g_X12_80 rfl dX12_feed_83 hO.o h9I ?_
      refine E_iret dX12_feed_86 rfl ?_
      exact ⟨by rw [hc], I, rfl, hi⟩
    · exfalso; omega
  | succ k ih =>
    intro r I hr hi
    have h9I : I m 9 = A 0 9 + r := (hi.1.2 9 (by unfold SJ; omega)).trans (fd_9 A w c r)
    refine E_iload dX12_feed_40 rfl ?_
    refine E_if_lt (tgt := 82) dX12_feed_42 (by decide) (fun h42 => ?_) (fun h42 => ?_)
    · exfalso; omega
    · refine E_aload_n dX12_feed_45 rfl ?_
      refine g_X12_25 rfl dX12_feed_46 hO.o hO.tape ?_
      refine E_aload_n dX12_feed_49 rfl ?_
      refine g_X12_80 rfl dX12_feed_50 hO.o h9I ?_
      refine E_lload_n dX12_feed_53 rfl ?_
      refine E_bipush dX12_feed_54 (by decide) ?_
      refine E_iload dX12_feed_56 rfl ?_
      refine E_imul dX12_feed_58 (by omega) (by omega) ?_
      refine E_lshr dX12_feed_59 ?_
      refine c_X12_84 rfl dX12_feed_60 ?_
      refine E_land dX12_feed_63 ?_
      refine E_l2i dX12_feed_64 ?_
      refine E_iast dX12_feed_65 hO.s_tape (by omega) (by omega) ?_
      refine E_aload_n dX12_feed_66 rfl ?_
      refine E_dup dX12_feed_67 rfl ?_
      refine g_X12_80 rfl dX12_feed_68 hO.o ((mI_ne (by omega)).trans h9I) ?_
      refine E_iconst dX12_feed_71 (by decide) ?_
      refine E_iadd dX12_feed_72 (by omega) (by omega) ?_
      refine p_X12_80 rfl dX12_feed_73 hO.o ?_
      refine E_iinc dX12_feed_76 rfl (by omega) (by omega) (by decide) rfl (by decide) ?_
      try dsimp only [List.set]
      refine E_goto (tgt := 40) dX12_feed_79 (by decide) ?_
      refine EV.mq (by rw [show c - 1 - ((r + 1 : Nat) : Int) = c - 1 - r + -1 by omega]) rfl (ih (r + 1) (up2 (up2 I (m + 6) (A 0 9 + r) (byt w (c - 1 - r))) m 9 (A 0 9 + r + 1)) (by omega) ⟨(hi.1.up (k := 6) (by omega) _ _).up0 _ _, fun b j hb => ?_⟩)
      rw [up2_ne _ _ (by omega), up2_ne _ _ (by omega)]; exact hi.2 b j hb
set_option maxRecDepth 20000 in
set_option maxHeartbeats 3000000 in
theorem r_feed {G : Ctx} {M : Mem} {m : Nat} {A : AS} {B : Int} (hO : MO M m) (hV : MA (mI M) m A) (hG : GA A B) (hB : B ≤ 900000) {w c : Int} : CT G m_X12_feed 2 0 0 [vR m, vL w, vI c] M (rM M m (s_feed A c) (t_feed A w c)) := by
  refine CT.of k_X12_feed 1 (ls := [some (vR m), some (vL w), none, some (vI c), none]) rfl (Nat.le_of_ble_eq_true rfl) ?_
  refine E_aload_n dX12_feed_0 rfl ?_
  refine E_iconst dX12_feed_1 (by decide) ?_
  refine p_X12_53 rfl dX12_feed_2 hO.o ?_
  obtain ⟨M1, e1, hO, hV, hF⟩ := thr hO hV
  refine EV.mq rfl e1.symm ?_
  clear e1
  have hQ := hV.mc
  have hW := hG.w.c
  have hpn := hW.pn
  have hl8 := hW.ln
  have hr8 := hW.rn
  have hgg := hG.w.g
  have hth := hG.th
  have htn := hG.tn
  refine E_iload_n dX12_feed_5 rfl ?_
  refine E_i2l dX12_feed_6 ?_
  refine E_lconst (x := 1) dX12_feed_7 (by decide) ?_
  refine c_X12_78 rfl dX12_feed_8 ?_
  refine i_X12_63 rfl dX12_feed_11 c_in (by omega) (Nat.le_of_ble_eq_true rfl) rfl rfl ?_
  rintro _ _ ⟨rfl, rfl⟩
  try dsimp only [pu]
  refine E_if_ne (tgt := 20) dX12_feed_14 (by decide) (fun h14 => ?_) (fun h14 => ?_)
  · simp only [tB0, ne_eq, Bool.not_eq_false, Bool.not_eq_true, decide_eq_true_eq, decide_eq_false_iff_not, Classical.not_not] at h14
    refine E_aload_n dX12_feed_20 rfl ?_
    refine g_X12_80 rfl dX12_feed_21 hO.o (hV.2 9 (by unfold SJ; omega)) ?_
    refine E_iload_n dX12_feed_24 rfl ?_
    refine E_iadd dX12_feed_25 (by omega) (by omega) ?_
    refine E_sipush dX12_feed_26 (by decide) ?_
    refine E_icmp_le (tgt := 35) dX12_feed_29 (by decide) (fun h29 => ?_) (fun h29 => ?_)
    · refine E_iload_n dX12_feed_35 rfl ?_
      refine E_iconst dX12_feed_36 (by decide) ?_
      refine E_isub dX12_feed_37 (by omega) (by omega) ?_
      refine E_istore dX12_feed_38 rfl (by decide) ?_
      try dsimp only [List.set]
      obtain ⟨n, rfl⟩ := Int.eq_ofNat_of_zero_le (show 0 ≤ c by omega)
      refine EV.post (fun x M' hq => ?_) (EV.deep (d := 0) (by omega) (EV.mq (by rw [show ((n : Int) - 1 - ((0 : Nat) : Int)) = (n : Int) - 1 by omega]) rfl (l_feed hO (w := w) n rfl (by omega) (by omega) (by omega) n 0 (mI M1) (by omega) ⟨hV, fun _ _ _ => rfl⟩)))
      obtain ⟨rfl, I, rfl, hI, hJ⟩ := hq
      refine ⟨?_, hF.j hJ, ?_⟩
      · congr 2; unfold s_feed; rw [if_pos (by omega), if_neg (by omega)]
      · unfold t_feed; rw [if_pos (by omega), if_neg (by omega)]; exact hI
    · refine c_X12_83 rfl dX12_feed_32 ?_
      refine E_iret dX12_feed_34 rfl ?_
      refine ⟨?_, hF, ?_⟩
      · congr 2; unfold s_feed; rw [if_pos (by omega), if_pos (by omega)]; try rfl
      · unfold t_feed; rw [if_pos (by omega), if_pos (by omega)]; exact hV
  · simp only [tB0, ne_eq, Bool.not_eq_false, Bool.not_eq_true, decide_eq_true_eq, decide_eq_false_iff_not, Classical.not_not] at h14
    refine c_X12_73 rfl dX12_feed_17 ?_
    refine E_iret dX12_feed_19 rfl ?_
    refine ⟨?_, hF, ?_⟩
    · congr 2; unfold s_feed; rw [if_neg (by omega)]; try rfl
    · unfold t_feed; rw [if_neg (by omega)]; exact hV
set_option maxRecDepth 20000 in
set_option maxHeartbeats 3000000 in
theorem r_hang {G : Ctx} {M : Mem} {m : Nat} {A : AS} {B : Int} (hO : MO M m) (hV : MA (mI M) m A) (hG : GA A B) (hB : B ≤ 900000) {p l : Int} (n : Nat) (hn : A 4 2 = n) (rn : Nat) (hrn : A 4 1 = rn) : CT G m_X12_hang 3 0 0 [vR m, vI p, vI l] M (rM M m (s_hang A p l n rn) (t_hang A p l n rn)) := by
  refine CT.of k_X12_hang 1 (ls := [some (vR m), some (vI p), some (vI l), none]) rfl (Nat.le_of_ble_eq_true rfl) ?_
  refine E_aload_n dX12_hang_0 rfl ?_
  refine E_iconst dX12_hang_1 (by decide) ?_
  refine p_X12_53 rfl dX12_hang_2 hO.o ?_
  obtain ⟨M1, e1, hO, hV, hF⟩ := thr hO hV
  refine EV.mq rfl e1.symm ?_
  clear e1
  have hQ := hV.mc
  have hW := hG.w.c
  have hpn := hW.pn
  have hl8 := hW.ln
  have hr8 := hW.rn
  have hgg := hG.w.g
  have hth := hG.th
  refine E_aload_n dX12_hang_5 rfl ?_
  refine E_iload_n dX12_hang_6 rfl ?_
  refine i_X12_215 rfl dX12_hang_7 (by exact hO.o) (c_mIsPiece hO hQ hW) (by omega) (Nat.le_of_ble_eq_true rfl) rfl rfl ?_
  rintro _ _ ⟨rfl, rfl⟩
  try dsimp only [pu]
  refine E_if_eq (tgt := 21) dX12_hang_10 (by decide) (fun h10 => ?_) (fun h10 => ?_)
  · simp only [tB0, ne_eq, Bool.not_eq_false, Bool.not_eq_true, decide_eq_true_eq, decide_eq_false_iff_not, Classical.not_not] at h10
    refine c_X12_73 rfl dX12_hang_21 ?_
    refine E_iret dX12_hang_23 rfl ?_
    refine ⟨?_, hF, ?_⟩
    · congr 2; unfold s_hang; rw [if_neg (by omega)]; try rfl
    · unfold t_hang; rw [if_neg (by omega)]; exact hV
  · simp only [tB0, ne_eq, Bool.not_eq_false, Bool.not_eq_true, decide_eq_true_eq, decide_eq_false_iff_not, Classical.not_not] at h10
    refine E_aload_n dX12_hang_13 rfl ?_
    refine E_iload_n dX12_hang_14 rfl ?_
    refine i_X12_218 rfl dX12_hang_15 (by exact hO.o) (c_mIsLine hO hQ hW) (by omega) (Nat.le_of_ble_eq_true rfl) rfl rfl ?_
    rintro _ _ ⟨rfl, rfl⟩
    try dsimp only [pu]
    refine E_if_ne (tgt := 24) dX12_hang_18 (by decide) (fun h18 => ?_) (fun h18 => ?_)
    · simp only [tB0, ne_eq, Bool.not_eq_false, Bool.not_eq_true, decide_eq_true_eq, decide_eq_false_iff_not, Classical.not_not] at h18
      refine E_aload_n dX12_hang_24 rfl ?_
      refine i_X12_221 rfl dX12_hang_25 (by exact hO.o) (c_layNow hO hQ hW hG.w.sn n hn) (by omega) (Nat.le_of_ble_eq_true rfl) rfl rfl ?_
      rintro _ _ ⟨rfl, I, rfl, hI⟩
      have hQI : MC (mI (mJ M1 I)) m (A 4) := fun k h0 h1 => (hI.1 _ _ (by omega) (by omega) (by omega)).trans (hQ k h0 h1)
      have hHI : ∀ q, 0 ≤ q → q < A 4 2 → I (m + 7) q = cHu (A 4) q := fun q q0 q1 => (hI.2.1 q q0 (by omega)).1
      try dsimp only [pu]
      refine E_aload_n dX12_hang_28 rfl ?_
      refine E_iload_n dX12_hang_29 rfl ?_
      refine E_iload_n dX12_hang_30 rfl ?_
      refine i_X12_224 rfl dX12_hang_31 (by exact hO.o) (c_comes (hO.j I) hQI hW hHI hgg.1 (by omega) n hn rn hrn (by omega) (by omega) (by omega) (by omega)) (by omega) (Nat.le_of_ble_eq_true rfl) rfl rfl ?_
      rintro _ M9 ⟨rfl, hM⟩
      obtain ⟨J, rfl, hJ7, hJo⟩ := com_mem hHI hM
      have hQJ : MC (mI (mJ M1 J)) m (A 4) := fun k h0 h1 => (hJo _ _ (by omega)).trans (hQI k h0 h1)
      have hBJ : BS (J m 20) n (cSb (A 4)) := by rw [hJo _ _ (by omega)]; exact hI.2.2
      have hEJ : ∀ q, 0 ≤ q → q < A 4 2 → J (m + 8) q = cWe (A 4) q := fun q q0 q1 => (hJo _ _ (by omega)).trans (hI.2.1 q q0 (by omega)).2
      try dsimp only [pu]
      refine E_istore_n dX12_hang_34 rfl (by decide) ?_
      try dsimp only [List.set]
      refine E_aload_n dX12_hang_35 rfl ?_
      refine i_X12_227 rfl dX12_hang_36 (by exact hO.o) (c_keepNow (hO.j J) hQJ hW hJ7 hEJ n hn hBJ hG.w.sn) (by omega) (Nat.le_of_ble_eq_true rfl) rfl rfl ?_
      rintro _ _ ⟨rfl, K, rfl, hK1, hK2⟩
      have hK1 : ∀ b j, b ≠ m + 4 → K b j = J b j := hK1
      try dsimp only [pu]
      refine E_iload_n dX12_hang_39 rfl ?_
      refine E_iret dX12_hang_40 rfl ?_
      refine ⟨?_, hF.j (fun b j hb => (hK1 _ _ (by omega)).trans ((hJo _ _ (by omega)).trans (hI.1 _ _ (by omega) (by omega) (by omega)))), ?_⟩
      · unfold s_hang; rw [if_pos (show (0 ≤ p ∧ p ≤ A 4 2 - 1) ∧ (0 ≤ l ∧ l ≤ A 4 0 - 1) by omega)]
      · unfold t_hang; rw [if_pos (by omega)]; exact hV.pg (fun b j q1 q2 q3 q4 => (hK1 _ _ q1).trans ((hJo _ _ q2).trans (hI.1 _ _ q2 q3 q4))) hK2
    · simp only [tB0, ne_eq, Bool.not_eq_false, Bool.not_eq_true, decide_eq_true_eq, decide_eq_false_iff_not, Classical.not_not] at h18
      refine c_X12_73 rfl dX12_hang_21 ?_
      refine E_iret dX12_hang_23 rfl ?_
      refine ⟨?_, hF, ?_⟩
      · congr 2; unfold s_hang; rw [if_neg (by omega)]; try rfl
      · unfold t_hang; rw [if_neg (by omega)]; exact hV
set_option maxRecDepth 20000 in
set_option maxHeartbeats 3000000 in
theorem l_quarters {G : Ctx} {M : Mem} {m : Nat} {cd : CD} (hO : MO M m) (hQ : MC (mI M) m cd) (hW : WFc cd) {hu we sn : Int → Int} (hV : HV cd hu) (hw9 : ∀ p, 0 ≤ p → p < cd 2 → 0 ≤ we p ∧ we p ≤ 99) (n : Nat) (hn : cd 2 = n) (g0 : 0 ≤ cd 3) (g1 : cd 3 ≤ 900000) {c : Int} (nc : Nat) (hc : c = nc) (c9 : nc ≤ 96) {Q : Option MV → Mem → Prop} (K : ∀ I, QI M m cd hu we sn (cd 3) n nc I → EV G m_X12_quarters 4 0 0 Q 59 [some (vR m), some (vI c), some (vI (nc : Int))] [] (mJ M I)) : ∀ (k r : Nat) (I : Nat → Int → Int), r + k = nc → QI M m cd hu we sn (cd 3) n r I → EV G m_X12_quarters 4 0 0 (Q) 36 [some (vR m), some (vI c), some (vI (r : Int))] [] (mJ M I) := by
  intro k
  induction k with
  | zero =>
    intro r I hr hi
    obtain rfl : r = nc := by omega
    have hQI : MC (mI (mJ M I)) m cd := fun k h0 h1 => (hi.1 _ _ (by omega) (by omega) (by omega)).trans (hQ k h0 h1)
    have hl8 := hW.ln
    have hpn := hW.pn
    refine E_iload_n dX12_quarters_36 rfl ?_
    refine E_iload_n dX12_quarters_37 rfl ?_
    refine E_icmp_ge (tgt := 59) dX12_quarters_38 (by decide) (fun h38 => ?_) (fun h38 => ?_)
    · exact K I hi
    · exfalso; omega
  | succ k ih =>
    intro r I hr hi
    have hQI : MC (mI (mJ M I)) m cd := fun k h0 h1 => (hi.1 _ _ (by omega) (by omega) (by omega)).trans (hQ k h0 h1)
    have hl8 := hW.ln
    have hpn := hW.pn
    refine E_iload_n dX12_quarters_36 rfl ?_
    refine E_iload_n dX12_quarters_37 rfl ?_
    refine E_icmp_ge (tgt := 59) dX12_quarters_38 (by decide) (fun h38 => ?_) (fun h38 => ?_)
    · exfalso; omega
    · refine E_aload_n dX12_quarters_41 rfl ?_
      refine E_aload_n dX12_quarters_42 rfl ?_
      refine g_X12_19 rfl dX12_quarters_43 hO.o hO.court ?_
      refine E_iconst dX12_quarters_46 (by decide) ?_
      refine E_iald dX12_quarters_47 hO.s_court (by omega) (by omega) (hQI.at (j := 3) (by omega) (by omega) (by omega)) ?_
      refine E_iload_n dX12_quarters_48 rfl ?_
      refine E_iadd dX12_quarters_49 (by omega) (by omega) ?_
      refine i_X12_245 rfl dX12_quarters_50 (by exact hO.o) (c_goOn (hO.j I) hQI hW hV hi.2.1 hi.2.2.1 (itW_b hw9 r) n hn hi.2.2.2 (q := cd 3 + r) (by omega) (by omega)) (by omega) (Nat.le_of_ble_eq_true rfl) rfl rfl ?_
      rintro _ _ ⟨rfl, J, rfl, hJ⟩
      try dsimp only [pu]
      refine E_iinc dX12_quarters_53 rfl (by omega) (by omega) (by decide) rfl (by decide) ?_
      try dsimp only [List.set]
      refine E_goto (tgt := 36) dX12_quarters_56 (by decide) ?_
      exact EV.mq rfl rfl (ih (r + 1) J (by omega) (hi.step hn hJ))
set_option maxRecDepth 20000 in
set_option maxHeartbeats 3000000 in
theorem r_quarters {G : Ctx} {M : Mem} {m : Nat} {A : AS} {B : Int} (hO : MO M m) (hV : MA (mI M) m A) (hG : GA A B) (hB : B ≤ 900000) {c : Int} (n : Nat) (hn : A 4 2 = n) : CT G m_X12_quarters 4 0 0 [vR m, vI c] M (rM M m (s_quarters A c) (t_quarters A c n)) := by
  refine CT.of k_X12_quarters 1 (ls := [some (vR m), some (vI c), none]) rfl (Nat.le_of_ble_eq_true rfl) ?_
  refine E_aload_n dX12_quarters_0 rfl ?_
  refine E_iconst dX12_quarters_1 (by decide) ?_
  refine p_X12_53 rfl dX12_quarters_2 hO.o ?_
  obtain ⟨M1, e1, hO, hV, hF⟩ := thr hO hV
  refine EV.mq rfl e1.symm ?_
  clear e1
  have hQ := hV.mc
  have hW := hG.w.c
  have hpn := hW.pn
  have hl8 := hW.ln
  have hr8 := hW.rn
  have hgg := hG.w.g
  have hth := hG.th
  refine E_aload_n dX12_quarters_5 rfl ?_
  refine g_X12_192 rfl dX12_quarters_6 hO.o (hV.2 7 (by unfold SJ; omega)) ?_
  refine E_if_ne (tgt := 15) dX12_quarters_9 (by decide) (fun h9 => ?_) (fun h9 => ?_)
  · refine E_iload_n dX12_quarters_15 rfl ?_
    refine E_i2l dX12_quarters_16 ?_
    refine E_lconst (x := 1) dX12_quarters_17 (by decide) ?_
    refine c_X12_243 rfl dX12_quarters_18 ?_
    refine i_X12_63 rfl dX12_quarters_21 c_in (by omega) (Nat.le_of_ble_eq_true rfl) rfl rfl ?_
    rintro _ _ ⟨rfl, rfl⟩
    try dsimp only [pu]
    refine E_if_ne (tgt := 30) dX12_quarters_24 (by decide) (fun h24 => ?_) (fun h24 => ?_)
    · simp only [tB0, ne_eq, Bool.not_eq_false, Bool.not_eq_true, decide_eq_true_eq, decide_eq_false_iff_not, Classical.not_not] at h24
      refine E_aload_n dX12_quarters_30 rfl ?_
      refine i_X12_221 rfl dX12_quarters_31 (by exact hO.o) (c_layNow hO hQ hW hG.w.sn n hn) (by omega) (Nat.le_of_ble_eq_true rfl) rfl rfl ?_
      rintro _ _ ⟨rfl, I, rfl, hI⟩
      have hQI : MC (mI (mJ M1 I)) m (A 4) := fun k h0 h1 => (hI.1 _ _ (by omega) (by omega) (by omega)).trans (hQ k h0 h1)
      have hHI : ∀ q, 0 ≤ q → q < A 4 2 → I (m + 7) q = cHu (A 4) q := fun q q0 q1 => (hI.2.1 q q0 (by omega)).1
      try dsimp only [pu]
      refine E_iconst dX12_quarters_34 (by decide) ?_
      refine E_istore_n dX12_quarters_35 rfl (by decide) ?_
      try dsimp only [List.set]
      obtain ⟨nc, rfl⟩ := Int.eq_ofNat_of_zero_le (show 0 ≤ c by omega)
      refine l_quarters hO hQ hW hG.w.hv hG.w.we (sn := cSn (A 4)) n hn hgg.1 (by omega) nc rfl (by omega) (fun J hJ => ?_) nc 0 I (by omega) (hI.qi hn _)
      have hQJ : MC (mI (mJ M1 J)) m (A 4) := fun k h0 h1 => (hJ.1 _ _ (by omega) (by omega) (by omega)).trans (hQ k h0 h1)
      refine E_aload_n dX12_quarters_59 rfl ?_
      refine i_X12_227 rfl dX12_quarters_60 (by exact hO.o) (c_keepNow (hO.j J) hQJ hW hJ.2.1 hJ.2.2.1 n hn hJ.2.2.2 (itS_b hG.w.sn nc)) (by omega) (Nat.le_of_ble_eq_true rfl) rfl rfl ?_
      rintro _ _ ⟨rfl, K, rfl, hK1, hK2⟩
      have hK1 : ∀ b j, b ≠ m + 4 → K b j = J b j := hK1
      have h3 : K (m + 4) 3 = A 4 3 := (hK2 3 (by omega) (by omega)).trans (cKeep_lo _ _ _ _ (by omega) _)
      try dsimp only [pu]
      refine E_aload_n dX12_quarters_63 rfl ?_
      refine g_X12_19 rfl dX12_quarters_64 hO.o hO.court ?_
      refine E_iconst dX12_quarters_67 (by decide) ?_
      refine E_dup2 dX12_quarters_68 rfl rfl ?_
      refine E_iald dX12_quarters_69 hO.s_court (by omega) (by omega) h3 ?_
      refine E_iload_n dX12_quarters_70 rfl ?_
      refine E_iadd dX12_quarters_71 (by omega) (by omega) ?_
      refine E_iast dX12_quarters_72 hO.s_court (by omega) (by omega) ?_
      refine E_aload_n dX12_quarters_73 rfl ?_
      refine g_X12_19 rfl dX12_quarters_74 hO.o hO.court ?_
      refine E_iconst dX12_quarters_77 (by decide) ?_
      refine E_iald dX12_quarters_78 hO.s_court (by omega) (by omega) mI_eq ?_
      refine E_iret dX12_quarters_79 rfl ?_
      refine ⟨?_, hF.j (J := up2 K (m + 4) 3 (A 4 3 + nc)) (fun b j hb => (up2_ne _ _ (by omega)).trans ((hK1 _ _ (by omega)).trans (hJ.1 _ _ (by omega) (by omega) (by omega)))), ?_⟩
      · congr 2; unfold s_quarters; rw [if_neg (by omega), if_pos (by omega)]
      · unfold t_quarters; rw [if_neg (by omega), if_pos (by omega)]
        refine hV.pg (fun b j q1 q2 q3 q4 => (up2_ne _ _ (fun z => q1 z.1)).trans ((hK1 _ _ q1).trans (hJ.1 _ _ q2 q3 q4))) (fun k k0 k1 => ?_)
        show up2 K (m + 4) 3 (A 4 3 + nc) (m + 4) k = upC _ 3 (A 4 3 + nc) k
        unfold up2 upC
        by_cases hk : k = 3
        · rw [if_pos ⟨rfl, hk⟩, if_pos hk]
        · rw [if_neg (fun z => hk z.2), if_neg hk]; exact hK2 k k0 k1
    · simp only [tB0, ne_eq, Bool.not_eq_false, Bool.not_eq_true, decide_eq_true_eq, decide_eq_false_iff_not, Classical.not_not] at h24
      refine c_X12_73 rfl dX12_quarters_27 ?_
      refine E_iret dX12_quarters_29 rfl ?_
      refine ⟨?_, hF, ?_⟩
      · congr 2; unfold s_quarters; rw [if_neg (by omega), if_neg (by omega)]; try rfl
      · unfold t_quarters; rw [if_neg (by omega), if_neg (by omega)]; exact hV
  · refine c_X12_208 rfl dX12_quarters_12 ?_
    refine E_iret dX12_quarters_14 rfl ?_
    refine ⟨?_, hF, ?_⟩
    · congr 2; unfold s_quarters; rw [if_pos (by omega)]; try rfl
    · unfold t_quarters; rw [if_pos (by omega)]; exact hV
set_option maxRecDepth 20000 in
set_option maxHeartbeats 3000000 in
theorem l_dry {G : Ctx} {M : Mem} {m : Nat} {cd : CD} (hO : MO M m) (hQ : MC (mI M) m cd) (hW : WFc cd) {hu we sn : Int → Int} (hV : HV cd hu) (hw9 : ∀ p, 0 ≤ p → p < cd 2 → 0 ≤ we p ∧ we p ≤ 99) (n : Nat) (hn : cd 2 = n) (g0 : 0 ≤ cd 3) (g1 : cd 3 ≤ 900000) {s : Int} (hS : BS s n (fun p => decide (hu p ≠ -1000000))) : ∀ (k r : Nat) (I : Nat → Int → Int), r + k = 97 → QI M m cd hu we sn (cd 3) n r I → EV G m_X12_dry 4 0 0 (fun x M' => x = some (vI (firstT (fun t => fDrB (fun p => decide (hu p ≠ -1000000)) (itW cd hu n we (cd 3) t) n) k r)) ∧ ∃ I, M' = mJ M I ∧ ∀ b (j : Int), b ≠ m + 7 → b ≠ m + 8 → ¬ (b = m ∧ j = 20) → I b j = mI M b j) 62 [some (vR m), some (vI s), some (vI (r : Int))] [] (mJ M I) := by
  intro k
  induction k with
  | zero =>
    intro r I hr hi
    obtain rfl : r = 97 := by omega
    have hQI : MC (mI (mJ M I)) m cd := fun k h0 h1 => (hi.1 _ _ (by omega) (by omega) (by omega)).trans (hQ k h0 h1)
    have hl8 := hW.ln
    have hpn := hW.pn
    refine E_iload_n dX12_dry_62 rfl ?_
    refine E_bipush dX12_dry_63 (by decide) ?_
    refine E_icmp_gt (tgt := 96) dX12_dry_65 (by decide) (fun h65 => ?_) (fun h65 => ?_)
    · refine c_X12_89 rfl dX12_dry_96 ?_
      refine E_iret dX12_dry_98 rfl ?_
      exact ⟨rfl, I, rfl, hi.1⟩
    · exfalso; omega
  | succ k ih =>
    intro r I hr hi
    have hQI : MC (mI (mJ M I)) m cd := fun k h0 h1 => (hi.1 _ _ (by omega) (by omega) (by omega)).trans (hQ k h0 h1)
    have hl8 := hW.ln
    have hpn := hW.pn
    refine E_iload_n dX12_dry_62 rfl ?_
    refine E_bipush dX12_dry_63 (by decide) ?_
    refine E_icmp_gt (tgt := 96) dX12_dry_65 (by decide) (fun h65 => ?_) (fun h65 => ?_)
    · exfalso; omega
    · refine E_aload_n dX12_dry_68 rfl ?_
      refine E_iload_n dX12_dry_69 rfl ?_
      refine i_X12_257 rfl dX12_dry_70 (by exact hO.o) (c_mAreDry (hO.j I) hQI hW n hn hi.2.2.1 hS) (by omega) (Nat.le_of_ble_eq_true rfl) rfl rfl ?_
      rintro _ _ ⟨rfl, rfl⟩
      try dsimp only [pu]
      refine E_if_eq (tgt := 78) dX12_dry_73 (by decide) (fun h73 => ?_) (fun h73 => ?_)
      · simp only [tB0, ne_eq, Bool.not_eq_false, Bool.not_eq_true, decide_eq_true_eq, decide_eq_false_iff_not, Classical.not_not] at h73
        refine E_aload_n dX12_dry_78 rfl ?_
        refine E_aload_n dX12_dry_79 rfl ?_
        refine g_X12_19 rfl dX12_dry_80 hO.o hO.court ?_
        refine E_iconst dX12_dry_83 (by decide) ?_
        refine E_iald dX12_dry_84 hO.s_court (by omega) (by omega) (hQI.at (j := 3) (by omega) (by omega) (by omega)) ?_
        refine E_iload_n dX12_dry_85 rfl ?_
        refine E_iadd dX12_dry_86 (by omega) (by omega) ?_
        refine i_X12_245 rfl dX12_dry_87 (by exact hO.o) (c_goOn (hO.j I) hQI hW hV hi.2.1 hi.2.2.1 (itW_b hw9 r) n hn hi.2.2.2 (q := cd 3 + r) (by omega) (by omega)) (by omega) (Nat.le_of_ble_eq_true rfl) rfl rfl ?_
        rintro _ _ ⟨rfl, J, rfl, hJ⟩
        try dsimp only [pu]
        refine E_iinc dX12_dry_90 rfl (by omega) (by omega) (by decide) rfl (by decide) ?_
        try dsimp only [List.set]
        refine E_goto (tgt := 62) dX12_dry_93 (by decide) ?_
        have e : firstT (fun t => fDrB (fun p => decide (hu p ≠ -1000000)) (itW cd hu n we (cd 3) t) n) (k + 1) r = firstT (fun t => fDrB (fun p => decide (hu p ≠ -1000000)) (itW cd hu n we (cd 3) t) n) k (r + 1) := by simp only [firstT]; rw [if_neg (by rw [h73]; simp)]
        rw [e]
        exact EV.mq rfl rfl (ih (r + 1) J (by omega) (hi.step hn hJ))
      · simp only [tB0, ne_eq, Bool.not_eq_false, Bool.not_eq_true, decide_eq_true_eq, decide_eq_false_iff_not, Classical.not_not] at h73
        refine E_iload_n dX12_dry_76 rfl ?_
        refine E_iret dX12_dry_77 rfl ?_
        exact ⟨by simp only [firstT]; rw [if_pos h73], I, rfl, hi.1⟩
set_option maxRecDepth 20000 in
set_option maxHeartbeats 3000000 in
theorem l_dryS {G : Ctx} {M : Mem} {m : Nat} {cd : CD} (hO : MO M m) (hQ : MC (mI M) m cd) (hW : WFc cd) {hu we sn : Int → Int} (hV : HV cd hu) (hw9 : ∀ p, 0 ≤ p → p < cd 2 → 0 ≤ we p ∧ we p ≤ 99) (n : Nat) (hn : cd 2 = n) (g0 : 0 ≤ cd 3) (g1 : cd 3 ≤ 900000) {Q : Option MV → Mem → Prop} (hH : ∀ p, 0 ≤ p → p < cd 2 → mI M (m + 7) p = hu p) (K : ∀ s z, BS s n (fun p => decide (hu p ≠ -1000000)) → EV G m_X12_dry 4 0 0 Q 60 [some (vR m), some (vI s), some (vI z)] [] M) : ∀ (k r : Nat) (s : Int), r + k = n → BS s r (fun p => decide (hu p ≠ -1000000)) → EV G m_X12_dry 4 0 0 (Q) 23 [some (vR m), some (vI s), some (vI (r : Int))] [] M := by
  intro k
  induction k with
  | zero =>
    intro r s hr hi
    obtain rfl : r = n := by omega
    have hl8 := hW.ln
    have hpn := hW.pn
    refine E_iload_n dX12_dry_23 rfl ?_
    refine E_aload_n dX12_dry_24 rfl ?_
    refine g_X12_19 rfl dX12_dry_25 hO.o hO.court ?_
    refine E_iconst dX12_dry_28 (by decide) ?_
    refine E_iald dX12_dry_29 hO.s_court (by omega) (by omega) (hQ.at (j := 2) (by omega) (by omega) (by omega)) ?_
    refine E_icmp_ge (tgt := 60) dX12_dry_30 (by decide) (fun h30 => ?_) (fun h30 => ?_)
    · exact K _ _ hi
    · exfalso; omega
  | succ k ih =>
    intro r s hr hi
    have hl8 := hW.ln
    have hpn := hW.pn
    refine E_iload_n dX12_dry_23 rfl ?_
    refine E_aload_n dX12_dry_24 rfl ?_
    refine g_X12_19 rfl dX12_dry_25 hO.o hO.court ?_
    refine E_iconst dX12_dry_28 (by decide) ?_
    refine E_iald dX12_dry_29 hO.s_court (by omega) (by omega) (hQ.at (j := 2) (by omega) (by omega) (by omega)) ?_
    refine E_icmp_ge (tgt := 60) dX12_dry_30 (by decide) (fun h30 => ?_) (fun h30 => ?_)
    · exfalso; omega
    · refine E_iload_n dX12_dry_33 rfl ?_
      refine E_aload_n dX12_dry_34 rfl ?_
      refine g_X12_28 rfl dX12_dry_35 hO.o hO.hung ?_
      refine E_iload_n dX12_dry_38 rfl ?_
      refine E_iald dX12_dry_39 hO.s_hung (by omega) (by omega) (hH _ (by omega) (by omega)) ?_
      refine c_X12_89 rfl dX12_dry_40 ?_
      refine E_icmp_eq (tgt := 51) dX12_dry_42 (by decide) (fun h42 => ?_) (fun h42 => ?_)
      · refine E_iconst dX12_dry_51 (by decide) ?_
        refine E_ior dX12_dry_52 ?_
        refine E_istore_n dX12_dry_53 rfl (by decide) ?_
        try dsimp only [List.set]
        refine E_iinc dX12_dry_54 rfl (by omega) (by omega) (by decide) rfl (by decide) ?_
        try dsimp only [List.set]
        refine E_goto (tgt := 23) dX12_dry_57 (by decide) ?_
        exact EV.lq (by rw [bOr_0 (by have := hi.ran; omega) (by have := hi.ran; omega)]; rfl) (ih (r + 1) s (by omega) (hi.skip (decide_eq_false (by omega))))
      · refine E_iconst dX12_dry_45 (by decide) ?_
        refine E_iload_n dX12_dry_46 rfl ?_
        refine E_ishl dX12_dry_47 ?_
        refine E_goto (tgt := 52) dX12_dry_48 (by decide) ?_
        refine E_ior dX12_dry_52 ?_
        refine E_istore_n dX12_dry_53 rfl (by decide) ?_
        try dsimp only [List.set]
        refine E_iinc dX12_dry_54 rfl (by omega) (by omega) (by decide) rfl (by decide) ?_
        try dsimp only [List.set]
        refine E_goto (tgt := 23) dX12_dry_57 (by decide) ?_
        exact EV.lq rfl (ih (r + 1) _ (by omega) (hi.add (by omega) (decide_eq_true (by omega))))
set_option maxRecDepth 20000 in
set_option maxHeartbeats 3000000 in
theorem r_dry {G : Ctx} {M : Mem} {m : Nat} {A : AS} {B : Int} (hO : MO M m) (hV : MA (mI M) m A) (hG : GA A B) (hB : B ≤ 900000) (n : Nat) (hn : A 4 2 = n) : CT G m_X12_dry 4 0 0 [vR m] M (rM M m (s_dry A n) A) := by
  refine CT.of k_X12_dry 2 (ls := [some (vR m), none, none]) rfl (Nat.le_of_ble_eq_true rfl) ?_
  refine E_aload_n dX12_dry_0 rfl ?_
  refine E_iconst dX12_dry_1 (by decide) ?_
  refine p_X12_53 rfl dX12_dry_2 hO.o ?_
  obtain ⟨M1, e1, hO, hV, hF⟩ := thr hO hV
  refine EV.mq rfl e1.symm ?_
  clear e1
  have hQ := hV.mc
  have hW := hG.w.c
  have hpn := hW.pn
  have hl8 := hW.ln
  have hr8 := hW.rn
  have hgg := hG.w.g
  have hth := hG.th
  refine E_aload_n dX12_dry_5 rfl ?_
  refine g_X12_192 rfl dX12_dry_6 hO.o (hV.2 7 (by unfold SJ; omega)) ?_
  refine E_if_ne (tgt := 15) dX12_dry_9 (by decide) (fun h9 => ?_) (fun h9 => ?_)
  · refine E_iconst dX12_dry_15 (by decide) ?_
    refine E_istore_n dX12_dry_16 rfl (by decide) ?_
    try dsimp only [List.set]
    refine E_aload_n dX12_dry_17 rfl ?_
    refine i_X12_221 rfl dX12_dry_18 (by exact hO.o) (c_layNow hO hQ hW hG.w.sn n hn) (by omega) (Nat.le_of_ble_eq_true rfl) rfl rfl ?_
    rintro _ _ ⟨rfl, I, rfl, hI⟩
    have hQI : MC (mI (mJ M1 I)) m (A 4) := fun k h0 h1 => (hI.1 _ _ (by omega) (by omega) (by omega)).trans (hQ k h0 h1)
    have hHI : ∀ q, 0 ≤ q → q < A 4 2 → I (m + 7) q = cHu (A 4) q := fun q q0 q1 => (hI.2.1 q q0 (by omega)).1
    try dsimp only [pu]
    refine E_iconst dX12_dry_21 (by decide) ?_
    refine E_istore_n dX12_dry_22 rfl (by decide) ?_
    try dsimp only [List.set]
    refine l_dryS (hO.j I) hQI hW (we := cWe (A 4)) (sn := cSn (A 4)) hG.w.hv hG.w.we n hn hgg.1 (by omega) hHI (fun s z hS => ?_) n 0 0 (by omega) (BS.nil _)
    refine E_iconst dX12_dry_60 (by decide) ?_
    refine E_istore_n dX12_dry_61 rfl (by decide) ?_
    try dsimp only [List.set]
    refine EV.post (fun x M' hq => ?_) (l_dry hO hQ hW hG.w.hv hG.w.we (sn := cSn (A 4)) n hn hgg.1 (by omega) hS 97 0 I (by omega) (hI.qi hn _))
    obtain ⟨rfl, K, rfl, hK⟩ := hq
    refine ⟨?_, hF.j (fun b j hb => hK b j (by omega) (by omega) (by omega)), hV.of (fun k j hs => hK _ _ (by unfold SA at hs; omega) (by unfold SA at hs; omega) (by unfold SA at hs; omega)) (fun j hs => hK _ _ (by omega) (by omega) (by unfold SJ at hs; omega))⟩
    congr 2; unfold s_dry; rw [if_neg (by omega)]
  · refine c_X12_208 rfl dX12_dry_12 ?_
    refine E_iret dX12_dry_14 rfl ?_
    refine ⟨?_, hF, hV⟩
    congr 2; unfold s_dry; rw [if_pos (by omega)]
set_option maxRecDepth 20000 in
set_option maxHeartbeats 3000000 in
theorem l_image {G : Ctx} {M : Mem} {m : Nat} (hO : MO M m) {c : Int} (c0 : 0 ≤ c ∧ c ≤ 1) {Q : Option MV → Mem → Prop} (K : EV G m_X12_image 1 0 0 Q 61 [some (vR m), some (vI c), some (vI 144)] [] (mJ M (mov (mI M) (m + 13) (m + 4) 0 (144 * c) 144))) : ∀ (k r : Nat) , r + k = 144 → EV G m_X12_image 1 0 0 (Q) 30 [some (vR m), some (vI c), some (vI (r : Int))] [] (mJ M (mov (mI M) (m + 13) (m + 4) 0 (144 * c) r)) := by
  intro k
  induction k with
  | zero =>
    intro r  hr
    obtain rfl : r = 144 := by omega
    refine E_iload_n dX12_image_30 rfl ?_
    refine E_sipush dX12_image_31 (by decide) ?_
    refine E_icmp_ge (tgt := 61) dX12_image_34 (by decide) (fun h34 => ?_) (fun h34 => ?_)
    · exact K
    · exfalso; omega
  | succ k ih =>
    intro r  hr
    refine E_iload_n dX12_image_30 rfl ?_
    refine E_sipush dX12_image_31 (by decide) ?_
    refine E_icmp_ge (tgt := 61) dX12_image_34 (by decide) (fun h34 => ?_) (fun h34 => ?_)
    · exfalso; omega
    · refine E_aload_n dX12_image_37 rfl ?_
      refine g_X12_47 rfl dX12_image_38 hO.o hO.kept ?_
      refine E_sipush dX12_image_41 (by decide) ?_
      refine E_iload_n dX12_image_44 rfl ?_
      refine E_imul dX12_image_45 (by omega) (by omega) ?_
      refine E_iload_n dX12_image_46 rfl ?_
      refine E_iadd dX12_image_47 (by omega) (by omega) ?_
      refine E_aload_n dX12_image_48 rfl ?_
      refine g_X12_19 rfl dX12_image_49 hO.o hO.court ?_
      refine E_iload_n dX12_image_52 rfl ?_
      refine E_iald dX12_image_53 hO.s_court (by omega) (by omega) ((mov_ne (mI M) (by omega)).trans (congrArg (mI M (m + 4)) (Int.zero_add _).symm)) ?_
      refine E_iast dX12_image_54 hO.s_kept (by omega) (by omega) ?_
      refine E_iinc dX12_image_55 rfl (by omega) (by omega) (by decide) rfl (by decide) ?_
      try dsimp only [List.set]
      refine E_goto (tgt := 30) dX12_image_58 (by decide) ?_
      exact EV.mq rfl (by rw [show ((r + 1 : Nat) : Int) = (r : Int) + 1 by omega, ← mov_up _ _ _ _ _ _ (by omega)]; rfl) (ih (r + 1) (by omega))
set_option maxRecDepth 20000 in
set_option maxHeartbeats 3000000 in
theorem r_image {G : Ctx} {M : Mem} {m : Nat} {A : AS} {B : Int} (hO : MO M m) (hV : MA (mI M) m A) (hG : GA A B) (hB : B ≤ 900000) {c : Int} : CT G m_X12_image 1 0 0 [vR m, vI c] M (rM M m (s_image A c) (t_image A c)) := by
  refine CT.of k_X12_image 1 (ls := [some (vR m), some (vI c), none]) rfl (Nat.le_of_ble_eq_true rfl) ?_
  refine E_aload_n dX12_image_0 rfl ?_
  refine E_iconst dX12_image_1 (by decide) ?_
  refine p_X12_53 rfl dX12_image_2 hO.o ?_
  obtain ⟨M1, e1, hO, hV, hF⟩ := thr hO hV
  refine EV.mq rfl e1.symm ?_
  clear e1
  have hQ := hV.mc
  have hW := hG.w.c
  have hpn := hW.pn
  have hl8 := hW.ln
  have hr8 := hW.rn
  have hgg := hG.w.g
  have hth := hG.th
  refine E_iload_n dX12_image_5 rfl ?_
  refine E_i2l dX12_image_6 ?_
  refine E_lconst (x := 0) dX12_image_7 (by decide) ?_
  refine E_lconst (x := 1) dX12_image_8 (by decide) ?_
  refine i_X12_63 rfl dX12_image_9 c_in (by omega) (Nat.le_of_ble_eq_true rfl) rfl rfl ?_
  rintro _ _ ⟨rfl, rfl⟩
  try dsimp only [pu]
  refine E_if_ne (tgt := 18) dX12_image_12 (by decide) (fun h12 => ?_) (fun h12 => ?_)
  · simp only [tB0, ne_eq, Bool.not_eq_false, Bool.not_eq_true, decide_eq_true_eq, decide_eq_false_iff_not, Classical.not_not] at h12
    refine E_aload_n dX12_image_18 rfl ?_
    refine g_X12_192 rfl dX12_image_19 hO.o (hV.2 7 (by unfold SJ; omega)) ?_
    refine E_if_ne (tgt := 28) dX12_image_22 (by decide) (fun h22 => ?_) (fun h22 => ?_)
    · refine E_iconst dX12_image_28 (by decide) ?_
      refine E_istore_n dX12_image_29 rfl (by decide) ?_
      try dsimp only [List.set]
      refine EV.mq rfl (by rw [show ((0 : Nat) : Int) = 0 from rfl, mov_nil]; rfl) (l_image hO (c := c) (by omega) ?_ 144 0 (by omega))
      refine E_aload_n dX12_image_61 rfl ?_
      refine g_X12_43 rfl dX12_image_62 hO.o hO.isKept ?_
      refine E_iload_n dX12_image_65 rfl ?_
      refine E_iconst dX12_image_66 (by decide) ?_
      refine E_zast dX12_image_67 hO.s_isKept (by omega) (by omega) (nar01 (Or.inr rfl)) ?_
      refine E_iconst dX12_image_68 (by decide) ?_
      refine E_iret dX12_image_69 rfl ?_
      refine ⟨?_, (hF.j (fun b j hb => mov_ne _ (by omega))).w (by omega) _ _, ?_⟩
      · congr 2; unfold s_image; rw [if_pos (by omega), if_neg (by omega)]
      · unfold t_image; rw [if_pos (by omega), if_neg (by omega)]
        exact (hV.mv (k := 13) (l := 4) (by omega) 0 (144 * c) 144 (fun i _ _ _ => by unfold SA; omega)).up (k := 12) (by omega) c 1
    · refine c_X12_208 rfl dX12_image_25 ?_
      refine E_iret dX12_image_27 rfl ?_
      refine ⟨?_, hF, ?_⟩
      · congr 2; unfold s_image; rw [if_pos (by omega), if_pos (by omega)]; try rfl
      · unfold t_image; rw [if_pos (by omega), if_pos (by omega)]; exact hV
  · simp only [tB0, ne_eq, Bool.not_eq_false, Bool.not_eq_true, decide_eq_true_eq, decide_eq_false_iff_not, Classical.not_not] at h12
    refine c_X12_73 rfl dX12_image_15 ?_
    refine E_iret dX12_image_17 rfl ?_
    refine ⟨?_, hF, ?_⟩
    · congr 2; unfold s_image; rw [if_neg (by omega)]; try rfl
    · unfold t_image; rw [if_neg (by omega)]; exact hV
set_option maxRecDepth 20000 in
set_option maxHeartbeats 3000000 in
theorem l_restore {G : Ctx} {M : Mem} {m : Nat} (hO : MO M m) {c : Int} (c0 : 0 ≤ c ∧ c ≤ 1) : ∀ (k r : Nat) , r + k = 144 → EV G m_X12_restore 1 0 0 (fun x M' => x = some (vI 1) ∧ M' = mJ M (mov (mI M) (m + 4) (m + 13) (144 * c) 0 144)) 32 [some (vR m), some (vI c), some (vI (r : Int))] [] (mJ M (mov (mI M) (m + 4) (m + 13) (144 * c) 0 r)) := by
  intro k
  induction k with
  | zero =>
    intro r  hr
    obtain rfl : r = 144 := by omega
    refine E_iload_n dX12_restore_32 rfl ?_
    refine E_sipush dX12_restore_33 (by decide) ?_
    refine E_icmp_ge (tgt := 63) dX12_restore_36 (by decide) (fun h36 => ?_) (fun h36 => ?_)
    · refine E_iconst dX12_restore_63 (by decide) ?_
      refine E_iret dX12_restore_64 rfl ?_
      exact ⟨rfl, rfl⟩
    · exfalso; omega
  | succ k ih =>
    intro r  hr
    refine E_iload_n dX12_restore_32 rfl ?_
    refine E_sipush dX12_restore_33 (by decide) ?_
    refine E_icmp_ge (tgt := 63) dX12_restore_36 (by decide) (fun h36 => ?_) (fun h36 => ?_)
    · exfalso; omega
    · refine E_aload_n dX12_restore_39 rfl ?_
      refine g_X12_19 rfl dX12_restore_40 hO.o hO.court ?_
      refine E_iload_n dX12_restore_43 rfl ?_
      refine E_aload_n dX12_restore_44 rfl ?_
      refine g_X12_47 rfl dX12_restore_45 hO.o hO.kept ?_
      refine E_sipush dX12_restore_48 (by decide) ?_
      refine E_iload_n dX12_restore_51 rfl ?_
      refine E_imul dX12_restore_52 (by omega) (by omega) ?_
      refine E_iload_n dX12_restore_53 rfl ?_
      refine E_iadd dX12_restore_54 (by omega) (by omega) ?_
      refine E_iald dX12_restore_55 hO.s_kept (by omega) (by omega) (mov_ne (mI M) (by omega)) ?_
      refine E_iast dX12_restore_56 hO.s_court (by omega) (by omega) ?_
      refine E_iinc dX12_restore_57 rfl (by omega) (by omega) (by decide) rfl (by decide) ?_
      try dsimp only [List.set]
      refine E_goto (tgt := 32) dX12_restore_60 (by decide) ?_
      exact EV.mq rfl (by rw [show ((r + 1 : Nat) : Int) = (r : Int) + 1 by omega, ← mov_up _ _ _ _ _ _ (by omega), Int.zero_add]; rfl) (ih (r + 1) (by omega))
set_option maxRecDepth 20000 in
set_option maxHeartbeats 3000000 in
theorem r_restore {G : Ctx} {M : Mem} {m : Nat} {A : AS} {B : Int} (hO : MO M m) (hV : MA (mI M) m A) (hG : GA A B) (hB : B ≤ 900000) {c : Int} : CT G m_X12_restore 1 0 0 [vR m, vI c] M (rM M m (s_restore A c) (t_restore A c)) := by
  refine CT.of k_X12_restore 1 (ls := [some (vR m), some (vI c), none]) rfl (Nat.le_of_ble_eq_true rfl) ?_
  refine E_aload_n dX12_restore_0 rfl ?_
  refine E_iconst dX12_restore_1 (by decide) ?_
  refine p_X12_53 rfl dX12_restore_2 hO.o ?_
  obtain ⟨M1, e1, hO, hV, hF⟩ := thr hO hV
  refine EV.mq rfl e1.symm ?_
  clear e1
  have hQ := hV.mc
  have hW := hG.w.c
  have hpn := hW.pn
  have hl8 := hW.ln
  have hr8 := hW.rn
  have hgg := hG.w.g
  have hth := hG.th
  refine E_iload_n dX12_restore_5 rfl ?_
  refine E_i2l dX12_restore_6 ?_
  refine E_lconst (x := 0) dX12_restore_7 (by decide) ?_
  refine E_lconst (x := 1) dX12_restore_8 (by decide) ?_
  refine i_X12_63 rfl dX12_restore_9 c_in (by omega) (Nat.le_of_ble_eq_true rfl) rfl rfl ?_
  rintro _ _ ⟨rfl, rfl⟩
  try dsimp only [pu]
  refine E_if_ne (tgt := 18) dX12_restore_12 (by decide) (fun h12 => ?_) (fun h12 => ?_)
  · simp only [tB0, ne_eq, Bool.not_eq_false, Bool.not_eq_true, decide_eq_true_eq, decide_eq_false_iff_not, Classical.not_not] at h12
    refine E_aload_n dX12_restore_18 rfl ?_
    refine g_X12_43 rfl dX12_restore_19 hO.o hO.isKept ?_
    refine E_iload_n dX12_restore_22 rfl ?_
    refine E_zald dX12_restore_23 hO.s_isKept (by omega) (by omega) (hV.1 12 _ (by unfold SA; omega)) ?_
    refine E_if_ne (tgt := 30) dX12_restore_24 (by decide) (fun h24 => ?_) (fun h24 => ?_)
    · refine E_iconst dX12_restore_30 (by decide) ?_
      refine E_istore_n dX12_restore_31 rfl (by decide) ?_
      try dsimp only [List.set]
      refine EV.post (fun x M' hq => ?_) (EV.mq rfl (by rw [show ((0 : Nat) : Int) = 0 from rfl, mov_nil]; rfl) (l_restore hO (c := c) (by omega) 144 0 (by omega)))
      obtain ⟨rfl, rfl⟩ := hq
      refine ⟨?_, hF.j (fun b j hb => mov_ne _ (by omega)), ?_⟩
      · congr 2; unfold s_restore; rw [if_pos (by omega), if_neg (by omega)]
      · unfold t_restore; rw [if_pos (by omega), if_neg (by omega)]
        exact hV.mv (k := 4) (l := 13) (by omega) (144 * c) 0 144 (fun i _ _ _ => by unfold SA; omega)
    · refine c_X12_208 rfl dX12_restore_27 ?_
      refine E_iret dX12_restore_29 rfl ?_
      refine ⟨?_, hF, ?_⟩
      · congr 2; unfold s_restore; rw [if_pos (by omega), if_pos (by omega)]; try rfl
      · unfold t_restore; rw [if_pos (by omega), if_pos (by omega)]; exact hV
  · simp only [tB0, ne_eq, Bool.not_eq_false, Bool.not_eq_true, decide_eq_true_eq, decide_eq_false_iff_not, Classical.not_not] at h12
    refine c_X12_73 rfl dX12_restore_15 ?_
    refine E_iret dX12_restore_17 rfl ?_
    refine ⟨?_, hF, ?_⟩
    · congr 2; unfold s_restore; rw [if_neg (by omega)]; try rfl
    · unfold t_restore; rw [if_neg (by omega)]; exact hV
