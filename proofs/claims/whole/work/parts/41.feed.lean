/-! ===== 41: feed of the class; the state stays well formed ===== -/
theorem and255 (v : Int64) : (v &&& 255).toInt = v.toInt % 256 := by
  have h1 : (v &&& 255).toBitVec = v.toBitVec &&& 255#64 := rfl
  show (v &&& 255).toBitVec.toInt = v.toBitVec.toInt % 256
  rw [h1, BitVec.toInt_eq_toNat_cond, BitVec.toInt_eq_toNat_cond, BitVec.toNat_and]
  have h2 : (v.toBitVec.toNat &&& (255#64).toNat) = v.toBitVec.toNat % 256 := Nat.and_two_pow_sub_one_eq_mod _ 8
  rw [h2]
  have := v.toBitVec.isLt
  split <;> split <;> omega
theorem byt_eq (w k : Int) : byt w k = (Int64.ofInt (lShr w (8 * k))).toInt % 256 := by
  unfold byt lL2i lAnd
  rw [show Int64.ofInt 255 = 255 from rfl, i64_of, Int64.toInt_toInt32, and255]
  exact i32_b (by omega) (by omega)
theorem byt_ran (w k : Int) : 0 ≤ byt w k ∧ byt w k ≤ 255 := by rw [byt_eq]; omega
theorem sg_byt (w k : Int) : bI2b (lL2i (lShr w (8 * k))) = sg (byt w k) := by
  rw [byt_eq]
  unfold bI2b lL2i
  generalize Int64.ofInt (lShr w (8 * k)) = v
  rw [i32_of, Int8.toInt_toInt32, Int32.toInt_toInt8, Int64.toInt_toInt32, Int.bmod_bmod_of_dvd (by decide)]
  unfold sg
  rw [Int.bmod_def]
  show (if v.toInt % 256 < (256 + 1) / 2 then v.toInt % 256 else v.toInt % 256 - 256) = _
  split <;> split <;> omega
theorem nar8 {x : Int} (h : -128 ≤ x ∧ x ≤ 127) : narrow .byte (.int (Int32.ofInt x)) = .int (Int32.ofInt x) := by
  have hd : ∀ n : Nat, n < 256 → narrow .byte (.int (Int32.ofInt ((n : Int) - 128))) = .int (Int32.ofInt ((n : Int) - 128)) := by decide +kernel
  obtain ⟨n, hn⟩ := Int.eq_ofNat_of_zero_le (show 0 ≤ x + 128 by omega)
  have e : x = (n : Int) - 128 := by omega
  rw [e]; exact hd n (by omega)
theorem sg_ran {x : Int} (h : 0 ≤ x ∧ x ≤ 255) : -128 ≤ sg x ∧ sg x ≤ 127 := by unfold sg; split <;> omega
theorem fd_ne (A : AS) (w c : Int) {k : Nat} {j : Int} (h6 : k ≠ 6) (h9 : ¬ (k = 0 ∧ j = 9)) : ∀ r : Nat, fd A w c r k j = A k j
  | 0 => rfl
  | r + 1 => by simp only [fd]; rw [up2_ne _ _ h9, up2_ne _ _ (by omega)]; exact fd_ne A w c h6 h9 r
theorem QT.feed {I A : AS} {w c : Int} {r : Nat} (h : QT I (fd A w c r)) (h0 : 0 ≤ A 0 9) : QT (up2 (up2 I 27 (A 0 9 + r) (bI2b (lL2i (lShr w (8 * (c - 1 - r)))))) 26 1 (A 0 9 + r + 1)) (fd A w c (r + 1)) := by
  have e9 := fd_9 A w c r
  have e9' := fd_9 A w c (r + 1)
  obtain ⟨h1, h2⟩ := h
  refine ⟨by rw [up2_self, e9']; omega, fun j j0 j1 => ?_⟩
  rw [e9'] at j1
  have e1 : up2 (up2 I 27 (A 0 9 + r) (bI2b (lL2i (lShr w (8 * (c - 1 - r)))))) 26 1 (A 0 9 + r + 1) 27 j = up2 I 27 (A 0 9 + r) (bI2b (lL2i (lShr w (8 * (c - 1 - r))))) 27 j := up2_ne _ _ (by omega)
  have e2 : fd A w c (r + 1) 6 j = up2 (fd A w c r) 6 (A 0 9 + r) (byt w (c - 1 - r)) 6 j := up2_ne _ _ (by omega)
  rw [e1, e2]
  by_cases hj : j = A 0 9 + r
  · rw [hj, up2_self, up2_self, sg_byt]
  · rw [up2_ne _ _ (by omega), up2_ne _ _ (by omega)]
    exact h2 j j0 (by omega)
set_option maxRecDepth 20000 in
set_option maxHeartbeats 3000000 in
theorem l_append {G : Ctx} {M : Mem} (hq : RQ M 26) {A : AS} {w c : Int} (n : Nat) (hc : c = n) (n8 : n ≤ 8) (h9 : 0 ≤ A 0 9) (hs : A 0 9 + n ≤ 500) : ∀ (k r : Nat) (I : Nat → Int → Int), r + k = n → (∀ b (j : Int), b ≠ 27 → ¬ (b = 26 ∧ j = 1) → I b j = mI M b j) ∧ QT I (fd A w c r) → EV G m_X3_append 0 0 0 (fun x M' => x = some (vI (A 0 9 + c)) ∧ ∃ I, M' = mJ M I ∧ (∀ b (j : Int), b ≠ 27 → ¬ (b = 26 ∧ j = 1) → I b j = mI M b j) ∧ QT I (fd A w c n)) 5 [some (vR 26), some (vL w), none, some (vI c), some (vI (c - 1 - r))] [] (mJ M I) := by
  intro k
  induction k with
  | zero =>
    intro r I hr hi
    obtain rfl : r = n := by omega
    have h9I : I 26 1 = A 0 9 + r := hi.2.1.trans (fd_9 A w c r)
    refine E_iload dX3_append_5 rfl ?_
    refine E_if_lt (tgt := 54) dX3_append_7 (by decide) (fun h7 => ?_) (fun h7 => ?_)
    · refine E_aload_n dX3_append_54 rfl ?_
      refine g_X3_15 rfl dX3_append_55 hq.o h9I ?_
      refine E_iret dX3_append_58 rfl ?_
      exact ⟨by rw [hc], I, rfl, hi⟩
    · exfalso; omega
  | succ k ih =>
    intro r I hr hi
    have h9I : I 26 1 = A 0 9 + r := hi.2.1.trans (fd_9 A w c r)
    refine E_iload dX3_append_5 rfl ?_
    refine E_if_lt (tgt := 54) dX3_append_7 (by decide) (fun h7 => ?_) (fun h7 => ?_)
    · exfalso; omega
    · refine E_aload_n dX3_append_10 rfl ?_
      refine g_X3_15 rfl dX3_append_11 hq.o h9I ?_
      refine E_sipush dX3_append_14 (by decide) ?_
      refine E_icmp_ge (tgt := 54) dX3_append_17 (by decide) (fun h17 => ?_) (fun h17 => ?_)
      · exfalso; omega
      · refine E_aload_n dX3_append_20 rfl ?_
        refine g_X3_11 rfl dX3_append_21 hq.o hq.tape ?_
        refine E_aload_n dX3_append_24 rfl ?_
        refine g_X3_15 rfl dX3_append_25 hq.o h9I ?_
        refine E_lload_n dX3_append_28 rfl ?_
        refine E_bipush dX3_append_29 (by decide) ?_
        refine E_iload dX3_append_31 rfl ?_
        refine E_imul dX3_append_33 (by omega) (by omega) ?_
        refine E_lshr dX3_append_34 ?_
        refine E_l2i dX3_append_35 ?_
        refine E_i2b dX3_append_36 ?_
        refine E_bast dX3_append_37 hq.s_tape (by omega) (by omega) (nar8 (by rw [sg_byt]; exact sg_ran (byt_ran _ _))) ?_
        refine E_aload_n dX3_append_38 rfl ?_
        refine E_dup dX3_append_39 rfl ?_
        refine g_X3_15 rfl dX3_append_40 hq.o ((mI_ne (by omega)).trans h9I) ?_
        refine E_iconst dX3_append_43 (by decide) ?_
        refine E_iadd dX3_append_44 (by omega) (by omega) ?_
        refine p_X3_15 rfl dX3_append_45 hq.o ?_
        refine E_iinc dX3_append_48 rfl (by omega) (by omega) (by decide) rfl (by decide) ?_
        try dsimp only [List.set]
        refine E_goto (tgt := 5) dX3_append_51 (by decide) ?_
        refine EV.mq (by rw [show c - 1 - ((r + 1 : Nat) : Int) = c - 1 - r + -1 by omega]) rfl (ih (r + 1) (up2 (up2 I 27 (A 0 9 + r) (bI2b (lL2i (lShr w (8 * (c - 1 - r)))))) 26 1 (A 0 9 + r + 1)) (by omega) ⟨fun b j q1 q2 => ?_, hi.2.feed h9⟩)
        rw [up2_ne _ _ q2, up2_ne _ _ (by omega)]; exact hi.1 b j q1 q2
set_option maxRecDepth 20000 in
set_option maxHeartbeats 3000000 in
theorem c_append {G : Ctx} {M : Mem} (hq : RQ M 26) {A : AS} {w c : Int} (n : Nat) (hc : c = n) (n8 : n ≤ 8) (h9 : 0 ≤ A 0 9) (hs : A 0 9 + n ≤ 500) (hT : QT (mI M) A) : CT G m_X3_append 0 0 0 [vR 26, vL w, vI c] M (fun x M' => x = some (vI (A 0 9 + c)) ∧ ∃ I, M' = mJ M I ∧ (∀ b (j : Int), b ≠ 27 → ¬ (b = 26 ∧ j = 1) → I b j = mI M b j) ∧ QT I (fd A w c n)) := by
  refine CT.of k_X3_append 1 (ls := [some (vR 26), some (vL w), none, some (vI c), none]) rfl (Nat.le_of_ble_eq_true rfl) ?_
  refine E_iload_n dX3_append_0 rfl ?_
  refine E_iconst dX3_append_1 (by decide) ?_
  refine E_isub dX3_append_2 (by omega) (by omega) ?_
  refine E_istore dX3_append_3 rfl (by decide) ?_
  try dsimp only [List.set]
  exact EV.mq (by rw [show c - 1 - ((0 : Nat) : Int) = c - 1 by omega]) rfl (l_append hq n hc n8 h9 hs n 0 (mI M) (by omega) ⟨fun _ _ _ _ => rfl, hT⟩)
set_option maxRecDepth 20000 in
set_option maxHeartbeats 3000000 in
theorem c_hasRoom {G : Ctx} {M : Mem} (hq : RQ M 26) {c x : Int} (hx : mI M 26 1 = x) (h9 : 0 ≤ x ∧ x ≤ 500) : CT G m_X3_hasRoom 0 0 0 [vR 26, vI c] M (rI M (tB (decide (c ≤ 500 - x)))) := by
  refine CT.of k_X3_hasRoom 0 (ls := [some (vR 26), some (vI c)]) rfl (Nat.le_of_ble_eq_true rfl) ?_
  refine E_iload_n dX3_hasRoom_0 rfl ?_
  refine E_sipush dX3_hasRoom_1 (by decide) ?_
  refine E_aload_n dX3_hasRoom_4 rfl ?_
  refine g_X3_15 rfl dX3_hasRoom_5 hq.o hx ?_
  refine E_isub dX3_hasRoom_8 (by omega) (by omega) ?_
  refine E_icmp_gt (tgt := 16) dX3_hasRoom_9 (by decide) (fun h9 => ?_) (fun h9 => ?_)
  · refine E_iconst dX3_hasRoom_16 (by decide) ?_
    refine E_zret dX3_hasRoom_17 rfl (by decide) ?_
    refine ⟨?_, rfl⟩
    congr 2; first | (rw [decide_eq_true (by omega)]; rfl) | (rw [decide_eq_false (by omega)]; rfl)
  · refine E_iconst dX3_hasRoom_12 (by decide) ?_
    refine E_goto (tgt := 17) dX3_hasRoom_13 (by decide) ?_
    refine E_zret dX3_hasRoom_17 rfl (by decide) ?_
    refine ⟨?_, rfl⟩
    congr 2; first | (rw [decide_eq_true (by omega)]; rfl) | (rw [decide_eq_false (by omega)]; rfl)
set_option maxRecDepth 20000 in
set_option maxHeartbeats 3000000 in
theorem x_feed {G : Ctx} {M : Mem} {A : AS} {B : Int} (hI : CI M A) (hG : GA A B) (hB : B ≤ 900000) {w c : Int} : CT G m_X11_feed 1 0 0 [vR 21, vL w, vI c] M (xM M (s_feed A c) (t_feed A w c)) := by
  refine CT.of k_X11_feed 0 (ls := [some (vR 21), some (vL w), none, some (vI c)]) rfl (Nat.le_of_ble_eq_true rfl) ?_
  obtain ⟨hX, hN, hR, hT, hK, hS, hW0, hW1, hW2⟩ := id hI
  obtain ⟨a, hRc, hC, ha, haN, hD, hH, hE, hSn, hg, hZ⟩ := hW0
  have hW := hG.w.c
  have hpn := hW.pn
  have hl8 := hW.ln
  have hr8 := hW.rn
  have hgg := hG.w.g
  have hth := hG.th
  have hV := hG.w.hv
  have htn := hG.tn
  refine E_iload_n dX11_feed_0 rfl ?_
  refine E_iconst dX11_feed_1 (by decide) ?_
  refine E_bipush dX11_feed_2 (by decide) ?_
  refine i_X11_68 rfl dX11_feed_4 c_isIn (by omega) (Nat.le_of_ble_eq_true rfl) rfl rfl ?_
  rintro _ _ ⟨rfl, rfl⟩
  try dsimp only [pu]
  refine E_if_ne (tgt := 13) dX11_feed_7 (by decide) (fun h7 => ?_) (fun h7 => ?_)
  · simp only [tB0, ne_eq, Bool.not_eq_false, Bool.not_eq_true, decide_eq_true_eq, decide_eq_false_iff_not, Classical.not_not] at h7
    refine E_aload_n dX11_feed_13 rfl ?_
    refine g_X11_19 rfl dX11_feed_14 hX.o hX.reader ?_
    refine E_iload_n dX11_feed_17 rfl ?_
    refine i_X11_105 rfl dX11_feed_18 (by exact hX.rq.o) (c_hasRoom (by exact hX.rq) hT.1 htn) (by omega) (Nat.le_of_ble_eq_true rfl) rfl rfl ?_
    rintro _ _ ⟨rfl, rfl⟩
    try dsimp only [pu]
    refine E_if_ne (tgt := 27) dX11_feed_21 (by decide) (fun h21 => ?_) (fun h21 => ?_)
    · simp only [tB0, ne_eq, Bool.not_eq_false, Bool.not_eq_true, decide_eq_true_eq, decide_eq_false_iff_not, Classical.not_not] at h21
      refine E_aload_n dX11_feed_27 rfl ?_
      refine g_X11_19 rfl dX11_feed_28 hX.o hX.reader ?_
      refine E_lload_n dX11_feed_31 rfl ?_
      refine E_iload_n dX11_feed_32 rfl ?_
      refine i_X11_109 rfl dX11_feed_33 (by exact hX.rq.o) (c_append (by exact hX.rq) c.toNat (by omega) (by omega) (by omega) (by omega) hT) (by omega) (Nat.le_of_ble_eq_true rfl) rfl rfl ?_
      rintro _ _ ⟨rfl, I, rfl, hJ1, hJ2⟩
      try dsimp only [pu]
      refine E_iret dX11_feed_36 rfl ?_
      refine ⟨?_, ?_, (FX.rfl' M).j (fun b j b0 b1 => hJ1 b j (by omega) (by omega))⟩
      · congr 2; unfold s_feed; rw [if_pos (by omega), if_neg (by omega)]
      · unfold t_feed; rw [if_pos (by omega), if_neg (by omega)]
        exact hI.j (fun b j hb => hJ1 b j (by omega) (by omega)) (hR.cg (fun j => hJ1 _ _ (by omega) (by omega)) (fun j => hJ1 _ _ (by omega) (by omega)) (fun j => hJ1 _ _ (by omega) (by omega)) (fun j => fd_ne _ _ _ (by omega) (by omega) _) (fun j => fd_ne _ _ _ (by omega) (by omega) _) (fun j => fd_ne _ _ _ (by omega) (by omega) _)) hJ2 (hK.cg (hJ1 _ _ (by omega) (by omega)) (fun j => hJ1 _ _ (by omega) (by omega)) (fd_ne _ _ _ (by omega) (by omega) _) (fun j => fd_ne _ _ _ (by omega) (by omega) _)) (hS.cg (hJ1 _ _ (by omega) (by omega)) (hJ1 _ _ (by omega) (by omega)) (fd_ne _ _ _ (by omega) (by omega) _) (fd_ne _ _ _ (by omega) (by omega) _)) (fun j => fd_ne _ _ _ (by omega) (by omega) _) (fun j => fd_ne _ _ _ (by omega) (by omega) _)
    · simp only [tB0, ne_eq, Bool.not_eq_false, Bool.not_eq_true, decide_eq_true_eq, decide_eq_false_iff_not, Classical.not_not] at h21
      refine c_X11_108 rfl dX11_feed_24 ?_
      refine E_iret dX11_feed_26 rfl ?_
      refine ⟨?_, ?_, (FX.rfl' M)⟩
      · congr 2; unfold s_feed; rw [if_pos (by omega), if_pos (by omega)]; try rfl
      · unfold t_feed; rw [if_pos (by omega), if_pos (by omega)]; exact hI
  · simp only [tB0, ne_eq, Bool.not_eq_false, Bool.not_eq_true, decide_eq_true_eq, decide_eq_false_iff_not, Classical.not_not] at h7
    refine c_X11_72 rfl dX11_feed_10 ?_
    refine E_iret dX11_feed_12 rfl ?_
    refine ⟨?_, ?_, (FX.rfl' M)⟩
    · congr 2; unfold s_feed; rw [if_neg (by omega)]; try rfl
    · unfold t_feed; rw [if_neg (by omega)]; exact hI
theorem GA.le {A : AS} {B C : Int} (h : GA A B) (hb : B ≤ C) : GA A C := ⟨h.1, h.2.1, h.w.le hb, h.th, h.tn, h.2.2.2.2.2.1, h.tr, fun k hk => ⟨(h.im hk).1.le hb, (h.im hk).2⟩⟩
/-- all but rows, tape, trace stays -/
theorem GA.cg {A C : AS} {B : Int} (h : GA A B) (f1 : ∀ r, 0 ≤ r → r < 8 → -1 ≤ C 1 r ∧ C 1 r ≤ 2) (f2 : ∀ r, 0 ≤ r → r < 8 → 0 ≤ C 2 r ∧ C 2 r ≤ 40) (f4 : ∀ j, C 4 j = A 4 j) (f7 : C 0 7 = A 0 7) (f9 : 0 ≤ C 0 9 ∧ C 0 9 ≤ 500) (f6 : ∀ j, 0 ≤ j → j < C 0 9 → 0 ≤ C 6 j ∧ C 6 j ≤ 255) (f27 : 0 ≤ C 0 27 ∧ C 0 27 ≤ 16) (f12 : ∀ j, C 12 j = A 12 j) (f13 : ∀ j, C 13 j = A 13 j) : GA C B := by
  have e4 : C 4 = A 4 := funext f4
  refine ⟨f1, f2, by rw [e4]; exact h.w, by rw [f7, e4]; exact h.th, f9, f6, f27, fun k hk => ?_⟩
  have ei : img C k = img A k := funext fun j => f13 _
  rw [ei, f12, f7]
  exact h.im hk
/-- only pages 0 1, 3 change -/
theorem GA.st {A C : AS} {B : Int} (h : GA A B) (e : ∀ k (j : Int), k ≠ 3 → ¬ (k = 0 ∧ (j = 1 ∨ j = 10)) → C k j = A k j) : GA C B :=
  h.cg (fun r r0 r1 => by rw [e _ _ (by omega) (by omega)]; exact h.ln r0 r1) (fun r r0 r1 => by rw [e _ _ (by omega) (by omega)]; exact h.sz r0 r1) (fun j => e _ _ (by omega) (by omega)) (e _ _ (by omega) (by omega)) (by rw [e _ _ (by omega) (by omega)]; exact h.tn) (fun j j0 j1 => by rw [e _ _ (by omega) (by omega)] at j1 ⊢; exact h.tp j0 j1) (by rw [e _ _ (by omega) (by omega)]; exact h.tr) (fun j => e _ _ (by omega) (by omega)) (fun j => e _ _ (by omega) (by omega))
theorem GA.row {A : AS} {B : Int} (h : GA A B) (r l n : Int) : GA (t_row A r l n) B := by
  unfold t_row
  split
  · rename_i hc
    split
    · exact h.st (fun k j _ hk => (up2_ne _ _ (by omega)).trans (up2_ne _ _ (by omega)))
    · have e : ∀ k (j : Int), k ≠ 1 → k ≠ 2 → k ≠ 3 → ¬ (k = 0 ∧ j = 1) → fil (up2 (up2 (up2 A 0 1 0) 1 r l) 2 r n) 3 (40 * r) (40 * r + 40) 0 k j = A k j := fun k j q1 q2 q3 q4 => (fil_ne _ (by omega)).trans ((up2_ne _ _ (by omega)).trans ((up2_ne _ _ (by omega)).trans (up2_ne _ _ q4)))
      refine h.cg (fun q q0 q1 => ?_) (fun q q0 q1 => ?_) (fun j => e _ _ (by omega) (by omega) (by omega) (by omega)) (e _ _ (by omega) (by omega) (by omega) (by omega)) (by rw [e _ _ (by omega) (by omega) (by omega) (by omega)]; exact h.tn) (fun j j0 j1 => by rw [e _ _ (by omega) (by omega) (by omega) (by omega)] at j1 ⊢; exact h.tp j0 j1) (by rw [e _ _ (by omega) (by omega) (by omega) (by omega)]; exact h.tr) (fun j => e _ _ (by omega) (by omega) (by omega) (by omega)) (fun j => e _ _ (by omega) (by omega) (by omega) (by omega))
      · rw [fil_ne _ (by omega), up2_ne _ _ (by omega)]
        by_cases hq : q = r
        · rw [hq, up2_self]; omega
        · rw [up2_ne _ _ (by omega), up2_ne _ _ (by omega)]; exact h.ln q0 q1
      · rw [fil_ne _ (by omega)]
        by_cases hq : q = r
        · rw [hq, up2_self]; omega
        · rw [up2_ne _ _ (by omega), up2_ne _ _ (by omega), up2_ne _ _ (by omega)]; exact h.sz q0 q1
  · exact h
theorem GA.set {A : AS} {B : Int} (h : GA A B) (r i v : Int) : GA (t_sett A r i v) B := by
  unfold t_sett
  repeat' split
  all_goals first | exact h | exact h.st (fun k j _ hk => (up2_ne _ _ (by omega)).trans (up2_ne _ _ (by omega)))
theorem GA.copy {A : AS} {B : Int} (h : GA A B) (a i b j n : Int) : GA (t_copy A a i b j n) B := by
  unfold t_copy
  repeat' split
  all_goals first | exact h | exact h.st (fun k j _ hk => (up2_ne _ _ (by omega)).trans (up2_ne _ _ (by omega))) | exact h.st (fun k j _ hk => (mov_ne _ (by omega)).trans (up2_ne _ _ (by omega)))
theorem GA.drop {A : AS} {B : Int} (h : GA A B) (r : Int) : GA (t_drop A r) B := by
  unfold t_drop
  split
  · split
    · exact h.st (fun k j _ hk => (up2_ne _ _ (by omega)).trans (up2_ne _ _ (by omega)))
    · have e : ∀ k (j : Int), k ≠ 1 → ¬ (k = 0 ∧ j = 1) → up2 (up2 A 0 1 0) 1 r (-1) k j = A k j := fun k j q1 q4 => (up2_ne _ _ (by omega)).trans (up2_ne _ _ q4)
      refine h.cg (fun q q0 q1 => ?_) (fun q q0 q1 => by rw [e _ _ (by omega) (by omega)]; exact h.sz q0 q1) (fun j => e _ _ (by omega) (by omega)) (e _ _ (by omega) (by omega)) (by rw [e _ _ (by omega) (by omega)]; exact h.tn) (fun j j0 j1 => by rw [e _ _ (by omega) (by omega)] at j1 ⊢; exact h.tp j0 j1) (by rw [e _ _ (by omega) (by omega)]; exact h.tr) (fun j => e _ _ (by omega) (by omega)) (fun j => e _ _ (by omega) (by omega))
      by_cases hq : q = r
      · rw [hq, up2_self]; omega
      · rw [up2_ne _ _ (by omega), up2_ne _ _ (by omega)]; exact h.ln q0 q1
  · exact h
theorem fd_6 (A : AS) (w c : Int) (h0 : 0 ≤ A 0 9) (hA : ∀ j, 0 ≤ j → j < A 0 9 → 0 ≤ A 6 j ∧ A 6 j ≤ 255) : ∀ (r : Nat) (j : Int), 0 ≤ j → j < A 0 9 + r → 0 ≤ fd A w c r 6 j ∧ fd A w c r 6 j ≤ 255
  | 0, j, j0, j1 => hA j j0 (by omega)
  | r + 1, j, j0, j1 => by
    simp only [fd]
    rw [up2_ne _ _ (by omega)]
    by_cases hj : j = A 0 9 + r
    · rw [hj, up2_self]; exact byt_ran _ _
    · rw [up2_ne _ _ (by omega)]; exact fd_6 A w c h0 hA r j j0 (by omega)
theorem GA.feed {A : AS} {B : Int} (h : GA A B) (w c : Int) : GA (t_feed A w c) B := by
  unfold t_feed
  have htn := h.tn
  split
  · split
    · exact h
    · have e9 := fd_9 A w c c.toNat
      have e : ∀ k (j : Int), k ≠ 6 → ¬ (k = 0 ∧ j = 9) → fd A w c c.toNat k j = A k j := fun k j q1 q2 => fd_ne A w c q1 q2 _
      exact h.cg (fun q q0 q1 => by rw [e _ _ (by omega) (by omega)]; exact h.ln q0 q1) (fun q q0 q1 => by rw [e _ _ (by omega) (by omega)]; exact h.sz q0 q1) (fun j => e _ _ (by omega) (by omega)) (e _ _ (by omega) (by omega)) (by rw [e9]; omega) (fun j j0 j1 => fd_6 A w c htn.1 (fun j j0 j1 => h.tp j0 j1) _ j j0 (by rw [e9] at j1; exact j1)) (by rw [e _ _ (by omega) (by omega)]; exact h.tr) (fun j => e _ _ (by omega) (by omega)) (fun j => e _ _ (by omega) (by omega))
  · exact h
/-- the court's row becomes another one -/
theorem GA.p4 {A C : AS} {B B' : Int} (h : GA A B) (hb : B ≤ B') (e : ∀ k (j : Int), k ≠ 4 → C k j = A k j) (hw : WFs (C 4) B') (h0 : C 4 0 = A 4 0) : GA C B' := by
  refine ⟨fun q q0 q1 => by rw [e _ _ (by omega)]; exact h.ln q0 q1, fun q q0 q1 => by rw [e _ _ (by omega)]; exact h.sz q0 q1, hw, by rw [e _ _ (by omega), h0]; exact h.th, by rw [e _ _ (by omega)]; exact h.tn, fun j j0 j1 => by rw [e _ _ (by omega)] at j1 ⊢; exact h.tp j0 j1, by rw [e _ _ (by omega)]; exact h.tr, fun k hk => ?_⟩
  have ei : img C k = img A k := funext fun j => e _ _ (by omega)
  rw [ei, e _ _ (by omega), e _ _ (by omega)]
  exact ⟨(h.im hk).1.le hb, (h.im hk).2⟩
theorem WFs.keep {cd : CD} {B : Int} {hu we sn : Int → Int} {n : Nat} (h : WFs cd B) (hn : cd 2 = n) (hV : HV cd hu) (h9 : ∀ p, 0 ≤ p → p < cd 2 → 0 ≤ we p ∧ we p ≤ 99) (hs : ∀ p, 0 ≤ p → p < cd 2 → sn p = 0 ∨ sn p = 1) : WFs (cKeep cd hu we sn n) B := by
  have kp := cKeep_kp cd hu we sn n
  have e2 := kp.1 2 (by omega) (by omega) (by omega)
  have e0 := kp.1 0 (by omega) (by omega) (by omega)
  refine ⟨h.c.kp kp, fun p p0 p1 => ?_, fun p p0 p1 => ?_, fun p p0 p1 => ?_, by rw [cKeep_lo _ _ _ _ (by omega)]; exact h.g⟩
  · rw [cKeep_hu _ _ _ _ p0 (by omega), e0]; exact hV p p0 (by omega)
  · rw [show cKeep cd hu we sn n (86 + 6 * p) = we p from cKeep_we _ _ _ _ p0 (by omega)]; exact h9 p p0 (by omega)
  · rw [show cKeep cd hu we sn n (89 + 6 * p) = sn p from cKeep_sn _ _ _ _ p0 (by omega)]; exact hs p p0 (by omega)
theorem WFs.up3 {cd : CD} {B x : Int} (h : WFs cd B) (x0 : 0 ≤ x) : WFs (upC cd 3 x) x := by
  have b2 := h.c.pn
  have kp : KP cd (upC cd 3 x) := ⟨fun j j0 j1 j3 => upC_ne _ _ j3, fun p p0 p1 => ⟨upC_ne _ _ (by omega), upC_ne _ _ (by omega), upC_ne _ _ (by omega)⟩⟩
  have e2 := kp.1 2 (by omega) (by omega) (by omega)
  have e0 := kp.1 0 (by omega) (by omega) (by omega)
  refine ⟨h.c.kp kp, fun p p0 p1 => ?_, fun p p0 p1 => ?_, fun p p0 p1 => ?_, by rw [upC_self]; omega⟩
  · rw [show cHu (upC cd 3 x) p = cHu cd p from upC_ne _ _ (by omega), e0]; exact h.hv p p0 (by omega)
  · rw [upC_ne _ _ (by omega)]; exact h.we p p0 (by omega)
  · rw [upC_ne _ _ (by omega)]; exact h.sn p p0 (by omega)
theorem GA.take {A : AS} {B : Int} (h : GA A B) (p : Int) : GA (t_take A p) B := by
  unfold t_take
  split
  · split
    · exact h
    · have e : (up2 A 4 (88 + 6 * p) (-1000000)) 4 = upC (A 4) (88 + 6 * p) (-1000000) := by funext j; unfold up2 upC; simp
      have kp : KP (A 4) (upC (A 4) (88 + 6 * p) (-1000000)) := ⟨fun j j0 j1 _ => upC_ne _ _ (by omega), fun q q0 q1 => ⟨upC_ne _ _ (by omega), upC_ne _ _ (by omega), upC_ne _ _ (by omega)⟩⟩
      have e2 := kp.1 2 (by omega) (by omega) (by omega)
      have e0 := kp.1 0 (by omega) (by omega) (by omega)
      refine h.p4 (Int.le_refl B) (fun k j hk => up2_ne _ _ (by omega)) ?_ (by rw [e]; exact e0)
      rw [e]
      refine ⟨h.w.c.kp kp, fun q q0 q1 => ?_, fun q q0 q1 => ?_, fun q q0 q1 => ?_, by rw [upC_ne _ _ (by omega)]; exact h.w.g⟩
      · unfold cHu upC
        by_cases hq : 88 + 6 * q = 88 + 6 * p
        · rw [if_pos hq]; exact Or.inl rfl
        · rw [if_neg hq, if_neg (by omega)]; exact h.w.hv q q0 (by omega)
      · rw [upC_ne _ _ (by omega)]; exact h.w.we q q0 (by omega)
      · rw [upC_ne _ _ (by omega)]; exact h.w.sn q q0 (by omega)
  · exact h
theorem GA.hang {A : AS} {B : Int} (h : GA A B) (p l : Int) (n rn : Nat) (hn : A 4 2 = n) : GA (t_hang A p l n rn) B := by
  unfold t_hang
  split
  · rename_i hc
    refine h.p4 (Int.le_refl B) (fun k j hk => pg4_ne _ _ hk) ?_ (by rw [pg4_4]; exact cKeep_lo _ _ _ _ (by omega) _)
    rw [pg4_4]
    refine h.w.keep hn ?_ h.w.we h.w.sn
    split
    · intro q q0 q1
      unfold upH
      by_cases hq : q = p
      · rw [if_pos hq]; exact Or.inr ⟨by omega, by omega⟩
      · rw [if_neg hq]; exact h.w.hv q q0 q1
    · exact h.w.hv
  · exact h
theorem GA.quarters {A : AS} {B : Int} (h : GA A B) (c : Int) (n : Nat) (hn : A 4 2 = n) : GA (t_quarters A c n) (B + 96) := by
  unfold t_quarters
  have hg := h.w.g
  split
  · exact h.le (by omega)
  · split
    · refine h.p4 (by omega) (fun k j hk => pg4_ne _ _ hk) ?_ (by rw [pg4_4, upC_ne _ _ (by omega)]; exact cKeep_lo _ _ _ _ (by omega) _)
      rw [pg4_4]
      exact ((h.w.keep hn h.w.hv (itW_b h.w.we _) (itS_b h.w.sn _)).up3 (by omega)).le (by omega)
    · exact h.le (by omega)
theorem GA.image {A : AS} {B : Int} (h : GA A B) (k : Int) : GA (t_image A k) B := by
  unfold t_image
  split
  · split
    · exact h
    · have e : ∀ q (j : Int), q ≠ 12 → q ≠ 13 → up2 (mov A 13 4 0 (144 * k) 144) 12 k 1 q j = A q j := fun q j q1 q2 => (up2_ne _ _ (by omega)).trans (mov_ne _ (by omega))
      refine ⟨fun q q0 q1 => by rw [e _ _ (by omega) (by omega)]; exact h.ln q0 q1, fun q q0 q1 => by rw [e _ _ (by omega) (by omega)]; exact h.sz q0 q1, by rw [show up2 (mov A 13 4 0 (144 * k) 144) 12 k 1 4 = A 4 from funext fun j => e _ _ (by omega) (by omega)]; exact h.w, by rw [e _ _ (by omega) (by omega), e _ _ (by omega) (by omega)]; exact h.th, by rw [e _ _ (by omega) (by omega)]; exact h.tn, fun j j0 j1 => by rw [e _ _ (by omega) (by omega)] at j1 ⊢; exact h.tp j0 j1, by rw [e _ _ (by omega) (by omega)]; exact h.tr, fun l hl => ?_⟩
      by_cases hk : l = k
      · subst hk
        have ei : ∀ j : Int, 0 ≤ j → j < 144 → img (up2 (mov A 13 4 0 (144 * l) 144) 12 l 1) l j = A 4 j := fun j j0 j1 => by
          unfold img; rw [up2_ne _ _ (by omega)]; unfold mov; rw [if_pos ⟨rfl, by omega, by omega⟩]; congr 1; omega
        have := h.th
        refine ⟨h.w.eqv ei, Or.inr ⟨up2_self _ _ _ _, ?_, ?_⟩⟩
        · rw [ei 0 (by omega) (by omega)]; omega
        · rw [e _ _ (by omega) (by omega)]; omega
      · have ei : ∀ j : Int, 0 ≤ j → j < 144 → img (up2 (mov A 13 4 0 (144 * k) 144) 12 k 1) l j = img A l j := fun j j0 j1 => by
          unfold img; exact (up2_ne _ _ (by omega)).trans (mov_ne _ (by omega))
        refine ⟨(h.im hl).1.eqv ei, ?_⟩
        rw [ei 0 (by omega) (by omega), up2_ne _ _ (by omega), mov_ne _ (by omega), e 0 7 (by omega) (by omega)]
        exact (h.im hl).2
  · exact h
theorem GA.restore {A : AS} {B : Int} (h : GA A B) (k : Int) : GA (t_restore A k) B := by
  unfold t_restore
  split
  · split
    · exact h
    · rename_i h1 h2
      have e : ∀ q (j : Int), q ≠ 4 → mov A 4 13 (144 * k) 0 144 q j = A q j := fun q j q1 => mov_ne _ (by omega)
      have ei : ∀ j : Int, 0 ≤ j → j < 144 → mov A 4 13 (144 * k) 0 144 4 j = img A k j := fun j j0 j1 => by
        unfold mov img; rw [if_pos ⟨rfl, by omega, by omega⟩]; congr 1; omega
      have hk : k = 0 ∨ k = 1 := by omega
      have hi := h.im hk
      have h0 : 1 ≤ img A k 0 := by omega
      have h7 : A 0 7 = 1 := by omega
      refine ⟨fun q q0 q1 => by rw [e _ _ (by omega)]; exact h.ln q0 q1, fun q q0 q1 => by rw [e _ _ (by omega)]; exact h.sz q0 q1, hi.1.eqv ei, Or.inr ⟨by rw [e _ _ (by omega)]; exact h7, by rw [ei 0 (by omega) (by omega)]; exact h0⟩, by rw [e _ _ (by omega)]; exact h.tn, fun j j0 j1 => by rw [e _ _ (by omega)] at j1 ⊢; exact h.tp j0 j1, by rw [e _ _ (by omega)]; exact h.tr, fun l hl => ?_⟩
      have el : img (mov A 4 13 (144 * k) 0 144) l = img A l := funext fun j => e _ _ (by omega)
      rw [el, e _ _ (by omega), e _ _ (by omega)]
      exact h.im hl
  · exact h
