/-! ===== 77: the reference's reader: tokens ===== -/
section EVL
variable {G : Ctx} {mt : MT} {d kc ks : Nat} {Q : Option MV → Mem → Prop} {pc : Nat} {ls : List (Option MV)} {st : List MV} {M : Mem}
theorem E_lcne {x y off : Int} {tgt : Nat} (hd : decode mt.2.1 pc = .ok (.lcmp, 1)) (hd2 : decode mt.2.1 (pc + 1) = .ok (.ifCond .ne off, 3)) (ht : ((pc + 1 : Nat) : Int) + off = (tgt : Int)) (kt : x ≠ y → EV G mt d kc ks Q tgt ls st M) (kf : x = y → EV G mt d kc ks Q (pc + 1 + 3) ls st M) : EV G mt d kc ks Q pc ls (vL y :: vL x :: st) M :=
  E_lcmp hd (fun h => E_if_ne hd2 ht (fun _ => kt (by omega)) (fun z => absurd (by decide) z)) (fun h => E_if_ne hd2 ht (fun z => absurd rfl z) (fun _ => kf h)) (fun h => E_if_ne hd2 ht (fun _ => kt (by omega)) (fun z => absurd (by decide) z))
theorem E_lceq {x y off : Int} {tgt : Nat} (hd : decode mt.2.1 pc = .ok (.lcmp, 1)) (hd2 : decode mt.2.1 (pc + 1) = .ok (.ifCond .eq off, 3)) (ht : ((pc + 1 : Nat) : Int) + off = (tgt : Int)) (kt : x = y → EV G mt d kc ks Q tgt ls st M) (kf : x ≠ y → EV G mt d kc ks Q (pc + 1 + 3) ls st M) : EV G mt d kc ks Q pc ls (vL y :: vL x :: st) M :=
  E_lcmp hd (fun h => E_if_eq hd2 ht (fun z => absurd z (by decide)) (fun _ => kf (by omega))) (fun h => E_if_eq hd2 ht (fun _ => kt h) (fun z => absurd rfl z)) (fun h => E_if_eq hd2 ht (fun z => absurd z (by decide)) (fun _ => kf (by omega)))
end EVL
theorem l_shl8 (v : Nat) : Int64.ofNat v <<< (8 : Int64) = Int64.ofNat (v * 256) := by
  apply Int64.toBitVec_inj.mp
  apply BitVec.eq_of_toNat_eq
  rw [Int64.toBitVec_shiftLeft]
  have e : ((8 : Int64).toBitVec.smod 64).toNat = 8 := by decide
  simp only [Int64.toBitVec_ofNat', BitVec.shiftLeft_eq', BitVec.toNat_shiftLeft, e, BitVec.toNat_ofNat, Nat.shiftLeft_eq]
  omega
theorem l_orN (a b : Nat) : Int64.ofNat a ||| Int64.ofNat b = Int64.ofNat (a ||| b) := by
  apply Int64.toBitVec_inj.mp
  simp [Int64.toBitVec_or, BitVec.ofNat_or]
theorem lOrShl {v x : Int} (v0 : 0 ≤ v) (v1 : v < 281474976710656) (x0 : 0 ≤ x) (x1 : x < 256) : lOr (lShl v 8) x = 256 * v + x := by
  obtain ⟨a, rfl⟩ := Int.eq_ofNat_of_zero_le v0
  obtain ⟨b, rfl⟩ := Int.eq_ofNat_of_zero_le x0
  have hs : lShl (a : Int) 8 = ((a * 256 : Nat) : Int) := by
    unfold lShl
    rw [show ((Int32.ofInt 8).toInt64 &&& 63) = (8 : Int64) from by decide, show Int64.ofInt (a : Int) = Int64.ofNat a from rfl, l_shl8, Int64.toInt_ofNat_of_lt (by omega)]
  rw [hs]
  unfold lOr
  rw [show Int64.ofInt ((a * 256 : Nat) : Int) = Int64.ofNat (a * 256) from rfl, show Int64.ofInt (b : Int) = Int64.ofNat b from rfl, l_orN]
  have e : a * 256 ||| b = 256 * a + b := by
    rw [Nat.mul_comm]
    exact (Nat.two_pow_add_eq_or_of_lt (i := 8) (by omega) a).symm
  rw [e, Int64.toInt_ofNat_of_lt (by omega)]
  omega
theorem pkLt {T : Int → Int} {f : Nat} : ∀ n : Nat, n ≤ 6 → (∀ j, j < n → 0 ≤ T ((f + j : Nat) : Int) ∧ T ((f + j : Nat) : Int) ≤ 255) → 0 ≤ pk T f n ∧ pk T f n < 281474976710656 := by
  have h : ∀ n : Nat, (∀ j, j < n → 0 ≤ T ((f + j : Nat) : Int) ∧ T ((f + j : Nat) : Int) ≤ 255) → 0 ≤ pk T f n ∧ pk T f n < ((256 ^ n : Nat) : Int) := by
    intro n
    induction n with
    | zero => intro _; simp [pk]
    | succ n ih =>
      intro h
      have a := ih (fun j hj => h j (by omega))
      have b := h n (by omega)
      simp only [pk]
      rw [Nat.pow_succ, Int.natCast_mul]
      omega
  intro n hn hh
  have a := h n hh
  have b : 256 ^ n ≤ 256 ^ 6 := Nat.pow_le_pow_right (by omega) hn
  have c : (256 : Nat) ^ 6 = 281474976710656 := by decide
  omega
theorem mWI_id {M : Mem} {a : Nat} {k x : Int} (h : mI M a k = x) : mWI M a k x = M := by
  have e : up2 M.2.1 a k x = M.2.1 := by
    funext b j
    unfold up2
    split
    · rename_i q; rw [q.1, q.2]; exact h.symm
    · rfl
  show (M.1, (up2 M.2.1 a k x, M.2.2)) = M
  rw [e]
/-- the sorts' numbers -/
def rsS (s : Int) : Int := if s = 4 then 0 else s + 1
def TR (I : AS) (m : Nat) (T : Int → Int) (N : Nat) : Prop := I m 11 = N ∧ N ≤ 500 ∧ ∀ k : Nat, k < N → I (m + 6) (k : Int) = T (k : Int) ∧ (0 ≤ T (k : Int) ∧ T (k : Int) ≤ 255)
/-- the reference's reader holds p -/
def RR (T : Int → Int) (N : Nat) (I : AS) (m : Nat) (p : PT) : Prop := I m 12 = pT p ∧ I m 13 = rsS (pS p) ∧ I m 14 = pF p ∧ I m 15 = pT p ∧ I m 16 = pE p ∧ (pE p ≠ 0 → I m 17 = pW p) ∧ PY T N p
def SR (M : Mem) (m : Nat) (T : Int → Int) (N : Nat) (p : PT) : Prop := MO M m ∧ TR (mI M) m T N ∧ RR T N (mI M) m p
def KF (M M' : Mem) (m : Nat) : Prop := M' = mJ M (mI M') ∧ ∀ b (j : Int), ¬ (b = m ∧ 12 ≤ j ∧ j ≤ 17) → mI M' b j = mI M b j
theorem KF.rfl' (M : Mem) (m : Nat) : KF M M m := ⟨rfl, fun _ _ _ => rfl⟩
theorem KF.tr {M M1 M2 : Mem} {m : Nat} (h : KF M M1 m) (g : KF M1 M2 m) : KF M M2 m := by
  refine ⟨?_, fun b j h1 => (g.2 b j h1).trans (h.2 b j h1)⟩
  rw [g.1, h.1]; rfl
theorem KF.mo {M M' : Mem} {m : Nat} (h : KF M M' m) (hO : MO M m) : MO M' m := by rw [h.1]; exact hO
theorem KF.tp {M M' : Mem} {m : Nat} {T : Int → Int} {N : Nat} (h : KF M M' m) (hT : TR (mI M) m T N) : TR (mI M') m T N := ⟨(h.2 _ _ (by omega)).trans hT.1, hT.2.1, fun k hk => ⟨(h.2 _ _ (by omega)).trans (hT.2.2 k hk).1, (hT.2.2 k hk).2⟩⟩
theorem nx_fin {T : Int → Int} {N : Nat} {M : Mem} {m : Nat} {p : PT} {f t : Nat} {z : Int} (hO : MO M m) (hT : TR (mI M) m T N) (h16 : mI M m 16 = 0) (he : pE p = 0) (hf : tkF T N (pT p) = f) (hz : rsS (tkS T N f) = z) (ht : tkE T N f = t) (hv : TVs T N (tkS T N f) f t) {M' : Mem} (e12 : mI M' m 12 = t) (e13 : mI M' m 13 = z) (e14 : mI M' m 14 = f) (e15 : mI M' m 15 = t) (eo : ∀ b (j : Int), ¬ (b = m ∧ 12 ≤ j ∧ j ≤ 15) → mI M' b j = mI M b j) (hM : M' = mJ M (mI M')) : SR M' m T N (pN T N p) ∧ KF M M' m := by
  have k : KF M M' m := ⟨hM, fun b j hb => eo b j (by omega)⟩
  have e : pN T N p = (tkS T N f, f, t, 0, 0) := by unfold pN; rw [if_pos he, hf, ht]
  refine ⟨⟨k.mo hO, k.tp hT, ?_⟩, k⟩
  rw [e]
  exact ⟨e12, e13.trans hz.symm, e14, e15, (eo _ _ (by omega)).trans h16, fun z => absurd rfl z, hv, Int.le_refl _, fun z => absurd rfl z⟩
set_option maxRecDepth 20000 in
set_option maxHeartbeats 3000000 in
theorem c_byteIn {G : Ctx} {M : Mem} {m : Nat} (hO : MO M m) {N k : Nat} {x : Int} (h11 : mI M m 11 = N) (hk : k < N) (hN : N ≤ 500) (hx : mI M (m + 6) (k : Int) = x) : CT G m_X12_byteAt 0 0 0 [vR m, vI (k : Int)] M (rI M x) := by
  refine CT.of k_X12_byteAt 0 (ls := [some (vR m), some (vI (k : Int))]) rfl (Nat.le_of_ble_eq_true rfl) ?_
  refine E_iload_n dX12_byteAt_0 rfl ?_
  refine E_aload_n dX12_byteAt_1 rfl ?_
  refine g_X12_86 rfl dX12_byteAt_2 (by exact hO.o) h11 ?_
  refine E_icmp_ge (tgt := 17) dX12_byteAt_5 (by decide) (fun h5 => ?_) (fun h5 => ?_)
  · exfalso; omega
  · refine E_aload_n dX12_byteAt_8 rfl ?_
    refine g_X12_25 rfl dX12_byteAt_9 (by exact hO.o) (by exact hO.tape) ?_
    refine E_iload_n dX12_byteAt_12 rfl ?_
    refine E_iald dX12_byteAt_13 (by exact hO.s_tape) (by omega) (by omega) hx ?_
    refine E_goto (tgt := 19) dX12_byteAt_14 (by decide) ?_
    refine E_iret dX12_byteAt_19 rfl ?_
    exact ⟨rfl, rfl⟩
set_option maxRecDepth 20000 in
set_option maxHeartbeats 3000000 in
theorem c_byteEnd {G : Ctx} {M : Mem} {m : Nat} (hO : MO M m) {N k : Nat} (h11 : mI M m 11 = N) (hk : N ≤ k) : CT G m_X12_byteAt 0 0 0 [vR m, vI (k : Int)] M (rI M (-1000000)) := by
  refine CT.of k_X12_byteAt 0 (ls := [some (vR m), some (vI (k : Int))]) rfl (Nat.le_of_ble_eq_true rfl) ?_
  refine E_iload_n dX12_byteAt_0 rfl ?_
  refine E_aload_n dX12_byteAt_1 rfl ?_
  refine g_X12_86 rfl dX12_byteAt_2 (by exact hO.o) h11 ?_
  refine E_icmp_ge (tgt := 17) dX12_byteAt_5 (by decide) (fun h5 => ?_) (fun h5 => ?_)
  · refine c_X12_89 rfl dX12_byteAt_17 ?_
    refine E_iret dX12_byteAt_19 rfl ?_
    exact ⟨rfl, rfl⟩
  · exfalso; omega
set_option maxRecDepth 20000 in
set_option maxHeartbeats 3000000 in
theorem c_isLetter {G : Ctx} {M : Mem} {x : Int} : CT G m_X12_isLetter 0 0 0 [vI x] M (rI M (tB (decide (97 ≤ x ∧ x ≤ 122)))) := by
  refine CT.of k_X12_isLetter 0 (ls := [some (vI x)]) rfl (Nat.le_of_ble_eq_true rfl) ?_
  refine E_iload_n dX12_isLetter_0 rfl ?_
  refine E_bipush dX12_isLetter_1 (by decide) ?_
  refine E_icmp_lt (tgt := 16) dX12_isLetter_3 (by decide) (fun h3 => ?_) (fun h3 => ?_)
  · refine E_iconst dX12_isLetter_16 (by decide) ?_
    refine E_zret dX12_isLetter_17 rfl (by decide) ?_
    refine ⟨?_, rfl⟩
    congr 2; first | (rw [decide_eq_true (by omega)]; rfl) | (rw [decide_eq_false (by omega)]; rfl)
  · refine E_iload_n dX12_isLetter_6 rfl ?_
    refine E_bipush dX12_isLetter_7 (by decide) ?_
    refine E_icmp_gt (tgt := 16) dX12_isLetter_9 (by decide) (fun h9 => ?_) (fun h9 => ?_)
    · refine E_iconst dX12_isLetter_16 (by decide) ?_
      refine E_zret dX12_isLetter_17 rfl (by decide) ?_
      refine ⟨?_, rfl⟩
      congr 2; first | (rw [decide_eq_true (by omega)]; rfl) | (rw [decide_eq_false (by omega)]; rfl)
    · refine E_iconst dX12_isLetter_12 (by decide) ?_
      refine E_goto (tgt := 17) dX12_isLetter_13 (by decide) ?_
      refine E_zret dX12_isLetter_17 rfl (by decide) ?_
      refine ⟨?_, rfl⟩
      congr 2; first | (rw [decide_eq_true (by omega)]; rfl) | (rw [decide_eq_false (by omega)]; rfl)
set_option maxRecDepth 20000 in
set_option maxHeartbeats 3000000 in
theorem c_isFigure {G : Ctx} {M : Mem} {x : Int} : CT G m_X12_isFigure 0 0 0 [vI x] M (rI M (tB (decide (48 ≤ x ∧ x ≤ 57)))) := by
  refine CT.of k_X12_isFigure 0 (ls := [some (vI x)]) rfl (Nat.le_of_ble_eq_true rfl) ?_
  refine E_iload_n dX12_isFigure_0 rfl ?_
  refine E_bipush dX12_isFigure_1 (by decide) ?_
  refine E_icmp_lt (tgt := 16) dX12_isFigure_3 (by decide) (fun h3 => ?_) (fun h3 => ?_)
  · refine E_iconst dX12_isFigure_16 (by decide) ?_
    refine E_zret dX12_isFigure_17 rfl (by decide) ?_
    refine ⟨?_, rfl⟩
    congr 2; first | (rw [decide_eq_true (by omega)]; rfl) | (rw [decide_eq_false (by omega)]; rfl)
  · refine E_iload_n dX12_isFigure_6 rfl ?_
    refine E_bipush dX12_isFigure_7 (by decide) ?_
    refine E_icmp_gt (tgt := 16) dX12_isFigure_9 (by decide) (fun h9 => ?_) (fun h9 => ?_)
    · refine E_iconst dX12_isFigure_16 (by decide) ?_
      refine E_zret dX12_isFigure_17 rfl (by decide) ?_
      refine ⟨?_, rfl⟩
      congr 2; first | (rw [decide_eq_true (by omega)]; rfl) | (rw [decide_eq_false (by omega)]; rfl)
    · refine E_iconst dX12_isFigure_12 (by decide) ?_
      refine E_goto (tgt := 17) dX12_isFigure_13 (by decide) ?_
      refine E_zret dX12_isFigure_17 rfl (by decide) ?_
      refine ⟨?_, rfl⟩
      congr 2; first | (rw [decide_eq_true (by omega)]; rfl) | (rw [decide_eq_false (by omega)]; rfl)
set_option maxRecDepth 20000 in
set_option maxHeartbeats 3000000 in
theorem l_nx1 {G : Ctx} {M : Mem} {m : Nat} (hO : MO M m) {T : Int → Int} {N : Nat} (hT : TR (mI M) m T N) {R : Nat} {Q : Option MV → Mem → Prop} (K : EV G m_X12_next 1 0 0 Q 39 [some (vR m), none] [] (mWI M m 12 (R : Int))) : ∀ (k r : Nat) , r + k = N → ruS T N 5 k r = R → EV G m_X12_next 1 0 0 (Q) 0 [some (vR m), none] [] (mWI M m 12 (r : Int)) := by
  intro k
  induction k with
  | zero =>
    intro r  hr hi
    obtain rfl : r = N := by omega
    have h500 := hT.2.1
    refine E_aload_n dX12_next_0 rfl ?_
    refine E_aload_n dX12_next_1 rfl ?_
    refine g_X12_90 rfl dX12_next_2 (by exact hO.o) mI_eq ?_
    refine i_X12_93 rfl dX12_next_5 (by exact (by exact hO.o)) (c_byteEnd (M := (mWI M m 12 (r : Int))) (by exact hO) ((mI_ne (by omega)).trans hT.1) (k := r) (by omega)) (by omega) (Nat.le_of_ble_eq_true rfl) rfl rfl ?_
    rintro _ _ ⟨rfl, rfl⟩
    try dsimp only [pu]
    refine E_bipush dX12_next_8 (by decide) ?_
    refine E_icmp_eq (tgt := 26) dX12_next_10 (by decide) (fun h10 => ?_) (fun h10 => ?_)
    · exfalso; omega
    · refine E_aload_n dX12_next_13 rfl ?_
      refine E_aload_n dX12_next_14 rfl ?_
      refine g_X12_90 rfl dX12_next_15 (by exact hO.o) mI_eq ?_
      refine i_X12_93 rfl dX12_next_18 (by exact (by exact hO.o)) (c_byteEnd (M := (mWI M m 12 (r : Int))) (by exact hO) ((mI_ne (by omega)).trans hT.1) (k := r) (by omega)) (by omega) (Nat.le_of_ble_eq_true rfl) rfl rfl ?_
      rintro _ _ ⟨rfl, rfl⟩
      try dsimp only [pu]
      refine E_bipush dX12_next_21 (by decide) ?_
      refine E_icmp_ne (tgt := 39) dX12_next_23 (by decide) (fun h23 => ?_) (fun h23 => ?_)
      · have e : r = R := hi
        rw [e]; exact K
      · exfalso; omega
  | succ k ih =>
    intro r  hr hi
    have h500 := hT.2.1
    refine E_aload_n dX12_next_0 rfl ?_
    refine E_aload_n dX12_next_1 rfl ?_
    refine g_X12_90 rfl dX12_next_2 (by exact hO.o) mI_eq ?_
    refine i_X12_93 rfl dX12_next_5 (by exact (by exact hO.o)) (c_byteIn (M := (mWI M m 12 (r : Int))) (by exact hO) ((mI_ne (by omega)).trans hT.1) (k := r) (by omega) hT.2.1 ((mI_ne (by omega)).trans (hT.2.2 r (by omega)).1)) (by omega) (Nat.le_of_ble_eq_true rfl) rfl rfl ?_
    rintro _ _ ⟨rfl, rfl⟩
    try dsimp only [pu]
    refine E_bipush dX12_next_8 (by decide) ?_
    refine E_icmp_eq (tgt := 26) dX12_next_10 (by decide) (fun h10 => ?_) (fun h10 => ?_)
    · refine E_aload_n dX12_next_26 rfl ?_
      refine E_dup dX12_next_27 rfl ?_
      refine g_X12_90 rfl dX12_next_28 (by exact hO.o) mI_eq ?_
      refine E_iconst dX12_next_31 (by decide) ?_
      refine E_iadd dX12_next_32 (by omega) (by omega) ?_
      refine p_X12_90 rfl dX12_next_33 (by exact hO.o) ?_
      refine E_goto (tgt := 0) dX12_next_36 (by decide) ?_
      have e : ruS T N 5 (k + 1) r = ruS T N 5 k (r + 1) := by simp only [ruS]; rw [if_pos ⟨by omega, sB5.mpr (by omega)⟩]
      rw [mWI_2]
      exact EV.mq rfl rfl (ih (r + 1) (by omega) (by rw [← e]; exact hi))
    · refine E_aload_n dX12_next_13 rfl ?_
      refine E_aload_n dX12_next_14 rfl ?_
      refine g_X12_90 rfl dX12_next_15 (by exact hO.o) mI_eq ?_
      refine i_X12_93 rfl dX12_next_18 (by exact (by exact hO.o)) (c_byteIn (M := (mWI M m 12 (r : Int))) (by exact hO) ((mI_ne (by omega)).trans hT.1) (k := r) (by omega) hT.2.1 ((mI_ne (by omega)).trans (hT.2.2 r (by omega)).1)) (by omega) (Nat.le_of_ble_eq_true rfl) rfl rfl ?_
      rintro _ _ ⟨rfl, rfl⟩
      try dsimp only [pu]
      refine E_bipush dX12_next_21 (by decide) ?_
      refine E_icmp_ne (tgt := 39) dX12_next_23 (by decide) (fun h23 => ?_) (fun h23 => ?_)
      · have e : ruS T N 5 (k + 1) r = r := by simp only [ruS]; rw [if_neg (fun z => by have z := sB5.mp z.2; omega)]
        rw [e] at hi
        rw [hi]; exact K
      · refine E_aload_n dX12_next_26 rfl ?_
        refine E_dup dX12_next_27 rfl ?_
        refine g_X12_90 rfl dX12_next_28 (by exact hO.o) mI_eq ?_
        refine E_iconst dX12_next_31 (by decide) ?_
        refine E_iadd dX12_next_32 (by omega) (by omega) ?_
        refine p_X12_90 rfl dX12_next_33 (by exact hO.o) ?_
        refine E_goto (tgt := 0) dX12_next_36 (by decide) ?_
        have e : ruS T N 5 (k + 1) r = ruS T N 5 k (r + 1) := by simp only [ruS]; rw [if_pos ⟨by omega, sB5.mpr (by omega)⟩]
        rw [mWI_2]
        exact EV.mq rfl rfl (ih (r + 1) (by omega) (by rw [← e]; exact hi))
set_option maxRecDepth 20000 in
set_option maxHeartbeats 3000000 in
theorem l_nx2 {G : Ctx} {M : Mem} {m : Nat} (hO : MO M m) {T : Int → Int} {N : Nat} (hT : TR (mI M) m T N) {x1 : Int} {R : Nat} {Q : Option MV → Mem → Prop} (K : EV G m_X12_next 1 0 0 Q 104 [some (vR m), some (vI x1)] [] (mWI M m 12 (R : Int))) : ∀ (k r : Nat) , r + k = N → ruS T N 1 k r = R → EV G m_X12_next 1 0 0 (Q) 77 [some (vR m), some (vI x1)] [] (mWI M m 12 (r : Int)) := by
  intro k
  induction k with
  | zero =>
    intro r  hr hi
    obtain rfl : r = N := by omega
    have h500 := hT.2.1
    refine E_aload_n dX12_next_77 rfl ?_
    refine E_aload_n dX12_next_78 rfl ?_
    refine g_X12_90 rfl dX12_next_79 (by exact hO.o) mI_eq ?_
    refine i_X12_93 rfl dX12_next_82 (by exact (by exact hO.o)) (c_byteEnd (M := (mWI M m 12 (r : Int))) (by exact hO) ((mI_ne (by omega)).trans hT.1) (k := r) (by omega)) (by omega) (Nat.le_of_ble_eq_true rfl) rfl rfl ?_
    rintro _ _ ⟨rfl, rfl⟩
    try dsimp only [pu]
    refine i_X12_102 rfl dX12_next_85 c_isLetter (by omega) (Nat.le_of_ble_eq_true rfl) rfl rfl ?_
    rintro _ _ ⟨rfl, rfl⟩
    try dsimp only [pu]
    refine E_if_eq (tgt := 104) dX12_next_88 (by decide) (fun h88 => ?_) (fun h88 => ?_)
    · simp only [tB0, ne_eq, Bool.not_eq_false, Bool.not_eq_true, decide_eq_true_eq, decide_eq_false_iff_not, Classical.not_not] at h88
      have e : r = R := hi
      rw [e]; exact K
    · exact absurd (by decide) h88
  | succ k ih =>
    intro r  hr hi
    have h500 := hT.2.1
    refine E_aload_n dX12_next_77 rfl ?_
    refine E_aload_n dX12_next_78 rfl ?_
    refine g_X12_90 rfl dX12_next_79 (by exact hO.o) mI_eq ?_
    refine i_X12_93 rfl dX12_next_82 (by exact (by exact hO.o)) (c_byteIn (M := (mWI M m 12 (r : Int))) (by exact hO) ((mI_ne (by omega)).trans hT.1) (k := r) (by omega) hT.2.1 ((mI_ne (by omega)).trans (hT.2.2 r (by omega)).1)) (by omega) (Nat.le_of_ble_eq_true rfl) rfl rfl ?_
    rintro _ _ ⟨rfl, rfl⟩
    try dsimp only [pu]
    refine i_X12_102 rfl dX12_next_85 c_isLetter (by omega) (Nat.le_of_ble_eq_true rfl) rfl rfl ?_
    rintro _ _ ⟨rfl, rfl⟩
    try dsimp only [pu]
    refine E_if_eq (tgt := 104) dX12_next_88 (by decide) (fun h88 => ?_) (fun h88 => ?_)
    · simp only [tB0, ne_eq, Bool.not_eq_false, Bool.not_eq_true, decide_eq_true_eq, decide_eq_false_iff_not, Classical.not_not] at h88
      have e : ruS T N 1 (k + 1) r = r := by simp only [ruS]; rw [if_neg (fun z => by have z := sB1.mp z.2; omega)]
      rw [e] at hi
      rw [hi]; exact K
    · simp only [tB0, ne_eq, Bool.not_eq_false, Bool.not_eq_true, decide_eq_true_eq, decide_eq_false_iff_not, Classical.not_not] at h88
      refine E_aload_n dX12_next_91 rfl ?_
      refine E_dup dX12_next_92 rfl ?_
      refine g_X12_90 rfl dX12_next_93 (by exact hO.o) mI_eq ?_
      refine E_iconst dX12_next_96 (by decide) ?_
      refine E_iadd dX12_next_97 (by omega) (by omega) ?_
      refine p_X12_90 rfl dX12_next_98 (by exact hO.o) ?_
      refine E_goto (tgt := 77) dX12_next_101 (by decide) ?_
      have e : ruS T N 1 (k + 1) r = ruS T N 1 k (r + 1) := by simp only [ruS]; rw [if_pos ⟨by omega, sB1.mpr (by omega)⟩]
      rw [mWI_2]
      exact EV.mq rfl rfl (ih (r + 1) (by omega) (by rw [← e]; exact hi))
set_option maxRecDepth 20000 in
set_option maxHeartbeats 3000000 in
theorem l_nx3 {G : Ctx} {M : Mem} {m : Nat} (hO : MO M m) {T : Int → Int} {N : Nat} (hT : TR (mI M) m T N) {x1 : Int} {R : Nat} {Q : Option MV → Mem → Prop} (K : EV G m_X12_next 1 0 0 Q 146 [some (vR m), some (vI x1)] [] (mWI M m 12 (R : Int))) : ∀ (k r : Nat) , r + k = N → ruS T N 2 k r = R → EV G m_X12_next 1 0 0 (Q) 119 [some (vR m), some (vI x1)] [] (mWI M m 12 (r : Int)) := by
  intro k
  induction k with
  | zero =>
    intro r  hr hi
    obtain rfl : r = N := by omega
    have h500 := hT.2.1
    refine E_aload_n dX12_next_119 rfl ?_
    refine E_aload_n dX12_next_120 rfl ?_
    refine g_X12_90 rfl dX12_next_121 (by exact hO.o) mI_eq ?_
    refine i_X12_93 rfl dX12_next_124 (by exact (by exact hO.o)) (c_byteEnd (M := (mWI M m 12 (r : Int))) (by exact hO) ((mI_ne (by omega)).trans hT.1) (k := r) (by omega)) (by omega) (Nat.le_of_ble_eq_true rfl) rfl rfl ?_
    rintro _ _ ⟨rfl, rfl⟩
    try dsimp only [pu]
    refine i_X12_105 rfl dX12_next_127 c_isFigure (by omega) (Nat.le_of_ble_eq_true rfl) rfl rfl ?_
    rintro _ _ ⟨rfl, rfl⟩
    try dsimp only [pu]
    refine E_if_eq (tgt := 146) dX12_next_130 (by decide) (fun h130 => ?_) (fun h130 => ?_)
    · simp only [tB0, ne_eq, Bool.not_eq_false, Bool.not_eq_true, decide_eq_true_eq, decide_eq_false_iff_not, Classical.not_not] at h130
      have e : r = R := hi
      rw [e]; exact K
    · exact absurd (by decide) h130
  | succ k ih =>
    intro r  hr hi
    have h500 := hT.2.1
    refine E_aload_n dX12_next_119 rfl ?_
    refine E_aload_n dX12_next_120 rfl ?_
    refine g_X12_90 rfl dX12_next_121 (by exact hO.o) mI_eq ?_
    refine i_X12_93 rfl dX12_next_124 (by exact (by exact hO.o)) (c_byteIn (M := (mWI M m 12 (r : Int))) (by exact hO) ((mI_ne (by omega)).trans hT.1) (k := r) (by omega) hT.2.1 ((mI_ne (by omega)).trans (hT.2.2 r (by omega)).1)) (by omega) (Nat.le_of_ble_eq_true rfl) rfl rfl ?_
    rintro _ _ ⟨rfl, rfl⟩
    try dsimp only [pu]
    refine i_X12_105 rfl dX12_next_127 c_isFigure (by omega) (Nat.le_of_ble_eq_true rfl) rfl rfl ?_
    rintro _ _ ⟨rfl, rfl⟩
    try dsimp only [pu]
    refine E_if_eq (tgt := 146) dX12_next_130 (by decide) (fun h130 => ?_) (fun h130 => ?_)
    · simp only [tB0, ne_eq, Bool.not_eq_false, Bool.not_eq_true, decide_eq_true_eq, decide_eq_false_iff_not, Classical.not_not] at h130
      have e : ruS T N 2 (k + 1) r = r := by simp only [ruS]; rw [if_neg (fun z => by have z := sB2.mp z.2; omega)]
      rw [e] at hi
      rw [hi]; exact K
    · simp only [tB0, ne_eq, Bool.not_eq_false, Bool.not_eq_true, decide_eq_true_eq, decide_eq_false_iff_not, Classical.not_not] at h130
      refine E_aload_n dX12_next_133 rfl ?_
      refine E_dup dX12_next_134 rfl ?_
      refine g_X12_90 rfl dX12_next_135 (by exact hO.o) mI_eq ?_
      refine E_iconst dX12_next_138 (by decide) ?_
      refine E_iadd dX12_next_139 (by omega) (by omega) ?_
      refine p_X12_90 rfl dX12_next_140 (by exact hO.o) ?_
      refine E_goto (tgt := 119) dX12_next_143 (by decide) ?_
      have e : ruS T N 2 (k + 1) r = ruS T N 2 k (r + 1) := by simp only [ruS]; rw [if_pos ⟨by omega, sB2.mpr (by omega)⟩]
      rw [mWI_2]
      exact EV.mq rfl rfl (ih (r + 1) (by omega) (by rw [← e]; exact hi))
set_option maxRecDepth 20000 in
set_option maxHeartbeats 3000000 in
theorem c_next {G : Ctx} {M : Mem} {m : Nat} (hO : MO M m) {T : Int → Int} {N : Nat} (hT : TR (mI M) m T N) {p : PT} (he : pE p = 0) (h12 : mI M m 12 = pT p) (htN : pT p ≤ N) (h16 : mI M m 16 = 0) : CT G m_X12_next 1 0 0 [vR m] M (fun r M' => r = none ∧ SR M' m T N (pN T N p) ∧ KF M M' m) := by
  refine CT.of k_X12_next 1 (ls := [some (vR m), none]) rfl (Nat.le_of_ble_eq_true rfl) ?_
  obtain ⟨f, hf⟩ : ∃ f, f = tkF T N (pT p) := ⟨_, rfl⟩
  have hfN : f ≤ N := by rw [hf]; exact tkF_le T htN
  have hf5 : f < N → sB (T (f : Int)) ≠ 5 := by rw [hf]; exact tkF_nb T htN
  have h500 := hT.2.1
  refine EV.mq rfl (mWI_id h12) (l_nx1 hO hT (R := f) ?_ (N - pT p) (pT p) (by omega) (by rw [hf]; rfl))
  by_cases hfn : f < N
  · have htf := (hT.2.2 f hfn).2
    refine E_aload_n dX12_next_39 rfl ?_
    refine E_aload_n dX12_next_40 rfl ?_
    refine g_X12_90 rfl dX12_next_41 (by exact hO.o) mI_eq ?_
    refine p_X12_96 rfl dX12_next_44 (by exact hO.o) ?_
    refine E_aload_n dX12_next_47 rfl ?_
    refine E_aload_n dX12_next_48 rfl ?_
    refine g_X12_90 rfl dX12_next_49 (by exact hO.o) ((mI_ne (by omega)).trans mI_eq) ?_
    refine i_X12_93 rfl dX12_next_52 (by exact (by exact hO.o)) (c_byteIn (M := (mWI (mWI M m 12 (f : Int)) m 14 (f : Int))) (by exact hO) ((mI_ne (by omega)).trans ((mI_ne (by omega)).trans hT.1)) (k := f) hfn hT.2.1 ((mI_ne (by omega)).trans ((mI_ne (by omega)).trans (hT.2.2 f hfn).1))) (by omega) (Nat.le_of_ble_eq_true rfl) rfl rfl ?_
    rintro _ _ ⟨rfl, rfl⟩
    try dsimp only [pu]
    refine E_istore_n dX12_next_55 rfl (by decide) ?_
    try dsimp only [List.set]
    refine E_iload_n dX12_next_56 rfl ?_
    refine c_X12_89 rfl dX12_next_57 ?_
    refine E_icmp_ne (tgt := 70) dX12_next_59 (by decide) (fun h59 => ?_) (fun h59 => ?_)
    · refine E_iload_n dX12_next_70 rfl ?_
      refine i_X12_102 rfl dX12_next_71 c_isLetter (by omega) (Nat.le_of_ble_eq_true rfl) rfl rfl ?_
      rintro _ _ ⟨rfl, rfl⟩
      try dsimp only [pu]
      refine E_if_eq (tgt := 112) dX12_next_74 (by decide) (fun h74 => ?_) (fun h74 => ?_)
      · simp only [tB0, ne_eq, Bool.not_eq_false, Bool.not_eq_true, decide_eq_true_eq, decide_eq_false_iff_not, Classical.not_not] at h74
        refine E_iload_n dX12_next_112 rfl ?_
        refine i_X12_105 rfl dX12_next_113 c_isFigure (by omega) (Nat.le_of_ble_eq_true rfl) rfl rfl ?_
        rintro _ _ ⟨rfl, rfl⟩
        try dsimp only [pu]
        refine E_if_eq (tgt := 171) dX12_next_116 (by decide) (fun h116 => ?_) (fun h116 => ?_)
        · simp only [tB0, ne_eq, Bool.not_eq_false, Bool.not_eq_true, decide_eq_true_eq, decide_eq_false_iff_not, Classical.not_not] at h116
          refine E_aload_n dX12_next_171 rfl ?_
          refine E_dup dX12_next_172 rfl ?_
          refine g_X12_90 rfl dX12_next_173 (by exact hO.o) ((mI_ne (by omega)).trans mI_eq) ?_
          refine E_iconst dX12_next_176 (by decide) ?_
          refine E_iadd dX12_next_177 (by omega) (by omega) ?_
          refine p_X12_90 rfl dX12_next_178 (by exact hO.o) ?_
          refine E_aload_n dX12_next_181 rfl ?_
          refine E_iload_n dX12_next_182 rfl ?_
          refine E_bipush dX12_next_183 (by decide) ?_
          refine E_icmp_ne (tgt := 192) dX12_next_185 (by decide) (fun h185 => ?_) (fun h185 => ?_)
          · refine E_iconst dX12_next_192 (by decide) ?_
            refine p_X12_99 rfl dX12_next_193 (by exact hO.o) ?_
            refine E_aload_n dX12_next_196 rfl ?_
            refine E_aload_n dX12_next_197 rfl ?_
            refine g_X12_90 rfl dX12_next_198 (by exact hO.o) ((mI_ne (by omega)).trans mI_eq) ?_
            refine p_X12_108 rfl dX12_next_201 (by exact hO.o) ?_
            refine E_vret dX12_next_204 rfl ?_
            have n1 : sB (T (f : Int)) ≠ 1 := fun z => h74 (sB1.mp z)
            have n2 : sB (T (f : Int)) ≠ 2 := fun z => h116 (sB2.mp z)
            have ht : tkE T N f = f + 1 := by unfold tkE; rw [if_pos hfn, if_neg (by omega)]
            have hv := tk_v T hfN hf5
            rw [ht] at hv
            have hz : rsS (tkS T N f) = 0 := by
              have n3 : sB (T (f : Int)) ≠ 3 := fun z => h185 (sB3.mp z)
              have n5 := hf5 hfn
              have hb := sB_b (T (f : Int))
              unfold tkS; rw [if_pos hfn, if_neg (by omega), show sB (T (f : Int)) = 4 by omega]; rfl
            exact ⟨rfl, nx_fin hO hT h16 he hf.symm hz ht hv (by simp [mI, mWI, up2]) (by simp [mI, mWI, up2]) (by simp [mI, mWI, up2]) (by simp [mI, mWI, up2]) (fun b j hb => by simp only [mI, mWI, up2]; rw [if_neg (by omega)]; rw [if_neg (by omega)]; rw [if_neg (by omega)]; rw [if_neg (by omega)]; rw [if_neg (by omega)]) rfl⟩
          · refine E_iconst dX12_next_188 (by decide) ?_
            refine E_goto (tgt := 193) dX12_next_189 (by decide) ?_
            refine p_X12_99 rfl dX12_next_193 (by exact hO.o) ?_
            refine E_aload_n dX12_next_196 rfl ?_
            refine E_aload_n dX12_next_197 rfl ?_
            refine g_X12_90 rfl dX12_next_198 (by exact hO.o) ((mI_ne (by omega)).trans mI_eq) ?_
            refine p_X12_108 rfl dX12_next_201 (by exact hO.o) ?_
            refine E_vret dX12_next_204 rfl ?_
            have n1 : sB (T (f : Int)) ≠ 1 := fun z => h74 (sB1.mp z)
            have n2 : sB (T (f : Int)) ≠ 2 := fun z => h116 (sB2.mp z)
            have ht : tkE T N f = f + 1 := by unfold tkE; rw [if_pos hfn, if_neg (by omega)]
            have hv := tk_v T hfN hf5
            rw [ht] at hv
            have hz : rsS (tkS T N f) = 4 := by
              unfold tkS; rw [if_pos hfn, if_neg (by omega), sB3.mpr (by omega)]; rfl
            exact ⟨rfl, nx_fin hO hT h16 he hf.symm hz ht hv (by simp [mI, mWI, up2]) (by simp [mI, mWI, up2]) (by simp [mI, mWI, up2]) (by simp [mI, mWI, up2]) (fun b j hb => by simp only [mI, mWI, up2]; rw [if_neg (by omega)]; rw [if_neg (by omega)]; rw [if_neg (by omega)]; rw [if_neg (by omega)]; rw [if_neg (by omega)]) rfl⟩
        · simp only [tB0, ne_eq, Bool.not_eq_false, Bool.not_eq_true, decide_eq_true_eq, decide_eq_false_iff_not, Classical.not_not] at h116
          have hs1 : sB (T (f : Int)) = 2 := sB2.mpr (by omega)
          obtain ⟨t, ht⟩ : ∃ t, tkE T N f = t := ⟨_, rfl⟩
          have ht2 : ruS T N 2 (N - f) f = t := by
            rw [← ht, show N - f = N - (f + 1) + 1 by omega]
            simp only [ruS]
            unfold tkE
            rw [if_pos ⟨hfn, hs1⟩, if_pos hfn, hs1, if_pos (by omega)]
          have htg := ruS_ge T N 2 (N - f) f
          have htl := ruS_le T N 2 (N - f) f hfN
          rw [ht2] at htg htl
          refine EV.mq rfl (mWI_id ((mI_ne (by omega)).trans mI_eq)) (l_nx3 (M := (mWI (mWI M m 12 (f : Int)) m 14 (f : Int))) (by exact hO) ⟨(mI_ne (by omega)).trans ((mI_ne (by omega)).trans hT.1), hT.2.1, fun k hk => ⟨(mI_ne (by omega)).trans ((mI_ne (by omega)).trans (hT.2.2 k hk).1), (hT.2.2 k hk).2⟩⟩ (R := t) ?_ (N - f) f (by omega) ht2)
          refine E_aload_n dX12_next_146 rfl ?_
          refine E_aload_n dX12_next_147 rfl ?_
          refine g_X12_90 rfl dX12_next_148 (by exact hO.o) mI_eq ?_
          refine E_aload_n dX12_next_151 rfl ?_
          refine g_X12_96 rfl dX12_next_152 (by exact hO.o) ((mI_ne (by omega)).trans mI_eq) ?_
          refine E_isub dX12_next_155 (by omega) (by omega) ?_
          refine E_iconst dX12_next_156 (by decide) ?_
          refine E_icmp_le (tgt := 164) dX12_next_157 (by decide) (fun h157 => ?_) (fun h157 => ?_)
          · refine E_iconst dX12_next_164 (by decide) ?_
            refine p_X12_99 rfl dX12_next_165 (by exact hO.o) ?_
            refine E_goto (tgt := 196) dX12_next_168 (by decide) ?_
            refine E_aload_n dX12_next_196 rfl ?_
            refine E_aload_n dX12_next_197 rfl ?_
            refine g_X12_90 rfl dX12_next_198 (by exact hO.o) ((mI_ne (by omega)).trans mI_eq) ?_
            refine p_X12_108 rfl dX12_next_201 (by exact hO.o) ?_
            refine E_vret dX12_next_204 rfl ?_
            have hv := tk_v T hfN hf5
            rw [ht] at hv
            have hz : rsS (tkS T N f) = 3 := by
              unfold tkS; rw [if_pos hfn, if_neg (by omega), hs1]; rfl
            exact ⟨rfl, nx_fin hO hT h16 he hf.symm hz ht hv (by simp [mI, mWI, up2]) (by simp [mI, mWI, up2]) (by simp [mI, mWI, up2]) (by simp [mI, mWI, up2]) (fun b j hb => by simp only [mI, mWI, up2]; rw [if_neg (by omega)]; rw [if_neg (by omega)]; rw [if_neg (by omega)]; rw [if_neg (by omega)]; rw [if_neg (by omega)]) rfl⟩
          · refine E_iconst dX12_next_160 (by decide) ?_
            refine E_goto (tgt := 165) dX12_next_161 (by decide) ?_
            refine p_X12_99 rfl dX12_next_165 (by exact hO.o) ?_
            refine E_goto (tgt := 196) dX12_next_168 (by decide) ?_
            refine E_aload_n dX12_next_196 rfl ?_
            refine E_aload_n dX12_next_197 rfl ?_
            refine g_X12_90 rfl dX12_next_198 (by exact hO.o) ((mI_ne (by omega)).trans mI_eq) ?_
            refine p_X12_108 rfl dX12_next_201 (by exact hO.o) ?_
            refine E_vret dX12_next_204 rfl ?_
            have hv := tk_v T hfN hf5
            rw [ht] at hv
            have hz : rsS (tkS T N f) = 0 := by
              unfold tkS; rw [if_pos hfn, if_pos ⟨hs1, by omega⟩]; rfl
            exact ⟨rfl, nx_fin hO hT h16 he hf.symm hz ht hv (by simp [mI, mWI, up2]) (by simp [mI, mWI, up2]) (by simp [mI, mWI, up2]) (by simp [mI, mWI, up2]) (fun b j hb => by simp only [mI, mWI, up2]; rw [if_neg (by omega)]; rw [if_neg (by omega)]; rw [if_neg (by omega)]; rw [if_neg (by omega)]; rw [if_neg (by omega)]) rfl⟩
      · simp only [tB0, ne_eq, Bool.not_eq_false, Bool.not_eq_true, decide_eq_true_eq, decide_eq_false_iff_not, Classical.not_not] at h74
        have hs1 : sB (T (f : Int)) = 1 := sB1.mpr (by omega)
        obtain ⟨t, ht⟩ : ∃ t, tkE T N f = t := ⟨_, rfl⟩
        have ht2 : ruS T N 1 (N - f) f = t := by
          rw [← ht, show N - f = N - (f + 1) + 1 by omega]
          simp only [ruS]
          unfold tkE
          rw [if_pos ⟨hfn, hs1⟩, if_pos hfn, hs1, if_pos (by omega)]
        have htg := ruS_ge T N 1 (N - f) f
        have htl := ruS_le T N 1 (N - f) f hfN
        rw [ht2] at htg htl
        refine EV.mq rfl (mWI_id ((mI_ne (by omega)).trans mI_eq)) (l_nx2 (M := (mWI (mWI M m 12 (f : Int)) m 14 (f : Int))) (by exact hO) ⟨(mI_ne (by omega)).trans ((mI_ne (by omega)).trans hT.1), hT.2.1, fun k hk => ⟨(mI_ne (by omega)).trans ((mI_ne (by omega)).trans (hT.2.2 k hk).1), (hT.2.2 k hk).2⟩⟩ (R := t) ?_ (N - f) f (by omega) ht2)
        refine E_aload_n dX12_next_104 rfl ?_
        refine E_iconst dX12_next_105 (by decide) ?_
        refine p_X12_99 rfl dX12_next_106 (by exact hO.o) ?_
        refine E_goto (tgt := 196) dX12_next_109 (by decide) ?_
        refine E_aload_n dX12_next_196 rfl ?_
        refine E_aload_n dX12_next_197 rfl ?_
        refine g_X12_90 rfl dX12_next_198 (by exact hO.o) ((mI_ne (by omega)).trans mI_eq) ?_
        refine p_X12_108 rfl dX12_next_201 (by exact hO.o) ?_
        refine E_vret dX12_next_204 rfl ?_
        have hv := tk_v T hfN hf5
        rw [ht] at hv
        have hz : rsS (tkS T N f) = 2 := by
          unfold tkS; rw [if_pos hfn, hs1, if_neg (by omega)]; rfl
        exact ⟨rfl, nx_fin hO hT h16 he hf.symm hz ht hv (by simp [mI, mWI, up2]) (by simp [mI, mWI, up2]) (by simp [mI, mWI, up2]) (by simp [mI, mWI, up2]) (fun b j hb => by simp only [mI, mWI, up2]; rw [if_neg (by omega)]; rw [if_neg (by omega)]; rw [if_neg (by omega)]; rw [if_neg (by omega)]; rw [if_neg (by omega)]) rfl⟩
    · exfalso; omega
  · skip
    refine E_aload_n dX12_next_39 rfl ?_
    refine E_aload_n dX12_next_40 rfl ?_
    refine g_X12_90 rfl dX12_next_41 (by exact hO.o) mI_eq ?_
    refine p_X12_96 rfl dX12_next_44 (by exact hO.o) ?_
    refine E_aload_n dX12_next_47 rfl ?_
    refine E_aload_n dX12_next_48 rfl ?_
    refine g_X12_90 rfl dX12_next_49 (by exact hO.o) ((mI_ne (by omega)).trans mI_eq) ?_
    refine i_X12_93 rfl dX12_next_52 (by exact (by exact hO.o)) (c_byteEnd (M := (mWI (mWI M m 12 (f : Int)) m 14 (f : Int))) (by exact hO) ((mI_ne (by omega)).trans ((mI_ne (by omega)).trans hT.1)) (k := f) (by omega)) (by omega) (Nat.le_of_ble_eq_true rfl) rfl rfl ?_
    rintro _ _ ⟨rfl, rfl⟩
    try dsimp only [pu]
    refine E_istore_n dX12_next_55 rfl (by decide) ?_
    try dsimp only [List.set]
    refine E_iload_n dX12_next_56 rfl ?_
    refine c_X12_89 rfl dX12_next_57 ?_
    refine E_icmp_ne (tgt := 70) dX12_next_59 (by decide) (fun h59 => ?_) (fun h59 => ?_)
    · exact absurd rfl h59
    · refine E_aload_n dX12_next_62 rfl ?_
      refine E_iconst dX12_next_63 (by decide) ?_
      refine p_X12_99 rfl dX12_next_64 (by exact hO.o) ?_
      refine E_goto (tgt := 196) dX12_next_67 (by decide) ?_
      refine E_aload_n dX12_next_196 rfl ?_
      refine E_aload_n dX12_next_197 rfl ?_
      refine g_X12_90 rfl dX12_next_198 (by exact hO.o) ((mI_ne (by omega)).trans ((mI_ne (by omega)).trans mI_eq)) ?_
      refine p_X12_108 rfl dX12_next_201 (by exact hO.o) ?_
      refine E_vret dX12_next_204 rfl ?_
      have ht : tkE T N f = f := by unfold tkE; rw [if_neg hfn]
      have hv := tk_v T hfN hf5
      rw [ht] at hv
      have hz : rsS (tkS T N f) = 1 := by
        unfold tkS; rw [if_neg hfn]; rfl
      exact ⟨rfl, nx_fin hO hT h16 he hf.symm hz ht hv (by simp [mI, mWI, up2]) (by simp [mI, mWI, up2]) (by simp [mI, mWI, up2]) (by simp [mI, mWI, up2]) (fun b j hb => by simp only [mI, mWI, up2]; rw [if_neg (by omega)]; rw [if_neg (by omega)]; rw [if_neg (by omega)]; rw [if_neg (by omega)]) rfl⟩
theorem c_nextS {G : Ctx} {M : Mem} {m : Nat} {T : Int → Int} {N : Nat} {p : PT} (h0 : SR M m T N p) (he : pE p = 0) : CT G m_X12_next 1 0 0 [vR m] M (fun r M' => r = none ∧ SR M' m T N (pN T N p) ∧ KF M M' m) :=
  c_next h0.1 h0.2.1 he h0.2.2.1 h0.2.2.2.2.2.2.2.2.1.2.1 (h0.2.2.2.2.2.2.1.trans he)
