/-! ===== 75: the class reads a court ===== -/
/-- a reader as it can be -/
def PY (T : Int → Int) (N : Nat) (p : PT) : Prop := PV T N p ∧ 0 ≤ pE p ∧ (pE p ≠ 0 → 0 ≤ pW p ∧ pW p ≤ N)
theorem PY.n {T : Int → Int} {N : Nat} {p : PT} (h : PY T N p) : PY T N (pN T N p) := ⟨h.1.n, by rw [pN_e]; exact h.2.1, fun z => by rw [pN_e] at z; rw [pN_w z]; exact h.2.2 z⟩
theorem PY.x {T : Int → Int} {N : Nat} {p : PT} (h : PY T N p) {k : Int} (hk : 0 ≤ k) : PY T N (pX k p) := by
  refine ⟨h.1.b k, ?_, fun _ => ?_⟩
  · rw [pX_e]; split
    · exact hk
    · exact h.2.1
  · rw [pX_w]; split
    · have a := h.1.1; have b := h.1.2.1; omega
    · rename_i e; exact h.2.2 e
theorem PY.i {T : Int → Int} {N : Nat} {p q : PT} {c : Prop} [Decidable c] (h : PY T N p) (g : PY T N q) : PY T N (if c then p else q) := by
  split
  · exact h
  · exact g
theorem PY.u {T : Int → Int} {N : Nat} {p : PT} (h : PY T N p) (lo hi : Int) : PY T N (pU T N lo hi p) := (PY.i (PY.i h (h.x (by omega))) (h.x (by omega))).n
theorem PY.g {T : Int → Int} {N : Nat} {p : PT} (h : PY T N p) : PY T N (pG T N p) := (PY.i h (h.x (by omega))).n
theorem PY.o {T : Int → Int} {N : Nat} {p : PT} (h : PY T N p) (i : Nat) : PY T N (pO T N i p) := (PY.i h (h.x (by omega))).n
theorem PY.q {T : Int → Int} {N : Nat} {p : PT} (h : PY T N p) (full : Prop) [Decidable full] : PY T N (pQ T N full p) := (PY.i (h.x (by omega)) h).n
theorem PY.k {T : Int → Int} {N : Nat} {p : PT} (h : PY T N p) : PY T N (pK T N p) := (PY.i h (h.x (by omega))).n
theorem PY.l3 {T : Int → Int} {N : Nat} {q : PT} (h : PY T N q) (fr : CD) : PY T N (ln3 T N q fr) := PY.i ((h.u 0 9).x (by omega)) (h.u 0 9)
theorem PY.l4 {T : Int → Int} {N : Nat} {q : PT} (h : PY T N q) (fr : CD) : PY T N (ln4 T N q fr) := (h.l3 fr).u 0 3
theorem PY.l {T : Int → Int} {N : Nat} {x : PT × CD} (h : PY T N x.1) : PY T N (rdL T N x).1 := (((h.q (x.2 0 = 8)).l4 x.2).u 1 9).g
theorem PY.r {T : Int → Int} {N : Nat} {x : PT × CD} (h : PY T N x.1) : PY T N (rdR T N x).1 := (((((h.q (x.2 1 = 8)).u _ _).u _ _).u _ _).u _ _).g
theorem PY.p {T : Int → Int} {N : Nat} {x : PT × CD} (h : PY T N x.1) : PY T N (rdP T N x).1 := (((((h.q (x.2 2 = 10)).k).u _ _).u _ _).u _ _).g
theorem PY.d {T : Int → Int} {N : Nat} {p : PT} (h : PY T N p) : ∀ q : Nat, PY T N (dyP T N p q)
  | 0 => h.o 0
  | q + 1 => (PY.d h q).u 0 99
theorem PY.zero {T : Int → Int} {N : Nat} : PY T N (0, 0, 0, 0, 0) := ⟨⟨Nat.le_refl _, Nat.zero_le _, by show (0 : Int) ≤ 0 ∧ (0 : Int) ≤ 4; omega, fun z => by have z : (0 : Int) = 1 ∨ (0 : Int) = 2 := z; omega, fun z => by have z : (0 : Int) = 2 := z; omega, fun z => by have z : (0 : Int) = 1 := z; omega⟩, Int.le_refl _, fun z => absurd rfl z⟩
theorem PY.r1 {T : Int → Int} {N : Nat} : PY T N (rd1 T N).1 := by
  simp only [rd1]
  exact (PY.d PY.zero.n 24).g
theorem PY.r2 {T : Int → Int} {N : Nat} : PY T N (rd2 T N).1 := by
  simp only [rd2]
  exact PY.i PY.r1 (PY.r1.x (by omega))
theorem PY.r3 {T : Int → Int} {N : Nat} : PY T N (rd3 T N).1 := itQ_in (T := T) (rd := rdL T N) (w := 1) (J := fun x => PY T N x.1) (fun x h => PY.l h) 9 (rd2 T N) PY.r2
theorem PY.r4 {T : Int → Int} {N : Nat} : PY T N (rd4 T N).1 := itQ_in (T := T) (rd := rdR T N) (w := 2) (J := fun x => PY T N x.1) (fun x h => PY.r h) 9 (rd3 T N) PY.r3
theorem PY.r5 {T : Int → Int} {N : Nat} : PY T N (rd5 T N).1 := itQ_in (T := T) (rd := rdP T N) (w := 3) (J := fun x => PY T N x.1) (fun x h => PY.p h) 11 (rd4 T N) PY.r4
theorem PY.rE {T : Int → Int} {N : Nat} : PY T N (rdE T N) := PY.i (PY.r5.x (by omega)) PY.r5
theorem rdE_0 {T : Int → Int} {N : Nat} (h : pE (rd5 T N).1 = 0 → pS (rd5 T N).1 = 0) : (rd5 T N).1 = rdE T N := by
  unfold rdE
  by_cases e : pE (rd5 T N).1 = 0
  · rw [if_neg (fun z => z (h e))]
  · split
    · exact (pX_f e).symm
    · rfl
theorem rdE_1 {T : Int → Int} {N : Nat} (h : pE (rd5 T N).1 = 0 → pS (rd5 T N).1 ≠ 0) : pX 1 (rd5 T N).1 = rdE T N := by
  unfold rdE
  by_cases e : pE (rd5 T N).1 = 0
  · rw [if_pos (h e)]
  · split
    · rfl
    · exact pX_f e
theorem CP.z {I : AS} {c : Nat} {fr fr2 : CD} (h : CP I c fr) (e : fr 0 = 0 ∧ fr 1 = 0 ∧ fr 2 = 0) (f : fr2 0 = 0 ∧ fr2 1 = 0 ∧ fr2 2 = 0) : CP I c fr2 := by
  obtain ⟨⟨h1, h2, h3⟩, h4, h5, h6⟩ := h
  exact ⟨⟨by rw [h1]; omega, by rw [h2]; omega, by rw [h3]; omega⟩, fun l l0 l1 => by omega, fun l l0 l1 => by omega, fun l l0 l1 => by omega⟩
theorem KB.w {M M' : Mem} {a c d : Nat} (h : KB M M' a c d) : KB M M' a c (c + 5) := ⟨h.1, fun b j g1 g2 => h.2 b j g1 (by omega)⟩
theorem KB.day {M : Mem} {a c : Nat} (j x : Int) : KB M (mWI M (c + 1) j x) a c (c + 5) := ⟨rfl, fun b i g1 g2 => mI_ne (by omega)⟩
theorem ST.day {M : Mem} {a c : Nat} {T : Int → Int} {N : Nat} {fr : CD} {p : PT} (h : ST M a c T N fr p) (hac : a + 1 < c) (j x : Int) : ST (mWI M (c + 1) j x) a c T N fr p := by
  obtain ⟨h1, h2, h3, h4, h5⟩ := h
  exact ⟨h1, ⟨(mI_ne (by omega)).trans h2.1, h2.2.1, fun k hk => ⟨(mI_ne (by omega)).trans (h2.2.2 k hk).1, (h2.2.2 k hk).2⟩⟩, h3, h4.of (fun b i b0 b1 b2 b3 => mI_ne (by omega)), h5.of (fun i => mI_ne (by omega))⟩
set_option maxRecDepth 20000 in
set_option maxHeartbeats 3000000 in
theorem l_readDay {G : Ctx} {M : Mem} {a c : Nat} {T : Int → Int} {N : Nat} {p : PT} (hac : a + 1 < c) : ∀ (k r : Nat) (M1 : Mem), r + k = 24 → (ST M1 a c T N (fun _ => 0) (dyP T N p r) ∧ KB M M1 a c (c + 5) ∧ (pE (dyP T N p r) = 0 → ∀ q : Int, 0 ≤ q → q < r → mI M1 (c + 1) q = dyF T N p r (4 + q))) → EV G m_X3_readDay 6 0 0 (fun r M' => r = none ∧ ST M' a c T N (dyF T N p 24) (pG T N (dyP T N p 24)) ∧ KB M M' a c (c + 5) ∧ (pE (dyP T N p 24) = 0 → ∀ q : Int, 0 ≤ q → q < 24 → mI M' (c + 1) q = dyF T N p 24 (4 + q))) 9 [some (vR a), some (vR c), some (vI (r : Int))] [] M1 := by
  intro k
  induction k with
  | zero =>
    intro r M1 hr hi
    obtain rfl : r = 24 := by omega
    refine E_iload_n dX3_readDay_9 rfl ?_
    refine E_bipush dX3_readDay_10 (by decide) ?_
    refine E_icmp_ge (tgt := 34) dX3_readDay_12 (by decide) (fun h12 => ?_) (fun h12 => ?_)
    · refine E_aload_n dX3_readDay_34 rfl ?_
      refine i_X3_73 rfl dX3_readDay_35 (by exact hi.1.1.o) (c_readSign hi.1.1 hi.1.2.1 hi.1.2.2.2.2) (by omega) (Nat.le_of_ble_eq_true rfl) rfl rfl ?_
      rintro _ M5 ⟨rfl, I5, hM5, hA5, hD5⟩
      obtain ⟨h5, k5⟩ := hi.1.st hac hM5 hA5 hD5
      try dsimp only [pu]
      refine E_vret dX3_readDay_38 rfl ?_
      have z : ∀ j : Int, (j < 4 ∨ 28 ≤ j) → dyF T N p 24 j = 0 := fun j hj => dyF_o 24 j (by omega)
      refine ⟨rfl, ⟨h5.1, h5.2.1, h5.2.2.1, h5.2.2.2.1.z ⟨rfl, rfl, rfl⟩ ⟨z 0 (by omega), z 1 (by omega), z 2 (by omega)⟩, h5.2.2.2.2⟩, hi.2.1.tr k5.w, fun y q q0 q1 => ?_⟩
      rw [k5.2 _ _ (by omega) (by omega)]; exact hi.2.2 y q q0 q1
    · exfalso; omega
  | succ k ih =>
    intro r M1 hr hi
    refine E_iload_n dX3_readDay_9 rfl ?_
    refine E_bipush dX3_readDay_10 (by decide) ?_
    refine E_icmp_ge (tgt := 34) dX3_readDay_12 (by decide) (fun h12 => ?_) (fun h12 => ?_)
    · exfalso; omega
    · refine E_aload_n dX3_readDay_15 rfl ?_
      refine g_X3_66 rfl dX3_readDay_16 hi.1.2.2.1.o hi.1.2.2.1.day ?_
      refine E_iload_n dX3_readDay_19 rfl ?_
      refine E_aload_n dX3_readDay_20 rfl ?_
      refine E_iconst dX3_readDay_21 (by decide) ?_
      refine E_bipush dX3_readDay_22 (by decide) ?_
      refine i_X3_69 rfl dX3_readDay_24 (by exact hi.1.1.o) (c_readNumber hi.1.1 hi.1.2.1 hi.1.2.2.2.2) (by omega) (Nat.le_of_ble_eq_true rfl) rfl rfl ?_
      rintro _ M2 ⟨v1, rfl, hv1, hbv1, I2, hM2, hA2, hD2⟩
      obtain ⟨h2, k2⟩ := hi.1.st hac hM2 hA2 hD2
      try dsimp only [pu]
      refine E_iast dX3_readDay_27 h2.2.2.1.s_day (by omega) (by omega) ?_
      refine E_iinc dX3_readDay_28 rfl (by omega) (by omega) (by decide) rfl (by decide) ?_
      try dsimp only [List.set]
      refine E_goto (tgt := 9) dX3_readDay_31 (by decide) ?_
      refine EV.mq rfl rfl (ih (r + 1) (mWI M2 (c + 1) (r : Int) v1) (by omega) ⟨h2.day hac _ _, hi.2.1.tr (k2.w.tr (KB.day _ _)), fun z q q0 q1 => ?_⟩)
      have zk := pU_k (T := T) (N := N) (lo := 0) (hi := 99) (p := dyP T N p r) z
      by_cases e : q = (r : Int)
      · rw [e, mI_eq]
        simp only [dyF]
        rw [upC_self, if_pos zk.1]; exact hv1 zk.1
      · rw [mI_ne (by omega), k2.2 _ _ (by omega) (by omega), hi.2.2 zk.1 q q0 (by omega)]
        simp only [dyF]
        rw [upC_ne _ _ (by omega)]
set_option maxRecDepth 20000 in
set_option maxHeartbeats 3000000 in
theorem c_readDay {G : Ctx} {M : Mem} {a c : Nat} {T : Int → Int} {N : Nat} {p : PT} (h0 : ST M a c T N (fun _ => 0) p) (hac : a + 1 < c) : CT G m_X3_readDay 6 0 0 [vR a, vR c] M (fun r M' => r = none ∧ ST M' a c T N (dyF T N p 24) (pG T N (dyP T N p 24)) ∧ KB M M' a c (c + 5) ∧ (pE (dyP T N p 24) = 0 → ∀ q : Int, 0 ≤ q → q < 24 → mI M' (c + 1) q = dyF T N p 24 (4 + q))) := by
  refine CT.of k_X3_readDay 1 (ls := [some (vR a), some (vR c), none]) rfl (Nat.le_of_ble_eq_true rfl) ?_
  refine E_aload_n dX3_readDay_0 rfl ?_
  refine E_ldcS (i := 0) dX3_readDay_1 rfl rfl rfl ?_
  refine E_iconst dX3_readDay_3 (by decide) ?_
  refine i_X3_62 rfl dX3_readDay_4 (by exact h0.1.o) (c_readWord h0.1 h0.2.1 h0.2.2.2.2 (i := 0) (by omega) true) (by omega) (Nat.le_of_ble_eq_true rfl) rfl rfl ?_
  rintro _ M1 ⟨rfl, I1, hM1, hA1, hD1⟩
  obtain ⟨h1, k1⟩ := h0.st hac hM1 hA1 hD1
  rw [pR_o] at h1
  try dsimp only [pu]
  refine E_iconst dX3_readDay_7 (by decide) ?_
  refine E_istore_n dX3_readDay_8 rfl (by decide) ?_
  try dsimp only [List.set]
  exact EV.lq rfl (l_readDay hac 24 0 M1 (by omega) ⟨h1, k1.w, fun z q q0 q1 => by omega⟩)
/-- a court is read: only the reader's numbers and what is new are others -/
def RCo (M M' : Mem) (a : Nat) (T : Int → Int) (N : Nat) : Prop := ∃ Ir : AS, (∀ b (j : Int), ¬ (b = a ∧ 1 ≤ j ∧ j ≤ 6) → Ir b j = mI M b j) ∧ EX (mJ M Ir) M' ∧ CA M' (mN M) ∧ mN M' = mN M + 14 ∧ Ir a 1 = 0 ∧ Ir a 5 = pE (rdE T N) ∧ (pE (rdE T N) ≠ 0 → Ir a 6 = pW (rdE T N)) ∧ mI M' (mN M) 1 = (rd5 T N).2 0 ∧ (pE (rdE T N) = 0 → CC (mI M') (mN M) (rd5 T N).2 ∧ ∀ q : Int, 0 ≤ q → q < (rd5 T N).2 2 → mI M' (mN M + 12) q = (rd5 T N).2 (86 + 6 * q))
theorem CP.cc {I : AS} {c : Nat} {fr : CD} (h : CP I c fr) (hd : ∀ q, 0 ≤ q → q < 24 → I (c + 1) q = fr (4 + q)) (hb : ∀ l, 0 ≤ l → l < fr 0 → I (c + 5) l = nm1 (fBel fr l (fr 0).toNat)) : CC I c fr := by
  obtain ⟨⟨h1, h2, h3⟩, h4, h5, h6⟩ := h
  exact ⟨h1, h2, h3, hd, fun l l0 l1 => (h4 l l0 l1).1, fun l l0 l1 => (h4 l l0 l1).2.1, fun l l0 l1 => (h4 l l0 l1).2.2, hb, fun l l0 l1 => (h5 l l0 l1).1, fun l l0 l1 => (h5 l l0 l1).2.1, fun l l0 l1 => (h5 l l0 l1).2.2.1, fun l l0 l1 => (h5 l l0 l1).2.2.2, fun l l0 l1 => (h6 l l0 l1).1, fun l l0 l1 => (h6 l l0 l1).2.1, fun l l0 l1 => (h6 l l0 l1).2.2.2⟩
theorem RQ.ex {M M' : Mem} {a : Nat} (h : RQ M a) (ha : a + 1 < mN M) (hE : EX M M') : RQ M' a := ⟨(hE.2 a (by omega)).1.trans h.o, h.lo, (congrFun (hE.2 a (by omega)).2.2 0).trans h.tape, (hE.2 (a + 1) (by omega)).1.trans h.s_tape⟩
set_option maxRecDepth 20000 in
set_option maxHeartbeats 3000000 in
theorem c_readCourt {G : Ctx} {M : Mem} {a : Nat} (hR : RQ M a) {T : Int → Int} {N : Nat} (hT : TP (mI M) a T N) (haM : a + 1 < mN M) : CT G m_X3_readCourt 8 14 144 [vR a] M (fun r M' => r = some (vR (mN M)) ∧ RCo M M' a T N) := by
  refine CT.of k_X3_readCourt 1 (ls := [some (vR a), none]) rfl (Nat.le_of_ble_eq_true rfl) ?_
  have h21 := hR.lo
  refine n_X3_19 rfl dX3_readCourt_0 ?_
  refine E_dup dX3_readCourt_3 rfl ?_
  refine i_X3_21 rfl dX3_readCourt_4 (by omega) (c_Court_init (by rw [mN_new]) (by omega) (mS_new0 _ _)) (by omega) (Nat.le_of_ble_eq_true rfl) rfl rfl ?_
  rintro _ M1 ⟨rfl, hn1, hA1, hu1, hz1⟩
  rw [mN_new] at hn1 hu1 hz1
  have hE1 : EX M M1 := ⟨by omega, fun b hb => ⟨(hu1 b (by omega)).1.trans (mS_new (by omega)), (hu1 b (by omega)).2.1.trans (mI_new (by omega)), ((hu1 b (by omega)).2.2 (by omega)).trans (mR_new (by omega))⟩⟩
  have hz0 : ∀ j, mI M1 (mN M) j = 0 := fun j => (congrFun (hu1 _ (by omega)).2.1 j).trans (mI_new0 _ _ _)
  have hR1 : RQ M1 a := hR.ex (by omega) hE1
  have hT1 : TP (mI M1) a T N := ⟨(congrFun (hE1.2 a (by omega)).2.1 1).trans hT.1, hT.2.1, fun k hk => ⟨(congrFun (hE1.2 (a + 1) (by omega)).2.1 _).trans (hT.2.2 k hk).1, (hT.2.2 k hk).2⟩⟩
  obtain ⟨c, hc⟩ : ∃ c, c = mN M := ⟨_, rfl⟩
  rw [← hc] at hA1 hz0 hn1 hz1 ⊢
  try dsimp only [pu]
  refine E_astore_n dX3_readCourt_7 rfl (by decide) ?_
  try dsimp only [List.set]
  have hac : a + 1 < c := by omega
  refine E_aload_n dX3_readCourt_8 rfl ?_
  refine E_iconst dX3_readCourt_9 (by decide) ?_
  refine p_X3_22 rfl dX3_readCourt_10 hR1.o ?_
  refine E_aload_n dX3_readCourt_13 rfl ?_
  refine E_iconst dX3_readCourt_14 (by decide) ?_
  refine p_X3_25 rfl dX3_readCourt_15 (by exact hR1.o) ?_
  refine E_aload_n dX3_readCourt_18 rfl ?_
  refine E_iconst dX3_readCourt_19 (by decide) ?_
  refine p_X3_28 rfl dX3_readCourt_20 (by exact hR1.o) ?_
  have hR2 : RQ (mWI (mWI (mWI M1 a 5 0) a 6 0) a 4 0) a := hR1
  have hC2 : CA (mWI (mWI (mWI M1 a 5 0) a 6 0) a 4 0) c := hA1
  have e24 : mI (mWI (mWI (mWI M1 a 5 0) a 6 0) a 4 0) a 4 = ((0 : Nat) : Int) := mI_eq
  have e25 : mI (mWI (mWI (mWI M1 a 5 0) a 6 0) a 4 0) a 5 = 0 := (mI_ne (by omega)).trans ((mI_ne (by omega)).trans mI_eq)
  have o2 : ∀ b (j : Int), ¬ (b = a ∧ 4 ≤ j ∧ j ≤ 6) → mI (mWI (mWI (mWI M1 a 5 0) a 6 0) a 4 0) b j = mI M1 b j := fun b j hb => (mI_ne (by omega)).trans ((mI_ne (by omega)).trans (mI_ne (by omega)))
  have j2 : mWI (mWI (mWI M1 a 5 0) a 6 0) a 4 0 = mJ M1 (mI (mWI (mWI (mWI M1 a 5 0) a 6 0) a 4 0)) := rfl
  generalize mWI (mWI (mWI M1 a 5 0) a 6 0) a 4 0 = M2 at *
  have hT2 : TP (mI M2) a T N := ⟨(o2 _ _ (by omega)).trans hT1.1, hT1.2.1, fun k hk => ⟨(o2 _ _ (by omega)).trans (hT1.2.2 k hk).1, (hT1.2.2 k hk).2⟩⟩
  have hP2 : CP (mI M2) c (fun _ => 0) := ⟨⟨(o2 _ _ (by omega)).trans (hz0 _), (o2 _ _ (by omega)).trans (hz0 _), (o2 _ _ (by omega)).trans (hz0 _)⟩, fun l l0 l1 => absurd l1 (Int.not_lt.mpr l0), fun l l0 l1 => absurd l1 (Int.not_lt.mpr l0), fun l l0 l1 => absurd l1 (Int.not_lt.mpr l0)⟩
  refine E_aload_n dX3_readCourt_23 rfl ?_
  refine i_X3_31 rfl dX3_readCourt_24 (by exact hR2.o) (c_nextTok (M := M2) (p := (0, 0, 0, 0, 0)) hR2 hT2 e25 (fun _ => ⟨e24, Nat.zero_le _⟩) (fun z => absurd rfl z)) (by omega) (Nat.le_of_ble_eq_true rfl) rfl rfl ?_
  rintro _ M3 ⟨rfl, I3, hM3, hA3, hD3⟩
  have h3 : ST M3 a c T N (fun _ => 0) (pN T N (0, 0, 0, 0, 0)) := by
    subst hM3
    exact ⟨hR2, hA3.tp hT2, hC2, hP2.of (fun b j b0 b1 _ _ => hA3 b j (by omega)), hD3⟩
  have k3 : KB M2 M3 a c (c + 5) := by
    subst hM3
    exact ⟨rfl, fun b j g1 g2 => hA3 b j g1⟩
  try dsimp only [pu]
  refine E_aload_n dX3_readCourt_27 rfl ?_
  refine E_aload_n dX3_readCourt_28 rfl ?_
  refine i_X3_34 rfl dX3_readCourt_29 (by exact h3.1.o) (c_readDay h3 hac) (by omega) (Nat.le_of_ble_eq_true rfl) rfl rfl ?_
  rintro _ M4 ⟨rfl, h4, k4, d4⟩
  have h4 : ST M4 a c T N (rd1 T N).2 (rd1 T N).1 := by simp only [rd1]; exact h4
  try dsimp only [pu]
  refine E_aload_n dX3_readCourt_32 rfl ?_
  refine E_aload_n dX3_readCourt_33 rfl ?_
  refine i_X3_38 rfl dX3_readCourt_34 (by exact h4.1.o) (c_readLines h4 WP.nil hac) (by omega) (Nat.le_of_ble_eq_true rfl) rfl rfl ?_
  rintro _ M5 ⟨rfl, h5, w5, k5⟩
  have h5 : ST M5 a c T N (rd3 T N).2 (rd3 T N).1 := by simp only [rd3, rd2]; exact h5
  have w5 : WP (rd3 T N).2 := by simp only [rd3, rd2]; exact w5
  try dsimp only [pu]
  refine E_aload_n dX3_readCourt_37 rfl ?_
  refine E_aload_n dX3_readCourt_38 rfl ?_
  refine i_X3_41 rfl dX3_readCourt_39 (by exact h5.1.o) (c_readRights h5 w5 hac) (by omega) (Nat.le_of_ble_eq_true rfl) rfl rfl ?_
  rintro _ M6 ⟨rfl, h6, w6, k6⟩
  have h6 : ST M6 a c T N (rd4 T N).2 (rd4 T N).1 := by simp only [rd4]; exact h6
  have w6 : WP (rd4 T N).2 := by simp only [rd4]; exact w6
  try dsimp only [pu]
  refine E_aload_n dX3_readCourt_42 rfl ?_
  refine E_aload_n dX3_readCourt_43 rfl ?_
  refine i_X3_44 rfl dX3_readCourt_44 (by exact h6.1.o) (c_readPieces h6 w6 hac) (by omega) (Nat.le_of_ble_eq_true rfl) rfl rfl ?_
  rintro _ M7 ⟨rfl, h7, w7, k7⟩
  have h7 : ST M7 a c T N (rd5 T N).2 (rd5 T N).1 := by simp only [rd5]; exact h7
  have w7 : WP (rd5 T N).2 := by simp only [rd5]; exact w7
  obtain ⟨s7, f7, t7, x2, x3, x4, xv, xp, x5, x6⟩ := id h7.2.2.2.2
  try dsimp only [pu]
  refine E_aload_n dX3_readCourt_47 rfl ?_
  refine g_X3_47 rfl dX3_readCourt_48 h7.1.o x2 ?_
  refine E_if_eq (tgt := 63) dX3_readCourt_51 (by decide) (fun h51 => ?_) (fun h51 => ?_)
  · have h8 : ST M7 a c T N (rd5 T N).2 (rdE T N) := by rw [← rdE_0 (fun z => by have := (xp z).1; omega)]; exact h7
    have K8 : KB M2 M7 a c (c + 5) := k3.tr (k4.tr (k5.w.tr (k6.w.tr k7.w)))
    have D8 : KB M4 M7 a c (c + 1) := k5.tr (k6.tr k7)
    have hb0 := w7.1.1
    have hb1 := w7.1.2.1
    have hb2 := w7.1.2.2
    clear h3 h4 h5 h6 h7 k3 k4 k5 k6 k7
    obtain ⟨n, hn⟩ : ∃ n : Nat, (rd5 T N).2 0 = n := ⟨((rd5 T N).2 0).toNat, by omega⟩
    refine E_aload_n dX3_readCourt_63 rfl ?_
    refine i_X3_57 rfl dX3_readCourt_64 (by exact h8.2.2.1.o) (c_findLinesBelow h8.2.2.1 (cd := (rd5 T N).2) n hn (by omega) h8.2.2.2.1.1.1 (fun l l0 l1 => (h8.2.2.2.1.2.1 l l0 l1).1) (fun l l0 l1 => (h8.2.2.2.1.2.1 l l0 l1).2.1)) (by omega) (Nat.le_of_ble_eq_true rfl) rfl rfl ?_
    rintro _ _ ⟨rfl, I9, rfl, hI9, hbel⟩
    have hI9 : ∀ b (j : Int), b ≠ c + 5 → I9 b j = mI M7 b j := hI9
    try dsimp only [pu]
    refine E_aload_n dX3_readCourt_67 rfl ?_
    refine E_iconst dX3_readCourt_68 (by decide) ?_
    refine p_X3_15 rfl dX3_readCourt_69 (by exact h8.1.o) ?_
    refine E_aload_n dX3_readCourt_72 rfl ?_
    refine E_aret dX3_readCourt_73 rfl (Or.inl ⟨_, rfl⟩) ?_
    have o9 : ∀ b (j : Int), b < mN M → ¬ (b = a ∧ 1 ≤ j ∧ j ≤ 6) → up2 I9 a 1 0 b j = mI M b j := fun b j hb hn2 => by
      rw [up2_ne _ _ (by omega), hI9 _ _ (by omega), K8.2 _ _ (by omega) (by omega), o2 _ _ (by omega)]; exact congrFun (hE1.2 b hb).2.1 j
    have s9 : ∀ b, mS (mWI (mJ M7 I9) a 1 0) b = mS M1 b := fun b => by
      show mS M7 b = mS M1 b
      rw [K8.1, j2]; rfl
    have r9 : ∀ b, mR (mWI (mJ M7 I9) a 1 0) b = mR M1 b := fun b => by
      show mR M7 b = mR M1 b
      rw [K8.1, j2]; rfl
    have n9 : mN (mWI (mJ M7 I9) a 1 0) = mN M1 := by
      show mN M7 = mN M1
      rw [K8.1, j2]; rfl
    have c9 : ∀ b (j : Int), c ≤ b → b ≤ c + 13 → b ≠ c + 5 → up2 I9 a 1 0 b j = mI M7 b j := fun b j b0 b1 b2 => by rw [up2_ne _ _ (by omega), hI9 _ _ b2]
    have a9 : ∀ j : Int, j ≠ 1 → up2 I9 a 1 0 a j = mI M7 a j := fun j hj => by rw [up2_ne _ _ (by omega), hI9 _ _ (by omega)]
    obtain ⟨z2, z3, z4, y2, y3, y4, yv, yp, y5, y6⟩ := id h8.2.2.2.2
    refine ⟨by rw [hc], fun b j => if b = a then up2 I9 a 1 0 b j else mI M b j, fun b j hb => ?_, ⟨by rw [n9]; show mN M ≤ mN M1; omega, fun b hb => ⟨?_, ?_, ?_⟩⟩, ?_, by rw [n9]; omega, ?_, ?_, fun z => ?_, ?_, fun z => ⟨?_, fun q q0 q1 => ?_⟩⟩
    · show (if b = a then up2 I9 a 1 0 b j else mI M b j) = mI M b j
      split
      · exact o9 b j (by omega) hb
      · rfl
    · rw [s9]; exact (hE1.2 b hb).1
    · funext j
      show up2 I9 a 1 0 b j = if b = a then up2 I9 a 1 0 b j else mI M b j
      split
      · rfl
      · exact o9 b j hb (by omega)
    · rw [r9]; exact (hE1.2 b hb).2.2
    · rw [← hc]; exact h8.2.2.1
    · show (if a = a then up2 I9 a 1 0 a 1 else mI M a 1) = 0
      rw [if_pos rfl, up2_self]
    · show (if a = a then up2 I9 a 1 0 a 5 else mI M a 5) = _
      rw [if_pos rfl, a9 _ (by omega)]; exact y5
    · show (if a = a then up2 I9 a 1 0 a 6 else mI M a 6) = _
      rw [if_pos rfl, a9 _ (by omega)]; exact y6 z
    · show up2 I9 a 1 0 (mN M) 1 = _
      rw [← hc, c9 _ _ (by omega) (by omega) (by omega)]; exact h8.2.2.2.1.1.1
    · rw [← hc]
      have hP9 : CP (up2 I9 a 1 0) c (rd5 T N).2 := h8.2.2.2.1.of (fun b j b0 b1 b2 b3 => c9 b j b0 b1 b3)
      refine CP.cc hP9 (fun q q0 q1 => ?_) (fun l l0 l1 => ?_)
      · have hdk := (DYk.all (T := T) (N := N))
        show up2 I9 a 1 0 (c + 1) q = _
        rw [c9 _ _ (by omega) (by omega) (by omega), D8.2 _ _ (by omega) (by omega), hdk.2.2 _ (by omega) (by omega)]
        exact d4 (hdk.2.1 (rdE_k z)) q q0 q1
      · show up2 I9 a 1 0 (c + 5) l = _
        rw [up2_ne _ _ (by omega), hbel l l0 (by omega), show ((rd5 T N).2 0).toNat = n by omega]
    · show up2 I9 a 1 0 (mN M + 12) q = _
      rw [← hc, c9 _ _ (by omega) (by omega) (by omega)]; exact (h8.2.2.2.1.2.2.2 q q0 q1).2.2.1
  · refine E_aload_n dX3_readCourt_54 rfl ?_
    refine E_aload_n dX3_readCourt_55 rfl ?_
    refine g_X3_50 rfl dX3_readCourt_56 h7.1.o x3 ?_
    refine E_iconst dX3_readCourt_59 (by decide) ?_
    refine i_X3_53 rfl dX3_readCourt_60 (by exact h7.1.o) (c_failAt h7.1 h7.2.1 h7.2.2.2.2 (p2 := pX 1 (rd5 T N).1) (by decide) pX_e (pX_wf (fun z => (xp z).2.1))) (by omega) (Nat.le_of_ble_eq_true rfl) rfl rfl ?_
    rintro _ M8 ⟨rfl, I8, hM8, hA8, hD8⟩
    obtain ⟨h8, k8⟩ := h7.st hac hM8 hA8 hD8
    try dsimp only [pu]
    have h8 : ST M8 a c T N (rd5 T N).2 (rdE T N) := by rw [← rdE_1 (fun z => by have := (xp z).1; omega)]; exact h8
    have K8 : KB M2 M8 a c (c + 5) := k3.tr (k4.tr (k5.w.tr (k6.w.tr (k7.w.tr k8.w))))
    have D8 : KB M4 M8 a c (c + 1) := k5.tr (k6.tr (k7.tr k8))
    have hb0 := w7.1.1
    have hb1 := w7.1.2.1
    have hb2 := w7.1.2.2
    clear h3 h4 h5 h6 h7 k3 k4 k5 k6 k7
    obtain ⟨n, hn⟩ : ∃ n : Nat, (rd5 T N).2 0 = n := ⟨((rd5 T N).2 0).toNat, by omega⟩
    refine E_aload_n dX3_readCourt_63 rfl ?_
    refine i_X3_57 rfl dX3_readCourt_64 (by exact h8.2.2.1.o) (c_findLinesBelow h8.2.2.1 (cd := (rd5 T N).2) n hn (by omega) h8.2.2.2.1.1.1 (fun l l0 l1 => (h8.2.2.2.1.2.1 l l0 l1).1) (fun l l0 l1 => (h8.2.2.2.1.2.1 l l0 l1).2.1)) (by omega) (Nat.le_of_ble_eq_true rfl) rfl rfl ?_
    rintro _ _ ⟨rfl, I9, rfl, hI9, hbel⟩
    have hI9 : ∀ b (j : Int), b ≠ c + 5 → I9 b j = mI M8 b j := hI9
    try dsimp only [pu]
    refine E_aload_n dX3_readCourt_67 rfl ?_
    refine E_iconst dX3_readCourt_68 (by decide) ?_
    refine p_X3_15 rfl dX3_readCourt_69 (by exact h8.1.o) ?_
    refine E_aload_n dX3_readCourt_72 rfl ?_
    refine E_aret dX3_readCourt_73 rfl (Or.inl ⟨_, rfl⟩) ?_
    have o9 : ∀ b (j : Int), b < mN M → ¬ (b = a ∧ 1 ≤ j ∧ j ≤ 6) → up2 I9 a 1 0 b j = mI M b j := fun b j hb hn2 => by
      rw [up2_ne _ _ (by omega), hI9 _ _ (by omega), K8.2 _ _ (by omega) (by omega), o2 _ _ (by omega)]; exact congrFun (hE1.2 b hb).2.1 j
    have s9 : ∀ b, mS (mWI (mJ M8 I9) a 1 0) b = mS M1 b := fun b => by
      show mS M8 b = mS M1 b
      rw [K8.1, j2]; rfl
    have r9 : ∀ b, mR (mWI (mJ M8 I9) a 1 0) b = mR M1 b := fun b => by
      show mR M8 b = mR M1 b
      rw [K8.1, j2]; rfl
    have n9 : mN (mWI (mJ M8 I9) a 1 0) = mN M1 := by
      show mN M8 = mN M1
      rw [K8.1, j2]; rfl
    have c9 : ∀ b (j : Int), c ≤ b → b ≤ c + 13 → b ≠ c + 5 → up2 I9 a 1 0 b j = mI M8 b j := fun b j b0 b1 b2 => by rw [up2_ne _ _ (by omega), hI9 _ _ b2]
    have a9 : ∀ j : Int, j ≠ 1 → up2 I9 a 1 0 a j = mI M8 a j := fun j hj => by rw [up2_ne _ _ (by omega), hI9 _ _ (by omega)]
    obtain ⟨z2, z3, z4, y2, y3, y4, yv, yp, y5, y6⟩ := id h8.2.2.2.2
    refine ⟨by rw [hc], fun b j => if b = a then up2 I9 a 1 0 b j else mI M b j, fun b j hb => ?_, ⟨by rw [n9]; show mN M ≤ mN M1; omega, fun b hb => ⟨?_, ?_, ?_⟩⟩, ?_, by rw [n9]; omega, ?_, ?_, fun z => ?_, ?_, fun z => ⟨?_, fun q q0 q1 => ?_⟩⟩
    · show (if b = a then up2 I9 a 1 0 b j else mI M b j) = mI M b j
      split
      · exact o9 b j (by omega) hb
      · rfl
    · rw [s9]; exact (hE1.2 b hb).1
    · funext j
      show up2 I9 a 1 0 b j = if b = a then up2 I9 a 1 0 b j else mI M b j
      split
      · rfl
      · exact o9 b j hb (by omega)
    · rw [r9]; exact (hE1.2 b hb).2.2
    · rw [← hc]; exact h8.2.2.1
    · show (if a = a then up2 I9 a 1 0 a 1 else mI M a 1) = 0
      rw [if_pos rfl, up2_self]
    · show (if a = a then up2 I9 a 1 0 a 5 else mI M a 5) = _
      rw [if_pos rfl, a9 _ (by omega)]; exact y5
    · show (if a = a then up2 I9 a 1 0 a 6 else mI M a 6) = _
      rw [if_pos rfl, a9 _ (by omega)]; exact y6 z
    · show up2 I9 a 1 0 (mN M) 1 = _
      rw [← hc, c9 _ _ (by omega) (by omega) (by omega)]; exact h8.2.2.2.1.1.1
    · rw [← hc]
      have hP9 : CP (up2 I9 a 1 0) c (rd5 T N).2 := h8.2.2.2.1.of (fun b j b0 b1 b2 b3 => c9 b j b0 b1 b3)
      refine CP.cc hP9 (fun q q0 q1 => ?_) (fun l l0 l1 => ?_)
      · have hdk := (DYk.all (T := T) (N := N))
        show up2 I9 a 1 0 (c + 1) q = _
        rw [c9 _ _ (by omega) (by omega) (by omega), D8.2 _ _ (by omega) (by omega), hdk.2.2 _ (by omega) (by omega)]
        exact d4 (hdk.2.1 (rdE_k z)) q q0 q1
      · show up2 I9 a 1 0 (c + 5) l = _
        rw [up2_ne _ _ (by omega), hbel l l0 (by omega), show ((rd5 T N).2 0).toNat = n by omega]
    · show up2 I9 a 1 0 (mN M + 12) q = _
      rw [← hc, c9 _ _ (by omega) (by omega) (by omega)]; exact (h8.2.2.2.1.2.2.2 q q0 q1).2.2.1
