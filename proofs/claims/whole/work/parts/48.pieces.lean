theorem rw_892 : Cond.classLink "CourtWash" 376 "CourtWash$Red" ∈ AW := aw_mem (List.mem_of_getElem? (i := 892) (by decide +kernel)) (by decide +kernel)
theorem rw_928 : Cond.classLink "CourtWash" 381 "CourtWash$Black" ∈ AW := aw_mem (List.mem_of_getElem? (i := 928) (by decide +kernel)) (by decide +kernel)
theorem rw_939 : Cond.classLink "CourtWash" 384 "CourtWash$Wool" ∈ AW := aw_mem (List.mem_of_getElem? (i := 939) (by decide +kernel)) (by decide +kernel)
theorem rw_950 : Cond.classLink "CourtWash" 387 "CourtWash$Sheet" ∈ AW := aw_mem (List.mem_of_getElem? (i := 950) (by decide +kernel)) (by decide +kernel)
theorem rw_961 : Cond.classLink "CourtWash" 390 "CourtWash$Sock" ∈ AW := aw_mem (List.mem_of_getElem? (i := 961) (by decide +kernel)) (by decide +kernel)
theorem rw_938 : Cond.superclass "CourtWash$Black" "CourtWash$Red" ∈ AW := aw_mem (List.mem_of_getElem? (i := 938) (by decide +kernel)) (by decide +kernel)
theorem rw_927 : Cond.superclass "CourtWash$Red" "CourtWash$Piece" ∈ AW := aw_mem (List.mem_of_getElem? (i := 927) (by decide +kernel)) (by decide +kernel)
theorem rw_971 : Cond.superclass "CourtWash$Sock" "CourtWash$Wool" ∈ AW := aw_mem (List.mem_of_getElem? (i := 971) (by decide +kernel)) (by decide +kernel)
theorem rw_949 : Cond.superclass "CourtWash$Wool" "CourtWash$Piece" ∈ AW := aw_mem (List.mem_of_getElem? (i := 949) (by decide +kernel)) (by decide +kernel)
/-! ===== 48: the class: pieces are made and asked ===== -/
theorem E_instU {G : Ctx} {mt : MT} {d kc ks : Nat} {Q : Option MV → Mem → Prop} {pc : Nat} {ls : List (Option MV)} {st : List MV} {M : Mem} {idx b ci : Nat} {q : vw_C} {nm up : String} (hc : cls_[ci]? = some q) (hs : mS M b = (4, ci)) (hlk : Cond.classLink mt.1.cls idx nm ∈ AW) (hl3 : Cond.superclass q.1 nm ∈ AW) (hl5 : Cond.superclass nm up ∈ AW) (hd : decode mt.2.1 pc = .ok (.instanceof idx, 3)) (kk : EV G mt d kc ks Q (pc + 3) ls (vI 1 :: st) M) : EV G mt d kc ks Q pc ls (vR b :: st) M := by
  intro p l e R s m args below meth c H locs cells slots mc ms lsR stR C0 hR hkk hl hP hL hst
  have hts := C0.2.2.2.2.1
  have hK := C0.2.2.2.2.2.2.2.2
  obtain ⟨w, rest, rfl, hv, hs3⟩ := hst.c
  have hv : w = rfv G b := hv
  obtain ⟨hb, r, V, h1, ⟨cell, q1, q2, q3, q4⟩, h3⟩ := hP.obj hs
  rw [rfv_hi hb] at hv
  subst hv
  obtain ⟨ps, dk, kp, hps, hdk, hkp, hsuper, hk1, hk2, -⟩ := Cond.superclass_spec (hK.1.1 ci q hc).2.1 (hts _ hl3)
  obtain ⟨p2, dk2, kp2, -, hdk2, -, -, -, -, hni⟩ := Cond.superclass_spec hps (hts _ hl5)
  cases hkp.symm.trans hdk2
  have has : s.vm.assignable cell.cls ps = true := by
    rw [q2]
    have hsub := sub_up hdk hsuper
    simp [Vm.assignable, Vm.assignableAux, hdk, hkp, hk1, hk2, hni, hsub]
  intro T hT X
  obtain ⟨vm', X', st'⟩ := X.instanceofYes C0.1 C0.2.2.2.1 (hts _ hlk) (by rw [hT]; exact q1) (by rw [q3]; rfl) hps has (g := F0 m pc lsR (.ref (am G b) :: rest)) rfl rfl (by rw [C0.2.1]; exact hd)
  obtain ⟨t, a1, b1⟩ := kk p l e R s m args below meth c H locs cells slots mc ms lsR (Value.int 1 :: rest) C0 hR hkk hl hP hL ⟨⟨1, rfl, rfl⟩, hs3⟩ (T.setVm vm') hT X'
  exact ⟨t, st' t a1, b1⟩
/-- more is made, what was there stays -/
def EX (M M' : Mem) : Prop := mN M ≤ mN M' ∧ ∀ b, b < mN M → mS M' b = mS M b ∧ mI M' b = mI M b ∧ mR M' b = mR M b
theorem XO.ex {M M' : Mem} (h : XO M) (hN : 92 ≤ mN M) (hE : EX M M') : XO M' := by
  have e : ∀ b, b < 92 → mS M' b = mS M b ∧ mI M' b = mI M b ∧ mR M' b = mR M b := fun b hb => hE.2 b (by omega)
  exact ⟨⟨(e 21 (by omega)).1.trans h.o, (congrFun (e 21 (by omega)).2.2 0).trans h.rows, (congrFun (e 21 (by omega)).2.2 1).trans h.reader, (congrFun (e 21 (by omega)).2.2 2).trans h.wash, (congrFun (e 21 (by omega)).2.2 3).trans h.firstImage, (congrFun (e 21 (by omega)).2.2 4).trans h.secondImage, (congrFun (e 21 (by omega)).2.2 5).trans h.draft, (congrFun (e 21 (by omega)).2.2 6).trans h.trial, (congrFun (e 21 (by omega)).2.2 7).trans h.trace, (congrFun (e 21 (by omega)).2.2 8).trans h.triedLines, (congrFun (e 21 (by omega)).2.2 9).trans h.bestLines, (congrFun (e 21 (by omega)).2.2 10).trans h.timesAlone⟩, ⟨(e 30 (by omega)).1.trans h.s8, (e 31 (by omega)).1.trans h.s9, (e 32 (by omega)).1.trans h.s10⟩, ⟨(e 22 (by omega)).1.trans h.rp.o, h.rp.lo, ⟨(congrFun (e 22 (by omega)).2.2 0).trans h.rp.lanes, (e (22 + 1) (by omega)).1.trans h.rp.s_lanes⟩, ⟨(congrFun (e 22 (by omega)).2.2 1).trans h.rp.sizes, (e (22 + 2) (by omega)).1.trans h.rp.s_sizes⟩, (congrFun (e 22 (by omega)).2.2 2).trans h.rp.items, (e (22 + 3) (by omega)).1.trans h.rp.s_items⟩, ⟨(e 26 (by omega)).1.trans h.rq.o, h.rq.lo, (congrFun (e 26 (by omega)).2.2 0).trans h.rq.tape, (e (26 + 1) (by omega)).1.trans h.rq.s_tape⟩, ⟨(e 28 (by omega)).1.trans h.tq.o, h.tq.lo, (congrFun (e 28 (by omega)).2.2 0).trans h.tq.numbers, (e (28 + 1) (by omega)).1.trans h.tq.s_numbers⟩, ⟨(e 47 (by omega)).1.trans h.w0.o, h.w0.lo, ⟨(congrFun (e 47 (by omega)).2.2 2).trans h.w0.wet, (e (47 + 1) (by omega)).1.trans h.w0.s_wet⟩, ⟨(congrFun (e 47 (by omega)).2.2 3).trans h.w0.where, (e (47 + 2) (by omega)).1.trans h.w0.s_where⟩, ⟨(congrFun (e 47 (by omega)).2.2 4).trans h.w0.stained, (e (47 + 3) (by omega)).1.trans h.w0.s_stained⟩, ⟨(congrFun (e 47 (by omega)).2.2 5).trans h.w0.dripsOn, (e (47 + 4) (by omega)).1.trans h.w0.s_dripsOn⟩, (congrFun (e 47 (by omega)).2.2 6).trans h.w0.redOn, (e (47 + 5) (by omega)).1.trans h.w0.s_redOn⟩, ⟨(e 53 (by omega)).1.trans h.w1.o, h.w1.lo, ⟨(congrFun (e 53 (by omega)).2.2 2).trans h.w1.wet, (e (53 + 1) (by omega)).1.trans h.w1.s_wet⟩, ⟨(congrFun (e 53 (by omega)).2.2 3).trans h.w1.where, (e (53 + 2) (by omega)).1.trans h.w1.s_where⟩, ⟨(congrFun (e 53 (by omega)).2.2 4).trans h.w1.stained, (e (53 + 3) (by omega)).1.trans h.w1.s_stained⟩, ⟨(congrFun (e 53 (by omega)).2.2 5).trans h.w1.dripsOn, (e (53 + 4) (by omega)).1.trans h.w1.s_dripsOn⟩, (congrFun (e 53 (by omega)).2.2 6).trans h.w1.redOn, (e (53 + 5) (by omega)).1.trans h.w1.s_redOn⟩, ⟨(e 59 (by omega)).1.trans h.w2.o, h.w2.lo, ⟨(congrFun (e 59 (by omega)).2.2 2).trans h.w2.wet, (e (59 + 1) (by omega)).1.trans h.w2.s_wet⟩, ⟨(congrFun (e 59 (by omega)).2.2 3).trans h.w2.where, (e (59 + 2) (by omega)).1.trans h.w2.s_where⟩, ⟨(congrFun (e 59 (by omega)).2.2 4).trans h.w2.stained, (e (59 + 3) (by omega)).1.trans h.w2.s_stained⟩, ⟨(congrFun (e 59 (by omega)).2.2 5).trans h.w2.dripsOn, (e (59 + 4) (by omega)).1.trans h.w2.s_dripsOn⟩, (congrFun (e 59 (by omega)).2.2 6).trans h.w2.redOn, (e (59 + 5) (by omega)).1.trans h.w2.s_redOn⟩, ⟨(e 65 (by omega)).1.trans h.w3.o, h.w3.lo, ⟨(congrFun (e 65 (by omega)).2.2 2).trans h.w3.wet, (e (65 + 1) (by omega)).1.trans h.w3.s_wet⟩, ⟨(congrFun (e 65 (by omega)).2.2 3).trans h.w3.where, (e (65 + 2) (by omega)).1.trans h.w3.s_where⟩, ⟨(congrFun (e 65 (by omega)).2.2 4).trans h.w3.stained, (e (65 + 3) (by omega)).1.trans h.w3.s_stained⟩, ⟨(congrFun (e 65 (by omega)).2.2 5).trans h.w3.dripsOn, (e (65 + 4) (by omega)).1.trans h.w3.s_dripsOn⟩, (congrFun (e 65 (by omega)).2.2 6).trans h.w3.redOn, (e (65 + 5) (by omega)).1.trans h.w3.s_redOn⟩, ⟨(e 71 (by omega)).1.trans h.w4.o, h.w4.lo, ⟨(congrFun (e 71 (by omega)).2.2 2).trans h.w4.wet, (e (71 + 1) (by omega)).1.trans h.w4.s_wet⟩, ⟨(congrFun (e 71 (by omega)).2.2 3).trans h.w4.where, (e (71 + 2) (by omega)).1.trans h.w4.s_where⟩, ⟨(congrFun (e 71 (by omega)).2.2 4).trans h.w4.stained, (e (71 + 3) (by omega)).1.trans h.w4.s_stained⟩, ⟨(congrFun (e 71 (by omega)).2.2 5).trans h.w4.dripsOn, (e (71 + 4) (by omega)).1.trans h.w4.s_dripsOn⟩, (congrFun (e 71 (by omega)).2.2 6).trans h.w4.redOn, (e (71 + 5) (by omega)).1.trans h.w4.s_redOn⟩⟩
theorem CA.ex {M M' : Mem} {a : Nat} (h : CA M a) (ha : a + 13 < mN M) (hE : EX M M') : CA M' a := by
  have e : ∀ b, b ≤ a + 13 → mS M' b = mS M b ∧ mI M' b = mI M b ∧ mR M' b = mR M b := fun b hb => hE.2 b (by omega)
  exact ⟨(e a (by omega)).1.trans h.o, h.lo, ⟨(congrFun (e a (by omega)).2.2 0).trans h.day, (e (a + 1) (by omega)).1.trans h.s_day⟩, ⟨(congrFun (e a (by omega)).2.2 2).trans h.floors, (e (a + 2) (by omega)).1.trans h.s_floors⟩, ⟨(congrFun (e a (by omega)).2.2 3).trans h.columns, (e (a + 3) (by omega)).1.trans h.s_columns⟩, ⟨(congrFun (e a (by omega)).2.2 4).trans h.wides, (e (a + 4) (by omega)).1.trans h.s_wides⟩, ⟨(congrFun (e a (by omega)).2.2 5).trans h.below, (e (a + 5) (by omega)).1.trans h.s_below⟩, ⟨(congrFun (e a (by omega)).2.2 7).trans h.rightLines, (e (a + 6) (by omega)).1.trans h.s_rightLines⟩, ⟨(congrFun (e a (by omega)).2.2 8).trans h.rightFroms, (e (a + 7) (by omega)).1.trans h.s_rightFroms⟩, ⟨(congrFun (e a (by omega)).2.2 9).trans h.rightTos, (e (a + 8) (by omega)).1.trans h.s_rightTos⟩, ⟨(congrFun (e a (by omega)).2.2 10).trans h.rightOwners, (e (a + 9) (by omega)).1.trans h.s_rightOwners⟩, ⟨(congrFun (e a (by omega)).2.2 12).trans h.kinds, (e (a + 10) (by omega)).1.trans h.s_kinds⟩, ⟨(congrFun (e a (by omega)).2.2 13).trans h.owners, (e (a + 11) (by omega)).1.trans h.s_owners⟩, ⟨(congrFun (e a (by omega)).2.2 14).trans h.firstWet, (e (a + 12) (by omega)).1.trans h.s_firstWet⟩, (congrFun (e a (by omega)).2.2 15).trans h.yards, (e (a + 13) (by omega)).1.trans h.s_yards⟩
theorem WR.ex {M M' : Mem} {w : Nat} {cd : CD} (h : WR M w cd) (hw : w + 5 < mN M) (hE : EX M M') : WR M' w cd := by
  obtain ⟨a, h1, h2, h3, h4, h5, h6, h7, h8, h9, h10⟩ := h
  have e : ∀ b j, b < mN M → mI M' b j = mI M b j := fun b j hb => congrFun (hE.2 b hb).2.1 j
  refine ⟨a, (congrFun (hE.2 w (by omega)).2.2 0).trans h1, h2.ex h4 hE, h3, Nat.lt_of_lt_of_le h4 hE.1, h5.off (fun b j b0 b1 => e b j (by omega)), fun p p0 p1 => (e _ _ (by omega)).trans (h6 p p0 p1), fun p p0 p1 => (e _ _ (by omega)).trans (h7 p p0 p1), fun p p0 p1 => (e _ _ (by omega)).trans (h8 p p0 p1), (e _ _ (by omega)).trans h9, fun p p0 p1 => ?_⟩
  rw [e _ _ (by omega)]; exact h10 p p0 p1
theorem CI.ex {M M' : Mem} {A : AS} (h : CI M A) (hE : EX M M') : CI M' A := by
  obtain ⟨x1, x2, x3, x4, x5, x6, x7, x8, x9⟩ := h
  have e : ∀ b j, b < 92 → mI M' b j = mI M b j := fun b j hb => congrFun (hE.2 b (by omega)).2.1 j
  exact ⟨x1.ex x2 hE, Nat.le_trans x2 hE.1, x3.cg (fun j => e _ _ (by omega)) (fun j => e _ _ (by omega)) (fun j => e _ _ (by omega)) (fun _ => rfl) (fun _ => rfl) (fun _ => rfl), x4.cg (e _ _ (by omega)) (fun j => e _ _ (by omega)) rfl (fun _ => rfl), x5.cg (e _ _ (by omega)) (fun j => e _ _ (by omega)) rfl (fun _ => rfl), x6.cg (e _ _ (by omega)) (e _ _ (by omega)) rfl rfl, x7.ex (by omega) hE, x8.ex (by omega) hE, x9.ex (by omega) hE⟩
theorem FX.ex {M M' : Mem} (hN : 92 ≤ mN M) (hE : EX M M') : FX M M' := ⟨hE.1, fun b b0 b1 => hE.2 b (by omega)⟩
/-- the memory with a new piece in it -/
def mPc (M : Mem) (ci : Nat) (nb we ya : Int) : Mem := mWR (mWI (mWI (mWI (mNew M (4, ci)) (mN M) 0 nb) (mN M) 1 we) (mN M) 2 ya) (mN M) 3 28
theorem mPc_ex (M : Mem) (ci : Nat) (nb we ya : Int) : EX M (mPc M ci nb we ya) := by
  refine ⟨Nat.le_succ _, fun b hb => ⟨?_, ?_, ?_⟩⟩
  · show mS (mNew M (4, ci)) b = mS M b
    exact mS_new (by omega)
  · funext j
    show up2 (up2 (up2 (mI (mNew M (4, ci))) (mN M) 0 nb) (mN M) 1 we) (mN M) 2 ya b j = mI M b j
    rw [up2_ne _ _ (by omega), up2_ne _ _ (by omega), up2_ne _ _ (by omega), mI_new (by omega)]
  · funext j
    show upN (mR (mNew M (4, ci))) (mN M) 3 28 b j = mR M b j
    rw [upN_ne _ _ (by omega), mR_new (by omega)]
theorem mPc_pq {M : Mem} {ci : Nat} {nb we ya : Int} (hN : 92 ≤ mN M) (hT : TQ M 28) (hb : 0 ≤ mI M 28 1 ∧ mI M 28 1 ≤ 16) (h1 : 0 ≤ nb ∧ nb ≤ 9) (h2 : 0 ≤ we ∧ we ≤ 99) (h3 : 1 ≤ ya ∧ ya ≤ 9) : PQ (mPc M ci nb we ya) (mN M) ci nb we ya := by
  have hE := mPc_ex M ci nb we ya
  refine ⟨mS_new0 _ _, hN, upN_self _ _ _ _, ⟨(hE.2 28 (by omega)).1.trans hT.o, hT.lo, (congrFun (hE.2 28 (by omega)).2.2 0).trans hT.numbers, (hE.2 (28 + 1) (by omega)).1.trans hT.s_numbers⟩, by rw [(hE.2 28 (by omega)).2.1]; exact hb, ?_, ?_, ?_, h1, h2, h3⟩
  · show up2 (up2 (up2 (mI (mNew M (4, ci))) (mN M) 0 nb) (mN M) 1 we) (mN M) 2 ya (mN M) 0 = nb
    rw [up2_ne _ _ (by omega), up2_ne _ _ (by omega), up2_self]
  · show up2 (up2 (up2 (mI (mNew M (4, ci))) (mN M) 0 nb) (mN M) 1 we) (mN M) 2 ya (mN M) 1 = we
    rw [up2_ne _ _ (by omega), up2_self]
  · exact up2_self _ _ _ _
/-- how a piece is filled -/
def mFi (M : Mem) (a : Nat) (nb we ya : Int) : Mem := mWR (mWI (mWI (mWI M a 0 nb) a 1 we) a 2 ya) a 3 28
def fil_ (M : Mem) (a : Nat) (nb we ya : Int) : Option MV → Mem → Prop := fun r M' => r = none ∧ M' = mFi M a nb we ya
set_option maxRecDepth 20000 in
set_option maxHeartbeats 3000000 in
theorem c_X2_init_3 {G : Ctx} {M : Mem} {a : Nat} {nb we ya : Int} (hs : mS M a = (4, 3)) (ha : 21 ≤ a) : CT G m_X2_init 1 0 0 [vR a, vI nb, vI we, vI ya, vR 28] M (fil_ M a nb we ya) := by
  refine CT.of k_X2_init 0 (ls := [some (vR a), some (vI nb), some (vI we), some (vI ya), some (vR 28)]) rfl (Nat.le_of_ble_eq_true rfl) ?_
  refine E_aload_n dX2_init_0 rfl ?_
  refine o_X2_1 rfl dX2_init_1 ha (by omega) (Nat.le_of_ble_eq_true rfl) ?_
  refine E_aload_n dX2_init_4 rfl ?_
  refine E_iload_n dX2_init_5 rfl ?_
  refine pp_X2_7_3 rfl rfl dX2_init_6 (by exact hs) ?_
  refine E_aload_n dX2_init_9 rfl ?_
  refine E_iload_n dX2_init_10 rfl ?_
  refine pp_X2_13_3 rfl rfl dX2_init_11 (by exact hs) ?_
  refine E_aload_n dX2_init_14 rfl ?_
  refine E_iload_n dX2_init_15 rfl ?_
  refine pp_X2_16_3 rfl rfl dX2_init_16 (by exact hs) ?_
  refine E_aload_n dX2_init_19 rfl ?_
  refine E_aload dX2_init_20 rfl ?_
  refine pp_X2_19_3 rfl rfl dX2_init_22 (by exact hs) (by omega) ?_
  refine E_vret dX2_init_25 rfl ?_
  exact ⟨rfl, rfl⟩
set_option maxRecDepth 20000 in
set_option maxHeartbeats 3000000 in
theorem c_X2_init_0 {G : Ctx} {M : Mem} {a : Nat} {nb we ya : Int} (hs : mS M a = (4, 0)) (ha : 21 ≤ a) : CT G m_X2_init 1 0 0 [vR a, vI nb, vI we, vI ya, vR 28] M (fil_ M a nb we ya) := by
  refine CT.of k_X2_init 0 (ls := [some (vR a), some (vI nb), some (vI we), some (vI ya), some (vR 28)]) rfl (Nat.le_of_ble_eq_true rfl) ?_
  refine E_aload_n dX2_init_0 rfl ?_
  refine o_X2_1 rfl dX2_init_1 ha (by omega) (Nat.le_of_ble_eq_true rfl) ?_
  refine E_aload_n dX2_init_4 rfl ?_
  refine E_iload_n dX2_init_5 rfl ?_
  refine pp_X2_7_0 rfl rfl dX2_init_6 (by exact hs) ?_
  refine E_aload_n dX2_init_9 rfl ?_
  refine E_iload_n dX2_init_10 rfl ?_
  refine pp_X2_13_0 rfl rfl dX2_init_11 (by exact hs) ?_
  refine E_aload_n dX2_init_14 rfl ?_
  refine E_iload_n dX2_init_15 rfl ?_
  refine pp_X2_16_0 rfl rfl dX2_init_16 (by exact hs) ?_
  refine E_aload_n dX2_init_19 rfl ?_
  refine E_aload dX2_init_20 rfl ?_
  refine pp_X2_19_0 rfl rfl dX2_init_22 (by exact hs) (by omega) ?_
  refine E_vret dX2_init_25 rfl ?_
  exact ⟨rfl, rfl⟩
set_option maxRecDepth 20000 in
set_option maxHeartbeats 3000000 in
theorem c_X2_init_9 {G : Ctx} {M : Mem} {a : Nat} {nb we ya : Int} (hs : mS M a = (4, 9)) (ha : 21 ≤ a) : CT G m_X2_init 1 0 0 [vR a, vI nb, vI we, vI ya, vR 28] M (fil_ M a nb we ya) := by
  refine CT.of k_X2_init 0 (ls := [some (vR a), some (vI nb), some (vI we), some (vI ya), some (vR 28)]) rfl (Nat.le_of_ble_eq_true rfl) ?_
  refine E_aload_n dX2_init_0 rfl ?_
  refine o_X2_1 rfl dX2_init_1 ha (by omega) (Nat.le_of_ble_eq_true rfl) ?_
  refine E_aload_n dX2_init_4 rfl ?_
  refine E_iload_n dX2_init_5 rfl ?_
  refine pp_X2_7_9 rfl rfl dX2_init_6 (by exact hs) ?_
  refine E_aload_n dX2_init_9 rfl ?_
  refine E_iload_n dX2_init_10 rfl ?_
  refine pp_X2_13_9 rfl rfl dX2_init_11 (by exact hs) ?_
  refine E_aload_n dX2_init_14 rfl ?_
  refine E_iload_n dX2_init_15 rfl ?_
  refine pp_X2_16_9 rfl rfl dX2_init_16 (by exact hs) ?_
  refine E_aload_n dX2_init_19 rfl ?_
  refine E_aload dX2_init_20 rfl ?_
  refine pp_X2_19_9 rfl rfl dX2_init_22 (by exact hs) (by omega) ?_
  refine E_vret dX2_init_25 rfl ?_
  exact ⟨rfl, rfl⟩
set_option maxRecDepth 20000 in
set_option maxHeartbeats 3000000 in
theorem c_X2_init_5 {G : Ctx} {M : Mem} {a : Nat} {nb we ya : Int} (hs : mS M a = (4, 5)) (ha : 21 ≤ a) : CT G m_X2_init 1 0 0 [vR a, vI nb, vI we, vI ya, vR 28] M (fil_ M a nb we ya) := by
  refine CT.of k_X2_init 0 (ls := [some (vR a), some (vI nb), some (vI we), some (vI ya), some (vR 28)]) rfl (Nat.le_of_ble_eq_true rfl) ?_
  refine E_aload_n dX2_init_0 rfl ?_
  refine o_X2_1 rfl dX2_init_1 ha (by omega) (Nat.le_of_ble_eq_true rfl) ?_
  refine E_aload_n dX2_init_4 rfl ?_
  refine E_iload_n dX2_init_5 rfl ?_
  refine pp_X2_7_5 rfl rfl dX2_init_6 (by exact hs) ?_
  refine E_aload_n dX2_init_9 rfl ?_
  refine E_iload_n dX2_init_10 rfl ?_
  refine pp_X2_13_5 rfl rfl dX2_init_11 (by exact hs) ?_
  refine E_aload_n dX2_init_14 rfl ?_
  refine E_iload_n dX2_init_15 rfl ?_
  refine pp_X2_16_5 rfl rfl dX2_init_16 (by exact hs) ?_
  refine E_aload_n dX2_init_19 rfl ?_
  refine E_aload dX2_init_20 rfl ?_
  refine pp_X2_19_5 rfl rfl dX2_init_22 (by exact hs) (by omega) ?_
  refine E_vret dX2_init_25 rfl ?_
  exact ⟨rfl, rfl⟩
set_option maxRecDepth 20000 in
set_option maxHeartbeats 3000000 in
theorem c_X2_init_6 {G : Ctx} {M : Mem} {a : Nat} {nb we ya : Int} (hs : mS M a = (4, 6)) (ha : 21 ≤ a) : CT G m_X2_init 1 0 0 [vR a, vI nb, vI we, vI ya, vR 28] M (fil_ M a nb we ya) := by
  refine CT.of k_X2_init 0 (ls := [some (vR a), some (vI nb), some (vI we), some (vI ya), some (vR 28)]) rfl (Nat.le_of_ble_eq_true rfl) ?_
  refine E_aload_n dX2_init_0 rfl ?_
  refine o_X2_1 rfl dX2_init_1 ha (by omega) (Nat.le_of_ble_eq_true rfl) ?_
  refine E_aload_n dX2_init_4 rfl ?_
  refine E_iload_n dX2_init_5 rfl ?_
  refine pp_X2_7_6 rfl rfl dX2_init_6 (by exact hs) ?_
  refine E_aload_n dX2_init_9 rfl ?_
  refine E_iload_n dX2_init_10 rfl ?_
  refine pp_X2_13_6 rfl rfl dX2_init_11 (by exact hs) ?_
  refine E_aload_n dX2_init_14 rfl ?_
  refine E_iload_n dX2_init_15 rfl ?_
  refine pp_X2_16_6 rfl rfl dX2_init_16 (by exact hs) ?_
  refine E_aload_n dX2_init_19 rfl ?_
  refine E_aload dX2_init_20 rfl ?_
  refine pp_X2_19_6 rfl rfl dX2_init_22 (by exact hs) (by omega) ?_
  refine E_vret dX2_init_25 rfl ?_
  exact ⟨rfl, rfl⟩
set_option maxRecDepth 20000 in
set_option maxHeartbeats 3000000 in
theorem c_X4_init_3 {G : Ctx} {M : Mem} {a : Nat} {nb we ya : Int} (hs : mS M a = (4, 3)) (ha : 21 ≤ a) : CT G m_X4_init 2 0 0 [vR a, vI nb, vI we, vI ya, vR 28] M (fil_ M a nb we ya) := by
  refine CT.of k_X4_init 0 (ls := [some (vR a), some (vI nb), some (vI we), some (vI ya), some (vR 28)]) rfl (Nat.le_of_ble_eq_true rfl) ?_
  refine E_aload_n dX4_init_0 rfl ?_
  refine E_iload_n dX4_init_1 rfl ?_
  refine E_iload_n dX4_init_2 rfl ?_
  refine E_iload_n dX4_init_3 rfl ?_
  refine E_aload dX4_init_4 rfl ?_
  refine i_X4_1 rfl dX4_init_6 ha (c_X2_init_3 hs ha) (by omega) (Nat.le_of_ble_eq_true rfl) rfl rfl ?_
  rintro _ _ ⟨rfl, rfl⟩
  try dsimp only [pu]
  refine E_vret dX4_init_9 rfl ?_
  exact ⟨rfl, rfl⟩
set_option maxRecDepth 20000 in
set_option maxHeartbeats 3000000 in
theorem c_X4_init_0 {G : Ctx} {M : Mem} {a : Nat} {nb we ya : Int} (hs : mS M a = (4, 0)) (ha : 21 ≤ a) : CT G m_X4_init 2 0 0 [vR a, vI nb, vI we, vI ya, vR 28] M (fil_ M a nb we ya) := by
  refine CT.of k_X4_init 0 (ls := [some (vR a), some (vI nb), some (vI we), some (vI ya), some (vR 28)]) rfl (Nat.le_of_ble_eq_true rfl) ?_
  refine E_aload_n dX4_init_0 rfl ?_
  refine E_iload_n dX4_init_1 rfl ?_
  refine E_iload_n dX4_init_2 rfl ?_
  refine E_iload_n dX4_init_3 rfl ?_
  refine E_aload dX4_init_4 rfl ?_
  refine i_X4_1 rfl dX4_init_6 ha (c_X2_init_0 hs ha) (by omega) (Nat.le_of_ble_eq_true rfl) rfl rfl ?_
  rintro _ _ ⟨rfl, rfl⟩
  try dsimp only [pu]
  refine E_vret dX4_init_9 rfl ?_
  exact ⟨rfl, rfl⟩
set_option maxRecDepth 20000 in
set_option maxHeartbeats 3000000 in
theorem c_X0_init_0 {G : Ctx} {M : Mem} {a : Nat} {nb we ya : Int} (hs : mS M a = (4, 0)) (ha : 21 ≤ a) : CT G m_X0_init 3 0 0 [vR a, vI nb, vI we, vI ya, vR 28] M (fil_ M a nb we ya) := by
  refine CT.of k_X0_init 0 (ls := [some (vR a), some (vI nb), some (vI we), some (vI ya), some (vR 28)]) rfl (Nat.le_of_ble_eq_true rfl) ?_
  refine E_aload_n dX0_init_0 rfl ?_
  refine E_iload_n dX0_init_1 rfl ?_
  refine E_iload_n dX0_init_2 rfl ?_
  refine E_iload_n dX0_init_3 rfl ?_
  refine E_aload dX0_init_4 rfl ?_
  refine i_X0_1 rfl dX0_init_6 ha (c_X4_init_0 hs ha) (by omega) (Nat.le_of_ble_eq_true rfl) rfl rfl ?_
  rintro _ _ ⟨rfl, rfl⟩
  try dsimp only [pu]
  refine E_vret dX0_init_9 rfl ?_
  exact ⟨rfl, rfl⟩
set_option maxRecDepth 20000 in
set_option maxHeartbeats 3000000 in
theorem c_X10_init_9 {G : Ctx} {M : Mem} {a : Nat} {nb we ya : Int} (hs : mS M a = (4, 9)) (ha : 21 ≤ a) : CT G m_X10_init 2 0 0 [vR a, vI nb, vI we, vI ya, vR 28] M (fil_ M a nb we ya) := by
  refine CT.of k_X10_init 0 (ls := [some (vR a), some (vI nb), some (vI we), some (vI ya), some (vR 28)]) rfl (Nat.le_of_ble_eq_true rfl) ?_
  refine E_aload_n dX10_init_0 rfl ?_
  refine E_iload_n dX10_init_1 rfl ?_
  refine E_iload_n dX10_init_2 rfl ?_
  refine E_iload_n dX10_init_3 rfl ?_
  refine E_aload dX10_init_4 rfl ?_
  refine i_X10_1 rfl dX10_init_6 ha (c_X2_init_9 hs ha) (by omega) (Nat.le_of_ble_eq_true rfl) rfl rfl ?_
  rintro _ _ ⟨rfl, rfl⟩
  try dsimp only [pu]
  refine E_vret dX10_init_9 rfl ?_
  exact ⟨rfl, rfl⟩
set_option maxRecDepth 20000 in
set_option maxHeartbeats 3000000 in
theorem c_X10_init_6 {G : Ctx} {M : Mem} {a : Nat} {nb we ya : Int} (hs : mS M a = (4, 6)) (ha : 21 ≤ a) : CT G m_X10_init 2 0 0 [vR a, vI nb, vI we, vI ya, vR 28] M (fil_ M a nb we ya) := by
  refine CT.of k_X10_init 0 (ls := [some (vR a), some (vI nb), some (vI we), some (vI ya), some (vR 28)]) rfl (Nat.le_of_ble_eq_true rfl) ?_
  refine E_aload_n dX10_init_0 rfl ?_
  refine E_iload_n dX10_init_1 rfl ?_
  refine E_iload_n dX10_init_2 rfl ?_
  refine E_iload_n dX10_init_3 rfl ?_
  refine E_aload dX10_init_4 rfl ?_
  refine i_X10_1 rfl dX10_init_6 ha (c_X2_init_6 hs ha) (by omega) (Nat.le_of_ble_eq_true rfl) rfl rfl ?_
  rintro _ _ ⟨rfl, rfl⟩
  try dsimp only [pu]
  refine E_vret dX10_init_9 rfl ?_
  exact ⟨rfl, rfl⟩
set_option maxRecDepth 20000 in
set_option maxHeartbeats 3000000 in
theorem c_X7_init_6 {G : Ctx} {M : Mem} {a : Nat} {nb we ya : Int} (hs : mS M a = (4, 6)) (ha : 21 ≤ a) : CT G m_X7_init 3 0 0 [vR a, vI nb, vI we, vI ya, vR 28] M (fil_ M a nb we ya) := by
  refine CT.of k_X7_init 0 (ls := [some (vR a), some (vI nb), some (vI we), some (vI ya), some (vR 28)]) rfl (Nat.le_of_ble_eq_true rfl) ?_
  refine E_aload_n dX7_init_0 rfl ?_
  refine E_iload_n dX7_init_1 rfl ?_
  refine E_iload_n dX7_init_2 rfl ?_
  refine E_iload_n dX7_init_3 rfl ?_
  refine E_aload dX7_init_4 rfl ?_
  refine i_X7_1 rfl dX7_init_6 ha (c_X10_init_6 hs ha) (by omega) (Nat.le_of_ble_eq_true rfl) rfl rfl ?_
  rintro _ _ ⟨rfl, rfl⟩
  try dsimp only [pu]
  refine E_vret dX7_init_9 rfl ?_
  exact ⟨rfl, rfl⟩
set_option maxRecDepth 20000 in
set_option maxHeartbeats 3000000 in
theorem c_X6_init_5 {G : Ctx} {M : Mem} {a : Nat} {nb we ya : Int} (hs : mS M a = (4, 5)) (ha : 21 ≤ a) : CT G m_X6_init 2 0 0 [vR a, vI nb, vI we, vI ya, vR 28] M (fil_ M a nb we ya) := by
  refine CT.of k_X6_init 0 (ls := [some (vR a), some (vI nb), some (vI we), some (vI ya), some (vR 28)]) rfl (Nat.le_of_ble_eq_true rfl) ?_
  refine E_aload_n dX6_init_0 rfl ?_
  refine E_iload_n dX6_init_1 rfl ?_
  refine E_iload_n dX6_init_2 rfl ?_
  refine E_iload_n dX6_init_3 rfl ?_
  refine E_aload dX6_init_4 rfl ?_
  refine i_X6_1 rfl dX6_init_6 ha (c_X2_init_5 hs ha) (by omega) (Nat.le_of_ble_eq_true rfl) rfl rfl ?_
  rintro _ _ ⟨rfl, rfl⟩
  try dsimp only [pu]
  refine E_vret dX6_init_9 rfl ?_
  exact ⟨rfl, rfl⟩
