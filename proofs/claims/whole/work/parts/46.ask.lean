theorem qw_1035 : Cond.methodLink "CourtWash$Sock" 23 ⟨"CourtWash$Wool", "mark", "()I"⟩ ∈ AW := aw_mem (List.mem_of_getElem? (i := 1035) (by decide +kernel)) (by decide +kernel)
theorem qw_1036 : Cond.sameMethod "CourtWash$Wool" "CourtWash$Piece" "mark" "()I" ∈ AW := aw_mem (List.mem_of_getElem? (i := 1036) (by decide +kernel)) (by decide +kernel)
theorem qw_971 : Cond.superclass "CourtWash$Sock" "CourtWash$Wool" ∈ AW := aw_mem (List.mem_of_getElem? (i := 971) (by decide +kernel)) (by decide +kernel)
theorem qw_949 : Cond.superclass "CourtWash$Wool" "CourtWash$Piece" ∈ AW := aw_mem (List.mem_of_getElem? (i := 949) (by decide +kernel)) (by decide +kernel)
theorem qw_1008 : Cond.instanceMethod yX2_mark ∈ AW := aw_mem (List.mem_of_getElem? (i := 1008) (by decide +kernel)) (by decide +kernel)
/-! ===== 46: a superclass's method that it inherits; as, ask ===== -/
theorem sub_up {vm : Vm} {w p : ClassId} {k : Class} (h : vm.classes[w]? = some k) (hs : k.super = some p) : vm.isSubclass w p = true := by
  have hz : w < vm.classes.size := (Array.getElem?_eq_some_iff.mp h).1
  unfold Vm.isSubclass
  cases hn : vm.classes.size with
  | zero => rw [hn] at hz; exact absurd hz (Nat.not_lt_zero _)
  | succ n => simp [Vm.isSubclassAux, h, hs]
section PIF
variable {G : Ctx} {mt : MT} {d kc ks : Nat} {Q : Option MV → Mem → Prop} {pc : Nat} {ls : List (Option MV)} {st : List MV} {M : Mem}
theorem E_callSI {mt' : MT} {d' mc' ms' idx : Nat} {Q' : Option MV → Mem → Prop} {b ci : Nat} {q : vw_C} {x : MethodName} (hxn : mt'.1 = ⟨mt'.1.cls, x.name, x.desc⟩) (hl1 : Cond.methodLink mt.1.cls idx x ∈ AW) (hl2 : Cond.sameMethod x.cls mt'.1.cls x.name x.desc ∈ AW) (hl3 : Cond.superclass mt.1.cls x.cls ∈ AW) (hl5 : Cond.superclass x.cls mt'.1.cls ∈ AW) (hl4 : Cond.instanceMethod mt'.1 ∈ AW) (hno : x.name ≠ "<init>") (hpd : (parseMethodDescriptor mt'.1.desc).map (fun d => d.parameters.length) = some 0) (hc : cls_[ci]? = some q) (hs : mS M b = (4, ci)) (hd : decode mt.2.1 pc = .ok (.invokespecial idx, 3)) (hm : MK mt' 0) (hct : CT G mt' d' mc' ms' [vR b] M Q') (hdd : d' + 1 ≤ d) (hw : (st.map wd).sum ≤ 8) (k : ∀ r M', Q' r M' → EV G mt d kc ks Q (pc + 3) ls (pu r st) M') : EV G mt d (kc + mc') (ks + ms') Q pc ls (vR b :: st) M := by
  intro p l e R s m args below meth c H locs cells slots mc ms lsR stR C0 hR hkk hl hP hL hst
  have hts := C0.2.2.2.2.1
  have hK := C0.2.2.2.2.2.2.2.2
  obtain ⟨w, rest, rfl, hv, hs3⟩ := hst.c
  have hv : w = rfv G b := hv
  obtain ⟨hb, r, V, h1, ⟨cell, q1, q2, q3, q4⟩, h3⟩ := hP.obj hs
  rw [rfv_hi hb] at hv
  subst hv
  obtain ⟨hfc, kB, hkB, -⟩ := (hK.1.1 ci q hc).2
  have hlv : lsR.size = mt.2.2.1 := by obtain ⟨lv, q, -⟩ := hL; exact q.1
  refine EV.behind (a := (Value.ref (am G b) :: []).toArray) C0 hR hkk hl hL hs3 ?_ k
  have hws : ∀ w ∈ (Cond.code mt'.1 mt'.2.1 mt'.2.2.1 mt'.2.2.2 :: AW), ∀ (a' : Array Value) (U : State), s.WarmedH U.vm → w.before a' U = true := pay_in hts (aw_good hm.1)
  have hBk : Back l R p e below s args mt'.1 3 8 (PreOf R mc' ms' (PX G [vR b] M)) (PostOf (QX G Q') mc' ms' (fun q => gb G ≤ q)) := back_of (bytes := mt'.2.1) (maxL := mt'.2.2.1) (ret := mt'.2.2.2) (hct l) PX.blind rfl rfl (by show d' + 1 ≤ _; omega) (by have := hm.2.2.2.1; show 8 + (_ + 11) + 64 * d' ≤ _; omega) hws List.mem_cons_self (fun a' U hW => word_at hW (Or.inl (by first | rfl | simp [Cond.onTables, Cond.keeps, Cond.steady])) (hts _ hm.2.1))
  intro T hT X
  obtain ⟨mk, methM, hnamed, hmethM, hstM, habM⟩ := Cond.instanceMethod_spec (hts _ hl4)
  obtain ⟨methM', cM, hmethM', -, -, -, -, -, -, hsigM⟩ := Cond.code_spec hnamed (hts _ hm.1)
  cases hmethM.symm.trans hmethM'
  obtain ⟨ps, dk, kp, hps, hdk, hkp, hsuper, -, -, hnid⟩ := Cond.superclass_spec C0.2.2.2.1 (hts _ hl3)
  obtain ⟨ps2, dk2, kp2, hps2, hdk2, hkp2, hsuper2, -, -, -⟩ := Cond.superclass_spec hps (hts _ hl5)
  have hpm : ps2 = mk.cls := Option.some.inj (hps2.symm.trans (findClass_of_methodNamed hnamed))
  have hsub : s.vm.isSubclass ps mk.cls = true := by rw [← hpm]; exact sub_up hdk2 hsuper2
  have hn : s.methodNamed? ⟨mt'.1.cls, x.name, x.desc⟩ = some mk := by rw [← hxn]; exact hnamed
  have hlen : (0 : Nat) = methM.sig.parameters.length := by
    have h2 := hpd
    rw [hsigM] at h2
    exact (Option.some.inj h2).symm
  obtain ⟨vm₁, X₁, hstep₁⟩ := X.invokespecialUp C0.1 C0.2.2.2.1 (hts _ hl1) (hts _ hl2) hn hmethM hstM habM hno hdk hnid hps hsuper hsub (a := am G b) (cell := cell) (kcell := kB) (by rw [hT]; exact q1)
    (fun z h => by rw [q3] at h; cases h) (by rw [q2]; exact hkB) (g := F0 m pc lsR (.ref (am G b) :: rest)) rfl (argsL := []) (rest := rest) hlen rfl (by rw [C0.2.1]; exact hd)
  obtain ⟨v, B, X', hpost, hsteps⟩ := hBk m meth c ⟨T.setVm vm₁, locs, cells, slots⟩ { F0 m pc lsR (.ref (am G b) :: rest) with stack := rest } (.invokespecial idx) mk (Value.ref (am G b) :: []).toArray X₁ rfl (by show lsR.size = _; rw [hlv, C0.2.2.1]) (by rw [C0.2.1]; exact hd) (by show 2 * 0 + _ ≤ 8; rw [wd_sum hK hs3]; omega) (X₁.named hnamed) ⟨by show cells + mc' ≤ _; omega, by show slots + ms' ≤ _; omega, ⟨⟨_, rfl, ⟨(rfv_hi hb).symm, trivial⟩⟩, by show RepM G M T.heap; rw [hT]; exact hP, hK.warm X₁.warmed⟩⟩
  obtain ⟨g', mk', t, L, e1, e2, hq, h1', hL', h2', h3'⟩ := hpost
  obtain ⟨U', l2, c2, s2⟩ := B
  dsimp only [Pt.U, Pt.locs, Pt.cells, Pt.slots] at X' e1 e2 h1' h2' h3' hsteps
  subst h1'; subst h2'; subst h3'
  exact ⟨v, _, t, U', L, hT, X', hL', e1, e2, hq, fun target h => hstep₁ _ (by rw [doInvoke_state]; exact hsteps.trans h)⟩
end PIF
set_option maxRecDepth 20000 in
set_option maxHeartbeats 3000000 in
theorem c_X7_mark_6 {G : Ctx} {M : Mem} {a : Nat} {nb we ya : Int} (hP : PQ M a 6 nb we ya) : CT G m_X7_mark 4 0 0 [vR a] M (pB M (nb + 10 * (2 * (we - ya))) [23, 20, 14, 13, 10]) := by
  refine CT.of k_X7_mark 0 (ls := [some (vR a)]) rfl (Nat.le_of_ble_eq_true rfl) ?_
  have hb := hP.bd
  refine E_aload_n dX7_mark_0 rfl ?_
  refine g_X7_7 rfl dX7_mark_1 (by exact hP.o) (by exact hP.tr) ?_
  refine E_bipush dX7_mark_4 (by decide) ?_
  refine i_X7_13 rfl dX7_mark_6 (by exact hP.tq.o) (c_tBegin (by exact hP.tq.o) (by exact hP.tq.numbers) (by exact hP.tq.s_numbers) (by exact hP.tb.1) (by exact hP.tb.2)) (by omega) (Nat.le_of_ble_eq_true rfl) rfl rfl ?_
  rintro _ _ ⟨rfl, I1, rfl, rfl⟩
  have hP := hP.bg [23]
  change EV _ _ _ _ _ _ _ _ _ (mJ _ (bgI (mI _) [23]))
  try dsimp only [pu]
  refine E_aload_n dX7_mark_9 rfl ?_
  refine E_callSI (mt' := m_X2_mark) (ci := 6) (x := ⟨"CourtWash$Wool", "mark", "()I"⟩) rfl qw_1035 qw_1036 qw_971 qw_949 qw_1008 (by decide) (by decide +kernel) rfl (by exact hP.o) dX7_mark_10 k_X2_mark (c_X2_mark_6 hP) (by omega) (Nat.le_of_ble_eq_true rfl) ?_
  rintro _ _ ⟨rfl, rfl⟩
  have hP := hP.bg [20]
  try dsimp only [pu]
  refine E_bipush dX7_mark_13 (by decide) ?_
  refine E_aload_n dX7_mark_15 rfl ?_
  refine i_X7_26 rfl dX7_mark_16 (by exact hP.o) (c_X7_size_6 hP) (by omega) (Nat.le_of_ble_eq_true rfl) rfl rfl ?_
  rintro _ _ ⟨rfl, rfl⟩
  try dsimp only [pu]
  refine E_imul dX7_mark_19 (by omega) (by omega) ?_
  refine E_iadd dX7_mark_20 (by omega) (by omega) ?_
  refine E_iret dX7_mark_21 rfl ?_
  exact ⟨rfl, rfl⟩
