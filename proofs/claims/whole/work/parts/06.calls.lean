/-! ===== 06: calls ===== -/
theorem KX.warm {G : Ctx} {s U : State} (hW : s.WarmedH U.vm) (h : KX G s) : KX G U := by
  obtain ⟨h1, ⟨a1, a2, a3⟩, ⟨f1, f2, f3⟩, ⟨x1, x2⟩, ⟨s1, s2, s3, s4⟩, hr, hn⟩ := h
  have hal := hW.alike
  refine ⟨va_K.moved hal h1, ⟨arrOfT_moved hal a1, arrOfT_moved hal a2, arrOfT_moved hal a3⟩, ⟨by rw [hal.findClass]; exact f1, by rw [hal.findClass]; exact f2, by rw [hal.findClass]; exact f3⟩, ⟨x1.moved hal, x2⟩, ⟨s1.moved hal, s2.moved hal, s3.moved hal, s4⟩, ?_, ?_⟩
  · exact ⟨fun i q hq => vk_R.warm hW (hr.1 i q hq), fun i q hq => (hr.2 i q hq).moved hal⟩
  · intro i q hq
    exact va_Nw.warmM hW (hn i q hq)
theorem KX.same {G : Ctx} {s U : State} (hv : U.vm = s.vm) (h : KX G s) : KX G U := h.warm (by rw [hv]; exact State.WarmedH.refl s)
theorem PX.blind {G : Ctx} {as : List MV} {M : Mem} : FrameBlind (PX G as M) := fun a U g mk h => ⟨h.1, h.2.1, KX.same rfl h.2.2⟩
/-- where the arguments lie among the locals -/
def entL : List MV → List (Option MV)
  | [] => []
  | .inl x :: as => some (.inl x) :: entL as
  | .inr (.inl x) :: as => some (.inr (.inl x)) :: entL as
  | .inr (.inr x) :: as => some (.inr (.inr x)) :: none :: entL as
theorem vr_wide {G : Ctx} {x : Int} {v : Value} (h : VR G (vL x) v) : v.category = 2 := by
  obtain ⟨i, rfl, -⟩ := h
  rfl
theorem lg_1 {v : Value} {vs : List Value} (h : v.category = 1) : (lg_sl (v :: vs)).length = (lg_sl vs).length + 1 := by
  simp [lg_sl, h]
theorem lg_2 {v : Value} {vs : List Value} (h : v.category = 2) : (lg_sl (v :: vs)).length = (lg_sl vs).length + 2 := by
  simp [lg_sl, h]
theorem ent_len {G : Ctx} {s : State} (hK : KX G s) : ∀ {as : List MV} {vs : List Value}, VRs G as vs → (lg_sl vs).length = (entL as).length
  | [], [], _ => rfl
  | .inl x :: as, v :: vs, h => by
    rw [lg_1 (vr_c1 hK h.1 rfl), ent_len hK (as := as) (vs := vs) h.2]; simp [entL]
  | .inr (.inl x) :: as, v :: vs, h => by
    rw [lg_1 (vr_c1 hK h.1 rfl), ent_len hK (as := as) (vs := vs) h.2]; simp [entL]
  | .inr (.inr x) :: as, v :: vs, h => by
    rw [lg_2 (vr_wide h.1), ent_len hK (as := as) (vs := vs) h.2]; simp [entL]
  | [], _ :: _, h => absurd h (by simp [VRs])
  | _ :: _, [], h => absurd h (by simp [VRs])
theorem ent_has {G : Ctx} {s : State} (hK : KX G s) : ∀ {as : List MV} {vs : List Value} (off k : Nat), VRs G as vs → ∀ (i : Nat) (x : MV), (entL as ++ List.replicate k none)[i]? = some (some x) → ∃ v, (off + i, v) ∈ lv_args off vs ∧ VR G x v
  | [], [], off, k, _, i, x, hx => by
    simp only [entL, List.nil_append] at hx
    have := List.mem_of_getElem? hx
    have := List.eq_of_mem_replicate this
    cases this

  | .inl z :: as, v :: vs, off, k, h, i, x, hx => by
    have hc := vr_c1 hK h.1 rfl
    cases i with
    | zero => simp [entL] at hx; subst hx; exact ⟨v, by simp [lv_args], h.1⟩
    | succ i =>
      simp only [entL, List.cons_append, List.getElem?_cons_succ] at hx
      obtain ⟨w, q1, q2⟩ := ent_has hK (off + 1) k (as := as) (vs := vs) h.2 i x hx
      refine ⟨w, ?_, q2⟩
      have e : lv_args off (v :: vs) = (off, v) :: lv_args (off + 1) vs := by simp [lv_args, hc]
      rw [e, show off + (i + 1) = off + 1 + i by omega]
      exact List.mem_cons_of_mem _ q1
  | .inr (.inl z) :: as, v :: vs, off, k, h, i, x, hx => by
    have hc := vr_c1 hK h.1 rfl
    cases i with
    | zero => simp [entL] at hx; subst hx; exact ⟨v, by simp [lv_args], h.1⟩
    | succ i =>
      simp only [entL, List.cons_append, List.getElem?_cons_succ] at hx
      obtain ⟨w, q1, q2⟩ := ent_has hK (off + 1) k (as := as) (vs := vs) h.2 i x hx
      refine ⟨w, ?_, q2⟩
      have e : lv_args off (v :: vs) = (off, v) :: lv_args (off + 1) vs := by simp [lv_args, hc]
      rw [e, show off + (i + 1) = off + 1 + i by omega]
      exact List.mem_cons_of_mem _ q1
  | .inr (.inr z) :: as, v :: vs, off, k, h, i, x, hx => by
    have hc := vr_wide h.1
    match i, hx with
    | 0, hx => simp [entL] at hx; subst hx; exact ⟨v, by simp [lv_args], h.1⟩
    | 1, hx => simp [entL] at hx
    | i + 2, hx =>
      simp only [entL, List.cons_append, List.getElem?_cons_succ] at hx
      obtain ⟨w, q1, q2⟩ := ent_has hK (off + 2) k (as := as) (vs := vs) h.2 i x hx
      refine ⟨w, ?_, q2⟩
      have e : lv_args off (v :: vs) = (off, v) :: lv_args (off + 2) vs := by simp [lv_args, hc]
      rw [e, show off + (i + 2) = off + 2 + i by omega]
      exact List.mem_cons_of_mem _ q1
  | [], _ :: _, _, _, h, _, _, _ => absurd h (by simp [VRs])
  | _ :: _, [], _, _, h, _, _, _ => absurd h (by simp [VRs])
/-- a method's own words: its code is among the tables', its class is ready, so many parameters -/
def MK (mt : MT) (n : Nat) : Prop := Cond.code mt.1 mt.2.1 mt.2.2.1 mt.2.2.2 ∈ AW ∧ Cond.initialized mt.1.cls ∈ AW ∧ (mt.1.cls ≠ "java/lang/invoke/MethodHandle" ∧ mt.1.cls ≠ "java/lang/invoke/VarHandle" ∧ (parseMethodDescriptor mt.1.desc).map (fun d => d.parameters.length) = some n) ∧ mt.2.2.1 ≤ 45 ∧ plainFor mt.1 = true
/-- a method's contract out of its body, also in a class of which some methods are run by an entry instead -/
theorem Met.ofF {l : Launch} {y : MethodName} {ws ws' : List Cond} {rm : Room} {Pc : Array Value → State → Prop} {Qc : Array Value → State → Outcome → State → Prop} {mc ms : Nat} {free : Addr → Prop} {cc : ByteArray} {maxL : Nat} {ret : Option FieldType}
    (hy : plainFor y = true) (hw : ws = Cond.code y cc maxL ret :: ws')
    (body : ∀ p e s m args below meth c s₁, BodyLoose p l y (headSpec ws rm) cc maxL ret e s m args below meth c s₁ → c.maxLocals = maxL → Pc args s →
      W p l e (headSpec ws rm).room s m args below meth c s.heap [] 0 0 (MQ below Qc args s mc ms free) (entryFrame m args maxL)) : Met l y ws rm Pc Qc mc ms free := by
  refine MetFree.of_bodySF (code := cc) (maxLocals := maxL) (ret := ret) hy (fun args s m h hn => ?_) (fun p e s m args below meth c s₁ B hml hP _ => ?_)
  · obtain ⟨meth, c, h1, h2, h3, h4, h5, h6, -, -⟩ := Cond.code_spec hn (atoms_spec (ws := ws) h _ (by rw [hw]; exact List.mem_cons_self))
    exact ⟨meth, c, h1, h2, h3, h4, h5, h6⟩
  · obtain ⟨t, a1, o, b1, b2, b3⟩ := body p e s m args below meth c s₁ B hml hP s₁ (by rw [B.state]; rfl) (Stand.of_body B)
    exact ⟨t, o, a1, b1, b2, ⟨b3.1, b3.2⟩⟩
/-- THE CONTRACT out of a walk from the entry -/
theorem CT.of {G : Ctx} {mt : MT} {d mc ms n : Nat} {as : List MV} {M : Mem} {Q : Option MV → Mem → Prop} (hm : MK mt n) (k : Nat) {ls : List (Option MV)} (hls : entL as ++ List.replicate k none = ls) (hlen : (entL as).length ≤ mt.2.2.1) (h : EV G mt d mc ms Q 0 ls [] M) : CT G mt d mc ms as M Q := by
  intro l
  refine Met.ofF (cc := mt.2.1) (maxL := mt.2.2.1) (ret := mt.2.2.2) hm.2.2.2.2 rfl ?_
  intro p e s m args below meth c s₁ B hml hv
  obtain ⟨⟨vs, rfl, hvs⟩, hP, hK⟩ := hv
  have hts := atoms_spec (ws := Cond.code mt.1 mt.2.1 mt.2.2.1 mt.2.2.2 :: AW) B.pre
  rw [lg_entry_eq]
  have hn := name_of_methodNamed B.named B.method
  have hl := lv_entry vs (n := mt.2.2.1) (by rw [ent_len hK hvs]; exact hlen)
  refine h p l e _ s m _ below meth c s.heap [] 0 0 mc ms _ [] ⟨B.exec, B.bytes, hml, findClass_of_methodNamed B.named, fun w hw => hts w (List.mem_cons_of_mem _ hw), B.returns, B.notSynchronized, hn.1, hK⟩ ⟨Nat.le_refl _, Nat.le_refl _, Nat.le_refl _, Nat.le_refl _⟩ ⟨by omega, by omega⟩ (fun q h => by cases h) hP ⟨_, hl, ?_⟩ trivial
  intro i x hx
  rw [← hls] at hx
  have q := ent_has hK 0 k hvs i x hx
  rw [Nat.zero_add] at q
  exact q
def pu : Option MV → List MV → List MV
  | none, st => st
  | some a, st => a :: st
theorem pu_vr {G : Ctx} {r : Option MV} {v : Option Value} {st : List MV} {vs : List Value} (h : OR G r v) (hs : VRs G st vs) : VRs G (pu r st) (v.toList ++ vs) := by
  match r, v, h with
  | none, none, _ => exact hs
  | some a, some v, h => exact ⟨h, hs⟩
def wd : MV → Nat
  | .inr (.inr _) => 2
  | _ => 1
theorem wd_sum {G : Ctx} {s : State} (hK : KX G s) : ∀ {as : List MV} {vs : List Value}, VRs G as vs → (vs.map fun v => v.category).sum = (as.map wd).sum
  | [], [], _ => rfl
  | a :: as, v :: vs, h => by
    simp only [List.map_cons, List.sum_cons]
    rw [wd_sum hK (as := as) (vs := vs) h.2]
    congr 1
    match a, h.1 with
    | .inl x, q => exact vr_c1 hK q rfl
    | .inr (.inl x), q => exact vr_c1 hK q rfl
    | .inr (.inr x), q => exact vr_wide q
  | [], _ :: _, h => absurd h (by simp [VRs])
  | _ :: _, [], h => absurd h (by simp [VRs])
section EVC
variable {G : Ctx} {mt : MT} {d kc ks : Nat} {Q : Option MV → Mem → Prop} {pc : Nat} {ls : List (Option MV)} {st : List MV} {M : Mem}
/-- behind a call -/
theorem EV.behind {p : Program} {l : Launch} {e : Env} {R : Room} {s : State} {m : MethodId} {args : Array Value} {below : List Frame} {meth : Method} {c : Code} {H : Heap} {locs : List Loc} {cells slots mc ms mc' ms' : Nat} {lsR : Array Slot} {stk rest : List Value} {a : Array Value} {Q' : Option MV → Mem → Prop}
    (C0 : CX G mt p s m args meth c) (hR : d ≤ R.frames ∧ 64 * d ≤ R.locals ∧ mc ≤ R.cells ∧ ms ≤ R.slots) (hkk : cells + (kc + mc') ≤ mc ∧ slots + (ks + ms') ≤ ms) (hl : ∀ q ∈ locs, gb G ≤ q.base) (hL : LR G ls lsR mt.2.2.1) (hst : VRs G st rest)
    (hr : va_Run p l e R s m args below meth c H locs cells slots mc' ms' (F0 m pc lsR stk) rest (QX G Q' a) (fun q => gb G ≤ q))
    (k : ∀ r M', Q' r M' → EV G mt d kc ks Q (pc + 3) ls (pu r st) M') : W p l e R s m args below meth c H locs cells slots (MQ below (QX G Q) args s mc ms (fun q => gb G ≤ q)) (F0 m pc lsR stk) := by
  intro T hT X
  obtain ⟨v, st₀, t, T', L, h0, X', hL', e1, e2, ⟨r, v', M', hv, hor, hq, hrep⟩, stp⟩ := hr T hT X
  cases hv
  obtain ⟨t2, a1, b1⟩ := k r M' hq p l e R s m args below meth c T'.heap (locs ++ L) (cells + mc') (slots + ms') mc ms lsR (v.toList ++ rest) C0 hR (by omega) (fun q h => (List.mem_append.mp h).elim (hl q) (hL' q)) (by rw [e1]; exact hrep) hL (pu_vr hor hst) T' rfl X'
  exact ⟨t2, stp t2 a1, b1⟩
theorem callB_ct {R : Room} {s : State} {args : Array Value} {mt' : MT} {d' mc' ms' n idx : Nat} {own : String} (hts : ∀ w ∈ AW, w.before args s = true) (hm : MK mt' n) (hl : Cond.methodLink own idx mt'.1 ∈ AW) (hf : d' + 1 ≤ R.frames) (hlo : 64 * (d' + 1) ≤ R.locals) :
    CallB R s args own idx mt'.1 mt'.2.1 mt'.2.2.1 mt'.2.2.2 (Cond.code mt'.1 mt'.2.1 mt'.2.2.1 mt'.2.2.2 :: AW) (rmX d' mc' ms') mc' ms' n :=
  callB_of n hts (aw_good hm.1) rfl rfl rfl (hts _ hm.2.1) (hts _ hl) hm.2.2.1 ⟨hf, by have := hm.2.2.2.1; show 8 + (_ + 11) + 64 * d' ≤ _; omega⟩
theorem callN_ct {R : Room} {s : State} {args : Array Value} {mt' : MT} {d' mc' ms' n idx : Nat} {own host : String} (hts : ∀ w ∈ AW, w.before args s = true) (hm : MK mt' n) (hl : va_Nw (.methodLinkNest own idx mt'.1 host) s) (hf : d' + 1 ≤ R.frames) (hlo : 64 * (d' + 1) ≤ R.locals) :
    va_CN R s args own idx mt'.1 host mt'.2.1 mt'.2.2.1 mt'.2.2.2 (Cond.code mt'.1 mt'.2.1 mt'.2.2.1 mt'.2.2.2 :: AW) (rmX d' mc' ms') mc' ms' n :=
  va_cnB n hts (aw_good hm.1) rfl rfl rfl hl (hts _ hm.2.1) hm.2.2.1 ⟨hf, by have := hm.2.2.2.1; show 8 + (_ + 11) + 64 * d' ≤ _; omega⟩

/-- a static method -/
theorem E_callS {mt' : MT} {d' mc' ms' n idx : Nat} {as : List MV} {Q' : Option MV → Mem → Prop} (hsw : Cond.static mt'.1 ∈ AW) (hd : decode mt.2.1 pc = .ok (.invokestatic idx, 3)) (hm : MK mt' n) (hlk : Cond.methodLink mt.1.cls idx mt'.1 ∈ AW) (hct : CT G mt' d' mc' ms' as M Q') (hn : as.length = n) (hdd : d' + 1 ≤ d) (hw : (st.map wd).sum ≤ 8) (k : ∀ r M', Q' r M' → EV G mt d kc ks Q (pc + 3) ls (pu r st) M') : EV G mt d (kc + mc') (ks + ms') Q pc ls (as.reverse ++ st) M := by
  intro p l e R s m args below meth c H locs cells slots mc ms lsR stR C0 hR hkk hl hP hL hst
  have hts := C0.2.2.2.2.1
  have hK := C0.2.2.2.2.2.2.2.2
  obtain ⟨v1, v2, rfl, ha, hs2⟩ := hst.split
  have hrl := VRs.rev ha
  rw [List.reverse_reverse] at hrl
  have hv1 : v1 = v1.reverse.reverse := (List.reverse_reverse v1).symm
  refine EV.behind C0 hR hkk hl hL hs2 (va_runS  (As := v1.reverse) (rest := v2) ⟨C0.1, C0.2.1, C0.2.2.1, C0.2.2.2.1, hts⟩ (hct l) ⟨callB_ct (d' := d') hts hm hlk (by omega) (by omega), hts _ hsw⟩ ⟨PX.blind, fun U hU hW => ⟨⟨_, rfl, hrl⟩, by rw [hU]; exact hP, hK.warm hW⟩⟩ rfl ?_ ?_ ?_ (lv_room (by rw [wd_sum hK hs2]; exact hw)) hd ⟨by omega, by omega⟩) k
  · rw [List.length_reverse, ← VRs.len ha, List.length_reverse]; exact hn
  · obtain ⟨lv, q, -⟩ := hL; exact q.1
  · rw [List.reverse_reverse]
/-- a private static method of a nest mate -/
theorem E_callSN {mt' : MT} {d' mc' ms' n idx : Nat} {as : List MV} {Q' : Option MV → Mem → Prop} (hsw : Cond.static mt'.1 ∈ AW) {i : Nat} (hd : decode mt.2.1 pc = .ok (.invokestatic idx, 3)) (hm : MK mt' n) (hlk : nestL[i]? = some (mt.1.cls, idx, mt'.1)) (hct : CT G mt' d' mc' ms' as M Q') (hn : as.length = n) (hdd : d' + 1 ≤ d) (hw : (st.map wd).sum ≤ 8) (k : ∀ r M', Q' r M' → EV G mt d kc ks Q (pc + 3) ls (pu r st) M') : EV G mt d (kc + mc') (ks + ms') Q pc ls (as.reverse ++ st) M := by
  intro p l e R s m args below meth c H locs cells slots mc ms lsR stR C0 hR hkk hl hP hL hst
  have hts := C0.2.2.2.2.1
  have hK := C0.2.2.2.2.2.2.2.2
  obtain ⟨v1, v2, rfl, ha, hs2⟩ := hst.split
  have hrl := VRs.rev ha
  rw [List.reverse_reverse] at hrl
  have hv1 : v1 = v1.reverse.reverse := (List.reverse_reverse v1).symm
  refine EV.behind C0 hR hkk hl hL hs2 (va_runSN (host := "CourtWash") (As := v1.reverse) (rest := v2) ⟨C0.1, C0.2.1, C0.2.2.1, C0.2.2.2.1, hts⟩ (hct l) ⟨callN_ct (d' := d') hts hm (hK.2.2.2.2.2.2 i _ hlk) (by omega) (by omega), hts _ hsw, trivial⟩ ⟨PX.blind, fun U hU hW => ⟨⟨_, rfl, hrl⟩, by rw [hU]; exact hP, hK.warm hW⟩⟩ rfl ?_ ?_ ?_ (lv_room (by rw [wd_sum hK hs2]; exact hw)) hd ⟨by omega, by omega⟩) k
  · rw [List.length_reverse, ← VRs.len ha, List.length_reverse]; exact hn
  · obtain ⟨lv, q, -⟩ := hL; exact q.1
  · rw [List.reverse_reverse]
/-- an instance method that its class declares, on an object of just that class -/
theorem E_callV {mt' : MT} {d' mc' ms' n idx : Nat} {as : List MV} {Q' : Option MV → Mem → Prop} {b ci : Nat} {q : vw_C} (hi : Cond.instanceMethod mt'.1 ∈ AW) (hse : Cond.selects q.1 mt'.1 mt'.1 ∈ AW) (hc : cls_[ci]? = some q) (hs : mS M b = (4, ci)) (hd : decode mt.2.1 pc = .ok (.invokevirtual idx, 3)) (hm : MK mt' n) (hlk : Cond.methodLink mt.1.cls idx mt'.1 ∈ AW) (hct : CT G mt' d' mc' ms' (vR b :: as) M Q') (hn : as.length = n) (hdd : d' + 1 ≤ d) (hw : (st.map wd).sum ≤ 8) (k : ∀ r M', Q' r M' → EV G mt d kc ks Q (pc + 3) ls (pu r st) M') : EV G mt d (kc + mc') (ks + ms') Q pc ls (as.reverse ++ vR b :: st) M := by
  intro p l e R s m args below meth c H locs cells slots mc ms lsR stR C0 hR hkk hl hP hL hst
  have hts := C0.2.2.2.2.1
  have hK := C0.2.2.2.2.2.2.2.2
  obtain ⟨v1, v2, rfl, ha, hs2⟩ := hst.split
  have hrl := VRs.rev ha
  rw [List.reverse_reverse] at hrl
  have hv1 : v1 = v1.reverse.reverse := (List.reverse_reverse v1).symm
  obtain ⟨w, rest, rfl, hv, hs3⟩ := hs2.c
  have hv : w = rfv G b := hv
  obtain ⟨hb, r, V, h1, ⟨cell, q1, q2, q3, q4⟩, h3⟩ := hP.obj hs
  rw [rfv_hi hb] at hv
  subst hv
  refine EV.behind C0 hR hkk hl hL hs3 (va_runV (C := q.1) (b := am G b) (As := v1.reverse) (rest := rest) ⟨C0.1, C0.2.1, C0.2.2.1, C0.2.2.2.1, hts⟩ (hct l) ⟨callB_ct (d' := d') hts hm hlk (by omega) (by omega), hts _ hi, hts _ hse⟩ ⟨PX.blind, ⟨cell, q1, by rw [q3]; rfl, by rw [q2]; exact (hK.1.1 ci q hc).2.1⟩, fun U hU hW => ⟨⟨_, rfl, ⟨(rfv_hi hb).symm, hrl⟩⟩, by rw [hU]; exact hP, hK.warm hW⟩⟩ rfl ?_ ?_ ?_ (lv_room (by rw [wd_sum hK hs3]; exact hw)) hd ⟨by omega, by omega⟩) k
  · rw [List.length_reverse, ← VRs.len ha, List.length_reverse]; exact hn
  · obtain ⟨lv, q, -⟩ := hL; exact q.1
  · rw [List.reverse_reverse]
/-- a constructor -/
theorem E_callI {mt' : MT} {d' mc' ms' n idx : Nat} {as : List MV} {Q' : Option MV → Mem → Prop} {b : Nat} (hb : 21 ≤ b) (hnm : mt'.1.name = "<init>") (hrt : mt'.2.2.2 = none) (hi : Cond.instanceMethod mt'.1 ∈ AW) (hd : decode mt.2.1 pc = .ok (.invokespecial idx, 3)) (hm : MK mt' n) (hlk : Cond.methodLink mt.1.cls idx mt'.1 ∈ AW) (hct : CT G mt' d' mc' ms' (vR b :: as) M Q') (hn : as.length = n) (hdd : d' + 1 ≤ d) (hw : (st.map wd).sum ≤ 8) (k : ∀ r M', Q' r M' → EV G mt d kc ks Q (pc + 3) ls (pu r st) M') : EV G mt d (kc + mc') (ks + ms') Q pc ls (as.reverse ++ vR b :: st) M := by
  intro p l e R s m args below meth c H locs cells slots mc ms lsR stR C0 hR hkk hl hP hL hst
  have hts := C0.2.2.2.2.1
  have hK := C0.2.2.2.2.2.2.2.2
  obtain ⟨v1, v2, rfl, ha, hs2⟩ := hst.split
  have hrl := VRs.rev ha
  rw [List.reverse_reverse] at hrl
  have hv1 : v1 = v1.reverse.reverse := (List.reverse_reverse v1).symm
  obtain ⟨w, rest, rfl, hv, hs3⟩ := hs2.c
  have hv : w = rfv G b := hv
  rw [rfv_hi hb] at hv
  subst hv
  have hcl := hct l
  rw [hrt] at hcl
  have hcb := callB_ct (d' := d') (mc' := mc') (ms' := ms') (R := R) hts hm hlk (by omega) (by omega)
  rw [hrt] at hcb
  refine EV.behind C0 hR hkk hl hL hs3 (va_runI (b := am G b) (As := v1.reverse) (rest := rest) ⟨C0.1, C0.2.1, C0.2.2.1, C0.2.2.2.1, hts⟩ hcl ⟨hcb, hnm, hts _ hi⟩ ⟨PX.blind, fun U hU hW => ⟨⟨_, rfl, ⟨(rfv_hi hb).symm, hrl⟩⟩, by rw [hU]; exact hP, hK.warm hW⟩⟩ rfl ?_ ?_ ?_ (lv_room (by rw [wd_sum hK hs3]; exact hw)) hd ⟨by omega, by omega⟩) k
  · rw [List.length_reverse, ← VRs.len ha, List.length_reverse]; exact hn
  · obtain ⟨lv, q, -⟩ := hL; exact q.1
  · rw [List.reverse_reverse]
theorem E_callIN {mt' : MT} {d' mc' ms' n idx : Nat} {as : List MV} {Q' : Option MV → Mem → Prop} {b : Nat} (hb : 21 ≤ b) (hnm : mt'.1.name = "<init>") (hrt : mt'.2.2.2 = none) (hi : Cond.instanceMethod mt'.1 ∈ AW) {i : Nat} (hd : decode mt.2.1 pc = .ok (.invokespecial idx, 3)) (hm : MK mt' n) (hlk : nestL[i]? = some (mt.1.cls, idx, mt'.1)) (hct : CT G mt' d' mc' ms' (vR b :: as) M Q') (hn : as.length = n) (hdd : d' + 1 ≤ d) (hw : (st.map wd).sum ≤ 8) (k : ∀ r M', Q' r M' → EV G mt d kc ks Q (pc + 3) ls (pu r st) M') : EV G mt d (kc + mc') (ks + ms') Q pc ls (as.reverse ++ vR b :: st) M := by
  intro p l e R s m args below meth c H locs cells slots mc ms lsR stR C0 hR hkk hl hP hL hst
  have hts := C0.2.2.2.2.1
  have hK := C0.2.2.2.2.2.2.2.2
  obtain ⟨v1, v2, rfl, ha, hs2⟩ := hst.split
  have hrl := VRs.rev ha
  rw [List.reverse_reverse] at hrl
  have hv1 : v1 = v1.reverse.reverse := (List.reverse_reverse v1).symm
  obtain ⟨w, rest, rfl, hv, hs3⟩ := hs2.c
  have hv : w = rfv G b := hv
  rw [rfv_hi hb] at hv
  subst hv
  have hcl := hct l
  rw [hrt] at hcl
  have hcb := callN_ct (d' := d') (mc' := mc') (ms' := ms') (R := R) hts hm (hK.2.2.2.2.2.2 i _ hlk) (by omega) (by omega)
  rw [hrt] at hcb
  refine EV.behind C0 hR hkk hl hL hs3 (va_runIN (host := "CourtWash") (b := am G b) (As := v1.reverse) (rest := rest) ⟨C0.1, C0.2.1, C0.2.2.1, C0.2.2.2.1, hts⟩ hcl ⟨hcb, hnm, hts _ hi⟩ ⟨PX.blind, fun U hU hW => ⟨⟨_, rfl, ⟨(rfv_hi hb).symm, hrl⟩⟩, by rw [hU]; exact hP, hK.warm hW⟩⟩ rfl ?_ ?_ ?_ (lv_room (by rw [wd_sum hK hs3]; exact hw)) hd ⟨by omega, by omega⟩) k
  · rw [List.length_reverse, ← VRs.len ha, List.length_reverse]; exact hn
  · obtain ⟨lv, q, -⟩ := hL; exact q.1
  · rw [List.reverse_reverse]
/-- Object's own constructor -/
theorem E_objInit {b idx : Nat} (hd : decode mt.2.1 pc = .ok (.invokespecial idx, 3)) (hb : 21 ≤ b) (hlk : Cond.methodLink mt.1.cls idx Lib.objectInit ∈ AW) (hi : Cond.instanceMethod Lib.objectInit ∈ AW) (hco : Cond.code Lib.objectInit ⟨#[0xb1]⟩ 1 none ∈ AW) (hdd : 1 ≤ d) (hw : (st.map wd).sum ≤ 8) (k : EV G mt d kc ks Q (pc + 3) ls st M) : EV G mt d kc ks Q pc ls (vR b :: st) M := by
  intro p l e R s m args below meth c H locs cells slots mc ms lsR stR C0 hR hkk hl hP hL hst
  have hts := C0.2.2.2.2.1
  have hK := C0.2.2.2.2.2.2.2.2
  obtain ⟨w, rest, rfl, hv, hs3⟩ := hst.c
  have hv : w = rfv G b := hv
  rw [rfv_hi hb] at hv
  subst hv
  refine W.objInit C0.1 C0.2.1 C0.2.2.2.1 (hts _ hlk) (hts _ hi) (hts _ hco) rfl ?_ rfl hd (by omega) ?_ (k p l e R s m args below meth c H locs cells slots mc ms lsR _ C0 hR hkk hl hP hL hs3)
  · obtain ⟨lv, q, -⟩ := hL
    rw [C0.2.2.1]; exact q.1
  · show 2 * 0 + _ + 12 ≤ _
    rw [wd_sum hK hs3]
    omega

theorem E_callS1 {mt' : MT} {d' mc' ms' idx : Nat} {a1 : MV} {Q' : Option MV → Mem → Prop} (hsw : Cond.static mt'.1 ∈ AW) (hd : decode mt.2.1 pc = .ok (.invokestatic idx, 3)) (hm : MK mt' 1) (hlk : Cond.methodLink mt.1.cls idx mt'.1 ∈ AW) (hct : CT G mt' d' mc' ms' [a1] M Q') (hdd : d' + 1 ≤ d) (hw : (st.map wd).sum ≤ 8) (k : ∀ r M', Q' r M' → EV G mt d kc ks Q (pc + 3) ls (pu r st) M') : EV G mt d (kc + mc') (ks + ms') Q pc ls (a1 :: st) M := E_callS (as := [a1]) hsw hd hm hlk hct rfl hdd hw k
theorem E_callS2 {mt' : MT} {d' mc' ms' idx : Nat} {a1 a2 : MV} {Q' : Option MV → Mem → Prop} (hsw : Cond.static mt'.1 ∈ AW) (hd : decode mt.2.1 pc = .ok (.invokestatic idx, 3)) (hm : MK mt' 2) (hlk : Cond.methodLink mt.1.cls idx mt'.1 ∈ AW) (hct : CT G mt' d' mc' ms' [a1, a2] M Q') (hdd : d' + 1 ≤ d) (hw : (st.map wd).sum ≤ 8) (k : ∀ r M', Q' r M' → EV G mt d kc ks Q (pc + 3) ls (pu r st) M') : EV G mt d (kc + mc') (ks + ms') Q pc ls (a2 :: a1 :: st) M := E_callS (as := [a1, a2]) hsw hd hm hlk hct rfl hdd hw k
theorem E_callS3 {mt' : MT} {d' mc' ms' idx : Nat} {a1 a2 a3 : MV} {Q' : Option MV → Mem → Prop} (hsw : Cond.static mt'.1 ∈ AW) (hd : decode mt.2.1 pc = .ok (.invokestatic idx, 3)) (hm : MK mt' 3) (hlk : Cond.methodLink mt.1.cls idx mt'.1 ∈ AW) (hct : CT G mt' d' mc' ms' [a1, a2, a3] M Q') (hdd : d' + 1 ≤ d) (hw : (st.map wd).sum ≤ 8) (k : ∀ r M', Q' r M' → EV G mt d kc ks Q (pc + 3) ls (pu r st) M') : EV G mt d (kc + mc') (ks + ms') Q pc ls (a3 :: a2 :: a1 :: st) M := E_callS (as := [a1, a2, a3]) hsw hd hm hlk hct rfl hdd hw k
theorem E_callS4 {mt' : MT} {d' mc' ms' idx : Nat} {a1 a2 a3 a4 : MV} {Q' : Option MV → Mem → Prop} (hsw : Cond.static mt'.1 ∈ AW) (hd : decode mt.2.1 pc = .ok (.invokestatic idx, 3)) (hm : MK mt' 4) (hlk : Cond.methodLink mt.1.cls idx mt'.1 ∈ AW) (hct : CT G mt' d' mc' ms' [a1, a2, a3, a4] M Q') (hdd : d' + 1 ≤ d) (hw : (st.map wd).sum ≤ 8) (k : ∀ r M', Q' r M' → EV G mt d kc ks Q (pc + 3) ls (pu r st) M') : EV G mt d (kc + mc') (ks + ms') Q pc ls (a4 :: a3 :: a2 :: a1 :: st) M := E_callS (as := [a1, a2, a3, a4]) hsw hd hm hlk hct rfl hdd hw k
theorem E_callS5 {mt' : MT} {d' mc' ms' idx : Nat} {a1 a2 a3 a4 a5 : MV} {Q' : Option MV → Mem → Prop} (hsw : Cond.static mt'.1 ∈ AW) (hd : decode mt.2.1 pc = .ok (.invokestatic idx, 3)) (hm : MK mt' 5) (hlk : Cond.methodLink mt.1.cls idx mt'.1 ∈ AW) (hct : CT G mt' d' mc' ms' [a1, a2, a3, a4, a5] M Q') (hdd : d' + 1 ≤ d) (hw : (st.map wd).sum ≤ 8) (k : ∀ r M', Q' r M' → EV G mt d kc ks Q (pc + 3) ls (pu r st) M') : EV G mt d (kc + mc') (ks + ms') Q pc ls (a5 :: a4 :: a3 :: a2 :: a1 :: st) M := E_callS (as := [a1, a2, a3, a4, a5]) hsw hd hm hlk hct rfl hdd hw k
theorem E_callS6 {mt' : MT} {d' mc' ms' idx : Nat} {a1 a2 a3 a4 a5 a6 : MV} {Q' : Option MV → Mem → Prop} (hsw : Cond.static mt'.1 ∈ AW) (hd : decode mt.2.1 pc = .ok (.invokestatic idx, 3)) (hm : MK mt' 6) (hlk : Cond.methodLink mt.1.cls idx mt'.1 ∈ AW) (hct : CT G mt' d' mc' ms' [a1, a2, a3, a4, a5, a6] M Q') (hdd : d' + 1 ≤ d) (hw : (st.map wd).sum ≤ 8) (k : ∀ r M', Q' r M' → EV G mt d kc ks Q (pc + 3) ls (pu r st) M') : EV G mt d (kc + mc') (ks + ms') Q pc ls (a6 :: a5 :: a4 :: a3 :: a2 :: a1 :: st) M := E_callS (as := [a1, a2, a3, a4, a5, a6]) hsw hd hm hlk hct rfl hdd hw k
theorem E_callS7 {mt' : MT} {d' mc' ms' idx : Nat} {a1 a2 a3 a4 a5 a6 a7 : MV} {Q' : Option MV → Mem → Prop} (hsw : Cond.static mt'.1 ∈ AW) (hd : decode mt.2.1 pc = .ok (.invokestatic idx, 3)) (hm : MK mt' 7) (hlk : Cond.methodLink mt.1.cls idx mt'.1 ∈ AW) (hct : CT G mt' d' mc' ms' [a1, a2, a3, a4, a5, a6, a7] M Q') (hdd : d' + 1 ≤ d) (hw : (st.map wd).sum ≤ 8) (k : ∀ r M', Q' r M' → EV G mt d kc ks Q (pc + 3) ls (pu r st) M') : EV G mt d (kc + mc') (ks + ms') Q pc ls (a7 :: a6 :: a5 :: a4 :: a3 :: a2 :: a1 :: st) M := E_callS (as := [a1, a2, a3, a4, a5, a6, a7]) hsw hd hm hlk hct rfl hdd hw k
theorem E_callSN1 {mt' : MT} {d' mc' ms' idx : Nat} {a1 : MV} {Q' : Option MV → Mem → Prop} (hsw : Cond.static mt'.1 ∈ AW) {i : Nat} (hd : decode mt.2.1 pc = .ok (.invokestatic idx, 3)) (hm : MK mt' 1) (hlk : nestL[i]? = some (mt.1.cls, idx, mt'.1)) (hct : CT G mt' d' mc' ms' [a1] M Q') (hdd : d' + 1 ≤ d) (hw : (st.map wd).sum ≤ 8) (k : ∀ r M', Q' r M' → EV G mt d kc ks Q (pc + 3) ls (pu r st) M') : EV G mt d (kc + mc') (ks + ms') Q pc ls (a1 :: st) M := E_callSN (as := [a1]) hsw hd hm hlk hct rfl hdd hw k
theorem E_callSN2 {mt' : MT} {d' mc' ms' idx : Nat} {a1 a2 : MV} {Q' : Option MV → Mem → Prop} (hsw : Cond.static mt'.1 ∈ AW) {i : Nat} (hd : decode mt.2.1 pc = .ok (.invokestatic idx, 3)) (hm : MK mt' 2) (hlk : nestL[i]? = some (mt.1.cls, idx, mt'.1)) (hct : CT G mt' d' mc' ms' [a1, a2] M Q') (hdd : d' + 1 ≤ d) (hw : (st.map wd).sum ≤ 8) (k : ∀ r M', Q' r M' → EV G mt d kc ks Q (pc + 3) ls (pu r st) M') : EV G mt d (kc + mc') (ks + ms') Q pc ls (a2 :: a1 :: st) M := E_callSN (as := [a1, a2]) hsw hd hm hlk hct rfl hdd hw k
theorem E_callSN3 {mt' : MT} {d' mc' ms' idx : Nat} {a1 a2 a3 : MV} {Q' : Option MV → Mem → Prop} (hsw : Cond.static mt'.1 ∈ AW) {i : Nat} (hd : decode mt.2.1 pc = .ok (.invokestatic idx, 3)) (hm : MK mt' 3) (hlk : nestL[i]? = some (mt.1.cls, idx, mt'.1)) (hct : CT G mt' d' mc' ms' [a1, a2, a3] M Q') (hdd : d' + 1 ≤ d) (hw : (st.map wd).sum ≤ 8) (k : ∀ r M', Q' r M' → EV G mt d kc ks Q (pc + 3) ls (pu r st) M') : EV G mt d (kc + mc') (ks + ms') Q pc ls (a3 :: a2 :: a1 :: st) M := E_callSN (as := [a1, a2, a3]) hsw hd hm hlk hct rfl hdd hw k
theorem E_callSN4 {mt' : MT} {d' mc' ms' idx : Nat} {a1 a2 a3 a4 : MV} {Q' : Option MV → Mem → Prop} (hsw : Cond.static mt'.1 ∈ AW) {i : Nat} (hd : decode mt.2.1 pc = .ok (.invokestatic idx, 3)) (hm : MK mt' 4) (hlk : nestL[i]? = some (mt.1.cls, idx, mt'.1)) (hct : CT G mt' d' mc' ms' [a1, a2, a3, a4] M Q') (hdd : d' + 1 ≤ d) (hw : (st.map wd).sum ≤ 8) (k : ∀ r M', Q' r M' → EV G mt d kc ks Q (pc + 3) ls (pu r st) M') : EV G mt d (kc + mc') (ks + ms') Q pc ls (a4 :: a3 :: a2 :: a1 :: st) M := E_callSN (as := [a1, a2, a3, a4]) hsw hd hm hlk hct rfl hdd hw k
theorem E_callSN5 {mt' : MT} {d' mc' ms' idx : Nat} {a1 a2 a3 a4 a5 : MV} {Q' : Option MV → Mem → Prop} (hsw : Cond.static mt'.1 ∈ AW) {i : Nat} (hd : decode mt.2.1 pc = .ok (.invokestatic idx, 3)) (hm : MK mt' 5) (hlk : nestL[i]? = some (mt.1.cls, idx, mt'.1)) (hct : CT G mt' d' mc' ms' [a1, a2, a3, a4, a5] M Q') (hdd : d' + 1 ≤ d) (hw : (st.map wd).sum ≤ 8) (k : ∀ r M', Q' r M' → EV G mt d kc ks Q (pc + 3) ls (pu r st) M') : EV G mt d (kc + mc') (ks + ms') Q pc ls (a5 :: a4 :: a3 :: a2 :: a1 :: st) M := E_callSN (as := [a1, a2, a3, a4, a5]) hsw hd hm hlk hct rfl hdd hw k
theorem E_callSN6 {mt' : MT} {d' mc' ms' idx : Nat} {a1 a2 a3 a4 a5 a6 : MV} {Q' : Option MV → Mem → Prop} (hsw : Cond.static mt'.1 ∈ AW) {i : Nat} (hd : decode mt.2.1 pc = .ok (.invokestatic idx, 3)) (hm : MK mt' 6) (hlk : nestL[i]? = some (mt.1.cls, idx, mt'.1)) (hct : CT G mt' d' mc' ms' [a1, a2, a3, a4, a5, a6] M Q') (hdd : d' + 1 ≤ d) (hw : (st.map wd).sum ≤ 8) (k : ∀ r M', Q' r M' → EV G mt d kc ks Q (pc + 3) ls (pu r st) M') : EV G mt d (kc + mc') (ks + ms') Q pc ls (a6 :: a5 :: a4 :: a3 :: a2 :: a1 :: st) M := E_callSN (as := [a1, a2, a3, a4, a5, a6]) hsw hd hm hlk hct rfl hdd hw k
theorem E_callSN7 {mt' : MT} {d' mc' ms' idx : Nat} {a1 a2 a3 a4 a5 a6 a7 : MV} {Q' : Option MV → Mem → Prop} (hsw : Cond.static mt'.1 ∈ AW) {i : Nat} (hd : decode mt.2.1 pc = .ok (.invokestatic idx, 3)) (hm : MK mt' 7) (hlk : nestL[i]? = some (mt.1.cls, idx, mt'.1)) (hct : CT G mt' d' mc' ms' [a1, a2, a3, a4, a5, a6, a7] M Q') (hdd : d' + 1 ≤ d) (hw : (st.map wd).sum ≤ 8) (k : ∀ r M', Q' r M' → EV G mt d kc ks Q (pc + 3) ls (pu r st) M') : EV G mt d (kc + mc') (ks + ms') Q pc ls (a7 :: a6 :: a5 :: a4 :: a3 :: a2 :: a1 :: st) M := E_callSN (as := [a1, a2, a3, a4, a5, a6, a7]) hsw hd hm hlk hct rfl hdd hw k
theorem E_callV0 {mt' : MT} {d' mc' ms' idx : Nat} {Q' : Option MV → Mem → Prop} {b ci : Nat} {q : vw_C} (hi : Cond.instanceMethod mt'.1 ∈ AW) (hse : Cond.selects q.1 mt'.1 mt'.1 ∈ AW) (hc : cls_[ci]? = some q) (hs : mS M b = (4, ci)) (hd : decode mt.2.1 pc = .ok (.invokevirtual idx, 3)) (hm : MK mt' 0) (hlk : Cond.methodLink mt.1.cls idx mt'.1 ∈ AW) (hct : CT G mt' d' mc' ms' [vR b] M Q') (hdd : d' + 1 ≤ d) (hw : (st.map wd).sum ≤ 8) (k : ∀ r M', Q' r M' → EV G mt d kc ks Q (pc + 3) ls (pu r st) M') : EV G mt d (kc + mc') (ks + ms') Q pc ls (vR b :: st) M := E_callV (as := []) hi hse hc hs hd hm hlk hct rfl hdd hw k
theorem E_callV1 {mt' : MT} {d' mc' ms' idx : Nat} {a1 : MV} {Q' : Option MV → Mem → Prop} {b ci : Nat} {q : vw_C} (hi : Cond.instanceMethod mt'.1 ∈ AW) (hse : Cond.selects q.1 mt'.1 mt'.1 ∈ AW) (hc : cls_[ci]? = some q) (hs : mS M b = (4, ci)) (hd : decode mt.2.1 pc = .ok (.invokevirtual idx, 3)) (hm : MK mt' 1) (hlk : Cond.methodLink mt.1.cls idx mt'.1 ∈ AW) (hct : CT G mt' d' mc' ms' [vR b, a1] M Q') (hdd : d' + 1 ≤ d) (hw : (st.map wd).sum ≤ 8) (k : ∀ r M', Q' r M' → EV G mt d kc ks Q (pc + 3) ls (pu r st) M') : EV G mt d (kc + mc') (ks + ms') Q pc ls (a1 :: vR b :: st) M := E_callV (as := [a1]) hi hse hc hs hd hm hlk hct rfl hdd hw k
theorem E_callV2 {mt' : MT} {d' mc' ms' idx : Nat} {a1 a2 : MV} {Q' : Option MV → Mem → Prop} {b ci : Nat} {q : vw_C} (hi : Cond.instanceMethod mt'.1 ∈ AW) (hse : Cond.selects q.1 mt'.1 mt'.1 ∈ AW) (hc : cls_[ci]? = some q) (hs : mS M b = (4, ci)) (hd : decode mt.2.1 pc = .ok (.invokevirtual idx, 3)) (hm : MK mt' 2) (hlk : Cond.methodLink mt.1.cls idx mt'.1 ∈ AW) (hct : CT G mt' d' mc' ms' [vR b, a1, a2] M Q') (hdd : d' + 1 ≤ d) (hw : (st.map wd).sum ≤ 8) (k : ∀ r M', Q' r M' → EV G mt d kc ks Q (pc + 3) ls (pu r st) M') : EV G mt d (kc + mc') (ks + ms') Q pc ls (a2 :: a1 :: vR b :: st) M := E_callV (as := [a1, a2]) hi hse hc hs hd hm hlk hct rfl hdd hw k
theorem E_callV3 {mt' : MT} {d' mc' ms' idx : Nat} {a1 a2 a3 : MV} {Q' : Option MV → Mem → Prop} {b ci : Nat} {q : vw_C} (hi : Cond.instanceMethod mt'.1 ∈ AW) (hse : Cond.selects q.1 mt'.1 mt'.1 ∈ AW) (hc : cls_[ci]? = some q) (hs : mS M b = (4, ci)) (hd : decode mt.2.1 pc = .ok (.invokevirtual idx, 3)) (hm : MK mt' 3) (hlk : Cond.methodLink mt.1.cls idx mt'.1 ∈ AW) (hct : CT G mt' d' mc' ms' [vR b, a1, a2, a3] M Q') (hdd : d' + 1 ≤ d) (hw : (st.map wd).sum ≤ 8) (k : ∀ r M', Q' r M' → EV G mt d kc ks Q (pc + 3) ls (pu r st) M') : EV G mt d (kc + mc') (ks + ms') Q pc ls (a3 :: a2 :: a1 :: vR b :: st) M := E_callV (as := [a1, a2, a3]) hi hse hc hs hd hm hlk hct rfl hdd hw k
theorem E_callV4 {mt' : MT} {d' mc' ms' idx : Nat} {a1 a2 a3 a4 : MV} {Q' : Option MV → Mem → Prop} {b ci : Nat} {q : vw_C} (hi : Cond.instanceMethod mt'.1 ∈ AW) (hse : Cond.selects q.1 mt'.1 mt'.1 ∈ AW) (hc : cls_[ci]? = some q) (hs : mS M b = (4, ci)) (hd : decode mt.2.1 pc = .ok (.invokevirtual idx, 3)) (hm : MK mt' 4) (hlk : Cond.methodLink mt.1.cls idx mt'.1 ∈ AW) (hct : CT G mt' d' mc' ms' [vR b, a1, a2, a3, a4] M Q') (hdd : d' + 1 ≤ d) (hw : (st.map wd).sum ≤ 8) (k : ∀ r M', Q' r M' → EV G mt d kc ks Q (pc + 3) ls (pu r st) M') : EV G mt d (kc + mc') (ks + ms') Q pc ls (a4 :: a3 :: a2 :: a1 :: vR b :: st) M := E_callV (as := [a1, a2, a3, a4]) hi hse hc hs hd hm hlk hct rfl hdd hw k
theorem E_callV5 {mt' : MT} {d' mc' ms' idx : Nat} {a1 a2 a3 a4 a5 : MV} {Q' : Option MV → Mem → Prop} {b ci : Nat} {q : vw_C} (hi : Cond.instanceMethod mt'.1 ∈ AW) (hse : Cond.selects q.1 mt'.1 mt'.1 ∈ AW) (hc : cls_[ci]? = some q) (hs : mS M b = (4, ci)) (hd : decode mt.2.1 pc = .ok (.invokevirtual idx, 3)) (hm : MK mt' 5) (hlk : Cond.methodLink mt.1.cls idx mt'.1 ∈ AW) (hct : CT G mt' d' mc' ms' [vR b, a1, a2, a3, a4, a5] M Q') (hdd : d' + 1 ≤ d) (hw : (st.map wd).sum ≤ 8) (k : ∀ r M', Q' r M' → EV G mt d kc ks Q (pc + 3) ls (pu r st) M') : EV G mt d (kc + mc') (ks + ms') Q pc ls (a5 :: a4 :: a3 :: a2 :: a1 :: vR b :: st) M := E_callV (as := [a1, a2, a3, a4, a5]) hi hse hc hs hd hm hlk hct rfl hdd hw k
theorem E_callV6 {mt' : MT} {d' mc' ms' idx : Nat} {a1 a2 a3 a4 a5 a6 : MV} {Q' : Option MV → Mem → Prop} {b ci : Nat} {q : vw_C} (hi : Cond.instanceMethod mt'.1 ∈ AW) (hse : Cond.selects q.1 mt'.1 mt'.1 ∈ AW) (hc : cls_[ci]? = some q) (hs : mS M b = (4, ci)) (hd : decode mt.2.1 pc = .ok (.invokevirtual idx, 3)) (hm : MK mt' 6) (hlk : Cond.methodLink mt.1.cls idx mt'.1 ∈ AW) (hct : CT G mt' d' mc' ms' [vR b, a1, a2, a3, a4, a5, a6] M Q') (hdd : d' + 1 ≤ d) (hw : (st.map wd).sum ≤ 8) (k : ∀ r M', Q' r M' → EV G mt d kc ks Q (pc + 3) ls (pu r st) M') : EV G mt d (kc + mc') (ks + ms') Q pc ls (a6 :: a5 :: a4 :: a3 :: a2 :: a1 :: vR b :: st) M := E_callV (as := [a1, a2, a3, a4, a5, a6]) hi hse hc hs hd hm hlk hct rfl hdd hw k
theorem E_callV7 {mt' : MT} {d' mc' ms' idx : Nat} {a1 a2 a3 a4 a5 a6 a7 : MV} {Q' : Option MV → Mem → Prop} {b ci : Nat} {q : vw_C} (hi : Cond.instanceMethod mt'.1 ∈ AW) (hse : Cond.selects q.1 mt'.1 mt'.1 ∈ AW) (hc : cls_[ci]? = some q) (hs : mS M b = (4, ci)) (hd : decode mt.2.1 pc = .ok (.invokevirtual idx, 3)) (hm : MK mt' 7) (hlk : Cond.methodLink mt.1.cls idx mt'.1 ∈ AW) (hct : CT G mt' d' mc' ms' [vR b, a1, a2, a3, a4, a5, a6, a7] M Q') (hdd : d' + 1 ≤ d) (hw : (st.map wd).sum ≤ 8) (k : ∀ r M', Q' r M' → EV G mt d kc ks Q (pc + 3) ls (pu r st) M') : EV G mt d (kc + mc') (ks + ms') Q pc ls (a7 :: a6 :: a5 :: a4 :: a3 :: a2 :: a1 :: vR b :: st) M := E_callV (as := [a1, a2, a3, a4, a5, a6, a7]) hi hse hc hs hd hm hlk hct rfl hdd hw k
theorem E_callI0 {mt' : MT} {d' mc' ms' idx : Nat} {Q' : Option MV → Mem → Prop} {b : Nat} (hb : 21 ≤ b) (hnm : mt'.1.name = "<init>") (hrt : mt'.2.2.2 = none) (hi : Cond.instanceMethod mt'.1 ∈ AW) (hd : decode mt.2.1 pc = .ok (.invokespecial idx, 3)) (hm : MK mt' 0) (hlk : Cond.methodLink mt.1.cls idx mt'.1 ∈ AW) (hct : CT G mt' d' mc' ms' [vR b] M Q') (hdd : d' + 1 ≤ d) (hw : (st.map wd).sum ≤ 8) (k : ∀ r M', Q' r M' → EV G mt d kc ks Q (pc + 3) ls (pu r st) M') : EV G mt d (kc + mc') (ks + ms') Q pc ls (vR b :: st) M := E_callI (as := []) hb hnm hrt hi hd hm hlk hct rfl hdd hw k
theorem E_callI1 {mt' : MT} {d' mc' ms' idx : Nat} {a1 : MV} {Q' : Option MV → Mem → Prop} {b : Nat} (hb : 21 ≤ b) (hnm : mt'.1.name = "<init>") (hrt : mt'.2.2.2 = none) (hi : Cond.instanceMethod mt'.1 ∈ AW) (hd : decode mt.2.1 pc = .ok (.invokespecial idx, 3)) (hm : MK mt' 1) (hlk : Cond.methodLink mt.1.cls idx mt'.1 ∈ AW) (hct : CT G mt' d' mc' ms' [vR b, a1] M Q') (hdd : d' + 1 ≤ d) (hw : (st.map wd).sum ≤ 8) (k : ∀ r M', Q' r M' → EV G mt d kc ks Q (pc + 3) ls (pu r st) M') : EV G mt d (kc + mc') (ks + ms') Q pc ls (a1 :: vR b :: st) M := E_callI (as := [a1]) hb hnm hrt hi hd hm hlk hct rfl hdd hw k
theorem E_callI2 {mt' : MT} {d' mc' ms' idx : Nat} {a1 a2 : MV} {Q' : Option MV → Mem → Prop} {b : Nat} (hb : 21 ≤ b) (hnm : mt'.1.name = "<init>") (hrt : mt'.2.2.2 = none) (hi : Cond.instanceMethod mt'.1 ∈ AW) (hd : decode mt.2.1 pc = .ok (.invokespecial idx, 3)) (hm : MK mt' 2) (hlk : Cond.methodLink mt.1.cls idx mt'.1 ∈ AW) (hct : CT G mt' d' mc' ms' [vR b, a1, a2] M Q') (hdd : d' + 1 ≤ d) (hw : (st.map wd).sum ≤ 8) (k : ∀ r M', Q' r M' → EV G mt d kc ks Q (pc + 3) ls (pu r st) M') : EV G mt d (kc + mc') (ks + ms') Q pc ls (a2 :: a1 :: vR b :: st) M := E_callI (as := [a1, a2]) hb hnm hrt hi hd hm hlk hct rfl hdd hw k
theorem E_callI3 {mt' : MT} {d' mc' ms' idx : Nat} {a1 a2 a3 : MV} {Q' : Option MV → Mem → Prop} {b : Nat} (hb : 21 ≤ b) (hnm : mt'.1.name = "<init>") (hrt : mt'.2.2.2 = none) (hi : Cond.instanceMethod mt'.1 ∈ AW) (hd : decode mt.2.1 pc = .ok (.invokespecial idx, 3)) (hm : MK mt' 3) (hlk : Cond.methodLink mt.1.cls idx mt'.1 ∈ AW) (hct : CT G mt' d' mc' ms' [vR b, a1, a2, a3] M Q') (hdd : d' + 1 ≤ d) (hw : (st.map wd).sum ≤ 8) (k : ∀ r M', Q' r M' → EV G mt d kc ks Q (pc + 3) ls (pu r st) M') : EV G mt d (kc + mc') (ks + ms') Q pc ls (a3 :: a2 :: a1 :: vR b :: st) M := E_callI (as := [a1, a2, a3]) hb hnm hrt hi hd hm hlk hct rfl hdd hw k
theorem E_callI4 {mt' : MT} {d' mc' ms' idx : Nat} {a1 a2 a3 a4 : MV} {Q' : Option MV → Mem → Prop} {b : Nat} (hb : 21 ≤ b) (hnm : mt'.1.name = "<init>") (hrt : mt'.2.2.2 = none) (hi : Cond.instanceMethod mt'.1 ∈ AW) (hd : decode mt.2.1 pc = .ok (.invokespecial idx, 3)) (hm : MK mt' 4) (hlk : Cond.methodLink mt.1.cls idx mt'.1 ∈ AW) (hct : CT G mt' d' mc' ms' [vR b, a1, a2, a3, a4] M Q') (hdd : d' + 1 ≤ d) (hw : (st.map wd).sum ≤ 8) (k : ∀ r M', Q' r M' → EV G mt d kc ks Q (pc + 3) ls (pu r st) M') : EV G mt d (kc + mc') (ks + ms') Q pc ls (a4 :: a3 :: a2 :: a1 :: vR b :: st) M := E_callI (as := [a1, a2, a3, a4]) hb hnm hrt hi hd hm hlk hct rfl hdd hw k
theorem E_callI5 {mt' : MT} {d' mc' ms' idx : Nat} {a1 a2 a3 a4 a5 : MV} {Q' : Option MV → Mem → Prop} {b : Nat} (hb : 21 ≤ b) (hnm : mt'.1.name = "<init>") (hrt : mt'.2.2.2 = none) (hi : Cond.instanceMethod mt'.1 ∈ AW) (hd : decode mt.2.1 pc = .ok (.invokespecial idx, 3)) (hm : MK mt' 5) (hlk : Cond.methodLink mt.1.cls idx mt'.1 ∈ AW) (hct : CT G mt' d' mc' ms' [vR b, a1, a2, a3, a4, a5] M Q') (hdd : d' + 1 ≤ d) (hw : (st.map wd).sum ≤ 8) (k : ∀ r M', Q' r M' → EV G mt d kc ks Q (pc + 3) ls (pu r st) M') : EV G mt d (kc + mc') (ks + ms') Q pc ls (a5 :: a4 :: a3 :: a2 :: a1 :: vR b :: st) M := E_callI (as := [a1, a2, a3, a4, a5]) hb hnm hrt hi hd hm hlk hct rfl hdd hw k
theorem E_callI6 {mt' : MT} {d' mc' ms' idx : Nat} {a1 a2 a3 a4 a5 a6 : MV} {Q' : Option MV → Mem → Prop} {b : Nat} (hb : 21 ≤ b) (hnm : mt'.1.name = "<init>") (hrt : mt'.2.2.2 = none) (hi : Cond.instanceMethod mt'.1 ∈ AW) (hd : decode mt.2.1 pc = .ok (.invokespecial idx, 3)) (hm : MK mt' 6) (hlk : Cond.methodLink mt.1.cls idx mt'.1 ∈ AW) (hct : CT G mt' d' mc' ms' [vR b, a1, a2, a3, a4, a5, a6] M Q') (hdd : d' + 1 ≤ d) (hw : (st.map wd).sum ≤ 8) (k : ∀ r M', Q' r M' → EV G mt d kc ks Q (pc + 3) ls (pu r st) M') : EV G mt d (kc + mc') (ks + ms') Q pc ls (a6 :: a5 :: a4 :: a3 :: a2 :: a1 :: vR b :: st) M := E_callI (as := [a1, a2, a3, a4, a5, a6]) hb hnm hrt hi hd hm hlk hct rfl hdd hw k
theorem E_callI7 {mt' : MT} {d' mc' ms' idx : Nat} {a1 a2 a3 a4 a5 a6 a7 : MV} {Q' : Option MV → Mem → Prop} {b : Nat} (hb : 21 ≤ b) (hnm : mt'.1.name = "<init>") (hrt : mt'.2.2.2 = none) (hi : Cond.instanceMethod mt'.1 ∈ AW) (hd : decode mt.2.1 pc = .ok (.invokespecial idx, 3)) (hm : MK mt' 7) (hlk : Cond.methodLink mt.1.cls idx mt'.1 ∈ AW) (hct : CT G mt' d' mc' ms' [vR b, a1, a2, a3, a4, a5, a6, a7] M Q') (hdd : d' + 1 ≤ d) (hw : (st.map wd).sum ≤ 8) (k : ∀ r M', Q' r M' → EV G mt d kc ks Q (pc + 3) ls (pu r st) M') : EV G mt d (kc + mc') (ks + ms') Q pc ls (a7 :: a6 :: a5 :: a4 :: a3 :: a2 :: a1 :: vR b :: st) M := E_callI (as := [a1, a2, a3, a4, a5, a6, a7]) hb hnm hrt hi hd hm hlk hct rfl hdd hw k
theorem E_callIN0 {mt' : MT} {d' mc' ms' idx : Nat} {Q' : Option MV → Mem → Prop} {b : Nat} (hb : 21 ≤ b) (hnm : mt'.1.name = "<init>") (hrt : mt'.2.2.2 = none) (hi : Cond.instanceMethod mt'.1 ∈ AW) {i : Nat} (hd : decode mt.2.1 pc = .ok (.invokespecial idx, 3)) (hm : MK mt' 0) (hlk : nestL[i]? = some (mt.1.cls, idx, mt'.1)) (hct : CT G mt' d' mc' ms' [vR b] M Q') (hdd : d' + 1 ≤ d) (hw : (st.map wd).sum ≤ 8) (k : ∀ r M', Q' r M' → EV G mt d kc ks Q (pc + 3) ls (pu r st) M') : EV G mt d (kc + mc') (ks + ms') Q pc ls (vR b :: st) M := E_callIN (as := []) hb hnm hrt hi hd hm hlk hct rfl hdd hw k
theorem E_callIN1 {mt' : MT} {d' mc' ms' idx : Nat} {a1 : MV} {Q' : Option MV → Mem → Prop} {b : Nat} (hb : 21 ≤ b) (hnm : mt'.1.name = "<init>") (hrt : mt'.2.2.2 = none) (hi : Cond.instanceMethod mt'.1 ∈ AW) {i : Nat} (hd : decode mt.2.1 pc = .ok (.invokespecial idx, 3)) (hm : MK mt' 1) (hlk : nestL[i]? = some (mt.1.cls, idx, mt'.1)) (hct : CT G mt' d' mc' ms' [vR b, a1] M Q') (hdd : d' + 1 ≤ d) (hw : (st.map wd).sum ≤ 8) (k : ∀ r M', Q' r M' → EV G mt d kc ks Q (pc + 3) ls (pu r st) M') : EV G mt d (kc + mc') (ks + ms') Q pc ls (a1 :: vR b :: st) M := E_callIN (as := [a1]) hb hnm hrt hi hd hm hlk hct rfl hdd hw k
theorem E_callIN2 {mt' : MT} {d' mc' ms' idx : Nat} {a1 a2 : MV} {Q' : Option MV → Mem → Prop} {b : Nat} (hb : 21 ≤ b) (hnm : mt'.1.name = "<init>") (hrt : mt'.2.2.2 = none) (hi : Cond.instanceMethod mt'.1 ∈ AW) {i : Nat} (hd : decode mt.2.1 pc = .ok (.invokespecial idx, 3)) (hm : MK mt' 2) (hlk : nestL[i]? = some (mt.1.cls, idx, mt'.1)) (hct : CT G mt' d' mc' ms' [vR b, a1, a2] M Q') (hdd : d' + 1 ≤ d) (hw : (st.map wd).sum ≤ 8) (k : ∀ r M', Q' r M' → EV G mt d kc ks Q (pc + 3) ls (pu r st) M') : EV G mt d (kc + mc') (ks + ms') Q pc ls (a2 :: a1 :: vR b :: st) M := E_callIN (as := [a1, a2]) hb hnm hrt hi hd hm hlk hct rfl hdd hw k
theorem E_callIN3 {mt' : MT} {d' mc' ms' idx : Nat} {a1 a2 a3 : MV} {Q' : Option MV → Mem → Prop} {b : Nat} (hb : 21 ≤ b) (hnm : mt'.1.name = "<init>") (hrt : mt'.2.2.2 = none) (hi : Cond.instanceMethod mt'.1 ∈ AW) {i : Nat} (hd : decode mt.2.1 pc = .ok (.invokespecial idx, 3)) (hm : MK mt' 3) (hlk : nestL[i]? = some (mt.1.cls, idx, mt'.1)) (hct : CT G mt' d' mc' ms' [vR b, a1, a2, a3] M Q') (hdd : d' + 1 ≤ d) (hw : (st.map wd).sum ≤ 8) (k : ∀ r M', Q' r M' → EV G mt d kc ks Q (pc + 3) ls (pu r st) M') : EV G mt d (kc + mc') (ks + ms') Q pc ls (a3 :: a2 :: a1 :: vR b :: st) M := E_callIN (as := [a1, a2, a3]) hb hnm hrt hi hd hm hlk hct rfl hdd hw k
theorem E_callIN4 {mt' : MT} {d' mc' ms' idx : Nat} {a1 a2 a3 a4 : MV} {Q' : Option MV → Mem → Prop} {b : Nat} (hb : 21 ≤ b) (hnm : mt'.1.name = "<init>") (hrt : mt'.2.2.2 = none) (hi : Cond.instanceMethod mt'.1 ∈ AW) {i : Nat} (hd : decode mt.2.1 pc = .ok (.invokespecial idx, 3)) (hm : MK mt' 4) (hlk : nestL[i]? = some (mt.1.cls, idx, mt'.1)) (hct : CT G mt' d' mc' ms' [vR b, a1, a2, a3, a4] M Q') (hdd : d' + 1 ≤ d) (hw : (st.map wd).sum ≤ 8) (k : ∀ r M', Q' r M' → EV G mt d kc ks Q (pc + 3) ls (pu r st) M') : EV G mt d (kc + mc') (ks + ms') Q pc ls (a4 :: a3 :: a2 :: a1 :: vR b :: st) M := E_callIN (as := [a1, a2, a3, a4]) hb hnm hrt hi hd hm hlk hct rfl hdd hw k
theorem E_callIN5 {mt' : MT} {d' mc' ms' idx : Nat} {a1 a2 a3 a4 a5 : MV} {Q' : Option MV → Mem → Prop} {b : Nat} (hb : 21 ≤ b) (hnm : mt'.1.name = "<init>") (hrt : mt'.2.2.2 = none) (hi : Cond.instanceMethod mt'.1 ∈ AW) {i : Nat} (hd : decode mt.2.1 pc = .ok (.invokespecial idx, 3)) (hm : MK mt' 5) (hlk : nestL[i]? = some (mt.1.cls, idx, mt'.1)) (hct : CT G mt' d' mc' ms' [vR b, a1, a2, a3, a4, a5] M Q') (hdd : d' + 1 ≤ d) (hw : (st.map wd).sum ≤ 8) (k : ∀ r M', Q' r M' → EV G mt d kc ks Q (pc + 3) ls (pu r st) M') : EV G mt d (kc + mc') (ks + ms') Q pc ls (a5 :: a4 :: a3 :: a2 :: a1 :: vR b :: st) M := E_callIN (as := [a1, a2, a3, a4, a5]) hb hnm hrt hi hd hm hlk hct rfl hdd hw k
theorem E_callIN6 {mt' : MT} {d' mc' ms' idx : Nat} {a1 a2 a3 a4 a5 a6 : MV} {Q' : Option MV → Mem → Prop} {b : Nat} (hb : 21 ≤ b) (hnm : mt'.1.name = "<init>") (hrt : mt'.2.2.2 = none) (hi : Cond.instanceMethod mt'.1 ∈ AW) {i : Nat} (hd : decode mt.2.1 pc = .ok (.invokespecial idx, 3)) (hm : MK mt' 6) (hlk : nestL[i]? = some (mt.1.cls, idx, mt'.1)) (hct : CT G mt' d' mc' ms' [vR b, a1, a2, a3, a4, a5, a6] M Q') (hdd : d' + 1 ≤ d) (hw : (st.map wd).sum ≤ 8) (k : ∀ r M', Q' r M' → EV G mt d kc ks Q (pc + 3) ls (pu r st) M') : EV G mt d (kc + mc') (ks + ms') Q pc ls (a6 :: a5 :: a4 :: a3 :: a2 :: a1 :: vR b :: st) M := E_callIN (as := [a1, a2, a3, a4, a5, a6]) hb hnm hrt hi hd hm hlk hct rfl hdd hw k
theorem E_callIN7 {mt' : MT} {d' mc' ms' idx : Nat} {a1 a2 a3 a4 a5 a6 a7 : MV} {Q' : Option MV → Mem → Prop} {b : Nat} (hb : 21 ≤ b) (hnm : mt'.1.name = "<init>") (hrt : mt'.2.2.2 = none) (hi : Cond.instanceMethod mt'.1 ∈ AW) {i : Nat} (hd : decode mt.2.1 pc = .ok (.invokespecial idx, 3)) (hm : MK mt' 7) (hlk : nestL[i]? = some (mt.1.cls, idx, mt'.1)) (hct : CT G mt' d' mc' ms' [vR b, a1, a2, a3, a4, a5, a6, a7] M Q') (hdd : d' + 1 ≤ d) (hw : (st.map wd).sum ≤ 8) (k : ∀ r M', Q' r M' → EV G mt d kc ks Q (pc + 3) ls (pu r st) M') : EV G mt d (kc + mc') (ks + ms') Q pc ls (a7 :: a6 :: a5 :: a4 :: a3 :: a2 :: a1 :: vR b :: st) M := E_callIN (as := [a1, a2, a3, a4, a5, a6, a7]) hb hnm hrt hi hd hm hlk hct rfl hdd hw k
end EVC
