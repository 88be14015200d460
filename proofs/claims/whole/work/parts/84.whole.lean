/-! ===== 84: the law, from its entry ===== -/
/-! THE CLAIM OUT OF ONE WALK OF THE LAW'S BODY. Your part is whole_start (and what it stands on); all else here is the same for every law, but numbers. -/
def R_law : String := "CourtWashLaw"
def lw_P (b : Addr) (xs : List Int32) (args : Array Value) (s : State) : Prop := args = #[.ref b] ∧ s.IntsAt b xs ∧ xs.length ≤ 384 ∧ (Jvm.Cond.and given_1 narrow_1).before args s = true
def lw_Q (_ : Array Value) (s : State) (o : Outcome) (t : State) : Prop := o = .returned (some (.int 1)) ∧ Framed s o t [] 600000 7302250
def lw_Z (below : List Frame) (a : Array Value) (s : State) : State → Prop := fun t => ∃ o, t.status = .running ∧ Ended t below o ∧ lw_Q a s o t
/-- the law's own end, with 1 on the stack, nothing written that was there before, its room as the claim has it -/
theorem lw_ret {p : Program} {l : Launch} {e : Env} {s : State} {m : MethodId} {below : List Frame} {meth : Method} {c : Code} {b : Nat} (hx : p.tables.exec = Jvm.exec) (hb : c.code = code) (hr : meth.sig.returnType = ret) (hlocks : meth.locks = false) {pc : Nat} {H : Heap} {ls : Array Slot} (hdg : decode code pc = .ok (.ireturn, 1)) : W p l e room_1 s m #[Value.ref b] below meth c H [] 600000 7302250 (lw_Z below #[Value.ref b] s) (F0 m pc ls [.int 1]) := by
  intro T hT X
  obtain ⟨fs, hret, hrun, hended, hW, hframe⟩ := X.leave (v := some (.int 1)) (hlocks := hlocks) (fun h => by rw [hr] at h; cases h)
  have hmeth' : T.vm.method? m = some meth := X.method'
  refine ⟨T.setFrames fs, ?_, .returned (some (.int 1)), hrun, hended, rfl, ⟨_, rfl⟩, hW, hframe⟩
  jvm_step X.here [X.here.top, hx, hb, hdg, hmeth', hr, ret, narrow_b1]
  (try refine ⟨rfl, ?_⟩); (try refine ⟨rfl, ?_⟩)
  first | (intro acts; rw [hret _ acts rfl rfl rfl]) | rw [hret _ _ rfl rfl rfl]
  exact Steps.refl _
/-- what holds at the law's entry: the machine, the code, the tables' words (any of lw_tbl by 'hts w (by decide +kernel)'), the script of L ints xs at the cell b, what the Statement gives of the start (any of its parts by flat_of_before) -/
def lw_At (p : Program) (s : State) (m : MethodId) (meth : Method) (c : Code) (b L : Nat) (xs : Nat → Int32) : Prop :=
  p.tables.exec = Jvm.exec ∧ c.code = code ∧ meth.sig.returnType = ret ∧ c.maxLocals = 4 ∧ s.vm.findClass R_law = some m.cls ∧ (∀ w ∈ lw_tbl, w.before #[Value.ref b] s = true) ∧ va_X b L xs s s.heap ∧ b < s.heap.size ∧ meth.locks = false ∧ (Jvm.Cond.and given_1 narrow_1).before #[Value.ref b] s = true
theorem fr_new {s t : State} {o : Outcome} {L : List Loc} {k n : Nat} (h : FrameEnd s o t L k n) (hL : ∀ q ∈ L, s.heap.size ≤ q.base) : Framed s o t [] k n := by
  obtain ⟨hv, hW, h1, h2, h3, h4, h5, h6⟩ := h
  refine ⟨hv, hW, h1, h2, h3, h4, h5, fun q cell hq => ?_⟩
  obtain ⟨c9, e1, e2, e3, e4⟩ := h6 q cell hq
  refine ⟨c9, e1, e2, e3, fun i _ => e4 i (fun hm => ?_)⟩
  have hlt := (Array.getElem?_eq_some_iff.mp hq).1
  have hge := hL _ hm
  exact absurd hlt (Nat.not_lt.mpr hge)
def tmS (i : Nat) : Term := Term.string (sRef.getD i ("", 0, "")).1 (sRef.getD i ("", 0, "")).2.1
abbrev fl_1 : List Cond := flatC (Jvm.Cond.and given_1 narrow_1)
theorem z_ex : ∀ i, i < 9 → Cond.exactly (tmS i) "java/lang/String" ∈ fl_1 := by decide +kernel
theorem z_co : ∀ i, i < 9 → Cond.eq (.field (tmS i) "java/lang/String" "coder" "B") (.int 0) ∈ fl_1 := by decide +kernel
theorem z_ar : ∀ i, i < 9 → Cond.arrayOf (.field (tmS i) "java/lang/String" "value" "[B") .byte ∈ fl_1 := by decide +kernel
theorem z_le : ∀ i, i < 9 → Cond.eq (.length (.field (tmS i) "java/lang/String" "value" "[B")) (.int (Int32.ofNat (sLen.getD i 0))) ∈ fl_1 := by decide +kernel
theorem z_el : ∀ i, i < 9 → ∀ j, j < sLen.getD i 0 → Cond.eq (.elem (.field (tmS i) "java/lang/String" "value" "[B") (.int (Int32.ofNat j))) (.int ((sByt.getD i []).getD j 0)) ∈ fl_1 := by decide +kernel
theorem z_ne : ∀ i, i < 9 → ∀ j, j < 9 → i ≠ j → (Cond.not (Cond.eq (tmS i) (tmS j)) ∈ fl_1 ∨ Cond.not (Cond.eq (tmS j) (tmS i)) ∈ fl_1) := by decide +kernel
theorem z_nc : ∀ q ∈ ncL, Cond.not (.castable q.1 q.2) ∈ fl_1 := by decide +kernel
theorem z_cs : Cond.eq (Term.static "java/lang/String" "COMPACT_STRINGS" "Z") (.int 1) ∈ fl_1 := by decide +kernel
theorem z_fm : Cond.isRef (Term.static "jdk/internal/util/Preconditions" "SIOOBE_FORMATTER" "Ljava/util/function/BiFunction;") ∈ fl_1 := by decide +kernel
theorem z_sr : ∀ q ∈ sRef, Cond.stringRef q.1 q.2.1 q.2.2 ∈ lw_tbl := by decide +kernel
theorem z_nl : ∀ q ∈ nestL, Cond.methodLinkNest q.1 q.2.1 q.2.2 "CourtWash" ∈ lw_tbl := by decide +kernel
/-- the memory at the law's entry: the script, the Strings -/
def M_0 (L : Nat) (xs : Nat → Int32) : Mem := ((21, fun a => if a = 1 then (6, L) else if 2 ≤ a ∧ a < 11 then (5, a - 2) else if 11 ≤ a ∧ a < 20 then (7, sLen.getD (a - 11) 0) else (0, 0)), (fun a j => if a = 1 then (xs j.toNat).toInt else if 11 ≤ a ∧ a < 20 then ((sByt.getD (a - 11) []).getD j.toNat 0).toInt else 0, fun _ _ => 0))
theorem M_0_gs {G : Ctx} (L : Nat) (xs : Nat → Int32) (h1 : gL G = L) (h2 : gx G = xs) : GS G (M_0 L xs) := by
  refine ⟨?_, fun j => ?_, fun i hi => ⟨?_, ?_, fun j => ?_⟩⟩
  · rw [h1]; rfl
  · rw [h2]; show (xs ((j : Int).toNat)).toInt = (xs j).toInt; rw [Int.toNat_natCast]
  · show (if 2 + i = 1 then (6, L) else if 2 ≤ 2 + i ∧ 2 + i < 11 then (5, 2 + i - 2) else _) = (5, i)
    rw [if_neg (by omega), if_pos (by omega), show 2 + i - 2 = i by omega]
  · show (if 11 + i = 1 then (6, L) else if 2 ≤ 11 + i ∧ 11 + i < 11 then (5, 11 + i - 2) else if 11 ≤ 11 + i ∧ 11 + i < 20 then (7, sLen.getD (11 + i - 11) 0) else (0, 0)) = (7, sLen.getD i 0)
    rw [if_neg (by omega), if_neg (by omega), if_pos (by omega), show 11 + i - 11 = i by omega]
  · show (if 11 + i = 1 then _ else if 11 ≤ 11 + i ∧ 11 + i < 20 then ((sByt.getD (11 + i - 11) []).getD ((j : Int).toNat) 0).toInt else 0) = _
    rw [if_neg (by omega), if_pos (by omega), show 11 + i - 11 = i by omega, Int.toNat_natCast]
theorem M_0_rep {G : Ctx} (L : Nat) (xs : Nat → Int32) (h1 : gL G = L) (h2 : gx G = xs) {H : Heap} (h3 : gH G = H) : RepM G (M_0 L xs) H := by
  refine ⟨Nat.le_refl _, ?_, fun q _ => by rw [h3], fun a h4 h5 => ?_, M_0_gs L xs h1 h2⟩
  · unfold gb; rw [h3]; show H.size = H.size + (21 - 21); omega
  · exfalso
    have e : (mS (M_0 L xs) a).1 = 0 ∨ 5 ≤ (mS (M_0 L xs) a).1 := by
      show (if a = 1 then (6, L) else if 2 ≤ a ∧ a < 11 then (5, a - 2) else if 11 ≤ a ∧ a < 20 then (7, sLen.getD (a - 11) 0) else (0, 0)).1 = 0 ∨ 5 ≤ (if a = 1 then (6, L) else if 2 ≤ a ∧ a < 11 then (5, a - 2) else if 11 ≤ a ∧ a < 20 then (7, sLen.getD (a - 11) 0) else (0, 0)).1
      split
      · exact Or.inr (Nat.le_of_ble_eq_true rfl)
      · split
        · exact Or.inr (Nat.le_of_ble_eq_true rfl)
        · split
          · exact Or.inr (Nat.le_of_ble_eq_true rfl)
          · exact Or.inl rfl
    omega
theorem ar_known {args : Array Value} {s : State} {ty : FieldType} (h : (Cond.arrayClass ty).before args s = true) : ∃ cA, ArrOfT s cA ty ∧ s.vm.findClass ("[" ++ ty.toString) = some cA := by
  obtain ⟨cA, kA, comp, h1, h2, h3⟩ := Cond.arrayClass_spec h
  exact ⟨cA, fun n z => ⟨fun k h => (by cases h), kA, h2, comp, h3⟩, h1⟩
theorem cls_known {args : Array Value} {s : State} (hts : ∀ w ∈ lw_tbl, w.before args s = true) : ∃ D : va_G, va_K D cls_ [] s := by
  have htA : ∀ w ∈ AW, w.before args s = true := fun w hw => hts w (List.mem_filter.mp hw).1
  have h : ∀ k : Nat, ∃ d : ClassId × (Nat → Nat), ∀ q, cls_[k]? = some q → u_Kn s q.1 q.2.1 q.2.2 d.1 d.2 := by
    intro k
    match k with
    | 0 =>
      obtain ⟨c1, i1, h1⟩ := u_known (C := RX0) (T := TX0) (N := 4) (n := 4) htA in_0 (hts (.instantiable RX0 4) (by decide +kernel))
      exact ⟨(c1, i1), fun q hq => by cases hq; exact h1⟩
    | 1 =>
      obtain ⟨c1, i1, h1⟩ := u_known (C := RX1) (T := TX1) (N := 16) (n := 16) htA in_1 (hts (.instantiable RX1 16) (by decide +kernel))
      exact ⟨(c1, i1), fun q hq => by cases hq; exact h1⟩
    | 2 =>
      obtain ⟨c1, i1, h1⟩ := u_known (C := RX3) (T := TX3) (N := 7) (n := 7) htA in_2 (hts (.instantiable RX3 7) (by decide +kernel))
      exact ⟨(c1, i1), fun q hq => by cases hq; exact h1⟩
    | 3 =>
      obtain ⟨c1, i1, h1⟩ := u_known (C := RX4) (T := TX4) (N := 4) (n := 4) htA in_3 (hts (.instantiable RX4 4) (by decide +kernel))
      exact ⟨(c1, i1), fun q hq => by cases hq; exact h1⟩
    | 4 =>
      obtain ⟨c1, i1, h1⟩ := u_known (C := RX5) (T := TX5) (N := 3) (n := 3) htA in_4 (hts (.instantiable RX5 3) (by decide +kernel))
      exact ⟨(c1, i1), fun q hq => by cases hq; exact h1⟩
    | 5 =>
      obtain ⟨c1, i1, h1⟩ := u_known (C := RX6) (T := TX6) (N := 4) (n := 4) htA in_5 (hts (.instantiable RX6 4) (by decide +kernel))
      exact ⟨(c1, i1), fun q hq => by cases hq; exact h1⟩
    | 6 =>
      obtain ⟨c1, i1, h1⟩ := u_known (C := RX7) (T := TX7) (N := 4) (n := 4) htA in_6 (hts (.instantiable RX7 4) (by decide +kernel))
      exact ⟨(c1, i1), fun q hq => by cases hq; exact h1⟩
    | 7 =>
      obtain ⟨c1, i1, h1⟩ := u_known (C := RX8) (T := TX8) (N := 2) (n := 2) htA in_7 (hts (.instantiable RX8 2) (by decide +kernel))
      exact ⟨(c1, i1), fun q hq => by cases hq; exact h1⟩
    | 8 =>
      obtain ⟨c1, i1, h1⟩ := u_known (C := RX9) (T := TX9) (N := 7) (n := 7) htA in_8 (hts (.instantiable RX9 7) (by decide +kernel))
      exact ⟨(c1, i1), fun q hq => by cases hq; exact h1⟩
    | 9 =>
      obtain ⟨c1, i1, h1⟩ := u_known (C := RX10) (T := TX10) (N := 4) (n := 4) htA in_9 (hts (.instantiable RX10 4) (by decide +kernel))
      exact ⟨(c1, i1), fun q hq => by cases hq; exact h1⟩
    | 10 =>
      obtain ⟨c1, i1, h1⟩ := u_known (C := RX11) (T := TX11) (N := 15) (n := 15) htA in_10 (hts (.instantiable RX11 15) (by decide +kernel))
      exact ⟨(c1, i1), fun q hq => by cases hq; exact h1⟩
    | 11 =>
      obtain ⟨c1, i1, h1⟩ := u_known (C := RX12) (T := TX12) (N := 28) (n := 28) htA in_11 (hts (.instantiable RX12 28) (by decide +kernel))
      exact ⟨(c1, i1), fun q hq => by cases hq; exact h1⟩
    | k + 12 => exact ⟨(0, fun _ => 0), fun q hq => by simp [cls_] at hq⟩
  obtain ⟨D, hD⟩ := Classical.axiomOfChoice h
  exact ⟨(fun k => (D k).1, fun k => (D k).2), fun k q hq => hD k q hq, fun k q h => by simp at h⟩
set_option maxRecDepth 20000 in
set_option maxHeartbeats 4000000 in
theorem whole_start {p : Program} {e : Env} {s : State} {m : MethodId} {below : List Frame} {meth : Method} {c : Code} (l : Launch) (hflags : l.flags = flags0) {b L : Nat} {xs : Nat → Int32} (hL : L ≤ 384) (C0 : lw_At p s m meth c b L xs) : W p l e room_1 s m #[Value.ref b] below meth c s.heap [] 0 0 (lw_Z below #[Value.ref b] s) (entryFrame m ([Value.ref b] : List Value).toArray 4) := by
  obtain ⟨hx, hb, hr, hml, hown, hts, hX, hbl, hlocks, hgv⟩ := id C0
  have hfl := flat_of_before _ hgv
  have hA : ∀ a : Nat, a < s.heap.size → ¬ (fun q : Nat => s.heap.size ≤ q) a := fun a h => Nat.not_le.mpr h
  obtain ⟨D, hD⟩ := cls_known hts
  obtain ⟨cI, aI, fI⟩ := ar_known (hts (.arrayClass .int) (by decide +kernel))
  obtain ⟨cB, aB, fB⟩ := ar_known (hts (.arrayClass .byte) (by decide +kernel))
  obtain ⟨cZ, aZ, fZ⟩ := ar_known (hts (.arrayClass .boolean) (by decide +kernel))
  obtain ⟨adK, adV, hS, hSt⟩ := vk_Sof (args := #[Value.ref b]) (s := s) (N := 9) (tm := tmS) (len := sLen) (byt := sByt) (A := fun q : Nat => s.heap.size ≤ q) (fun i hi => Nat.lt_of_le_of_lt (sLen_b i hi) (by decide)) (fun i hi => hfl _ (z_ex i hi)) (fun i hi => hfl _ (z_co i hi)) (fun i hi => hfl _ (z_ar i hi)) (fun i hi => hfl _ (z_le i hi)) (fun i hi j hj => hfl _ (z_el i hi j hj)) (fun i j hi hj hne => (z_ne i hi j hj hne).elim (fun h => Or.inl (hfl _ h)) (fun h => Or.inr (hfl _ h))) hA
  have hZ1 : va_Z "java/lang/String" "COMPACT_STRINGS" "Z" (.int 1) (fun q : Nat => s.heap.size ≤ q) s s.heap := va_Zof (hts (.laysStatic "java/lang/String" "COMPACT_STRINGS" "Z") (by decide +kernel)) (hts (.initialized "java/lang/String") (by decide +kernel)) (va_eqt (hfl _ z_cs)) hA
  obtain ⟨vF, hZ2, hvF⟩ : ∃ v : Value, va_Z "jdk/internal/util/Preconditions" "SIOOBE_FORMATTER" "Ljava/util/function/BiFunction;" v (fun q : Nat => s.heap.size ≤ q) s s.heap ∧ (v = .null ∨ ∃ x, v = .ref x) := by
    rcases va_Zqof (A := fun q : Nat => s.heap.size ≤ q) (hts (.laysStatic "jdk/internal/util/Preconditions" "SIOOBE_FORMATTER" "Ljava/util/function/BiFunction;") (by decide +kernel)) (hts (.initialized "jdk/internal/util/Preconditions") (by decide +kernel)) (hfl _ z_fm) hA with h | ⟨t, h⟩
    · exact ⟨_, h, Or.inl rfl⟩
    · exact ⟨_, h, Or.inr ⟨t, rfl⟩⟩
  obtain ⟨G, hG⟩ : ∃ G : Ctx, G = ((D, (cI, (cB, cZ))), (s.heap, ((L, xs), (b, (adK, (adV, vF)))))) := ⟨_, rfl⟩
  have hKX : KX G s := by
    subst hG
    refine ⟨hD, ⟨aI, aB, aZ⟩, ⟨fI, fB, fZ⟩, ⟨hX, hbl⟩, ⟨hS, hZ1, hZ2, hvF⟩, ⟨fun i q hq => ?_, fun i q hq => va_Nc.of (hfl _ (z_nc q (List.mem_of_getElem? hq)))⟩, fun i q hq => va_Nw.of rfl (hts _ (z_nl q (List.mem_of_getElem? hq)))⟩
    have h9 : i < 9 := sRef_lt hq
    have e : tmS i = Term.string q.1 q.2.1 := by unfold tmS; rw [List.getD_eq_getElem?_getD, hq]; rfl
    have h2 := hSt i h9
    rw [e] at h2
    exact vk_R.of (hts _ (z_sr q (List.mem_of_getElem? hq))) h2
  have hrep : RepM G (M_0 L xs) s.heap := M_0_rep L xs (by rw [hG]; rfl) (by rw [hG]; rfl) (by rw [hG]; rfl)
  have hgb : gb G = s.heap.size := by rw [hG]; rfl
  have hLg : gL G = L := by rw [hG]; rfl
  have hrv : rfv G 1 = .ref b := by rw [hG]; rfl
  rw [lg_entry_eq]
  have hl := lv_entry ([.ref b]) (n := 4) (Nat.le_of_ble_eq_true rfl)
  have hvs : VRs G [vR 1] [.ref b] := ⟨hrv.symm, trivial⟩
  have hE := law_start (G := G) (nm := meth.name) (by rw [hLg]; exact hL) (M0 := M_0 L xs) rfl
  have hW := hE p l e room_1 s m #[Value.ref b] below meth c s.heap [] 0 0 600000 7302250 _ [] ⟨hx, hb, hml, hown, fun w hw => hts w (List.mem_filter.mp hw).1, hr, hlocks, rfl, hKX⟩ ⟨by decide, by decide, by decide, by decide⟩ ⟨by decide, by decide⟩ (fun q h => by cases h) hrep ⟨_, hl, fun i x hx => by have q := ent_has hKX 0 3 hvs i x hx; rw [Nat.zero_add] at q; exact q⟩ trivial
  intro T hT X
  obtain ⟨t, a1, o, b1, b2, ⟨r, v, M9, ho, hor, hq, -⟩, L9, b4, b5⟩ := hW T hT X
  refine ⟨t, a1, o, b1, b2, ?_, fr_new b4 (fun q hq => by rw [← hgb]; exact b5 q hq)⟩
  subst hq
  match v, hor with
  | some w, hor =>
    obtain ⟨i, rfl, hi⟩ := hor
    rw [ho, show i = 1 from Int32.toInt_inj.mp (by rw [hi]; rfl)]
  | none, hor => exact absurd hor (by simp [OR])
set_option maxHeartbeats 4000000 in
theorem lw_walk (l : Launch) (hflags : l.flags = flags0) (b : Addr) (xs : List Int32) : MetFree l x (headSpec (Jvm.Cond.code x code maxLocals ret :: tables_1) room_1) (lw_P b xs) (fun _ _ _ _ _ => True) lw_Q := by
  refine MetFree.of_bodyS (code := code) (maxLocals := maxLocals) (ret := ret) (by decide) ?_ ?_
  · intro args s m h hn
    obtain ⟨meth, c, h1, h2, h3, h4, h5, h6, -, -⟩ := Cond.code_spec hn (atoms_spec (ws := Jvm.Cond.code x code maxLocals ret :: tables_1) h _ List.mem_cons_self)
    exact ⟨meth, c, h1, h2, h3, h4, h5, h6⟩
  · intro p e s m args below meth c s₁ B hml0 hP _
    obtain ⟨rfl, hx, hbd, hgv⟩ := hP
    obtain ⟨scr, harrAt, hlist, hof, hsmall⟩ := hx
    obtain ⟨hcb, hkn, -, -⟩ := State.arrayAt?_spec harrAt
    have hown : s.vm.findClass R_law = some m.cls := findClass_of_methodNamed B.named
    have hts0 : ∀ c ∈ (Jvm.Cond.code x code maxLocals ret :: tables_1), c.before #[Value.ref b] s = true := atoms_spec (ws := Jvm.Cond.code x code maxLocals ret :: tables_1) B.pre
    have hts : ∀ w ∈ lw_tbl, w.before #[Value.ref b] s = true := k2_hts_sels lw_privs (fun w hw => hts0 w (List.mem_cons_of_mem _ hw)) lw_privs_ok
    have hml : c.maxLocals = 4 := B.maxLocals_eq (hts0 _ List.mem_cons_self)
    have X₀ : Stand p l e room_1 s m #[Value.ref b] below meth c s₁ [] 0 0 := Stand.of_body B
    have hh0 : s₁.heap = s.heap := by rw [B.state]; rfl
    have hsz : scr.slots.size = xs.length := by rw [← Array.length_toList, hlist, List.length_map]
    have hval : ∀ j : Nat, j < xs.length → scr.slots[j]? = some (.int (xs.getD j 0)) := fun j hj => by
      rw [← Array.getElem?_toList, hlist]
      simp [hj]
    have hbl : b < s.heap.size := (Array.getElem?_eq_some_iff.mp hcb).1
    have hX : va_X b xs.length (fun j => xs.getD j 0) s s.heap := ⟨scr, hcb, hof, hkn, hsz, hval⟩
    have K : W p l e room_1 s m #[Value.ref b] below meth c s₁.heap [] 0 0 (lw_Z below #[Value.ref b] s) (entryFrame m ([Value.ref b] : List Value).toArray 4) := by
      rw [hh0]
      exact whole_start l hflags hbd ⟨B.exec, B.bytes, B.returns, hml, hown, hts, hX, hbl, B.notSynchronized, hgv⟩
    obtain ⟨t, a1, o, b1, b2, b3⟩ := K s₁ rfl X₀
    exact ⟨t, o, a1, b1, b2, b3⟩
theorem lw_pre_spec {args : Array Value} {s : State} (h : (Jvm.Cond.and given_1 narrow_1).before args s = true) (hr : rest_1_c.before args s = true) : ∃ (b : Addr) (xs : List Int32), lw_P b xs args s := by
  have hs := flat_of_before _ h
  have hq := flat_of_before _ hr
  have hc : (Cond.count 1).before args s = true := hs _ (by decide +kernel)
  have harr : (Cond.arrayOf (.arg 0) .int).before args s = true := hs _ (by decide +kernel)
  have hle : (Cond.le (.length (.arg 0)) (.int 384)).before args s = true := hs _ (by decide +kernel)
  have hlen : (Cond.isInt (.length (.arg 0))).before args s = true := hq _ (by decide +kernel)
  have hall : (Cond.all (.arg 0) (.isInt (.elem (.arg 0) (.index 0)))).before args s = true := hq _ (by decide +kernel)
  obtain ⟨b, xs, hb, hx⟩ := State.ints_of_pre rfl harr hlen hall
  have hsm : xs.length < 2 ^ 31 := hx.choose_spec.2.2.2
  have hev : (Term.length (.arg 0)).eval args s none [] s = some (.int xs.length.toInt32) := hx.length_eval hb
  have hv := Cond.le_ints hev (show (Term.int 384).eval args s none [] s = some (.int 384) from rfl)
  have hd : xs.length.toInt32 ≤ 384 := by
    simpa [Cond.before, Cond.holds, hv] using hle
  have hN : xs.length ≤ 384 := (Int32.ofNat_le_ofNat hsm (by decide)).mp (show Int32.ofNat xs.length ≤ Int32.ofNat 384 from hd)
  exact ⟨b, xs, Cond.one_arg hc (show args[0]? = some (.ref b) from hb), hx, hN, h⟩
theorem lw_comes (l : Launch) (hflags : l.flags = flags0) : Comes l x (Jvm.Cond.code x code maxLocals ret :: tables_1) room_1 (fun tb e args s => Calls_1 tb e args s ∧ rest_1 tb e args s ∧ Pre_1 tb e args s)
    (fun _ _ args s o t => lw_Q args s o t) := by
  intro p e ha hc hk s m args below hf hfit hheap happ hpre
  obtain ⟨b, xs, hP⟩ := lw_pre_spec hpre.2.2 hpre.2.1
  obtain ⟨k, o, h1, h2, h3, hQ⟩ := lw_walk l hflags b xs p e ha hc hk s m args below hf ((Spec.applies_iff_loose hf).mp happ).1 hP trivial
  exact ⟨k, o, h1, h2, h3, hQ⟩
theorem lw_frame {s t : State} {o : Outcome} {args : Array Value} (h : Framed s o t [] 600000 7302250) :
    Framed s o t (fieldLocs frame_1_writes args s ++ arrayLocs frame_1_arrays args s ++ staticLocs frame_1_statics s) 600000 7302250 := h
theorem lw_limb (L : Cond) (hL : ∀ (args : Array Value) (s t : State), L.after args s (.returned (some (.int 1))) t = true) :
    ArmFor flags0 classFile x code maxLocals ret World_1 tables_1 room_1 Calls_1 rest_1 Pre_1
      (fun tb e a s o t => postC L tb e a s o t ∧ Framed s o t (fieldLocs frame_1_writes a s ++ arrayLocs frame_1_arrays a s ++ staticLocs frame_1_statics s) 600000 7302250) := by
  intro l hflags _ _ p e ha hc hk s m args below hf hfit hheap happ hpre
  obtain ⟨k, o, h1, h2, h3, rfl, hF⟩ := lw_comes l hflags p e ha hc hk s m args below hf hfit hheap happ hpre
  exact ⟨k, _, h1, h2, h3, hL args s _, lw_frame hF⟩
theorem i_vc : Claimed_1_1 ∧ Claimed_1_2 := ⟨lw_limb limb_1_1 (fun args s t => by simp [limb_1_1, Cond.after, Cond.holds, Cond.value]), lw_limb limb_1_2 (fun args s t => Cond.after_iff.mpr (by
  first | (rw [show limb_1_2 = Cond.eq .result (.int 1) from rfl, Cond.eq_ints (x := 1) (y := 1) rfl rfl]; simp; done) | (simp [limb_1_2, Cond.value, Term.eval]; done)))⟩

