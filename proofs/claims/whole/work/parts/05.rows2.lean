/-! ===== 05: rows of EV for fields, arrays, new objects ===== -/
theorem am_inj {G : Ctx} {a b : Nat} (ha : 21 ≤ a) (hb : 21 ≤ b) (h : am G a = am G b) : a = b := by
  rw [am_hi ha, am_hi hb] at h
  omega
theorem CellR.keep {G : Ctx} {M M' : Mem} {a : Nat} {H H' : Heap} (hI : ∀ j, mI M' a j = mI M a j) (hR : ∀ j, mR M' a j = mR M a j) (hS : mS M' a = mS M a) (hH : H'[am G a]? = H[am G a]?) (h : CellR G M a H) : CellR G M' a H' := by
  have hAR : ∀ (cA : ClassId) (n : Nat), AR M a cA n H[am G a]? → AR M' a cA n H'[am G a]? := by
    intro cA n q
    obtain ⟨q1, f, q2, q3⟩ := q
    exact ⟨q1, f, by rw [hH]; exact q2, fun j hj => by rw [hI]; exact q3 j hj⟩
  unfold CellR at h ⊢
  rw [hS]
  generalize mS M a = z at h ⊢
  split at h
  · exact hAR _ _ h
  · exact hAR _ _ h
  · exact hAR _ _ h
  · obtain ⟨r, V, h1, h2, h3⟩ := h
    refine ⟨r, V, h1, h2.kept hH, fun k hk => ?_⟩
    have q := h3 k hk
    unfold FV at q ⊢
    rw [hI, hR]
    exact q
  · trivial
theorem RepM.write {G : Ctx} {M M' : Mem} {H H' : Heap} (hP : RepM G M H) {a : Nat} (ha : 21 ≤ a) (hN : mN M' = mN M) (hS : mS M' = mS M) (hI : ∀ b j, b ≠ a → mI M' b j = mI M b j) (hR : ∀ b j, b ≠ a → mR M' b j = mR M b j) (hz : H'.size = H.size) (hq : ∀ q, q ≠ am G a → H'[q]? = H[q]?) (hc : CellR G M' a H') : RepM G M' H' := by
  obtain ⟨h1, h2, h3, h4, h5, h6, h7⟩ := hP
  refine ⟨by rw [hN]; exact h1, by rw [hz, hN]; exact h2, fun q hq' => ?_, fun b hb1 hb2 => ?_, by rw [hS]; exact h5, fun j => ?_, fun i hi => ?_⟩
  · rw [hq q ?_]
    · exact h3 q hq'
    · rw [am_hi ha]; omega
  · rw [hS] at hb1 hb2
    obtain ⟨q1, q2, q3⟩ := h4 b hb1 hb2
    refine ⟨q1, by rw [hN]; exact q2, ?_⟩
    by_cases hba : b = a
    · rw [hba]; exact hc
    · exact q3.keep (fun j => hI b j hba) (fun j => hR b j hba) (by rw [hS]) (hq _ (fun e => hba (am_inj q1 ha e)))
  · rw [hI 1 _ (by omega)]; exact h6 j
  · obtain ⟨q1, q2, q3⟩ := h7 i hi
    exact ⟨by rw [hS]; exact q1, by rw [hS]; exact q2, fun j => by rw [hI _ _ (by omega)]; exact q3 j⟩
theorem RepM.push {G : Ctx} {M : Mem} {H H' : Heap} (hP : RepM G M H) (sh : Nat × Nat) (hz : H'.size = H.size + 1) (hq : ∀ q, q < H.size → H'[q]? = H[q]?) (hc : CellR G (mNew M sh) (mN M) H') : RepM G (mNew M sh) H' ∧ am G (mN M) = H.size := by
  obtain ⟨h1, h2, h3, h4, h5, h6, h7⟩ := hP
  have hsz : am G (mN M) = H.size := by rw [am_hi h1, h2]
  have hS : ∀ b, b ≠ mN M → mS (mNew M sh) b = mS M b := fun b hb => by show (if b = M.1.1 then sh else M.1.2 b) = _; rw [if_neg (show ¬ b = M.1.1 from hb)]; rfl
  have hI : ∀ b, b ≠ mN M → mI (mNew M sh) b = mI M b := fun b hb => by show (if b = M.1.1 then _ else M.2.1 b) = _; rw [if_neg (show ¬ b = M.1.1 from hb)]; rfl
  have hR : ∀ b, b ≠ mN M → mR (mNew M sh) b = mR M b := fun b hb => by show (if b = M.1.1 then _ else M.2.2 b) = _; rw [if_neg (show ¬ b = M.1.1 from hb)]; rfl
  have hN : mN (mNew M sh) = mN M + 1 := rfl
  refine ⟨⟨by rw [hN]; omega, by rw [hz, hN, h2]; omega, fun q hq' => ?_, fun b hb1 hb2 => ?_, by rw [hS 1 (by omega)]; exact h5, fun j => by rw [hI 1 (by omega)]; exact h6 j, fun i hi => ?_⟩, hsz⟩
  · rw [hq q (by omega)]
    exact h3 q hq'
  · by_cases hb : b = mN M
    · subst hb
      exact ⟨h1, by rw [hN]; omega, hc⟩
    · rw [hS b hb] at hb1 hb2
      obtain ⟨q1, q2, q3⟩ := h4 b hb1 hb2
      refine ⟨q1, by rw [hN]; omega, q3.keep (fun j => by rw [hI b hb]) (fun j => by rw [hR b hb]) (hS b hb) (hq _ ?_)⟩
      rw [am_hi q1, h2]; omega
  · obtain ⟨q1, q2, q3⟩ := h7 i hi
    have e1 : 2 + i ≠ mN M := by omega
    have e2 : 11 + i ≠ mN M := by omega
    exact ⟨by rw [hS _ e1]; exact q1, by rw [hS _ e2]; exact q2, fun j => by rw [hI _ e2]; exact q3 j⟩
theorem RepM.obj {G : Ctx} {M : Mem} {H : Heap} (hP : RepM G M H) {a c : Nat} (hs : mS M a = (4, c)) : 21 ≤ a ∧ ∃ (r : vw_C) (V : Nat → Value), cls_[c]? = some r ∧ t_OB (am G a) ((gD G).1 c) r.2.2 ((gD G).2 c) H V ∧ ∀ k, k < r.2.2 → FV G M a c k (V k) := by
  obtain ⟨q1, q2, q3⟩ := hP.2.2.2.1 a (by rw [hs]; simp) (by rw [hs]; simp)
  unfold CellR at q3
  rw [hs] at q3
  exact ⟨q1, q3⟩
theorem RepM.arr {G : Ctx} {M : Mem} {H : Heap} (hP : RepM G M H) {a n : Nat} (hs : mS M a = (1, n)) : 21 ≤ a ∧ AR M a (gI G) n H[am G a]? := by
  obtain ⟨q1, q2, q3⟩ := hP.2.2.2.1 a (by rw [hs]; simp) (by rw [hs]; simp)
  unfold CellR at q3
  rw [hs] at q3
  exact ⟨q1, q3⟩
theorem RepM.arrB {G : Ctx} {M : Mem} {H : Heap} (hP : RepM G M H) {a n : Nat} (hs : mS M a = (2, n)) : 21 ≤ a ∧ AR M a (gB G) n H[am G a]? := by
  obtain ⟨q1, q2, q3⟩ := hP.2.2.2.1 a (by rw [hs]; simp) (by rw [hs]; simp)
  unfold CellR at q3
  rw [hs] at q3
  exact ⟨q1, q3⟩
theorem RepM.arrZ {G : Ctx} {M : Mem} {H : Heap} (hP : RepM G M H) {a n : Nat} (hs : mS M a = (3, n)) : 21 ≤ a ∧ AR M a (gZ G) n H[am G a]? := by
  obtain ⟨q1, q2, q3⟩ := hP.2.2.2.1 a (by rw [hs]; simp) (by rw [hs]; simp)
  unfold CellR at q3
  rw [hs] at q3
  exact ⟨q1, q3⟩
theorem i32_clamp {i : Int32} {x : Int} (h : i.toInt = x) : (i.toNatClampNeg : Nat) = x.toNat := by
  subst h; rfl
theorem i32_in {i : Int32} {x : Int} {n : Nat} (h : i.toInt = x) (h0 : 0 ≤ x) (h1 : x < n) : ¬ (i < 0 ∨ n ≤ i.toNatClampNeg) := by
  rw [Int32.lt_iff_toInt_lt, i32_clamp h, h]
  have z : (0 : Int32).toInt = 0 := rfl
  rw [z]
  omega
section EVB
variable {G : Ctx} {mt : MT} {d kc ks : Nat} {Q : Option MV → Mem → Prop} {pc : Nat} {ls : List (Option MV)} {st : List MV} {M : Mem}
theorem E_getI {a ci k idx : Nat} {C ref : String} {T : u_T} {N : Nat} {kz x : Int} (hd : decode mt.2.1 pc = .ok (.getfield idx, 3)) (hc : cls_[ci]? = some (C, T, N)) (hk : k < N) (hin : ∀ w ∈ u_ws C T N, w ∈ AW) (hw : Cond.fieldLink mt.1.cls idx ref (T k).2.1 (T k).2.2.1 ∈ AW)
    (hsame : ∀ (args : Array Value) (s : State), (∀ w ∈ AW, w.before args s = true) → ∀ x, s.fieldFound? (T k).1 (T k).2.1 (T k).2.2.1 = some x → s.fieldFound? ref (T k).2.1 (T k).2.2.1 = some x) (hf : fk ci k = false) (hz : (k : Int) = kz) (hs : mS M a = (4, ci)) (hx : mI M a kz = x)
    (kk : EV G mt d kc ks Q (pc + 3) ls (vI x :: st) M) : EV G mt d kc ks Q pc ls (vR a :: st) M := by
  intro p l e R s m args below meth c H locs cells slots mc ms lsR stR C0 hR hkk hl hP hL hst
  obtain ⟨v, rest, rfl, hv, hs1⟩ := hst.c
  have hv : v = rfv G a := hv
  obtain ⟨ha, r, V, h1, h2, h3⟩ := hP.obj hs
  rw [rfv_hi ha] at hv
  subst hv
  have hr : r = (C, T, N) := Option.some.inj (h1.symm.trans hc)
  subst hr
  have hK := C0.2.2.2.2.2.2.2.2.1
  have hts := C0.2.2.2.2.1
  obtain ⟨cell, q1, q2, q3, q4⟩ := h2
  obtain ⟨hS, hfc, kC, hkC, hkind⟩ := hK.1 ci _ hc
  obtain ⟨cf, kf, fi, f, hi, hsl⟩ := hS k hk
  have hV := h3 k hk
  unfold FV at hV
  rw [if_neg (by rw [hf]; decide)] at hV
  obtain ⟨i, e1, e2⟩ := hV
  refine W.getf C0.1 C0.2.1 C0.2.2.2.1 (hts _ hw) (hsame args s hts _ hi) (u_facts hfc hkC (u_lays hts hin hk) hi).1 q1 (by rw [q3]; exact fun h => by cases h) (v := .int i) ?_ rfl rfl hd (kk p l e R s m args below meth c H locs cells slots mc ms lsR _ C0 hR hkk hl hP hL ⟨⟨_, rfl, by rw [e2, hz, hx]⟩, hs1⟩)
  rw [hsl, q4 k hk, e1]
theorem E_getR {a ci k idx r0 : Nat} {C ref : String} {T : u_T} {N : Nat} (hd : decode mt.2.1 pc = .ok (.getfield idx, 3)) (hc : cls_[ci]? = some (C, T, N)) (hk : k < N) (hin : ∀ w ∈ u_ws C T N, w ∈ AW) (hw : Cond.fieldLink mt.1.cls idx ref (T k).2.1 (T k).2.2.1 ∈ AW)
    (hsame : ∀ (args : Array Value) (s : State), (∀ w ∈ AW, w.before args s = true) → ∀ x, s.fieldFound? (T k).1 (T k).2.1 (T k).2.2.1 = some x → s.fieldFound? ref (T k).2.1 (T k).2.2.1 = some x) (hf : fk ci k = true) (hs : mS M a = (4, ci)) (hx : mR M a k = r0)
    (kk : EV G mt d kc ks Q (pc + 3) ls (vR r0 :: st) M) : EV G mt d kc ks Q pc ls (vR a :: st) M := by
  intro p l e R s m args below meth c H locs cells slots mc ms lsR stR C0 hR hkk hl hP hL hst
  obtain ⟨v, rest, rfl, hv, hs1⟩ := hst.c
  have hv : v = rfv G a := hv
  obtain ⟨ha, r, V, h1, h2, h3⟩ := hP.obj hs
  rw [rfv_hi ha] at hv
  subst hv
  have hr : r = (C, T, N) := Option.some.inj (h1.symm.trans hc)
  subst hr
  have hK := C0.2.2.2.2.2.2.2.2.1
  have hts := C0.2.2.2.2.1
  obtain ⟨cell, q1, q2, q3, q4⟩ := h2
  obtain ⟨hS, hfc, kC, hkC, hkind⟩ := hK.1 ci _ hc
  obtain ⟨cf, kf, fi, f, hi, hsl⟩ := hS k hk
  have hV := h3 k hk
  unfold FV at hV
  rw [if_pos hf, hx] at hV
  refine W.getf C0.1 C0.2.1 C0.2.2.2.1 (hts _ hw) (hsame args s hts _ hi) (u_facts hfc hkC (u_lays hts hin hk) hi).1 q1 (by rw [q3]; exact fun h => by cases h) (v := V k) ?_ rfl rfl hd (kk p l e R s m args below meth c H locs cells slots mc ms lsR _ C0 hR hkk hl hP hL ⟨hV, hs1⟩)
  rw [hsl, q4 k hk]
/-- a store into a field: the heap behind it -/
theorem RepM.putf {s : State} {args : Array Value} {H H' : Heap} (hP : RepM G M H) {M' : Mem} {a ci k : Nat} {C : String} {T : u_T} {N : Nat} {V : Nat → Value} {cell : Cell} {w : Value} (hts : ∀ w ∈ AW, w.before args s = true) (hK : va_K (gD G) cls_ [] s) (hc : cls_[ci]? = some (C, T, N)) (hk : k < N) (hin : ∀ w ∈ u_ws C T N, w ∈ AW)
    (hty : ∀ k, k < N → parseFieldDescriptor (T k).2.2.1 = some (tyC ci k)) (hnm : ∀ a, a < N → ∀ b, b < N → a ≠ b → (T a).2.1 ≠ (T b).2.1) (hs : mS M a = (4, ci)) (ha : 21 ≤ a)
    (q2 : cell.cls = (gD G).1 ci) (q3 : cell.vm = .none) (q4 : ∀ k, k < N → cell.slots[(gD G).2 ci k]? = some (V k)) (h3 : ∀ k, k < N → FV G M a ci k (V k))
    (e1 : H'[am G a]? = some (cell.setSlot ((gD G).2 ci k) w)) (e2 : H'.size = H.size) (e3 : ∀ q, q ≠ am G a → H'[q]? = H[q]?)
    (hN : mN M' = mN M) (hS : mS M' = mS M) (hI : ∀ b (j : Int), ¬ (b = a ∧ j = (k : Int)) → mI M' b j = mI M b j) (hR : ∀ b j, ¬ (b = a ∧ j = k) → mR M' b j = mR M b j) (hw : FV G M' a ci k w) : RepM G M' H' := by
  have hap := va_apart (own := C) hts hin (tyC ci) hty hnm hK hc
  refine hP.write ha hN hS (fun b j hb => hI b j (fun h => hb h.1)) (fun b j hb => hR b j (fun h => hb h.1)) e2 e3 ?_
  unfold CellR
  rw [hS, hs]
  refine ⟨_, updV V k w, hc, ⟨_, e1, q2, q3, t_set q4 hap hk w⟩, fun j hj => ?_⟩
  by_cases hjk : j = k
  · subst hjk
    simp only [updV, if_true]
    exact hw
  · have e : updV V k w j = V j := by simp [updV, hjk]
    rw [e]
    have q := h3 j hj
    unfold FV at q ⊢
    rw [hI a (j : Int) (fun h => hjk (by have := h.2; omega)), hR a j (fun h => hjk h.2)]
    exact q
theorem E_putI {a ci k idx : Nat} {C ref : String} {T : u_T} {N : Nat} {kz x : Int} {ty : FieldType} (hd : decode mt.2.1 pc = .ok (.putfield idx, 3)) (hc : cls_[ci]? = some (C, T, N)) (hk : k < N) (hin : ∀ w ∈ u_ws C T N, w ∈ AW) (hty : ∀ k, k < N → parseFieldDescriptor (T k).2.2.1 = some (tyC ci k)) (hnm : ∀ a, a < N → ∀ b, b < N → a ≠ b → (T a).2.1 ≠ (T b).2.1)
    (hw : Cond.fieldLink mt.1.cls idx ref (T k).2.1 (T k).2.2.1 ∈ AW) (hsame : ∀ x : ClassId × Class × Nat × Field, ∀ s : State, s.fieldFound? (T k).1 (T k).2.1 (T k).2.2.1 = some x → s.fieldFound? ref (T k).2.1 (T k).2.2.1 = some x)
    (hfin : (T k).2.2.2 = false ∨ ((T k).2.2.2 = true ∧ mt.1.name = "<init>" ∧ (T k).1 = mt.1.cls)) (hf : fk ci k = false) (hz : (k : Int) = kz) (htk : tyC ci k = ty) (hn : narrow ty (.int (Int32.ofInt x)) = .int (Int32.ofInt x) ∧ fits ty (.int (Int32.ofInt x)) = true) (hs : mS M a = (4, ci))
    (kk : EV G mt d kc ks Q (pc + 3) ls st (mWI M a kz x)) : EV G mt d kc ks Q pc ls (vI x :: vR a :: st) M := by
  intro p l e R s m args below meth c H locs cells slots mc ms lsR stR C0 hR hkk hl hP hL hst
  obtain ⟨v, rest, rfl, ⟨i, rfl, hi⟩, hs1⟩ := hst.c
  obtain ⟨v, rest, rfl, hv, hs2⟩ := hs1.c
  have hv : v = rfv G a := hv
  obtain ⟨ha, r, V, h1, h2, h3⟩ := hP.obj hs
  rw [rfv_hi ha] at hv
  subst hv
  have hr : r = (C, T, N) := Option.some.inj (h1.symm.trans hc)
  subst hr
  have hK := C0.2.2.2.2.2.2.2.2.1
  have hts := C0.2.2.2.2.1
  obtain ⟨cell, q1, q2, q3, q4⟩ := h2
  obtain ⟨hS, hfc, kC, hkC, hkind⟩ := hK.1 ci _ hc
  obtain ⟨cf, kf, fi, f, hfi, hsl⟩ := hS k hk
  have hst0 := (u_facts hfc hkC (u_lays hts hin hk) hfi).1
  have hd' : parseFieldDescriptor (T k).2.2.1 = some ty := by rw [← htk]; exact hty k hk
  have hii : i = Int32.ofInt x := by rw [← hi, i32_of]
  subst hz
  have goal : ∀ H' : Heap, H'[am G a]? = some (cell.setSlot f.slot (.int i)) → H'.size = H.size → (∀ q, q ≠ am G a → H'[q]? = H[q]?) → W p l e R s m args below meth c H' (locs ++ [⟨am G a, f.slot⟩]) cells slots (MQ below (QX G Q) args s mc ms (fun q => gb G ≤ q)) (F0 m (pc + 3) lsR rest) := by
    intro H' e1 e2 e3
    rw [hsl] at e1
    refine kk p l e R s m args below meth c H' _ cells slots mc ms lsR _ C0 hR hkk ?_ ?_ hL hs2
    · intro q hq
      rcases List.mem_append.mp hq with h | h
      · exact hl q h
      · rw [List.mem_singleton.mp h]
        show gb G ≤ am G a
        rw [am_hi ha]; omega
    · refine hP.putf hts hK hc hk hin hty hnm hs ha q2 q3 q4 h3 e1 e2 e3 rfl rfl (fun b j h => up2_ne _ _ h) (fun b j h => rfl) ?_
      unfold FV
      rw [if_neg (by rw [hf]; decide)]
      exact ⟨i, rfl, by rw [hi]; exact (up2_self _ _ _ _).symm⟩
  rcases hfin with hfin | ⟨hfin, hnm2, hdecl⟩
  · have hlay := hts _ (hin _ (u_in_lay hk))
    unfold u_lay at hlay
    rw [if_neg (by rw [hfin]; decide)] at hlay
    have h6 := u_store (v := .int i) hfc hkC hkind hlay hfi hd' (by rw [hii]; exact hn.1) (by rw [hii]; exact hn.2)
    exact W.putK C0.1 C0.2.1 (f := f) ⟨C0.2.2.2.1, hts _ hw, ⟨_, _, _, hsame _ s hfi⟩, hst0⟩ (by rw [q2]; exact h6) q1 q3 (by rw [hsl]; exact k2_hasslot (q4 k hk)) rfl rfl hd goal
  · have hlay := hts _ (hin _ (u_in_lay hk))
    unfold u_lay at hlay
    rw [if_pos hfin] at hlay
    have hcf : m.cls = cf := by
      obtain ⟨_, _, c', _, _, _, -, -, hf', -, -, -, hown2, -⟩ := Cond.laysFinal_spec hlay
      have e1 : c' = cf := by have := hfi.symm.trans hf'; simp at this; exact this.1.symm
      rw [hdecl] at hown2
      rw [← e1]; exact Option.some.inj (C0.2.2.2.1.symm.trans hown2)
    have h6 := u_fits (v := .int i) hfc hkC hkind (Or.inr hlay) hfi hd' (by rw [hii]; exact hn.1) (by rw [hii]; exact hn.2)
    exact W.putFinK C0.1 C0.2.1 C0.2.2.2.1 (hts _ hw) (hsame _ s hfi) hst0 hcf (C0.2.2.2.2.2.2.2.1.trans hnm2) (by rw [q2]; exact h6) q1 q3 (by rw [hsl]; exact k2_hasslot (q4 k hk)) rfl rfl hd goal
theorem E_putR {a ci k idx r0 : Nat} {C ref : String} {T : u_T} {N : Nat} {ty : FieldType} (hd : decode mt.2.1 pc = .ok (.putfield idx, 3)) (hc : cls_[ci]? = some (C, T, N)) (hk : k < N) (hin : ∀ w ∈ u_ws C T N, w ∈ AW) (hty : ∀ k, k < N → parseFieldDescriptor (T k).2.2.1 = some (tyC ci k)) (hnm : ∀ a, a < N → ∀ b, b < N → a ≠ b → (T a).2.1 ≠ (T b).2.1)
    (hw : Cond.fieldLink mt.1.cls idx ref (T k).2.1 (T k).2.2.1 ∈ AW) (hsame : ∀ x : ClassId × Class × Nat × Field, ∀ s : State, s.fieldFound? (T k).1 (T k).2.1 (T k).2.2.1 = some x → s.fieldFound? ref (T k).2.1 (T k).2.2.1 = some x)
    (hfin : (T k).2.2.2 = false ∨ ((T k).2.2.2 = true ∧ mt.1.name = "<init>" ∧ (T k).1 = mt.1.cls)) (hf : fk ci k = true) (htk : tyC ci k = ty) (hn : ∀ x : Nat, narrow ty (.ref x) = .ref x ∧ fits ty (.ref x) = true) (hs : mS M a = (4, ci)) (hr0 : 21 ≤ r0)
    (kk : EV G mt d kc ks Q (pc + 3) ls st (mWR M a k r0)) : EV G mt d kc ks Q pc ls (vR r0 :: vR a :: st) M := by
  intro p l e R s m args below meth c H locs cells slots mc ms lsR stR C0 hR hkk hl hP hL hst
  obtain ⟨w, rest, rfl, hi, hs1⟩ := hst.c
  obtain ⟨v, rest, rfl, hv, hs2⟩ := hs1.c
  have hv : v = rfv G a := hv
  have hi : w = rfv G r0 := hi
  rw [rfv_hi hr0] at hi
  subst hi
  obtain ⟨ha, r, V, h1, h2, h3⟩ := hP.obj hs
  rw [rfv_hi ha] at hv
  subst hv
  have hr : r = (C, T, N) := Option.some.inj (h1.symm.trans hc)
  subst hr
  have hK := C0.2.2.2.2.2.2.2.2.1
  have hts := C0.2.2.2.2.1
  obtain ⟨cell, q1, q2, q3, q4⟩ := h2
  obtain ⟨hS, hfc, kC, hkC, hkind⟩ := hK.1 ci _ hc
  obtain ⟨cf, kf, fi, f, hfi, hsl⟩ := hS k hk
  have hst0 := (u_facts hfc hkC (u_lays hts hin hk) hfi).1
  have hd' : parseFieldDescriptor (T k).2.2.1 = some ty := by rw [← htk]; exact hty k hk
  have goal : ∀ H' : Heap, H'[am G a]? = some (cell.setSlot f.slot (.ref (am G r0))) → H'.size = H.size → (∀ q, q ≠ am G a → H'[q]? = H[q]?) → W p l e R s m args below meth c H' (locs ++ [⟨am G a, f.slot⟩]) cells slots (MQ below (QX G Q) args s mc ms (fun q => gb G ≤ q)) (F0 m (pc + 3) lsR rest) := by
    intro H' e1 e2 e3
    rw [hsl] at e1
    refine kk p l e R s m args below meth c H' _ cells slots mc ms lsR _ C0 hR hkk ?_ ?_ hL hs2
    · intro q hq
      rcases List.mem_append.mp hq with h | h
      · exact hl q h
      · rw [List.mem_singleton.mp h]
        show gb G ≤ am G a
        rw [am_hi ha]; omega
    · refine hP.putf hts hK hc hk hin hty hnm hs ha q2 q3 q4 h3 e1 e2 e3 rfl rfl (fun b j h => rfl) (fun b j h => upN_ne _ _ h) ?_
      unfold FV
      rw [if_pos hf]
      rw [show mR (mWR M a k r0) a k = r0 from upN_self _ _ _ _, rfv_hi hr0]
  rcases hfin with hfin | ⟨hfin, hnm2, hdecl⟩
  · have hlay := hts _ (hin _ (u_in_lay hk))
    unfold u_lay at hlay
    rw [if_neg (by rw [hfin]; decide)] at hlay
    have h6 := u_store (v := .ref (am G r0)) hfc hkC hkind hlay hfi hd' (hn _).1 (hn _).2
    exact W.putK C0.1 C0.2.1 (f := f) ⟨C0.2.2.2.1, hts _ hw, ⟨_, _, _, hsame _ s hfi⟩, hst0⟩ (by rw [q2]; exact h6) q1 q3 (by rw [hsl]; exact k2_hasslot (q4 k hk)) rfl rfl hd goal
  · have hlay := hts _ (hin _ (u_in_lay hk))
    unfold u_lay at hlay
    rw [if_pos hfin] at hlay
    have hcf : m.cls = cf := by
      obtain ⟨_, _, c', _, _, _, -, -, hf', -, -, -, hown2, -⟩ := Cond.laysFinal_spec hlay
      have e1 : c' = cf := by have := hfi.symm.trans hf'; simp at this; exact this.1.symm
      rw [hdecl] at hown2
      rw [← e1]; exact Option.some.inj (C0.2.2.2.1.symm.trans hown2)
    have h6 := u_fits (v := .ref (am G r0)) hfc hkC hkind (Or.inr hlay) hfi hd' (hn _).1 (hn _).2
    exact W.putFinK C0.1 C0.2.1 C0.2.2.2.1 (hts _ hw) (hsame _ s hfi) hst0 hcf (C0.2.2.2.2.2.2.2.1.trans hnm2) (by rw [q2]; exact h6) q1 q3 (by rw [hsl]; exact k2_hasslot (q4 k hk)) rfl rfl hd goal
end EVB
