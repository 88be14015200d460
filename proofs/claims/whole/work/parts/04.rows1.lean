/-! ===== 04: rows of EV for instructions that leave the heap alone ===== -/
theorem i32_b {x : Int} (h1 : -2147483648 ≤ x) (h2 : x ≤ 2147483647) : x.bmod (2 ^ 32) = x := by
  rw [Int.bmod_def]
  split <;> omega
theorem i64_b {x : Int} (h1 : -9223372036854775808 ≤ x) (h2 : x ≤ 9223372036854775807) : x.bmod (2 ^ 64) = x := by
  rw [Int.bmod_def]
  split <;> omega
theorem i32_lo (i : Int32) : -2147483648 ≤ i.toInt := by have := Int32.le_toInt i; omega
theorem i32_hi (i : Int32) : i.toInt ≤ 2147483647 := by have := Int32.toInt_lt i; omega
theorem i64_lo (i : Int64) : -9223372036854775808 ≤ i.toInt := by have := Int64.le_toInt i; omega
theorem i64_hi (i : Int64) : i.toInt ≤ 9223372036854775807 := by have := Int64.toInt_lt i; omega
theorem i32_of (i : Int32) : Int32.ofInt i.toInt = i := Int32.ofInt_toInt i
theorem i64_of (i : Int64) : Int64.ofInt i.toInt = i := Int64.ofInt_toInt i
theorem i32_inj {i j : Int32} (h : i.toInt = j.toInt) : i = j := Int32.toInt_inj.mp h
theorem i32_to {x : Int} (h1 : -2147483648 ≤ x) (h2 : x ≤ 2147483647) : (Int32.ofInt x).toInt = x := by
  rw [Int32.toInt_ofInt]; exact i32_b h1 h2
theorem i64_to {x : Int} (h1 : -9223372036854775808 ≤ x) (h2 : x ≤ 9223372036854775807) : (Int64.ofInt x).toInt = x := by
  rw [Int64.toInt_ofInt]; exact i64_b h1 h2
/-- the bit operations, by their Int32 -/
def bAnd (x y : Int) : Int := (Int32.ofInt x &&& Int32.ofInt y).toInt
def bOr (x y : Int) : Int := (Int32.ofInt x ||| Int32.ofInt y).toInt
def bXor (x y : Int) : Int := (Int32.ofInt x ^^^ Int32.ofInt y).toInt
def bShl (x y : Int) : Int := (Int32.ofInt x <<< (Int32.ofInt y &&& 31)).toInt
def bShr (x y : Int) : Int := (Int32.ofInt x >>> (Int32.ofInt y &&& 31)).toInt
def bUshr (x y : Int) : Int := ((Int32.ofInt x).toUInt32 >>> ((Int32.ofInt y).toUInt32 &&& Int32.toUInt32 31)).toInt32.toInt
def bI2b (x : Int) : Int := (Int32.ofInt x).toInt8.toInt32.toInt
def bI2s (x : Int) : Int := (Int32.ofInt x).toInt16.toInt32.toInt
def bI2c (x : Int) : Int := ((Int32.ofInt x).toUInt32 % 65536).toInt32.toInt
def lAnd (x y : Int) : Int := (Int64.ofInt x &&& Int64.ofInt y).toInt
def lOr (x y : Int) : Int := (Int64.ofInt x ||| Int64.ofInt y).toInt
def lShl (x y : Int) : Int := (Int64.ofInt x <<< ((Int32.ofInt y).toInt64 &&& 63)).toInt
def lShr (x y : Int) : Int := (Int64.ofInt x >>> ((Int32.ofInt y).toInt64 &&& 63)).toInt
def lL2i (x : Int) : Int := (Int64.ofInt x).toInt32.toInt
theorem rfv_or {G : Ctx} {s : State} (h : KX G s) (a : Nat) : rfv G a = .null ∨ ∃ x, rfv G a = .ref x := by
  by_cases h0 : a = 0
  · exact Or.inl (by simp [rfv, h0])
  · by_cases h1 : a = 20
    · subst h1
      rcases h.2.2.2.2.1.2.2.2 with q | ⟨x, q⟩
      · exact Or.inl (by simp [rfv, q])
      · exact Or.inr ⟨x, by simp [rfv, q]⟩
    · exact Or.inr ⟨am G a, by simp [rfv, h0, h1]⟩
theorem vr_cat {G : Ctx} {s : State} (h : KX G s) {x : MV} {v : Value} (hv : VR G x v) : v.category = 2 → ∃ y, x = vL y := by
  match x, hv with
  | .inl x, ⟨i, e, _⟩ => intro q; rw [e] at q; cases q
  | .inr (.inl a), e => 
    intro q
    have e : v = rfv G a := e
    rcases rfv_or h a with r | ⟨y, r⟩ <;> (rw [e, r] at q; cases q)
  | .inr (.inr x), _ => intro _; exact ⟨x, rfl⟩
def pOk (ls : List (Option MV)) (i : Nat) : Bool := match i with
  | 0 => true
  | j + 1 => match ls[j]? with
    | some (some (.inr (.inr _))) => false
    | _ => true
theorem LR.get {G : Ctx} {ls : List (Option MV)} {lsR : Array Slot} {nL i : Nat} {x : MV} (h : LR G ls lsR nL) (hx : ls[i]? = some (some x)) : ∃ v, lsR[i]? = some (.val v) ∧ VR G x v := by
  obtain ⟨lv, h1, h2⟩ := h
  obtain ⟨v, h3, h4⟩ := h2 i x hx
  exact ⟨v, h1.2.2 _ h3, h4⟩
theorem LR.set1 {G : Ctx} {s : State} (hK : KX G s) {ls : List (Option MV)} {lsR : Array Slot} {nL i : Nat} {x : MV} {v : Value} (h : LR G ls lsR nL) (hx : VR G x v) (hc : v.category = 1) (hp : pOk ls i = true) (hi : i < nL) :
    ∃ ls', storeLocals lsR i v = some ls' ∧ LR G (ls.set i (some x)) ls' nL := by
  obtain ⟨lv, h1, h2⟩ := h
  obtain ⟨ls', e1, e2⟩ := lv_store1 h1 hi hc
  refine ⟨ls', e1, _, e2, ?_⟩
  intro j y hy
  rw [List.getElem?_set] at hy
  by_cases hj : i = j
  · subst hj
    rw [if_pos rfl] at hy
    split at hy
    · simp at hy; subst hy; exact ⟨v, List.mem_cons_self, hx⟩
    · cases hy
  · rw [if_neg hj] at hy
    obtain ⟨w, q1, q2⟩ := h2 j y hy
    refine ⟨w, List.mem_cons_of_mem _ (List.mem_filter.mpr ⟨q1, ?_⟩), q2⟩
    have hne : (j == i) = false := by simp; exact fun h => hj h.symm
    simp only [hne, Bool.not_false, Bool.true_and]
    by_cases hji : j + 1 = i
    · subst hji
      have hcat : ¬ w.category = 2 := by
        intro q
        obtain ⟨z, rfl⟩ := vr_cat hK q2 q
        simp [pOk, hy] at hp
      simp [hcat]
    · simp [hji]
theorem LR.set2 {G : Ctx} {s : State} (hK : KX G s) {ls : List (Option MV)} {lsR : Array Slot} {nL i : Nat} {x : MV} {v : Value} (h : LR G ls lsR nL) (hx : VR G x v) (hc : v.category = 2) (hp : pOk ls i = true) (hi : i + 1 < nL) :
    ∃ ls', storeLocals lsR i v = some ls' ∧ LR G ((ls.set i (some x)).set (i + 1) none) ls' nL := by
  obtain ⟨lv, h1, h2⟩ := h
  obtain ⟨ls', e1, e2⟩ := lv_store2 h1 hi hc
  refine ⟨ls', e1, _, e2, ?_⟩
  intro j y hy
  rw [List.getElem?_set] at hy
  by_cases hj2 : i + 1 = j
  · subst hj2
    rw [if_pos rfl] at hy
    split at hy <;> simp at hy
  rw [if_neg hj2, List.getElem?_set] at hy
  by_cases hj : i = j
  · subst hj
    rw [if_pos rfl] at hy
    split at hy
    · simp at hy; subst hy; exact ⟨v, List.mem_cons_self, hx⟩
    · cases hy
  · rw [if_neg hj] at hy
    obtain ⟨w, q1, q2⟩ := h2 j y hy
    refine ⟨w, List.mem_cons_of_mem _ (List.mem_filter.mpr ⟨q1, ?_⟩), q2⟩
    have hne : (j == i) = false := by simp; exact fun h => hj h.symm
    have hne2 : (j == i + 1) = false := by simp; exact fun h => hj2 h.symm
    simp only [hne, hne2, Bool.not_false, Bool.true_and]
    by_cases hji : j + 1 = i
    · subst hji
      have hcat : ¬ w.category = 2 := by
        intro q
        obtain ⟨z, rfl⟩ := vr_cat hK q2 q
        simp [pOk, hy] at hp
      simp [hcat]
    · simp [hji]
section EVA
variable {G : Ctx} {mt : MT} {d kc ks : Nat} {Q : Option MV → Mem → Prop} {pc : Nat} {ls : List (Option MV)} {st : List MV} {M : Mem}
theorem E_iconst {n : Int} (hd : decode mt.2.1 pc = .ok (.iconst n, 1)) (hn : (Int32.ofInt n).toInt = n := by decide) (k : EV G mt d kc ks Q (pc + 1) ls (vI n :: st) M) : EV G mt d kc ks Q pc ls st M := by
  intro p l e R s m args below meth c H locs cells slots mc ms lsR stR C hR hk hl hP hL hst
  exact lv_iconst C.1 C.2.1 hd rfl (k p l e R s m args below meth c H locs cells slots mc ms lsR _ C hR hk hl hP hL ⟨⟨_, rfl, hn⟩, hst⟩)
theorem E_bipush {n : Int} (hd : decode mt.2.1 pc = .ok (.bipush n, 2)) (hn : (Int8.ofInt n).toInt32.toInt = n := by decide) (k : EV G mt d kc ks Q (pc + 2) ls (vI n :: st) M) : EV G mt d kc ks Q pc ls st M := by
  intro p l e R s m args below meth c H locs cells slots mc ms lsR stR C hR hk hl hP hL hst
  exact lv_bipush C.1 C.2.1 hd rfl (k p l e R s m args below meth c H locs cells slots mc ms lsR _ C hR hk hl hP hL ⟨⟨_, rfl, hn⟩, hst⟩)
theorem E_sipush {n : Int} (hd : decode mt.2.1 pc = .ok (.sipush n, 3)) (hn : (Int16.ofInt n).toInt32.toInt = n := by decide) (k : EV G mt d kc ks Q (pc + 3) ls (vI n :: st) M) : EV G mt d kc ks Q pc ls st M := by
  intro p l e R s m args below meth c H locs cells slots mc ms lsR stR C hR hk hl hP hL hst
  exact lv_sipush C.1 C.2.1 hd rfl (k p l e R s m args below meth c H locs cells slots mc ms lsR _ C hR hk hl hP hL ⟨⟨_, rfl, hn⟩, hst⟩)
theorem E_lconst {n : Fin 2} {x : Int} (hd : decode mt.2.1 pc = .ok (.lconst n, 1)) (hn : (Int64.ofNat n).toInt = x) (k : EV G mt d kc ks Q (pc + 1) ls (vL x :: st) M) : EV G mt d kc ks Q pc ls st M := by
  intro p l e R s m args below meth c H locs cells slots mc ms lsR stR C hR hk hl hP hL hst
  exact lv_lconst C.1 C.2.1 hd rfl (k p l e R s m args below meth c H locs cells slots mc ms lsR _ C hR hk hl hP hL ⟨⟨_, rfl, hn⟩, hst⟩)
theorem E_ldc {i : Nat} {v : Int32} {x : Int} (hd : decode mt.2.1 pc = .ok (.ldc i, 2)) (hw : Cond.constant mt.1.cls i v ∈ AW) (hn : v.toInt = x) (k : EV G mt d kc ks Q (pc + 2) ls (vI x :: st) M) : EV G mt d kc ks Q pc ls st M := by
  intro p l e R s m args below meth c H locs cells slots mc ms lsR stR C hR hk hl hP hL hst
  exact lv_ldc C.1 C.2.1 C.2.2.2.1 (C.2.2.2.2.1 _ hw) hd (k p l e R s m args below meth c H locs cells slots mc ms lsR _ C hR hk hl hP hL ⟨⟨_, rfl, hn⟩, hst⟩)
theorem E_ldcw {i : Nat} {v : Int32} {x : Int} (hd : decode mt.2.1 pc = .ok (.ldc_w i, 3)) (hw : Cond.constant mt.1.cls i v ∈ AW) (hn : v.toInt = x) (k : EV G mt d kc ks Q (pc + 3) ls (vI x :: st) M) : EV G mt d kc ks Q pc ls st M := by
  intro p l e R s m args below meth c H locs cells slots mc ms lsR stR C hR hk hl hP hL hst
  exact lv_ldcw C.1 C.2.1 C.2.2.2.1 (C.2.2.2.2.1 _ hw) hd (k p l e R s m args below meth c H locs cells slots mc ms lsR _ C hR hk hl hP hL ⟨⟨_, rfl, hn⟩, hst⟩)
theorem E_ldc2 {i : Nat} {v : Int64} {x : Int} (hd : decode mt.2.1 pc = .ok (.ldc2_w i, 3)) (hw : Cond.constantLong mt.1.cls i v ∈ AW) (hn : v.toInt = x) (k : EV G mt d kc ks Q (pc + 3) ls (vL x :: st) M) : EV G mt d kc ks Q pc ls st M := by
  intro p l e R s m args below meth c H locs cells slots mc ms lsR stR C hR hk hl hP hL hst
  exact lv_ldc2 C.1 C.2.1 C.2.2.2.1 (C.2.2.2.2.1 _ hw) hd (k p l e R s m args below meth c H locs cells slots mc ms lsR _ C hR hk hl hP hL ⟨⟨_, rfl, hn⟩, hst⟩)
theorem E_iload_n {n : Fin 4} {x : Int} (hd : decode mt.2.1 pc = .ok (.iload_n n, 1)) (hx : ls[n.val]? = some (some (vI x))) (k : EV G mt d kc ks Q (pc + 1) ls (vI x :: st) M) : EV G mt d kc ks Q pc ls st M := by
  intro p l e R s m args below meth c H locs cells slots mc ms lsR stR C hR hk hl hP hL hst
  obtain ⟨v, h1, i, rfl, h2⟩ := hL.get hx
  exact lv_iload_n C.1 C.2.1 hd rfl h1 (k p l e R s m args below meth c H locs cells slots mc ms lsR _ C hR hk hl hP hL ⟨⟨_, rfl, h2⟩, hst⟩)
theorem E_iload {n : Nat} {x : Int} (hd : decode mt.2.1 pc = .ok (.iload n, 2)) (hx : ls[n]? = some (some (vI x))) (k : EV G mt d kc ks Q (pc + 2) ls (vI x :: st) M) : EV G mt d kc ks Q pc ls st M := by
  intro p l e R s m args below meth c H locs cells slots mc ms lsR stR C hR hk hl hP hL hst
  obtain ⟨v, h1, i, rfl, h2⟩ := hL.get hx
  exact lv_iload C.1 C.2.1 hd h1 (k p l e R s m args below meth c H locs cells slots mc ms lsR _ C hR hk hl hP hL ⟨⟨_, rfl, h2⟩, hst⟩)
theorem E_lload_n {n : Fin 4} {x : Int} (hd : decode mt.2.1 pc = .ok (.lload_n n, 1)) (hx : ls[n.val]? = some (some (vL x))) (k : EV G mt d kc ks Q (pc + 1) ls (vL x :: st) M) : EV G mt d kc ks Q pc ls st M := by
  intro p l e R s m args below meth c H locs cells slots mc ms lsR stR C hR hk hl hP hL hst
  obtain ⟨v, h1, i, rfl, h2⟩ := hL.get hx
  exact lv_lload_n C.1 C.2.1 hd rfl h1 (k p l e R s m args below meth c H locs cells slots mc ms lsR _ C hR hk hl hP hL ⟨⟨_, rfl, h2⟩, hst⟩)
theorem E_lload {n : Nat} {x : Int} (hd : decode mt.2.1 pc = .ok (.lload n, 2)) (hx : ls[n]? = some (some (vL x))) (k : EV G mt d kc ks Q (pc + 2) ls (vL x :: st) M) : EV G mt d kc ks Q pc ls st M := by
  intro p l e R s m args below meth c H locs cells slots mc ms lsR stR C hR hk hl hP hL hst
  obtain ⟨v, h1, i, rfl, h2⟩ := hL.get hx
  exact lv_lload C.1 C.2.1 hd h1 (k p l e R s m args below meth c H locs cells slots mc ms lsR _ C hR hk hl hP hL ⟨⟨_, rfl, h2⟩, hst⟩)
theorem E_aload_n {n : Fin 4} {a : Nat} (hd : decode mt.2.1 pc = .ok (.aload_n n, 1)) (hx : ls[n.val]? = some (some (vR a))) (k : EV G mt d kc ks Q (pc + 1) ls (vR a :: st) M) : EV G mt d kc ks Q pc ls st M := by
  intro p l e R s m args below meth c H locs cells slots mc ms lsR stR C hR hk hl hP hL hst
  obtain ⟨v, h1, h2⟩ := hL.get hx
  have h2 : v = rfv G a := h2
  intro T hT X
  obtain ⟨t, a1, b1⟩ := k p l e R s m args below meth c H locs cells slots mc ms lsR (v :: stR) C hR hk hl hP hL ⟨h2, hst⟩ T hT X
  refine ⟨t, ?_, b1⟩
  rcases rfv_or C.2.2.2.2.2.2.2.2 a with q | ⟨x, q⟩ <;> rw [← h2] at q <;> subst q
  · jvm_step X.here [X.here.top, C.1, C.2.1, hd, h1]
    exact ⟨rfl, a1⟩
  · jvm_step X.here [X.here.top, C.1, C.2.1, hd, h1]
    exact ⟨rfl, a1⟩
theorem E_aload {n : Nat} {a : Nat} (hd : decode mt.2.1 pc = .ok (.aload n, 2)) (hx : ls[n]? = some (some (vR a))) (k : EV G mt d kc ks Q (pc + 2) ls (vR a :: st) M) : EV G mt d kc ks Q pc ls st M := by
  intro p l e R s m args below meth c H locs cells slots mc ms lsR stR C hR hk hl hP hL hst
  obtain ⟨v, h1, h2⟩ := hL.get hx
  have h2 : v = rfv G a := h2
  intro T hT X
  obtain ⟨t, a1, b1⟩ := k p l e R s m args below meth c H locs cells slots mc ms lsR (v :: stR) C hR hk hl hP hL ⟨h2, hst⟩ T hT X
  refine ⟨t, ?_, b1⟩
  rcases rfv_or C.2.2.2.2.2.2.2.2 a with q | ⟨x, q⟩ <;> rw [← h2] at q <;> subst q
  · jvm_step X.here [X.here.top, C.1, C.2.1, hd, h1]
    exact ⟨rfl, a1⟩
  · jvm_step X.here [X.here.top, C.1, C.2.1, hd, h1]
    exact ⟨rfl, a1⟩
theorem E_istore_n {n : Fin 4} {x : Int} (hd : decode mt.2.1 pc = .ok (.istore_n n, 1)) (hp : pOk ls n.val = true := by rfl) (hi : n.val < mt.2.2.1 := by decide) (k : EV G mt d kc ks Q (pc + 1) (ls.set n.val (some (vI x))) st M) : EV G mt d kc ks Q pc ls (vI x :: st) M := by
  intro p l e R s m args below meth c H locs cells slots mc ms lsR stR C hR hk hl hP hL hst
  obtain ⟨v, rest, rfl, hv, hs1⟩ := hst.c
  obtain ⟨i, rfl, hv⟩ := hv
  obtain ⟨ls', e1, e2⟩ := hL.set1 C.2.2.2.2.2.2.2.2 (x := vI x) ⟨_, rfl, hv⟩ rfl hp hi
  intro T hT X
  obtain ⟨t, a1, b1⟩ := k p l e R s m args below meth c H locs cells slots mc ms ls' rest C hR hk hl hP e2 hs1 T hT X
  refine ⟨t, ?_, b1⟩
  jvm_step X.here [X.here.top, ↓top_set X.here.top, C.1, C.2.1, hd, e1]
  exact a1
theorem E_istore {n : Nat} {x : Int} (hd : decode mt.2.1 pc = .ok (.istore n, 2)) (hp : pOk ls n = true := by rfl) (hi : n < mt.2.2.1 := by decide) (k : EV G mt d kc ks Q (pc + 2) (ls.set n (some (vI x))) st M) : EV G mt d kc ks Q pc ls (vI x :: st) M := by
  intro p l e R s m args below meth c H locs cells slots mc ms lsR stR C hR hk hl hP hL hst
  obtain ⟨v, rest, rfl, hv, hs1⟩ := hst.c
  obtain ⟨i, rfl, hv⟩ := hv
  obtain ⟨ls', e1, e2⟩ := hL.set1 C.2.2.2.2.2.2.2.2 (x := vI x) ⟨_, rfl, hv⟩ rfl hp hi
  intro T hT X
  obtain ⟨t, a1, b1⟩ := k p l e R s m args below meth c H locs cells slots mc ms ls' rest C hR hk hl hP e2 hs1 T hT X
  refine ⟨t, ?_, b1⟩
  jvm_step X.here [X.here.top, ↓top_set X.here.top, C.1, C.2.1, hd, e1]
  exact a1
theorem E_astore_n {n : Fin 4} {a : Nat} (hd : decode mt.2.1 pc = .ok (.astore_n n, 1)) (hp : pOk ls n.val = true := by rfl) (hi : n.val < mt.2.2.1 := by decide) (k : EV G mt d kc ks Q (pc + 1) (ls.set n.val (some (vR a))) st M) : EV G mt d kc ks Q pc ls (vR a :: st) M := by
  intro p l e R s m args below meth c H locs cells slots mc ms lsR stR C hR hk hl hP hL hst
  obtain ⟨v, rest, rfl, hv, hs1⟩ := hst.c
  have hv : v = rfv G a := hv
  have hc : v.category = 1 := by rcases rfv_or C.2.2.2.2.2.2.2.2 a with q | ⟨x, q⟩ <;> rw [hv, q] <;> rfl
  obtain ⟨ls', e1, e2⟩ := hL.set1 C.2.2.2.2.2.2.2.2 (x := vR a) hv hc hp hi
  intro T hT X
  obtain ⟨t, a1, b1⟩ := k p l e R s m args below meth c H locs cells slots mc ms ls' rest C hR hk hl hP e2 hs1 T hT X
  refine ⟨t, ?_, b1⟩
  rcases rfv_or C.2.2.2.2.2.2.2.2 a with q | ⟨x, q⟩ <;> rw [← hv] at q <;> subst q
  · jvm_step X.here [X.here.top, ↓top_set X.here.top, C.1, C.2.1, hd, e1]
    exact ⟨rfl, a1⟩
  · jvm_step X.here [X.here.top, ↓top_set X.here.top, C.1, C.2.1, hd, e1]
    exact ⟨rfl, a1⟩
theorem E_astore {n : Nat} {a : Nat} (hd : decode mt.2.1 pc = .ok (.astore n, 2)) (hp : pOk ls n = true := by rfl) (hi : n < mt.2.2.1 := by decide) (k : EV G mt d kc ks Q (pc + 2) (ls.set n (some (vR a))) st M) : EV G mt d kc ks Q pc ls (vR a :: st) M := by
  intro p l e R s m args below meth c H locs cells slots mc ms lsR stR C hR hk hl hP hL hst
  obtain ⟨v, rest, rfl, hv, hs1⟩ := hst.c
  have hv : v = rfv G a := hv
  have hc : v.category = 1 := by rcases rfv_or C.2.2.2.2.2.2.2.2 a with q | ⟨x, q⟩ <;> rw [hv, q] <;> rfl
  obtain ⟨ls', e1, e2⟩ := hL.set1 C.2.2.2.2.2.2.2.2 (x := vR a) hv hc hp hi
  intro T hT X
  obtain ⟨t, a1, b1⟩ := k p l e R s m args below meth c H locs cells slots mc ms ls' rest C hR hk hl hP e2 hs1 T hT X
  refine ⟨t, ?_, b1⟩
  rcases rfv_or C.2.2.2.2.2.2.2.2 a with q | ⟨x, q⟩ <;> rw [← hv] at q <;> subst q
  · jvm_step X.here [X.here.top, ↓top_set X.here.top, C.1, C.2.1, hd, e1]
    exact ⟨rfl, a1⟩
  · jvm_step X.here [X.here.top, ↓top_set X.here.top, C.1, C.2.1, hd, e1]
    exact ⟨rfl, a1⟩
theorem E_lstore_n {n : Fin 4} {x : Int} (hd : decode mt.2.1 pc = .ok (.lstore_n n, 1)) (hp : pOk ls n.val = true := by rfl) (hi : n.val + 1 < mt.2.2.1 := by decide) (k : EV G mt d kc ks Q (pc + 1) ((ls.set n.val (some (vL x))).set (n.val + 1) none) st M) : EV G mt d kc ks Q pc ls (vL x :: st) M := by
  intro p l e R s m args below meth c H locs cells slots mc ms lsR stR C hR hk hl hP hL hst
  obtain ⟨v, rest, rfl, hv, hs1⟩ := hst.c
  obtain ⟨i, rfl, hv⟩ := hv
  obtain ⟨ls', e1, e2⟩ := hL.set2 C.2.2.2.2.2.2.2.2 (x := vL x) ⟨_, rfl, hv⟩ rfl hp hi
  intro T hT X
  obtain ⟨t, a1, b1⟩ := k p l e R s m args below meth c H locs cells slots mc ms ls' rest C hR hk hl hP e2 hs1 T hT X
  refine ⟨t, ?_, b1⟩
  jvm_step X.here [X.here.top, ↓top_set X.here.top, C.1, C.2.1, hd, e1]
  exact a1
theorem E_iinc {n : Nat} {x : Int} {z : Int} (hd : decode mt.2.1 pc = .ok (.iinc n z, 3)) (hx : ls[n]? = some (some (vI x))) (h1 : -2147483648 ≤ x + z) (h2 : x + z ≤ 2147483647) (hz : (Int32.ofInt z).toInt = z := by decide) (hp : pOk ls n = true := by rfl) (hi : n < mt.2.2.1 := by decide) (k : EV G mt d kc ks Q (pc + 3) (ls.set n (some (vI (x + z)))) st M) : EV G mt d kc ks Q pc ls st M := by
  intro p l e R s m args below meth c H locs cells slots mc ms lsR stR C hR hk hl hP hL hst
  obtain ⟨v, hg, i, rfl, hv⟩ := hL.get hx
  obtain ⟨ls', e1, e2⟩ := hL.set1 C.2.2.2.2.2.2.2.2 (x := vI (x + z)) (v := .int (i + Int32.ofInt z)) ⟨_, rfl, by rw [Int32.toInt_add, hv, hz]; exact i32_b h1 h2⟩ rfl hp hi
  intro T hT X
  obtain ⟨t, a1, b1⟩ := k p l e R s m args below meth c H locs cells slots mc ms ls' stR C hR hk hl hP e2 hst T hT X
  refine ⟨t, ?_, b1⟩
  jvm_step X.here [X.here.top, ↓top_set X.here.top, C.1, C.2.1, hd, hg, e1]
  exact a1
theorem E_iadd {x y : Int} (hd : decode mt.2.1 pc = .ok (.iadd, 1)) (h1 : -2147483648 ≤ x + y) (h2 : x + y ≤ 2147483647) (k : EV G mt d kc ks Q (pc + 1) ls (vI (x + y) :: st) M) : EV G mt d kc ks Q pc ls (vI y :: vI x :: st) M := by
  intro p l e R s m args below meth c H locs cells slots mc ms lsR stR C hR hk hl hP hL hst
  obtain ⟨v, rest, rfl, ⟨j, rfl, hj⟩, hs1⟩ := hst.c
  obtain ⟨v, rest, rfl, ⟨i, rfl, hi⟩, hs2⟩ := hs1.c
  exact lv_iadd C.1 C.2.1 hd (k p l e R s m args below meth c H locs cells slots mc ms lsR _ C hR hk hl hP hL ⟨⟨_, rfl, by rw [Int32.toInt_add, hi, hj]; exact i32_b h1 h2⟩, hs2⟩)
theorem E_isub {x y : Int} (hd : decode mt.2.1 pc = .ok (.isub, 1)) (h1 : -2147483648 ≤ x - y) (h2 : x - y ≤ 2147483647) (k : EV G mt d kc ks Q (pc + 1) ls (vI (x - y) :: st) M) : EV G mt d kc ks Q pc ls (vI y :: vI x :: st) M := by
  intro p l e R s m args below meth c H locs cells slots mc ms lsR stR C hR hk hl hP hL hst
  obtain ⟨v, rest, rfl, ⟨j, rfl, hj⟩, hs1⟩ := hst.c
  obtain ⟨v, rest, rfl, ⟨i, rfl, hi⟩, hs2⟩ := hs1.c
  exact lv_isub C.1 C.2.1 hd (k p l e R s m args below meth c H locs cells slots mc ms lsR _ C hR hk hl hP hL ⟨⟨_, rfl, by rw [Int32.toInt_sub, hi, hj]; exact i32_b h1 h2⟩, hs2⟩)
theorem E_imul {x y : Int} (hd : decode mt.2.1 pc = .ok (.imul, 1)) (h1 : -2147483648 ≤ x * y) (h2 : x * y ≤ 2147483647) (k : EV G mt d kc ks Q (pc + 1) ls (vI (x * y) :: st) M) : EV G mt d kc ks Q pc ls (vI y :: vI x :: st) M := by
  intro p l e R s m args below meth c H locs cells slots mc ms lsR stR C hR hk hl hP hL hst
  obtain ⟨v, rest, rfl, ⟨j, rfl, hj⟩, hs1⟩ := hst.c
  obtain ⟨v, rest, rfl, ⟨i, rfl, hi⟩, hs2⟩ := hs1.c
  exact lv_imul C.1 C.2.1 hd (k p l e R s m args below meth c H locs cells slots mc ms lsR _ C hR hk hl hP hL ⟨⟨_, rfl, by rw [Int32.toInt_mul, hi, hj]; exact i32_b h1 h2⟩, hs2⟩)
theorem E_idiv {x y : Int} (hd : decode mt.2.1 pc = .ok (.idiv, 1)) (hy : y ≠ 0) (h1 : -2147483648 ≤ Int.tdiv x y) (h2 : Int.tdiv x y ≤ 2147483647) (k : EV G mt d kc ks Q (pc + 1) ls (vI (Int.tdiv x y) :: st) M) : EV G mt d kc ks Q pc ls (vI y :: vI x :: st) M := by
  intro p l e R s m args below meth c H locs cells slots mc ms lsR stR C hR hk hl hP hL hst
  obtain ⟨v, rest, rfl, ⟨j, rfl, hj⟩, hs1⟩ := hst.c
  obtain ⟨v, rest, rfl, ⟨i, rfl, hi⟩, hs2⟩ := hs1.c
  have hn : ¬ j = 0 := fun q => hy (by rw [← hj, q]; rfl)
  exact lv_idiv C.1 C.2.1 hd hn (k p l e R s m args below meth c H locs cells slots mc ms lsR _ C hR hk hl hP hL ⟨⟨_, rfl, by rw [Int32.toInt_div, hi, hj]; exact i32_b h1 h2⟩, hs2⟩)
theorem E_irem {x y : Int} (hd : decode mt.2.1 pc = .ok (.irem, 1)) (hy : y ≠ 0) (h1 : -2147483648 ≤ Int.tdiv x y) (h2 : Int.tdiv x y ≤ 2147483647) (k : EV G mt d kc ks Q (pc + 1) ls (vI (Int.tmod x y) :: st) M) : EV G mt d kc ks Q pc ls (vI y :: vI x :: st) M := by
  intro p l e R s m args below meth c H locs cells slots mc ms lsR stR C hR hk hl hP hL hst
  obtain ⟨v, rest, rfl, ⟨j, rfl, hj⟩, hs1⟩ := hst.c
  obtain ⟨v, rest, rfl, ⟨i, rfl, hi⟩, hs2⟩ := hs1.c
  have hn : ¬ j = 0 := fun q => hy (by rw [← hj, q]; rfl)
  have hz : (i - i / j * j).toInt = Int.tmod x y := by
    have hdv : (i / j).toInt = Int.tdiv x y := by rw [Int32.toInt_div, hi, hj]; exact i32_b h1 h2
    have hmd : Int.tdiv x y * y = x - Int.tmod x y := by have := Int.tmod_add_mul_tdiv x y; rw [Int.mul_comm] at this; omega
    have hlo := i32_lo i
    have hhi := i32_hi i
    rw [hi] at hlo hhi
    have hab : -2147483648 ≤ Int.tmod x y ∧ Int.tmod x y ≤ 2147483647 := by
      rcases Int.le_total 0 x with h0 | h0
      · have q1 := Int.tmod_nonneg y h0
        have q2 : Int.tmod x y ≤ x := by
          have q3 := Int.natAbs_tmod x y
          have q4 := Nat.mod_le x.natAbs y.natAbs
          omega
        omega
      · have q1 := Int.tmod_nonneg y (show 0 ≤ -x by omega)
        have q2 : Int.tmod (-x) y ≤ -x := by
          have q3 := Int.natAbs_tmod (-x) y
          have q4 := Nat.mod_le (-x).natAbs y.natAbs
          omega
        rw [Int.neg_tmod] at q1 q2
        omega
    rw [Int32.toInt_sub, Int32.toInt_mul, hdv, hi, hj, hmd, Int.sub_bmod_bmod]
    rw [show x - (x - Int.tmod x y) = Int.tmod x y by omega]
    exact i32_b hab.1 hab.2
  exact lv_irem C.1 C.2.1 hd hn (k p l e R s m args below meth c H locs cells slots mc ms lsR _ C hR hk hl hP hL ⟨⟨_, rfl, hz⟩, hs2⟩)
theorem E_iand {x y : Int} (hd : decode mt.2.1 pc = .ok (.iand, 1))  (k : EV G mt d kc ks Q (pc + 1) ls (vI (bAnd x y) :: st) M) : EV G mt d kc ks Q pc ls (vI y :: vI x :: st) M := by
  intro p l e R s m args below meth c H locs cells slots mc ms lsR stR C hR hk hl hP hL hst
  obtain ⟨v, rest, rfl, ⟨j, rfl, hj⟩, hs1⟩ := hst.c
  obtain ⟨v, rest, rfl, ⟨i, rfl, hi⟩, hs2⟩ := hs1.c
  exact lv_iand C.1 C.2.1 hd (k p l e R s m args below meth c H locs cells slots mc ms lsR _ C hR hk hl hP hL ⟨⟨_, rfl, by rw [bAnd, ← hi, ← hj, i32_of, i32_of]⟩, hs2⟩)
theorem E_ior {x y : Int} (hd : decode mt.2.1 pc = .ok (.ior, 1))  (k : EV G mt d kc ks Q (pc + 1) ls (vI (bOr x y) :: st) M) : EV G mt d kc ks Q pc ls (vI y :: vI x :: st) M := by
  intro p l e R s m args below meth c H locs cells slots mc ms lsR stR C hR hk hl hP hL hst
  obtain ⟨v, rest, rfl, ⟨j, rfl, hj⟩, hs1⟩ := hst.c
  obtain ⟨v, rest, rfl, ⟨i, rfl, hi⟩, hs2⟩ := hs1.c
  exact lv_ior C.1 C.2.1 hd (k p l e R s m args below meth c H locs cells slots mc ms lsR _ C hR hk hl hP hL ⟨⟨_, rfl, by rw [bOr, ← hi, ← hj, i32_of, i32_of]⟩, hs2⟩)
theorem E_ixor {x y : Int} (hd : decode mt.2.1 pc = .ok (.ixor, 1))  (k : EV G mt d kc ks Q (pc + 1) ls (vI (bXor x y) :: st) M) : EV G mt d kc ks Q pc ls (vI y :: vI x :: st) M := by
  intro p l e R s m args below meth c H locs cells slots mc ms lsR stR C hR hk hl hP hL hst
  obtain ⟨v, rest, rfl, ⟨j, rfl, hj⟩, hs1⟩ := hst.c
  obtain ⟨v, rest, rfl, ⟨i, rfl, hi⟩, hs2⟩ := hs1.c
  exact lv_ixor C.1 C.2.1 hd (k p l e R s m args below meth c H locs cells slots mc ms lsR _ C hR hk hl hP hL ⟨⟨_, rfl, by rw [bXor, ← hi, ← hj, i32_of, i32_of]⟩, hs2⟩)
theorem E_ishl {x y : Int} (hd : decode mt.2.1 pc = .ok (.ishl, 1))  (k : EV G mt d kc ks Q (pc + 1) ls (vI (bShl x y) :: st) M) : EV G mt d kc ks Q pc ls (vI y :: vI x :: st) M := by
  intro p l e R s m args below meth c H locs cells slots mc ms lsR stR C hR hk hl hP hL hst
  obtain ⟨v, rest, rfl, ⟨j, rfl, hj⟩, hs1⟩ := hst.c
  obtain ⟨v, rest, rfl, ⟨i, rfl, hi⟩, hs2⟩ := hs1.c
  exact lv_ishl C.1 C.2.1 hd (k p l e R s m args below meth c H locs cells slots mc ms lsR _ C hR hk hl hP hL ⟨⟨_, rfl, by rw [bShl, ← hi, ← hj, i32_of, i32_of]⟩, hs2⟩)
theorem E_ishr {x y : Int} (hd : decode mt.2.1 pc = .ok (.ishr, 1))  (k : EV G mt d kc ks Q (pc + 1) ls (vI (bShr x y) :: st) M) : EV G mt d kc ks Q pc ls (vI y :: vI x :: st) M := by
  intro p l e R s m args below meth c H locs cells slots mc ms lsR stR C hR hk hl hP hL hst
  obtain ⟨v, rest, rfl, ⟨j, rfl, hj⟩, hs1⟩ := hst.c
  obtain ⟨v, rest, rfl, ⟨i, rfl, hi⟩, hs2⟩ := hs1.c
  exact lv_ishr C.1 C.2.1 hd (k p l e R s m args below meth c H locs cells slots mc ms lsR _ C hR hk hl hP hL ⟨⟨_, rfl, by rw [bShr, ← hi, ← hj, i32_of, i32_of]⟩, hs2⟩)
theorem E_iushr {x y : Int} (hd : decode mt.2.1 pc = .ok (.iushr, 1))  (k : EV G mt d kc ks Q (pc + 1) ls (vI (bUshr x y) :: st) M) : EV G mt d kc ks Q pc ls (vI y :: vI x :: st) M := by
  intro p l e R s m args below meth c H locs cells slots mc ms lsR stR C hR hk hl hP hL hst
  obtain ⟨v, rest, rfl, ⟨j, rfl, hj⟩, hs1⟩ := hst.c
  obtain ⟨v, rest, rfl, ⟨i, rfl, hi⟩, hs2⟩ := hs1.c
  exact lv_iushr C.1 C.2.1 hd rfl (k p l e R s m args below meth c H locs cells slots mc ms lsR _ C hR hk hl hP hL ⟨⟨_, rfl, by rw [bUshr, ← hi, ← hj, i32_of, i32_of]⟩, hs2⟩)
theorem E_ladd {x y : Int} (hd : decode mt.2.1 pc = .ok (.ladd, 1)) (h1 : -9223372036854775808 ≤ x + y) (h2 : x + y ≤ 9223372036854775807) (k : EV G mt d kc ks Q (pc + 1) ls (vL (x + y) :: st) M) : EV G mt d kc ks Q pc ls (vL y :: vL x :: st) M := by
  intro p l e R s m args below meth c H locs cells slots mc ms lsR stR C hR hk hl hP hL hst
  obtain ⟨v, rest, rfl, ⟨j, rfl, hj⟩, hs1⟩ := hst.c
  obtain ⟨v, rest, rfl, ⟨i, rfl, hi⟩, hs2⟩ := hs1.c
  exact lv_ladd C.1 C.2.1 hd (k p l e R s m args below meth c H locs cells slots mc ms lsR _ C hR hk hl hP hL ⟨⟨_, rfl, by rw [Int64.toInt_add, hi, hj]; exact i64_b h1 h2⟩, hs2⟩)
theorem E_land {x y : Int} (hd : decode mt.2.1 pc = .ok (.land, 1))  (k : EV G mt d kc ks Q (pc + 1) ls (vL (lAnd x y) :: st) M) : EV G mt d kc ks Q pc ls (vL y :: vL x :: st) M := by
  intro p l e R s m args below meth c H locs cells slots mc ms lsR stR C hR hk hl hP hL hst
  obtain ⟨v, rest, rfl, ⟨j, rfl, hj⟩, hs1⟩ := hst.c
  obtain ⟨v, rest, rfl, ⟨i, rfl, hi⟩, hs2⟩ := hs1.c
  exact lv_land C.1 C.2.1 hd (k p l e R s m args below meth c H locs cells slots mc ms lsR _ C hR hk hl hP hL ⟨⟨_, rfl, by rw [lAnd, ← hi, ← hj, i64_of, i64_of]⟩, hs2⟩)
theorem E_lor {x y : Int} (hd : decode mt.2.1 pc = .ok (.lor, 1))  (k : EV G mt d kc ks Q (pc + 1) ls (vL (lOr x y) :: st) M) : EV G mt d kc ks Q pc ls (vL y :: vL x :: st) M := by
  intro p l e R s m args below meth c H locs cells slots mc ms lsR stR C hR hk hl hP hL hst
  obtain ⟨v, rest, rfl, ⟨j, rfl, hj⟩, hs1⟩ := hst.c
  obtain ⟨v, rest, rfl, ⟨i, rfl, hi⟩, hs2⟩ := hs1.c
  exact lv_lor C.1 C.2.1 hd (k p l e R s m args below meth c H locs cells slots mc ms lsR _ C hR hk hl hP hL ⟨⟨_, rfl, by rw [lOr, ← hi, ← hj, i64_of, i64_of]⟩, hs2⟩)
theorem E_lshl {x y : Int} (hd : decode mt.2.1 pc = .ok (.lshl, 1)) (k : EV G mt d kc ks Q (pc + 1) ls (vL (lShl x y) :: st) M) : EV G mt d kc ks Q pc ls (vI y :: vL x :: st) M := by
  intro p l e R s m args below meth c H locs cells slots mc ms lsR stR C hR hk hl hP hL hst
  obtain ⟨v, rest, rfl, ⟨j, rfl, hj⟩, hs1⟩ := hst.c
  obtain ⟨v, rest, rfl, ⟨i, rfl, hi⟩, hs2⟩ := hs1.c
  exact lv_lshl C.1 C.2.1 hd rfl (k p l e R s m args below meth c H locs cells slots mc ms lsR _ C hR hk hl hP hL ⟨⟨_, rfl, by rw [lShl, ← hi, ← hj, i64_of, i32_of]⟩, hs2⟩)
theorem E_lshr {x y : Int} (hd : decode mt.2.1 pc = .ok (.lshr, 1)) (k : EV G mt d kc ks Q (pc + 1) ls (vL (lShr x y) :: st) M) : EV G mt d kc ks Q pc ls (vI y :: vL x :: st) M := by
  intro p l e R s m args below meth c H locs cells slots mc ms lsR stR C hR hk hl hP hL hst
  obtain ⟨v, rest, rfl, ⟨j, rfl, hj⟩, hs1⟩ := hst.c
  obtain ⟨v, rest, rfl, ⟨i, rfl, hi⟩, hs2⟩ := hs1.c
  exact lv_lshr C.1 C.2.1 hd rfl (k p l e R s m args below meth c H locs cells slots mc ms lsR _ C hR hk hl hP hL ⟨⟨_, rfl, by rw [lShr, ← hi, ← hj, i64_of, i32_of]⟩, hs2⟩)
theorem E_ineg {x : Int} (hd : decode mt.2.1 pc = .ok (.ineg, 1)) (h1 : -2147483648 ≤ -x) (h2 : -x ≤ 2147483647) (k : EV G mt d kc ks Q (pc + 1) ls (vI (-x) :: st) M) : EV G mt d kc ks Q pc ls (vI x :: st) M := by
  intro p l e R s m args below meth c H locs cells slots mc ms lsR stR C hR hk hl hP hL hst
  obtain ⟨v, rest, rfl, ⟨i, rfl, hi⟩, hs1⟩ := hst.c
  exact lv_ineg C.1 C.2.1 hd (k p l e R s m args below meth c H locs cells slots mc ms lsR _ C hR hk hl hP hL ⟨⟨_, rfl, by rw [Int32.toInt_neg, hi]; exact i32_b h1 h2⟩, hs1⟩)
theorem E_i2l {x : Int} (hd : decode mt.2.1 pc = .ok (.i2l, 1))  (k : EV G mt d kc ks Q (pc + 1) ls (vL (x) :: st) M) : EV G mt d kc ks Q pc ls (vI x :: st) M := by
  intro p l e R s m args below meth c H locs cells slots mc ms lsR stR C hR hk hl hP hL hst
  obtain ⟨v, rest, rfl, ⟨i, rfl, hi⟩, hs1⟩ := hst.c
  exact lv_i2l C.1 C.2.1 hd rfl (k p l e R s m args below meth c H locs cells slots mc ms lsR _ C hR hk hl hP hL ⟨⟨_, rfl, by rw [Int32.toInt_toInt64, hi]⟩, hs1⟩)
theorem E_l2i {x : Int} (hd : decode mt.2.1 pc = .ok (.l2i, 1))  (k : EV G mt d kc ks Q (pc + 1) ls (vI (lL2i x) :: st) M) : EV G mt d kc ks Q pc ls (vL x :: st) M := by
  intro p l e R s m args below meth c H locs cells slots mc ms lsR stR C hR hk hl hP hL hst
  obtain ⟨v, rest, rfl, ⟨i, rfl, hi⟩, hs1⟩ := hst.c
  exact lv_l2i C.1 C.2.1 hd rfl (k p l e R s m args below meth c H locs cells slots mc ms lsR _ C hR hk hl hP hL ⟨⟨_, rfl, by rw [lL2i, ← hi, i64_of]⟩, hs1⟩)
theorem E_i2b {x : Int} (hd : decode mt.2.1 pc = .ok (.i2b, 1))  (k : EV G mt d kc ks Q (pc + 1) ls (vI (bI2b x) :: st) M) : EV G mt d kc ks Q pc ls (vI x :: st) M := by
  intro p l e R s m args below meth c H locs cells slots mc ms lsR stR C hR hk hl hP hL hst
  obtain ⟨v, rest, rfl, ⟨i, rfl, hi⟩, hs1⟩ := hst.c
  exact lv_i2b C.1 C.2.1 hd rfl (k p l e R s m args below meth c H locs cells slots mc ms lsR _ C hR hk hl hP hL ⟨⟨_, rfl, by rw [bI2b, ← hi, i32_of]⟩, hs1⟩)
theorem E_i2s {x : Int} (hd : decode mt.2.1 pc = .ok (.i2s, 1))  (k : EV G mt d kc ks Q (pc + 1) ls (vI (bI2s x) :: st) M) : EV G mt d kc ks Q pc ls (vI x :: st) M := by
  intro p l e R s m args below meth c H locs cells slots mc ms lsR stR C hR hk hl hP hL hst
  obtain ⟨v, rest, rfl, ⟨i, rfl, hi⟩, hs1⟩ := hst.c
  exact lv_i2s C.1 C.2.1 hd rfl (k p l e R s m args below meth c H locs cells slots mc ms lsR _ C hR hk hl hP hL ⟨⟨_, rfl, by rw [bI2s, ← hi, i32_of]⟩, hs1⟩)
theorem E_i2c {x : Int} (hd : decode mt.2.1 pc = .ok (.i2c, 1))  (k : EV G mt d kc ks Q (pc + 1) ls (vI (bI2c x) :: st) M) : EV G mt d kc ks Q pc ls (vI x :: st) M := by
  intro p l e R s m args below meth c H locs cells slots mc ms lsR stR C hR hk hl hP hL hst
  obtain ⟨v, rest, rfl, ⟨i, rfl, hi⟩, hs1⟩ := hst.c
  exact lv_i2c C.1 C.2.1 hd rfl (k p l e R s m args below meth c H locs cells slots mc ms lsR _ C hR hk hl hP hL ⟨⟨_, rfl, by rw [bI2c, ← hi, i32_of]⟩, hs1⟩)
theorem E_lcmp {x y : Int} (hd : decode mt.2.1 pc = .ok (.lcmp, 1)) (k1 : x < y → EV G mt d kc ks Q (pc + 1) ls (vI (-1) :: st) M) (k2 : x = y → EV G mt d kc ks Q (pc + 1) ls (vI 0 :: st) M) (k3 : y < x → EV G mt d kc ks Q (pc + 1) ls (vI 1 :: st) M) : EV G mt d kc ks Q pc ls (vL y :: vL x :: st) M := by
  intro p l e R s m args below meth c H locs cells slots mc ms lsR stR C hR hk hl hP hL hst
  obtain ⟨v, rest, rfl, ⟨j, rfl, hj⟩, hs1⟩ := hst.c
  obtain ⟨v, rest, rfl, ⟨i, rfl, hi⟩, hs2⟩ := hs1.c
  refine W.lcmp C.1 C.2.1 hd ?_
  have e1 : i < j ↔ x < y := by rw [Int64.lt_iff_toInt_lt, hi, hj]
  have e2 : i = j ↔ x = y := ⟨fun q => by rw [← hi, ← hj, q], fun q => Int64.toInt_inj.mp (by rw [hi, hj, q])⟩
  have e3 : j < i ↔ y < x := by rw [Int64.lt_iff_toInt_lt, hi, hj]
  rcases Int.lt_trichotomy x y with q | q | q
  · have q1 : ¬ y < x := by omega
    have q2 : ¬ x = y := by omega
    have hc : (lg_cmp i j).toInt = -1 := by simp only [lg_cmp, e1, e2, e3, q1, q2, q, if_true, if_false, GT.gt]; decide
    exact k1 q p l e R s m args below meth c H locs cells slots mc ms lsR _ C hR hk hl hP hL ⟨⟨_, rfl, hc⟩, hs2⟩
  · have hc : (lg_cmp i j).toInt = 0 := by
      have z := e2.mpr q
      subst z
      simp [lg_cmp]
    exact k2 q p l e R s m args below meth c H locs cells slots mc ms lsR _ C hR hk hl hP hL ⟨⟨_, rfl, hc⟩, hs2⟩
  · have q1 : ¬ x < y := by omega
    have q2 : ¬ x = y := by omega
    have hc : (lg_cmp i j).toInt = 1 := by simp [lg_cmp, e1, e2, e3, q1, q2, q]
    exact k3 q p l e R s m args below meth c H locs cells slots mc ms lsR _ C hR hk hl hP hL ⟨⟨_, rfl, hc⟩, hs2⟩
theorem E_if_eq {x : Int} {off : Int} {tgt : Nat} (hd : decode mt.2.1 pc = .ok (.ifCond .eq off, 3)) (ht : (pc : Int) + off = (tgt : Int)) (kt : x = 0 → EV G mt d kc ks Q tgt ls st M) (kf : ¬ x = 0 → EV G mt d kc ks Q (pc + 3) ls st M) : EV G mt d kc ks Q pc ls (vI x :: st) M := by
  intro p l e R s m args below meth c H locs cells slots mc ms lsR stR C hR hk hl hP hL hst
  obtain ⟨v, rest, rfl, ⟨i, rfl, hi⟩, hs1⟩ := hst.c
  have z : (0 : Int32).toInt = 0 := rfl
  have w : i = 0 ↔ x = 0 := ⟨fun q => by rw [← hi, q, z], fun q => i32_inj (by rw [hi, q, z])⟩
  exact lv_if_eq C.1 C.2.1 hd ht (fun q => kt (w.mp q) p l e R s m args below meth c H locs cells slots mc ms lsR _ C hR hk hl hP hL hs1) (fun q => kf (fun h => q (w.mpr h)) p l e R s m args below meth c H locs cells slots mc ms lsR _ C hR hk hl hP hL hs1)
theorem E_icmp_eq {x y : Int} {off : Int} {tgt : Nat} (hd : decode mt.2.1 pc = .ok (.if_icmp .eq off, 3)) (ht : (pc : Int) + off = (tgt : Int)) (kt : x = y → EV G mt d kc ks Q tgt ls st M) (kf : ¬ x = y → EV G mt d kc ks Q (pc + 3) ls st M) : EV G mt d kc ks Q pc ls (vI y :: vI x :: st) M := by
  intro p l e R s m args below meth c H locs cells slots mc ms lsR stR C hR hk hl hP hL hst
  obtain ⟨v, rest, rfl, ⟨j, rfl, hj⟩, hs1⟩ := hst.c
  obtain ⟨v, rest, rfl, ⟨i, rfl, hi⟩, hs2⟩ := hs1.c
  have w : i = j ↔ x = y := ⟨fun q => by rw [← hi, ← hj, q], fun q => i32_inj (by rw [hi, hj, q])⟩
  exact lv_icmp_eq C.1 C.2.1 hd ht (fun q => kt (w.mp q) p l e R s m args below meth c H locs cells slots mc ms lsR _ C hR hk hl hP hL hs2) (fun q => kf (fun h => q (w.mpr h)) p l e R s m args below meth c H locs cells slots mc ms lsR _ C hR hk hl hP hL hs2)
theorem E_if_ne {x : Int} {off : Int} {tgt : Nat} (hd : decode mt.2.1 pc = .ok (.ifCond .ne off, 3)) (ht : (pc : Int) + off = (tgt : Int)) (kt : x ≠ 0 → EV G mt d kc ks Q tgt ls st M) (kf : ¬ x ≠ 0 → EV G mt d kc ks Q (pc + 3) ls st M) : EV G mt d kc ks Q pc ls (vI x :: st) M := by
  intro p l e R s m args below meth c H locs cells slots mc ms lsR stR C hR hk hl hP hL hst
  obtain ⟨v, rest, rfl, ⟨i, rfl, hi⟩, hs1⟩ := hst.c
  have z : (0 : Int32).toInt = 0 := rfl
  have w : i = 0 ↔ x = 0 := ⟨fun q => by rw [← hi, q, z], fun q => i32_inj (by rw [hi, q, z])⟩
  exact lv_if_ne C.1 C.2.1 hd ht (fun q => kt (fun h => q (w.mpr h)) p l e R s m args below meth c H locs cells slots mc ms lsR _ C hR hk hl hP hL hs1) (fun q => kf (fun h => h (w.mp q)) p l e R s m args below meth c H locs cells slots mc ms lsR _ C hR hk hl hP hL hs1)
theorem E_icmp_ne {x y : Int} {off : Int} {tgt : Nat} (hd : decode mt.2.1 pc = .ok (.if_icmp .ne off, 3)) (ht : (pc : Int) + off = (tgt : Int)) (kt : x ≠ y → EV G mt d kc ks Q tgt ls st M) (kf : ¬ x ≠ y → EV G mt d kc ks Q (pc + 3) ls st M) : EV G mt d kc ks Q pc ls (vI y :: vI x :: st) M := by
  intro p l e R s m args below meth c H locs cells slots mc ms lsR stR C hR hk hl hP hL hst
  obtain ⟨v, rest, rfl, ⟨j, rfl, hj⟩, hs1⟩ := hst.c
  obtain ⟨v, rest, rfl, ⟨i, rfl, hi⟩, hs2⟩ := hs1.c
  have w : i = j ↔ x = y := ⟨fun q => by rw [← hi, ← hj, q], fun q => i32_inj (by rw [hi, hj, q])⟩
  exact lv_icmp_ne C.1 C.2.1 hd ht (fun q => kt (fun h => q (w.mpr h)) p l e R s m args below meth c H locs cells slots mc ms lsR _ C hR hk hl hP hL hs2) (fun q => kf (fun h => h (w.mp q)) p l e R s m args below meth c H locs cells slots mc ms lsR _ C hR hk hl hP hL hs2)
theorem E_if_lt {x : Int} {off : Int} {tgt : Nat} (hd : decode mt.2.1 pc = .ok (.ifCond .lt off, 3)) (ht : (pc : Int) + off = (tgt : Int)) (kt : x < 0 → EV G mt d kc ks Q tgt ls st M) (kf : ¬ x < 0 → EV G mt d kc ks Q (pc + 3) ls st M) : EV G mt d kc ks Q pc ls (vI x :: st) M := by
  intro p l e R s m args below meth c H locs cells slots mc ms lsR stR C hR hk hl hP hL hst
  obtain ⟨v, rest, rfl, ⟨i, rfl, hi⟩, hs1⟩ := hst.c
  have z : (0 : Int32).toInt = 0 := rfl
  exact lv_if_lt C.1 C.2.1 hd ht (fun q => kt (by rw [Int32.lt_iff_toInt_lt, hi, z] at q; exact q) p l e R s m args below meth c H locs cells slots mc ms lsR _ C hR hk hl hP hL hs1) (fun q => kf (by rw [Int32.lt_iff_toInt_lt, hi, z] at q; exact q) p l e R s m args below meth c H locs cells slots mc ms lsR _ C hR hk hl hP hL hs1)
theorem E_icmp_lt {x y : Int} {off : Int} {tgt : Nat} (hd : decode mt.2.1 pc = .ok (.if_icmp .lt off, 3)) (ht : (pc : Int) + off = (tgt : Int)) (kt : x < y → EV G mt d kc ks Q tgt ls st M) (kf : ¬ x < y → EV G mt d kc ks Q (pc + 3) ls st M) : EV G mt d kc ks Q pc ls (vI y :: vI x :: st) M := by
  intro p l e R s m args below meth c H locs cells slots mc ms lsR stR C hR hk hl hP hL hst
  obtain ⟨v, rest, rfl, ⟨j, rfl, hj⟩, hs1⟩ := hst.c
  obtain ⟨v, rest, rfl, ⟨i, rfl, hi⟩, hs2⟩ := hs1.c
  exact lv_icmp_lt C.1 C.2.1 hd ht (fun q => kt (by rw [Int32.lt_iff_toInt_lt, hi, hj] at q; exact q) p l e R s m args below meth c H locs cells slots mc ms lsR _ C hR hk hl hP hL hs2) (fun q => kf (by rw [Int32.lt_iff_toInt_lt, hi, hj] at q; exact q) p l e R s m args below meth c H locs cells slots mc ms lsR _ C hR hk hl hP hL hs2)
theorem E_if_ge {x : Int} {off : Int} {tgt : Nat} (hd : decode mt.2.1 pc = .ok (.ifCond .ge off, 3)) (ht : (pc : Int) + off = (tgt : Int)) (kt : 0 ≤ x → EV G mt d kc ks Q tgt ls st M) (kf : ¬ 0 ≤ x → EV G mt d kc ks Q (pc + 3) ls st M) : EV G mt d kc ks Q pc ls (vI x :: st) M := by
  intro p l e R s m args below meth c H locs cells slots mc ms lsR stR C hR hk hl hP hL hst
  obtain ⟨v, rest, rfl, ⟨i, rfl, hi⟩, hs1⟩ := hst.c
  have z : (0 : Int32).toInt = 0 := rfl
  exact lv_if_ge C.1 C.2.1 hd ht (fun q => kt (by rw [Int32.le_iff_toInt_le, hi, z] at q; exact q) p l e R s m args below meth c H locs cells slots mc ms lsR _ C hR hk hl hP hL hs1) (fun q => kf (by rw [Int32.le_iff_toInt_le, hi, z] at q; exact q) p l e R s m args below meth c H locs cells slots mc ms lsR _ C hR hk hl hP hL hs1)
theorem E_icmp_ge {x y : Int} {off : Int} {tgt : Nat} (hd : decode mt.2.1 pc = .ok (.if_icmp .ge off, 3)) (ht : (pc : Int) + off = (tgt : Int)) (kt : y ≤ x → EV G mt d kc ks Q tgt ls st M) (kf : ¬ y ≤ x → EV G mt d kc ks Q (pc + 3) ls st M) : EV G mt d kc ks Q pc ls (vI y :: vI x :: st) M := by
  intro p l e R s m args below meth c H locs cells slots mc ms lsR stR C hR hk hl hP hL hst
  obtain ⟨v, rest, rfl, ⟨j, rfl, hj⟩, hs1⟩ := hst.c
  obtain ⟨v, rest, rfl, ⟨i, rfl, hi⟩, hs2⟩ := hs1.c
  exact lv_icmp_ge C.1 C.2.1 hd ht (fun q => kt (by rw [Int32.le_iff_toInt_le, hi, hj] at q; exact q) p l e R s m args below meth c H locs cells slots mc ms lsR _ C hR hk hl hP hL hs2) (fun q => kf (by rw [Int32.le_iff_toInt_le, hi, hj] at q; exact q) p l e R s m args below meth c H locs cells slots mc ms lsR _ C hR hk hl hP hL hs2)
theorem E_if_gt {x : Int} {off : Int} {tgt : Nat} (hd : decode mt.2.1 pc = .ok (.ifCond .gt off, 3)) (ht : (pc : Int) + off = (tgt : Int)) (kt : 0 < x → EV G mt d kc ks Q tgt ls st M) (kf : ¬ 0 < x → EV G mt d kc ks Q (pc + 3) ls st M) : EV G mt d kc ks Q pc ls (vI x :: st) M := by
  intro p l e R s m args below meth c H locs cells slots mc ms lsR stR C hR hk hl hP hL hst
  obtain ⟨v, rest, rfl, ⟨i, rfl, hi⟩, hs1⟩ := hst.c
  have z : (0 : Int32).toInt = 0 := rfl
  exact lv_if_gt C.1 C.2.1 hd ht (fun q => kt (by rw [Int32.lt_iff_toInt_lt, hi, z] at q; exact q) p l e R s m args below meth c H locs cells slots mc ms lsR _ C hR hk hl hP hL hs1) (fun q => kf (by rw [Int32.lt_iff_toInt_lt, hi, z] at q; exact q) p l e R s m args below meth c H locs cells slots mc ms lsR _ C hR hk hl hP hL hs1)
theorem E_icmp_gt {x y : Int} {off : Int} {tgt : Nat} (hd : decode mt.2.1 pc = .ok (.if_icmp .gt off, 3)) (ht : (pc : Int) + off = (tgt : Int)) (kt : y < x → EV G mt d kc ks Q tgt ls st M) (kf : ¬ y < x → EV G mt d kc ks Q (pc + 3) ls st M) : EV G mt d kc ks Q pc ls (vI y :: vI x :: st) M := by
  intro p l e R s m args below meth c H locs cells slots mc ms lsR stR C hR hk hl hP hL hst
  obtain ⟨v, rest, rfl, ⟨j, rfl, hj⟩, hs1⟩ := hst.c
  obtain ⟨v, rest, rfl, ⟨i, rfl, hi⟩, hs2⟩ := hs1.c
  exact lv_icmp_gt C.1 C.2.1 hd ht (fun q => kt (by rw [Int32.lt_iff_toInt_lt, hi, hj] at q; exact q) p l e R s m args below meth c H locs cells slots mc ms lsR _ C hR hk hl hP hL hs2) (fun q => kf (by rw [Int32.lt_iff_toInt_lt, hi, hj] at q; exact q) p l e R s m args below meth c H locs cells slots mc ms lsR _ C hR hk hl hP hL hs2)
theorem E_if_le {x : Int} {off : Int} {tgt : Nat} (hd : decode mt.2.1 pc = .ok (.ifCond .le off, 3)) (ht : (pc : Int) + off = (tgt : Int)) (kt : x ≤ 0 → EV G mt d kc ks Q tgt ls st M) (kf : ¬ x ≤ 0 → EV G mt d kc ks Q (pc + 3) ls st M) : EV G mt d kc ks Q pc ls (vI x :: st) M := by
  intro p l e R s m args below meth c H locs cells slots mc ms lsR stR C hR hk hl hP hL hst
  obtain ⟨v, rest, rfl, ⟨i, rfl, hi⟩, hs1⟩ := hst.c
  have z : (0 : Int32).toInt = 0 := rfl
  exact lv_if_le C.1 C.2.1 hd ht (fun q => kt (by rw [Int32.le_iff_toInt_le, hi, z] at q; exact q) p l e R s m args below meth c H locs cells slots mc ms lsR _ C hR hk hl hP hL hs1) (fun q => kf (by rw [Int32.le_iff_toInt_le, hi, z] at q; exact q) p l e R s m args below meth c H locs cells slots mc ms lsR _ C hR hk hl hP hL hs1)
theorem E_icmp_le {x y : Int} {off : Int} {tgt : Nat} (hd : decode mt.2.1 pc = .ok (.if_icmp .le off, 3)) (ht : (pc : Int) + off = (tgt : Int)) (kt : x ≤ y → EV G mt d kc ks Q tgt ls st M) (kf : ¬ x ≤ y → EV G mt d kc ks Q (pc + 3) ls st M) : EV G mt d kc ks Q pc ls (vI y :: vI x :: st) M := by
  intro p l e R s m args below meth c H locs cells slots mc ms lsR stR C hR hk hl hP hL hst
  obtain ⟨v, rest, rfl, ⟨j, rfl, hj⟩, hs1⟩ := hst.c
  obtain ⟨v, rest, rfl, ⟨i, rfl, hi⟩, hs2⟩ := hs1.c
  exact lv_icmp_le C.1 C.2.1 hd ht (fun q => kt (by rw [Int32.le_iff_toInt_le, hi, hj] at q; exact q) p l e R s m args below meth c H locs cells slots mc ms lsR _ C hR hk hl hP hL hs2) (fun q => kf (by rw [Int32.le_iff_toInt_le, hi, hj] at q; exact q) p l e R s m args below meth c H locs cells slots mc ms lsR _ C hR hk hl hP hL hs2)
theorem E_goto {off : Int} {tgt : Nat} (hd : decode mt.2.1 pc = .ok (.goto off, 3)) (ht : (pc : Int) + off = (tgt : Int)) (k : EV G mt d kc ks Q tgt ls st M) : EV G mt d kc ks Q pc ls st M := by
  intro p l e R s m args below meth c H locs cells slots mc ms lsR stR C hR hk hl hP hL hst
  exact lv_goto C.1 C.2.1 hd ht (k p l e R s m args below meth c H locs cells slots mc ms lsR _ C hR hk hl hP hL hst)
theorem E_tabIn {x : Int} {dflt lo hi : Int} {offs : Array Int} {len : Nat} {off : Int} {tgt : Nat} (hd : decode mt.2.1 pc = .ok (.tableswitch dflt lo hi offs, len)) (h1 : lo ≤ x) (h2 : x ≤ hi) (ho : offs[(x - lo).toNat]? = some off) (ht : (pc : Int) + off = (tgt : Int)) (k : EV G mt d kc ks Q tgt ls st M) : EV G mt d kc ks Q pc ls (vI x :: st) M := by
  intro p l e R s m args below meth c H locs cells slots mc ms lsR stR C hR hk hl hP hL hst
  obtain ⟨v, rest, rfl, ⟨i, rfl, hi⟩, hs1⟩ := hst.c
  exact lv_tableIn C.1 C.2.1 hd (by rw [hi]; omega) (by rw [hi]; omega) (by rw [hi]; exact ho) ht (k p l e R s m args below meth c H locs cells slots mc ms lsR _ C hR hk hl hP hL hs1)
theorem E_tabOut {x : Int} {dflt lo hi : Int} {offs : Array Int} {len : Nat} {tgt : Nat} (hd : decode mt.2.1 pc = .ok (.tableswitch dflt lo hi offs, len)) (h : x < lo ∨ hi < x) (ht : (pc : Int) + dflt = (tgt : Int)) (k : EV G mt d kc ks Q tgt ls st M) : EV G mt d kc ks Q pc ls (vI x :: st) M := by
  intro p l e R s m args below meth c H locs cells slots mc ms lsR stR C hR hk hl hP hL hst
  obtain ⟨v, rest, rfl, ⟨i, rfl, hi⟩, hs1⟩ := hst.c
  exact lv_tableOut C.1 C.2.1 hd (by rw [hi]; exact h) ht (k p l e R s m args below meth c H locs cells slots mc ms lsR _ C hR hk hl hP hL hs1)
theorem E_lookup {x : Int} {dflt : Int} {ps : Array (Int × Int)} {len : Nat} {off : Int} {tgt : Nat} (hd : decode mt.2.1 pc = .ok (.lookupswitch dflt ps, len)) (hp : (ps.toList.zip (ps.toList.drop 1)).all (fun (a, next) => a.1 < next.1) = true) (ho : Op.lookupswitch.offset ps.toList dflt x = off) (ht : (pc : Int) + off = (tgt : Int)) (k : EV G mt d kc ks Q tgt ls st M) : EV G mt d kc ks Q pc ls (vI x :: st) M := by
  intro p l e R s m args below meth c H locs cells slots mc ms lsR stR C hR hk hl hP hL hst
  obtain ⟨v, rest, rfl, ⟨i, rfl, hi⟩, hs1⟩ := hst.c
  exact lv_lookup C.1 C.2.1 hd hp (by rw [hi]; exact ho) ht (k p l e R s m args below meth c H locs cells slots mc ms lsR _ C hR hk hl hP hL hs1)
def c1 : MV → Bool
  | .inr (.inr _) => false
  | _ => true
theorem vr_c1 {s : State} (h : KX G s) {x : MV} {v : Value} (hv : VR G x v) (hc : c1 x = true) : v.category = 1 := by
  rcases lv_cat v with q | q
  · exact q
  · obtain ⟨y, rfl⟩ := vr_cat h hv q
    cases hc
theorem E_dup {x : MV} (hd : decode mt.2.1 pc = .ok (.dup, 1)) (hc : c1 x = true := by rfl) (k : EV G mt d kc ks Q (pc + 1) ls (x :: x :: st) M) : EV G mt d kc ks Q pc ls (x :: st) M := by
  intro p l e R s m args below meth c H locs cells slots mc ms lsR stR C hR hk hl hP hL hst
  obtain ⟨v, rest, rfl, hv, hs1⟩ := hst.c
  exact lv_dup C.1 C.2.1 hd (vr_c1 C.2.2.2.2.2.2.2.2 hv hc) (k p l e R s m args below meth c H locs cells slots mc ms lsR _ C hR hk hl hP hL ⟨hv, hv, hs1⟩)
theorem E_pop {x : MV} (hd : decode mt.2.1 pc = .ok (.pop, 1)) (hc : c1 x = true := by rfl) (k : EV G mt d kc ks Q (pc + 1) ls st M) : EV G mt d kc ks Q pc ls (x :: st) M := by
  intro p l e R s m args below meth c H locs cells slots mc ms lsR stR C hR hk hl hP hL hst
  obtain ⟨v, rest, rfl, hv, hs1⟩ := hst.c
  exact lv_pop C.1 C.2.1 hd (vr_c1 C.2.2.2.2.2.2.2.2 hv hc) (k p l e R s m args below meth c H locs cells slots mc ms lsR _ C hR hk hl hP hL hs1)
theorem E_dup2 {x y : MV} (hd : decode mt.2.1 pc = .ok (.dup2, 1)) (hc : c1 x = true := by rfl) (hc2 : c1 y = true := by rfl) (k : EV G mt d kc ks Q (pc + 1) ls (x :: y :: x :: y :: st) M) : EV G mt d kc ks Q pc ls (x :: y :: st) M := by
  intro p l e R s m args below meth c H locs cells slots mc ms lsR stR C hR hk hl hP hL hst
  obtain ⟨v, rest, rfl, hv, hs1⟩ := hst.c
  obtain ⟨w, rest, rfl, hw, hs2⟩ := hs1.c
  exact lv_dup2_11 C.1 C.2.1 hd (vr_c1 C.2.2.2.2.2.2.2.2 hv hc) (vr_c1 C.2.2.2.2.2.2.2.2 hw hc2) (k p l e R s m args below meth c H locs cells slots mc ms lsR _ C hR hk hl hP hL ⟨hv, hw, hv, hw, hs2⟩)
theorem E_dup_x1 {x y : MV} (hd : decode mt.2.1 pc = .ok (.dup_x1, 1)) (hc : c1 x = true := by rfl) (hc2 : c1 y = true := by rfl) (k : EV G mt d kc ks Q (pc + 1) ls (x :: y :: x :: st) M) : EV G mt d kc ks Q pc ls (x :: y :: st) M := by
  intro p l e R s m args below meth c H locs cells slots mc ms lsR stR C hR hk hl hP hL hst
  obtain ⟨v, rest, rfl, hv, hs1⟩ := hst.c
  obtain ⟨w, rest, rfl, hw, hs2⟩ := hs1.c
  exact lv_dup_x1 C.1 C.2.1 hd (vr_c1 C.2.2.2.2.2.2.2.2 hv hc) (vr_c1 C.2.2.2.2.2.2.2.2 hw hc2) (k p l e R s m args below meth c H locs cells slots mc ms lsR _ C hR hk hl hP hL ⟨hv, hw, hv, hs2⟩)
theorem E_iret {x : Int} (hd : decode mt.2.1 pc = .ok (.ireturn, 1)) (hr : mt.2.2.2 = some .int) (hq : Q (some (vI x)) M) : EV G mt d kc ks Q pc ls [vI x] M := by
  intro p l e R s m args below meth c H locs cells slots mc ms lsR stR C hR hk hl hP hL hst
  obtain ⟨v, rest, rfl, hv, hs1⟩ := hst.c
  cases hs1.n
  have hv0 := hv
  obtain ⟨i, rfl, hi⟩ := hv
  refine W.widen (k := mc) (n := ms) (by omega) (by omega) ?_
  exact W.iret (v := i) C.1 C.2.1 (C.2.2.2.2.2.1.trans hr) (fun t ht _ => ⟨some (vI x), _, M, rfl, ⟨i, rfl, hi⟩, hq, by rw [ht]; exact hP⟩) hl hd C.2.2.2.2.2.2.1
theorem E_lret {x : Int} (hd : decode mt.2.1 pc = .ok (.lreturn, 1)) (hr : mt.2.2.2 = some .long) (hq : Q (some (vL x)) M) : EV G mt d kc ks Q pc ls [vL x] M := by
  intro p l e R s m args below meth c H locs cells slots mc ms lsR stR C hR hk hl hP hL hst
  obtain ⟨v, rest, rfl, hv, hs1⟩ := hst.c
  cases hs1.n
  have hv0 := hv
  obtain ⟨i, rfl, hi⟩ := hv
  refine W.widen (k := mc) (n := ms) (by omega) (by omega) ?_
  exact W.lret (v := i) C.1 C.2.1 (C.2.2.2.2.2.1.trans hr) (fun t ht _ => ⟨some (vL x), _, M, rfl, ⟨i, rfl, hi⟩, hq, by rw [ht]; exact hP⟩) hl hd C.2.2.2.2.2.2.1
theorem E_zret {x : Int} {ty : FieldType} (hd : decode mt.2.1 pc = .ok (.ireturn, 1)) (hr : mt.2.2.2 = some ty) (hn : narrow ty (.int (Int32.ofInt x)) = .int (Int32.ofInt x)) (hq : Q (some (vI x)) M) : EV G mt d kc ks Q pc ls [vI x] M := by
  intro p l e R s m args below meth c H locs cells slots mc ms lsR stR C hR hk hl hP hL hst
  obtain ⟨v, rest, rfl, hv, hs1⟩ := hst.c
  cases hs1.n
  have hv0 := hv
  obtain ⟨i, rfl, hi⟩ := hv
  refine W.widen (k := mc) (n := ms) (by omega) (by omega) ?_
  exact W.zret (v := i) C.1 C.2.1 (C.2.2.2.2.2.1.trans hr) (by rw [← i32_of i, hi]; exact hn) (fun t ht _ => ⟨some (vI x), _, M, rfl, ⟨i, rfl, hi⟩, hq, by rw [ht]; exact hP⟩) hl hd C.2.2.2.2.2.2.1
theorem E_aret {a : Nat} {ty : FieldType} (hd : decode mt.2.1 pc = .ok (.areturn, 1)) (hr : mt.2.2.2 = some ty) (hty : (∃ n, ty = .object n) ∨ ∃ t, ty = .array t) (hq : Q (some (vR a)) M) : EV G mt d kc ks Q pc ls [vR a] M := by
  intro p l e R s m args below meth c H locs cells slots mc ms lsR stR C hR hk hl hP hL hst
  obtain ⟨v, rest, rfl, hv, hs1⟩ := hst.c
  cases hs1.n
  have hv0 := hv
  have hv : v = rfv G a := hv
  refine W.widen (k := mc) (n := ms) (by omega) (by omega) ?_
  exact W.aret (v := v) C.1 C.2.1 (C.2.2.2.2.2.1.trans hr) hty (by rw [hv]; exact rfv_or C.2.2.2.2.2.2.2.2 a) (fun t ht _ => ⟨some (vR a), _, M, rfl, hv0, hq, by rw [ht]; exact hP⟩) hl hd C.2.2.2.2.2.2.1
theorem E_vret  (hd : decode mt.2.1 pc = .ok (.return_, 1)) (hr : mt.2.2.2 = none) (hq : Q none M) : EV G mt d kc ks Q pc ls [] M := by
  intro p l e R s m args below meth c H locs cells slots mc ms lsR stR C hR hk hl hP hL hst
  cases hst.n
  refine W.widen (k := mc) (n := ms) (by omega) (by omega) ?_
  exact W.vret C.1 C.2.1 (C.2.2.2.2.2.1.trans hr) (fun t ht _ => ⟨none, _, M, rfl, trivial, hq, by rw [ht]; exact hP⟩) hl hd C.2.2.2.2.2.2.1
end EVA
