/-! ===== 03: the small machine: values by Int, one memory, the judgement EV of a frame and the contract CT of a method ===== -/
abbrev MV : Type := Int ⊕ (Nat ⊕ Int)
abbrev vI (x : Int) : MV := Sum.inl x
abbrev vR (a : Nat) : MV := Sum.inr (Sum.inl a)
abbrev vL (x : Int) : MV := Sum.inr (Sum.inr x)
/-- how many addresses are taken; shapes; ints; references -/
abbrev Mem : Type := (Nat × (Nat → Nat × Nat)) × ((Nat → Int → Int) × (Nat → Nat → Nat))
def mN (M : Mem) : Nat := M.1.1
def mS (M : Mem) : Nat → Nat × Nat := M.1.2
def mI (M : Mem) : Nat → Int → Int := M.2.1
def mR (M : Mem) : Nat → Nat → Nat := M.2.2
def up2 (f : Nat → Int → Int) (a : Nat) (k : Int) (x : Int) : Nat → Int → Int := fun b j => if b = a ∧ j = k then x else f b j
def upN (f : Nat → Nat → Nat) (a : Nat) (k : Nat) (x : Nat) : Nat → Nat → Nat := fun b j => if b = a ∧ j = k then x else f b j
def mWI (M : Mem) (a : Nat) (k : Int) (x : Int) : Mem := (M.1, (up2 M.2.1 a k x, M.2.2))
def mWR (M : Mem) (a k : Nat) (x : Nat) : Mem := (M.1, (M.2.1, upN M.2.2 a k x))
def mNew (M : Mem) (sh : Nat × Nat) : Mem := ((M.1.1 + 1, fun a => if a = M.1.1 then sh else M.1.2 a), (fun a => if a = M.1.1 then fun _ => 0 else M.2.1 a, fun a => if a = M.1.1 then fun _ => 0 else M.2.2 a))
theorem up2_self (f : Nat → Int → Int) (a : Nat) (k : Int) (x : Int) : up2 f a k x a k = x := by simp [up2]
theorem upN_self (f : Nat → Nat → Nat) (a k x : Nat) : upN f a k x a k = x := by simp [upN]
theorem up2_ne (f : Nat → Int → Int) {a b : Nat} {k j : Int} (x : Int) (h : ¬ (b = a ∧ j = k)) : up2 f a k x b j = f b j := by simp [up2, h]
theorem upN_ne (f : Nat → Nat → Nat) {a b k j : Nat} (x : Nat) (h : ¬ (b = a ∧ j = k)) : upN f a k x b j = f b j := by simp [upN, h]
/-- the numbers of the classes and slots; the array classes of int, byte, boolean; the heap ahead of the law; the script; the Strings -/
abbrev Ctx : Type := (va_G × (ClassId × ClassId × ClassId)) × (Heap × ((Nat × (Nat → Int32)) × (Nat × ((Nat → Nat) × ((Nat → Nat) × Value)))))
def gD (G : Ctx) : va_G := G.1.1
def gI (G : Ctx) : ClassId := G.1.2.1
def gB (G : Ctx) : ClassId := G.1.2.2.1
def gZ (G : Ctx) : ClassId := G.1.2.2.2
def gH (G : Ctx) : Heap := G.2.1
def gb (G : Ctx) : Nat := (gH G).size
def gL (G : Ctx) : Nat := G.2.2.1.1
def gx (G : Ctx) : Nat → Int32 := G.2.2.1.2
def gs (G : Ctx) : Nat := G.2.2.2.1
def gK (G : Ctx) : Nat → Nat := G.2.2.2.2.1
def gV (G : Ctx) : Nat → Nat := G.2.2.2.2.2.1
def gF (G : Ctx) : Value := G.2.2.2.2.2.2
/-- where a mini address lies: 1 the script, 2 .. 10 the Strings, 11 .. 19 their bytes, from 21 on what the law makes -/
def am (G : Ctx) (a : Nat) : Nat := if a < 21 then (if a = 1 then gs G else if a < 11 then gK G (a - 2) else gV G (a - 11)) else gb G + (a - 21)
def rfv (G : Ctx) (a : Nat) : Value := if a = 0 then .null else if a = 20 then gF G else .ref (am G a)
theorem am_hi {G : Ctx} {a : Nat} (h : 21 ≤ a) : am G a = gb G + (a - 21) := by simp [am, Nat.not_lt.mpr h]
theorem rfv_hi {G : Ctx} {a : Nat} (h : 21 ≤ a) : rfv G a = .ref (am G a) := by
  have h1 : a ≠ 0 := by omega
  have h2 : a ≠ 20 := by omega
  simp [rfv, h1, h2]
def VR (G : Ctx) : MV → Value → Prop
  | .inl x, v => ∃ i : Int32, v = .int i ∧ i.toInt = x
  | .inr (.inl a), v => v = rfv G a
  | .inr (.inr x), v => ∃ i : Int64, v = .long i ∧ i.toInt = x
def VRs (G : Ctx) : List MV → List Value → Prop
  | [], [] => True
  | a :: as, v :: vs => VR G a v ∧ VRs G as vs
  | _, _ => False
def OR (G : Ctx) : Option MV → Option Value → Prop
  | none, none => True
  | some a, some v => VR G a v
  | _, _ => False
theorem VRs.c {G : Ctx} {a : MV} {as : List MV} {vs : List Value} (h : VRs G (a :: as) vs) : ∃ v vs', vs = v :: vs' ∧ VR G a v ∧ VRs G as vs' := by
  cases vs with
  | nil => exact absurd h (by simp [VRs])
  | cons v vs' => exact ⟨v, vs', rfl, h.1, h.2⟩
theorem VRs.n {G : Ctx} {vs : List Value} (h : VRs G [] vs) : vs = [] := by
  cases vs with
  | nil => rfl
  | cons v vs' => exact absurd h (by simp [VRs])
theorem VRs.len {G : Ctx} : ∀ {as : List MV} {vs : List Value}, VRs G as vs → as.length = vs.length
  | [], [], _ => rfl
  | _ :: as, _ :: vs, h => by simp [VRs.len (as := as) (vs := vs) h.2]
  | [], _ :: _, h => absurd h (by simp [VRs])
  | _ :: _, [], h => absurd h (by simp [VRs])
theorem VRs.app {G : Ctx} : ∀ {as bs : List MV} {vs ws : List Value}, VRs G as vs → VRs G bs ws → VRs G (as ++ bs) (vs ++ ws)
  | [], bs, [], ws, _, h2 => h2
  | _ :: as, bs, _ :: vs, ws, h, h2 => ⟨h.1, VRs.app (as := as) (vs := vs) h.2 h2⟩
  | [], _, _ :: _, _, h, _ => absurd h (by simp [VRs])
  | _ :: _, _, [], _, h, _ => absurd h (by simp [VRs])
theorem VRs.split {G : Ctx} : ∀ {as bs : List MV} {vs : List Value}, VRs G (as ++ bs) vs → ∃ v1 v2, vs = v1 ++ v2 ∧ VRs G as v1 ∧ VRs G bs v2
  | [], bs, vs, h => ⟨[], vs, rfl, trivial, h⟩
  | a :: as, bs, vs, h => by
    obtain ⟨v, vs', rfl, h1, h2⟩ := VRs.c (as := as ++ bs) h
    obtain ⟨v1, v2, rfl, h3, h4⟩ := VRs.split (as := as) (bs := bs) h2
    exact ⟨v :: v1, v2, rfl, ⟨h1, h3⟩, h4⟩
theorem VRs.rev {G : Ctx} : ∀ {as : List MV} {vs : List Value}, VRs G as vs → VRs G as.reverse vs.reverse
  | [], [], _ => trivial
  | a :: as, v :: vs, h => by
    rw [List.reverse_cons, List.reverse_cons]
    exact VRs.app (VRs.rev (as := as) (vs := vs) h.2) ⟨h.1, trivial⟩
  | [], _ :: _, h => absurd h (by simp [VRs])
  | _ :: _, [], h => absurd h (by simp [VRs])
/-- the classes whose objects are made -/
abbrev cls_ : List vw_C := [(RX0, TX0, 4), (RX1, TX1, 16), (RX3, TX3, 7), (RX4, TX4, 4), (RX5, TX5, 3), (RX6, TX6, 4), (RX7, TX7, 4), (RX8, TX8, 2), (RX9, TX9, 7), (RX10, TX10, 4), (RX11, TX11, 15), (RX12, TX12, 28)]
def tyC : Nat → Nat → FieldType := fun c => match c with
  | 0 => tyX0
  | 1 => tyX1
  | 2 => tyX3
  | 3 => tyX4
  | 4 => tyX5
  | 5 => tyX6
  | 6 => tyX7
  | 7 => tyX8
  | 8 => tyX9
  | 9 => tyX10
  | 10 => tyX11
  | _ => tyX12
/-- does a field hold a reference -/
def fk (c k : Nat) : Bool := match tyC c k with
  | .object _ => true
  | .array _ => true
  | _ => false
def FV (G : Ctx) (M : Mem) (a c k : Nat) (v : Value) : Prop := if fk c k = true then v = rfv G (mR M a k) else ∃ i : Int32, v = .int i ∧ i.toInt = mI M a (k : Int)
/-- an array's cell: n numbers, those of the memory at a -/
def AR (M : Mem) (a : Nat) (cA : ClassId) (n : Nat) (oc : Option Cell) : Prop := n < 2147483648 ∧ ∃ f : Nat → Int32, oc = some (arrV cA n (fun j => .int (f j))) ∧ ∀ j, j < n → (f j).toInt = mI M a (j : Int)
def CellR (G : Ctx) (M : Mem) (a : Nat) (H : Heap) : Prop := match mS M a with
  | (1, n) => AR M a (gI G) n H[am G a]?
  | (2, n) => AR M a (gB G) n H[am G a]?
  | (3, n) => AR M a (gZ G) n H[am G a]?
  | (4, c) => ∃ (r : vw_C) (V : Nat → Value), cls_[c]? = some r ∧ t_OB (am G a) ((gD G).1 c) r.2.2 ((gD G).2 c) H V ∧ ∀ k, k < r.2.2 → FV G M a c k (V k)
  | _ => True
/-- the lengths and bytes of the Strings -/
def sLen : List Nat := [3, 4, 5, 5, 3, 5, 4, 5, 4]
def sByt : List (List Int32) := [[100, 97, 121], [108, 105, 110, 101], [114, 105, 103, 104, 116], [112, 105, 101, 99, 101], [114, 101, 100], [98, 108, 97, 99, 107], [119, 111, 111, 108], [115, 104, 101, 101, 116], [115, 111, 99, 107]]
/-- what never changes: the script and the Strings, as the memory tells them -/
def GS (G : Ctx) (M : Mem) : Prop := mS M 1 = (6, gL G) ∧ (∀ j : Nat, mI M 1 (j : Int) = (gx G j).toInt) ∧ ∀ i, i < 9 → mS M (2 + i) = (5, i) ∧ mS M (11 + i) = (7, sLen.getD i 0) ∧ ∀ j : Nat, mI M (11 + i) (j : Int) = ((sByt.getD i []).getD j 0).toInt
def RepM (G : Ctx) (M : Mem) (H : Heap) : Prop := 21 ≤ mN M ∧ H.size = gb G + (mN M - 21) ∧ (∀ q, q < gb G → H[q]? = (gH G)[q]?) ∧ (∀ a, 1 ≤ (mS M a).1 → (mS M a).1 ≤ 4 → 21 ≤ a ∧ a < mN M ∧ CellR G M a H) ∧ GS G M
/-- what a state's tables say -/
def SX (G : Ctx) (s : State) : Prop := vk_S 9 sLen sByt (gK G) (gV G) (fun q => gb G ≤ q) s (gH G) ∧ va_Z "java/lang/String" "COMPACT_STRINGS" "Z" (.int 1) (fun q => gb G ≤ q) s (gH G) ∧ va_Z "jdk/internal/util/Preconditions" "SIOOBE_FORMATTER" "Ljava/util/function/BiFunction;" (gF G) (fun q => gb G ≤ q) s (gH G) ∧ (gF G = .null ∨ ∃ x, gF G = .ref x)
def sRef : List (String × Nat × String) := [(RX3, 60, "day"), (RX3, 79, "line"), (RX3, 96, "right"), (RX3, 108, "piece"), (RX3, 129, "red"), (RX3, 131, "black"), (RX3, 133, "wool"), (RX3, 135, "sheet"), (RX3, 137, "sock")]
/-- kinds that aren't of another kind -/
def ncL : List (String × String) := [("CourtWash$Black", "CourtWash$Wool"), ("CourtWash$Black", "CourtWash$Sheet"), ("CourtWash$Black", "CourtWash$Sock"), ("CourtWash$Red", "CourtWash$Black"), ("CourtWash$Red", "CourtWash$Wool"), ("CourtWash$Red", "CourtWash$Sheet"), ("CourtWash$Red", "CourtWash$Sock"), ("CourtWash$Wool", "CourtWash$Red"), ("CourtWash$Wool", "CourtWash$Black"), ("CourtWash$Wool", "CourtWash$Sheet"), ("CourtWash$Wool", "CourtWash$Sock"), ("CourtWash$Sheet", "CourtWash$Red"), ("CourtWash$Sheet", "CourtWash$Black"), ("CourtWash$Sheet", "CourtWash$Wool"), ("CourtWash$Sheet", "CourtWash$Sock"), ("CourtWash$Sock", "CourtWash$Red"), ("CourtWash$Sock", "CourtWash$Black"), ("CourtWash$Sock", "CourtWash$Sheet")]
def RX (G : Ctx) (s : State) : Prop := (∀ i q, sRef[i]? = some q → vk_R q.1 q.2.1 q.2.2 (gK G i) s) ∧ ∀ (i : Nat) (q : String × String), ncL[i]? = some q → va_Nc q.1 q.2 s
/-- private members of nest mates -/
def nestL : List (String × Nat × MethodName) := [("CourtWash", 18, ⟨"CourtWash$Reader", "<init>", "()V"⟩), ("CourtWash", 25, ⟨"CourtWash$Trace", "<init>", "()V"⟩), ("CourtWash", 42, ⟨"CourtWash$Court", "<init>", "()V"⟩), ("CourtWash$Rows", 25, ⟨"CourtWash", "isIn", "(III)Z"⟩), ("CourtWash$Reader", 21, ⟨"CourtWash$Court", "<init>", "()V"⟩), ("CourtWash$Reader", 142, ⟨"CourtWash", "isIn", "(III)Z"⟩), ("CourtWash$Court", 75, ⟨"CourtWash", "isIn", "(III)Z"⟩)]
def NX (s : State) : Prop := ∀ (i : Nat) (q : String × Nat × MethodName), nestL[i]? = some q → va_Nw (.methodLinkNest q.1 q.2.1 q.2.2 "CourtWash") s
def KX (G : Ctx) (s : State) : Prop := va_K (gD G) cls_ [] s ∧ (ArrOfT s (gI G) .int ∧ ArrOfT s (gB G) .byte ∧ ArrOfT s (gZ G) .boolean) ∧ (s.vm.findClass ("[" ++ FieldType.int.toString) = some (gI G) ∧ s.vm.findClass ("[" ++ FieldType.byte.toString) = some (gB G) ∧ s.vm.findClass ("[" ++ FieldType.boolean.toString) = some (gZ G)) ∧ (va_X (gs G) (gL G) (gx G) s (gH G) ∧ gs G < gb G) ∧ SX G s ∧ RX G s ∧ NX s
/-- the words that a callee keeps -/
def AW : List Cond := lw_tbl.filter goodWord
theorem aw_mem {w : Cond} (h : w ∈ lw_tbl) (hg : goodWord w = true) : w ∈ AW := List.mem_filter.mpr ⟨h, hg⟩
theorem aw_good {w : Cond} (h : w ∈ AW) : GoodIn AW (w :: AW) := by
  intro x hx
  have hx2 : x ∈ AW := by
    rcases List.mem_cons.mp hx with e | e
    · rw [e]; exact h
    · exact e
  exact ⟨hx2, good_of_word (List.mem_filter.mp hx2).2⟩
/-- a method: its name, its bytes, how many locals, what it returns -/
abbrev MT : Type := MethodName × (ByteArray × (Nat × Option FieldType))
def CX (G : Ctx) (mt : MT) (p : Program) (s : State) (m : MethodId) (args : Array Value) (meth : Method) (c : Code) : Prop :=
  p.tables.exec = Jvm.exec ∧ c.code = mt.2.1 ∧ c.maxLocals = mt.2.2.1 ∧ s.vm.findClass mt.1.cls = some m.cls ∧ (∀ w ∈ AW, w.before args s = true) ∧ meth.sig.returnType = mt.2.2.2 ∧ meth.locks = false ∧ meth.name = mt.1.name ∧ KX G s
def LR (G : Ctx) (ls : List (Option MV)) (lsR : Array Slot) (nL : Nat) : Prop := ∃ lv : List (Nat × Value), lv_has lsR nL lv ∧ ∀ (i : Nat) (x : MV), ls[i]? = some (some x) → ∃ v, (i, v) ∈ lv ∧ VR G x v
def QX (G : Ctx) (Q : Option MV → Mem → Prop) : Array Value → State → Outcome → State → Prop := fun _ _ o t => ∃ (r : Option MV) (v : Option Value) (M : Mem), o = .returned v ∧ OR G r v ∧ Q r M ∧ RepM G M t.heap
/-- THE JUDGEMENT: the method mt, with d frames and kc cells of ks slots left, at pc with these locals, this stack and this memory, comes to a return with Q -/
def EV (G : Ctx) (mt : MT) (d kc ks : Nat) (Q : Option MV → Mem → Prop) (pc : Nat) (ls : List (Option MV)) (st : List MV) (M : Mem) : Prop :=
  ∀ (p : Program) (l : Launch) (e : Env) (R : Room) (s : State) (m : MethodId) (args : Array Value) (below : List Frame) (meth : Method) (c : Code) (H : Heap) (locs : List Loc) (cells slots mc ms : Nat) (lsR : Array Slot) (stR : List Value),
    CX G mt p s m args meth c → (d ≤ R.frames ∧ 64 * d ≤ R.locals ∧ mc ≤ R.cells ∧ ms ≤ R.slots) → (cells + kc ≤ mc ∧ slots + ks ≤ ms) → (∀ q ∈ locs, gb G ≤ q.base) → RepM G M H → LR G ls lsR mt.2.2.1 → VRs G st stR →
    W p l e R s m args below meth c H locs cells slots (MQ below (QX G Q) args s mc ms (fun q => gb G ≤ q)) (F0 m pc lsR stR)
def PX (G : Ctx) (as : List MV) (M : Mem) : Array Value → State → Prop := fun v U => (∃ vs : List Value, v = vs.toArray ∧ VRs G as vs) ∧ RepM G M U.heap ∧ KX G U
def rmX (d mc ms : Nat) : Room := { frames := d, cells := mc, slots := ms, locals := 64 * d }
/-- THE CONTRACT of a method at these arguments and this memory -/
def CT (G : Ctx) (mt : MT) (d mc ms : Nat) (as : List MV) (M : Mem) (Q : Option MV → Mem → Prop) : Prop :=
  ∀ l : Launch, Met l mt.1 (Cond.code mt.1 mt.2.1 mt.2.2.1 mt.2.2.2 :: AW) (rmX d mc ms) (PX G as M) (QX G Q) mc ms (fun q => gb G ≤ q)
