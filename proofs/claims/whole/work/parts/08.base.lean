/-! ===== 08: pictures of the objects; what a court is, as numbers ===== -/
def tB : Bool → Int
  | true => 1
  | false => 0
theorem tB0 (b : Bool) : (tB b = 0) = (b = false) := by cases b <;> simp [tB]
theorem tB1 (b : Bool) : (tB b = 1) = (b = true) := by cases b <;> simp [tB]
theorem tB_nar (b : Bool) : narrow .boolean (.int (Int32.ofInt (tB b))) = .int (Int32.ofInt (tB b)) := by cases b <;> decide
theorem tB_ran (b : Bool) : 0 ≤ tB b ∧ tB b ≤ 1 := by cases b <;> simp [tB]
/-- the same shapes and references, other ints -/
def mJ (M : Mem) (I : Nat → Int → Int) : Mem := (M.1, (I, M.2.2))
theorem mJ_self (M : Mem) : mJ M (mI M) = M := rfl
/-- the answer is an int, nothing changes -/
def rI (M : Mem) (x : Int) : Option MV → Mem → Prop := fun r M' => r = some (vI x) ∧ M = M'
/-- no answer, the ints become I -/
def rJ (M : Mem) (P : (Nat → Int → Int) → Prop) : Option MV → Mem → Prop := fun r M' => r = none ∧ ∃ I, M' = mJ M I ∧ P I
/-- a Court object and its rows -/
def CA (M : Mem) (a : Nat) : Prop := mS M a = (4, 1) ∧ 21 ≤ a ∧ (mR M a 0 = a + 1 ∧ mS M (a + 1) = (1, 24)) ∧ (mR M a 2 = a + 2 ∧ mS M (a + 2) = (1, 8)) ∧ (mR M a 3 = a + 3 ∧ mS M (a + 3) = (1, 8)) ∧ (mR M a 4 = a + 4 ∧ mS M (a + 4) = (1, 8)) ∧ (mR M a 5 = a + 5 ∧ mS M (a + 5) = (1, 8)) ∧ (mR M a 7 = a + 6 ∧ mS M (a + 6) = (1, 8)) ∧ (mR M a 8 = a + 7 ∧ mS M (a + 7) = (1, 8)) ∧ (mR M a 9 = a + 8 ∧ mS M (a + 8) = (1, 8)) ∧ (mR M a 10 = a + 9 ∧ mS M (a + 9) = (1, 8)) ∧ (mR M a 12 = a + 10 ∧ mS M (a + 10) = (1, 10)) ∧ (mR M a 13 = a + 11 ∧ mS M (a + 11) = (1, 10)) ∧ (mR M a 14 = a + 12 ∧ mS M (a + 12) = (1, 10)) ∧ (mR M a 15 = a + 13 ∧ mS M (a + 13) = (1, 10))
theorem CA.o {M : Mem} {a : Nat} (h : CA M a) : mS M a = (4, 1) := h.1
theorem CA.lo {M : Mem} {a : Nat} (h : CA M a) : 21 ≤ a := h.2.1
theorem CA.day {M : Mem} {a : Nat} (h : CA M a) : mR M a 0 = a + 1 := h.2.2.1.1
theorem CA.s_day {M : Mem} {a : Nat} (h : CA M a) : mS M (a + 1) = (1, 24) := h.2.2.1.2
theorem CA.floors {M : Mem} {a : Nat} (h : CA M a) : mR M a 2 = a + 2 := h.2.2.2.1.1
theorem CA.s_floors {M : Mem} {a : Nat} (h : CA M a) : mS M (a + 2) = (1, 8) := h.2.2.2.1.2
theorem CA.columns {M : Mem} {a : Nat} (h : CA M a) : mR M a 3 = a + 3 := h.2.2.2.2.1.1
theorem CA.s_columns {M : Mem} {a : Nat} (h : CA M a) : mS M (a + 3) = (1, 8) := h.2.2.2.2.1.2
theorem CA.wides {M : Mem} {a : Nat} (h : CA M a) : mR M a 4 = a + 4 := h.2.2.2.2.2.1.1
theorem CA.s_wides {M : Mem} {a : Nat} (h : CA M a) : mS M (a + 4) = (1, 8) := h.2.2.2.2.2.1.2
theorem CA.below {M : Mem} {a : Nat} (h : CA M a) : mR M a 5 = a + 5 := h.2.2.2.2.2.2.1.1
theorem CA.s_below {M : Mem} {a : Nat} (h : CA M a) : mS M (a + 5) = (1, 8) := h.2.2.2.2.2.2.1.2
theorem CA.rightLines {M : Mem} {a : Nat} (h : CA M a) : mR M a 7 = a + 6 := h.2.2.2.2.2.2.2.1.1
theorem CA.s_rightLines {M : Mem} {a : Nat} (h : CA M a) : mS M (a + 6) = (1, 8) := h.2.2.2.2.2.2.2.1.2
theorem CA.rightFroms {M : Mem} {a : Nat} (h : CA M a) : mR M a 8 = a + 7 := h.2.2.2.2.2.2.2.2.1.1
theorem CA.s_rightFroms {M : Mem} {a : Nat} (h : CA M a) : mS M (a + 7) = (1, 8) := h.2.2.2.2.2.2.2.2.1.2
theorem CA.rightTos {M : Mem} {a : Nat} (h : CA M a) : mR M a 9 = a + 8 := h.2.2.2.2.2.2.2.2.2.1.1
theorem CA.s_rightTos {M : Mem} {a : Nat} (h : CA M a) : mS M (a + 8) = (1, 8) := h.2.2.2.2.2.2.2.2.2.1.2
theorem CA.rightOwners {M : Mem} {a : Nat} (h : CA M a) : mR M a 10 = a + 9 := h.2.2.2.2.2.2.2.2.2.2.1.1
theorem CA.s_rightOwners {M : Mem} {a : Nat} (h : CA M a) : mS M (a + 9) = (1, 8) := h.2.2.2.2.2.2.2.2.2.2.1.2
theorem CA.kinds {M : Mem} {a : Nat} (h : CA M a) : mR M a 12 = a + 10 := h.2.2.2.2.2.2.2.2.2.2.2.1.1
theorem CA.s_kinds {M : Mem} {a : Nat} (h : CA M a) : mS M (a + 10) = (1, 10) := h.2.2.2.2.2.2.2.2.2.2.2.1.2
theorem CA.owners {M : Mem} {a : Nat} (h : CA M a) : mR M a 13 = a + 11 := h.2.2.2.2.2.2.2.2.2.2.2.2.1.1
theorem CA.s_owners {M : Mem} {a : Nat} (h : CA M a) : mS M (a + 11) = (1, 10) := h.2.2.2.2.2.2.2.2.2.2.2.2.1.2
theorem CA.firstWet {M : Mem} {a : Nat} (h : CA M a) : mR M a 14 = a + 12 := h.2.2.2.2.2.2.2.2.2.2.2.2.2.1.1
theorem CA.s_firstWet {M : Mem} {a : Nat} (h : CA M a) : mS M (a + 12) = (1, 10) := h.2.2.2.2.2.2.2.2.2.2.2.2.2.1.2
theorem CA.yards {M : Mem} {a : Nat} (h : CA M a) : mR M a 15 = a + 13 := h.2.2.2.2.2.2.2.2.2.2.2.2.2.2.1
theorem CA.s_yards {M : Mem} {a : Nat} (h : CA M a) : mS M (a + 13) = (1, 10) := h.2.2.2.2.2.2.2.2.2.2.2.2.2.2.2
/-- a Wash object and its rows -/
def WA (M : Mem) (w : Nat) : Prop := mS M w = (4, 8) ∧ 21 ≤ w ∧ (mR M w 2 = w + 1 ∧ mS M (w + 1) = (1, 10)) ∧ (mR M w 3 = w + 2 ∧ mS M (w + 2) = (1, 10)) ∧ (mR M w 4 = w + 3 ∧ mS M (w + 3) = (3, 10)) ∧ (mR M w 5 = w + 4 ∧ mS M (w + 4) = (1, 8)) ∧ (mR M w 6 = w + 5 ∧ mS M (w + 5) = (3, 8))
theorem WA.o {M : Mem} {w : Nat} (h : WA M w) : mS M w = (4, 8) := h.1
theorem WA.lo {M : Mem} {w : Nat} (h : WA M w) : 21 ≤ w := h.2.1
theorem WA.wet {M : Mem} {w : Nat} (h : WA M w) : mR M w 2 = w + 1 := h.2.2.1.1
theorem WA.s_wet {M : Mem} {w : Nat} (h : WA M w) : mS M (w + 1) = (1, 10) := h.2.2.1.2
theorem WA.where {M : Mem} {w : Nat} (h : WA M w) : mR M w 3 = w + 2 := h.2.2.2.1.1
theorem WA.s_where {M : Mem} {w : Nat} (h : WA M w) : mS M (w + 2) = (1, 10) := h.2.2.2.1.2
theorem WA.stained {M : Mem} {w : Nat} (h : WA M w) : mR M w 4 = w + 3 := h.2.2.2.2.1.1
theorem WA.s_stained {M : Mem} {w : Nat} (h : WA M w) : mS M (w + 3) = (3, 10) := h.2.2.2.2.1.2
theorem WA.dripsOn {M : Mem} {w : Nat} (h : WA M w) : mR M w 5 = w + 4 := h.2.2.2.2.2.1.1
theorem WA.s_dripsOn {M : Mem} {w : Nat} (h : WA M w) : mS M (w + 4) = (1, 8) := h.2.2.2.2.2.1.2
theorem WA.redOn {M : Mem} {w : Nat} (h : WA M w) : mR M w 6 = w + 5 := h.2.2.2.2.2.2.1
theorem WA.s_redOn {M : Mem} {w : Nat} (h : WA M w) : mS M (w + 5) = (3, 8) := h.2.2.2.2.2.2.2
/-- what a court and a time of it are, as the reference lays it: 0 lines, 1 rights, 2 pieces, 3 quarters gone, 4.. day, 28.. lines, 52.. rights, 84.. pieces -/
abbrev CD : Type := Int → Int
def WFc (cd : CD) : Prop := (0 ≤ cd 0 ∧ cd 0 ≤ 8) ∧ (0 ≤ cd 1 ∧ cd 1 ≤ 8) ∧ (0 ≤ cd 2 ∧ cd 2 ≤ 10) ∧ (∀ q, 0 ≤ q → q < 24 → 0 ≤ cd (4 + q) ∧ cd (4 + q) ≤ 99) ∧ (∀ l, 0 ≤ l → l < cd 0 → 0 ≤ cd (28 + 3 * l) ∧ cd (28 + 3 * l) ≤ 9) ∧ (∀ l, 0 ≤ l → l < cd 0 → 0 ≤ cd (29 + 3 * l) ∧ cd (29 + 3 * l) ≤ 3) ∧ (∀ l, 0 ≤ l → l < cd 0 → 1 ≤ cd (30 + 3 * l) ∧ cd (30 + 3 * l) ≤ 9) ∧ (∀ r, 0 ≤ r → r < cd 1 → 0 ≤ cd (55 + 4 * r) ∧ cd (55 + 4 * r) ≤ 5) ∧ (∀ p, 0 ≤ p → p < cd 2 → 1 ≤ cd (84 + 6 * p) ∧ cd (84 + 6 * p) ≤ 5) ∧ (∀ p, 0 ≤ p → p < cd 2 → 0 ≤ cd (85 + 6 * p) ∧ cd (85 + 6 * p) ≤ 5) ∧ (∀ p, 0 ≤ p → p < cd 2 → 1 ≤ cd (87 + 6 * p) ∧ cd (87 + 6 * p) ≤ 9)
theorem WFc.ln {cd : CD} (h : WFc cd) : 0 ≤ cd 0 ∧ cd 0 ≤ 8 := h.1
theorem WFc.rn {cd : CD} (h : WFc cd) : 0 ≤ cd 1 ∧ cd 1 ≤ 8 := h.2.1
theorem WFc.pn {cd : CD} (h : WFc cd) : 0 ≤ cd 2 ∧ cd 2 ≤ 10 := h.2.2.1
theorem WFc.day {cd : CD} (h : WFc cd) {q : Int} (h0 : 0 ≤ q) (h1 : q < 24) : 0 ≤ cd (4 + q) ∧ cd (4 + q) ≤ 99 := h.2.2.2.1 q h0 h1
theorem WFc.fl {cd : CD} (h : WFc cd) {l : Int} (h0 : 0 ≤ l) (h1 : l < cd 0) : 0 ≤ cd (28 + 3 * l) ∧ cd (28 + 3 * l) ≤ 9 := h.2.2.2.2.1 l h0 h1
theorem WFc.co {cd : CD} (h : WFc cd) {l : Int} (h0 : 0 ≤ l) (h1 : l < cd 0) : 0 ≤ cd (29 + 3 * l) ∧ cd (29 + 3 * l) ≤ 3 := h.2.2.2.2.2.1 l h0 h1
theorem WFc.wi {cd : CD} (h : WFc cd) {l : Int} (h0 : 0 ≤ l) (h1 : l < cd 0) : 1 ≤ cd (30 + 3 * l) ∧ cd (30 + 3 * l) ≤ 9 := h.2.2.2.2.2.2.1 l h0 h1
theorem WFc.ro {cd : CD} (h : WFc cd) {r : Int} (h0 : 0 ≤ r) (h1 : r < cd 1) : 0 ≤ cd (55 + 4 * r) ∧ cd (55 + 4 * r) ≤ 5 := h.2.2.2.2.2.2.2.1 r h0 h1
theorem WFc.ki {cd : CD} (h : WFc cd) {p : Int} (h0 : 0 ≤ p) (h1 : p < cd 2) : 1 ≤ cd (84 + 6 * p) ∧ cd (84 + 6 * p) ≤ 5 := h.2.2.2.2.2.2.2.2.1 p h0 h1
theorem WFc.ow {cd : CD} (h : WFc cd) {p : Int} (h0 : 0 ≤ p) (h1 : p < cd 2) : 0 ≤ cd (85 + 6 * p) ∧ cd (85 + 6 * p) ≤ 5 := h.2.2.2.2.2.2.2.2.2.1 p h0 h1
theorem WFc.ya {cd : CD} (h : WFc cd) {p : Int} (h0 : 0 ≤ p) (h1 : p < cd 2) : 1 ≤ cd (87 + 6 * p) ∧ cd (87 + 6 * p) ≤ 9 := h.2.2.2.2.2.2.2.2.2.2 p h0 h1
/-- the line below a line, as the reference tells it -/
def fBel (cd : CD) (l : Int) : Nat → Int
  | 0 => -1000000
  | k + 1 => if (cd (29 + 3 * k) = cd (29 + 3 * l) ∧ cd (28 + 3 * k) < cd (28 + 3 * l)) ∧ (fBel cd l k = -1000000 ∨ cd (28 + 3 * fBel cd l k) < cd (28 + 3 * k)) then (k : Int) else fBel cd l k
/-- none is -1 in the class -/
def nm1 (x : Int) : Int := if x = -1000000 then -1 else x
/-- the Court at a holds the court cd -/
def CC (I : Nat → Int → Int) (a : Nat) (cd : CD) : Prop := (I a 1 = cd 0) ∧ (I a 6 = cd 1) ∧ (I a 11 = cd 2) ∧ (∀ q, 0 ≤ q → q < 24 → I (a + 1) q = cd (4 + q)) ∧ (∀ l, 0 ≤ l → l < cd 0 → I (a + 2) l = cd (28 + 3 * l)) ∧ (∀ l, 0 ≤ l → l < cd 0 → I (a + 3) l = cd (29 + 3 * l)) ∧ (∀ l, 0 ≤ l → l < cd 0 → I (a + 4) l = cd (30 + 3 * l)) ∧ (∀ l, 0 ≤ l → l < cd 0 → I (a + 5) l = nm1 (fBel cd l (cd 0).toNat)) ∧ (∀ r, 0 ≤ r → r < cd 1 → I (a + 6) r = cd (52 + 4 * r)) ∧ (∀ r, 0 ≤ r → r < cd 1 → I (a + 7) r = cd (53 + 4 * r)) ∧ (∀ r, 0 ≤ r → r < cd 1 → I (a + 8) r = cd (54 + 4 * r)) ∧ (∀ r, 0 ≤ r → r < cd 1 → I (a + 9) r = cd (55 + 4 * r)) ∧ (∀ p, 0 ≤ p → p < cd 2 → I (a + 10) p = cd (84 + 6 * p)) ∧ (∀ p, 0 ≤ p → p < cd 2 → I (a + 11) p = cd (85 + 6 * p)) ∧ (∀ p, 0 ≤ p → p < cd 2 → I (a + 13) p = cd (87 + 6 * p))
theorem CC.lnc {I : Nat → Int → Int} {a : Nat} {cd : CD} (h : CC I a cd) : I a 1 = cd 0 := h.1
theorem CC.rnc {I : Nat → Int → Int} {a : Nat} {cd : CD} (h : CC I a cd) : I a 6 = cd 1 := h.2.1
theorem CC.pnc {I : Nat → Int → Int} {a : Nat} {cd : CD} (h : CC I a cd) : I a 11 = cd 2 := h.2.2.1
theorem CC.day {I : Nat → Int → Int} {a : Nat} {cd : CD} (h : CC I a cd) {q : Int} (h0 : 0 ≤ q) (h1 : q < 24) : I (a + 1) q = cd (4 + q) := h.2.2.2.1 q h0 h1
theorem CC.floors {I : Nat → Int → Int} {a : Nat} {cd : CD} (h : CC I a cd) {l : Int} (h0 : 0 ≤ l) (h1 : l < cd 0) : I (a + 2) l = cd (28 + 3 * l) := h.2.2.2.2.1 l h0 h1
theorem CC.columns {I : Nat → Int → Int} {a : Nat} {cd : CD} (h : CC I a cd) {l : Int} (h0 : 0 ≤ l) (h1 : l < cd 0) : I (a + 3) l = cd (29 + 3 * l) := h.2.2.2.2.2.1 l h0 h1
theorem CC.wides {I : Nat → Int → Int} {a : Nat} {cd : CD} (h : CC I a cd) {l : Int} (h0 : 0 ≤ l) (h1 : l < cd 0) : I (a + 4) l = cd (30 + 3 * l) := h.2.2.2.2.2.2.1 l h0 h1
theorem CC.below {I : Nat → Int → Int} {a : Nat} {cd : CD} (h : CC I a cd) {l : Int} (h0 : 0 ≤ l) (h1 : l < cd 0) : I (a + 5) l = nm1 (fBel cd l (cd 0).toNat) := h.2.2.2.2.2.2.2.1 l h0 h1
theorem CC.rightLines {I : Nat → Int → Int} {a : Nat} {cd : CD} (h : CC I a cd) {r : Int} (h0 : 0 ≤ r) (h1 : r < cd 1) : I (a + 6) r = cd (52 + 4 * r) := h.2.2.2.2.2.2.2.2.1 r h0 h1
theorem CC.rightFroms {I : Nat → Int → Int} {a : Nat} {cd : CD} (h : CC I a cd) {r : Int} (h0 : 0 ≤ r) (h1 : r < cd 1) : I (a + 7) r = cd (53 + 4 * r) := h.2.2.2.2.2.2.2.2.2.1 r h0 h1
theorem CC.rightTos {I : Nat → Int → Int} {a : Nat} {cd : CD} (h : CC I a cd) {r : Int} (h0 : 0 ≤ r) (h1 : r < cd 1) : I (a + 8) r = cd (54 + 4 * r) := h.2.2.2.2.2.2.2.2.2.2.1 r h0 h1
theorem CC.rightOwners {I : Nat → Int → Int} {a : Nat} {cd : CD} (h : CC I a cd) {r : Int} (h0 : 0 ≤ r) (h1 : r < cd 1) : I (a + 9) r = cd (55 + 4 * r) := h.2.2.2.2.2.2.2.2.2.2.2.1 r h0 h1
theorem CC.kinds {I : Nat → Int → Int} {a : Nat} {cd : CD} (h : CC I a cd) {p : Int} (h0 : 0 ≤ p) (h1 : p < cd 2) : I (a + 10) p = cd (84 + 6 * p) := h.2.2.2.2.2.2.2.2.2.2.2.2.1 p h0 h1
theorem CC.owners {I : Nat → Int → Int} {a : Nat} {cd : CD} (h : CC I a cd) {p : Int} (h0 : 0 ≤ p) (h1 : p < cd 2) : I (a + 11) p = cd (85 + 6 * p) := h.2.2.2.2.2.2.2.2.2.2.2.2.2.1 p h0 h1
theorem CC.yards {I : Nat → Int → Int} {a : Nat} {cd : CD} (h : CC I a cd) {p : Int} (h0 : 0 ≤ p) (h1 : p < cd 2) : I (a + 13) p = cd (87 + 6 * p) := h.2.2.2.2.2.2.2.2.2.2.2.2.2.2 p h0 h1
theorem EV.lq {G : Ctx} {mt : MT} {d kc ks : Nat} {Q : Option MV → Mem → Prop} {pc : Nat} {ls ls' : List (Option MV)} {st : List MV} {M : Mem} (h : ls = ls') (k : EV G mt d kc ks Q pc ls st M) : EV G mt d kc ks Q pc ls' st M := h ▸ k
theorem EV.mq {G : Ctx} {mt : MT} {d kc ks : Nat} {Q : Option MV → Mem → Prop} {pc : Nat} {ls ls' : List (Option MV)} {st : List MV} {M M' : Mem} (h : ls = ls') (hM : M = M') (k : EV G mt d kc ks Q pc ls st M) : EV G mt d kc ks Q pc ls' st M' := h ▸ hM ▸ k
