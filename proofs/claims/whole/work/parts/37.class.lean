/-! ===== 37: the class: its picture, what it holds of the state ===== -/
/-- the reader -/
def RQ (M : Mem) (a : Nat) : Prop := mS M a = (4, 2) ∧ 21 ≤ a ∧ (mR M a 0 = a + 1 ∧ mS M (a + 1) = (2, 500))
theorem RQ.o {M : Mem} {a : Nat} (h : RQ M a) : mS M a = (4, 2) := h.1
theorem RQ.lo {M : Mem} {a : Nat} (h : RQ M a) : 21 ≤ a := h.2.1
theorem RQ.tape {M : Mem} {a : Nat} (h : RQ M a) : mR M a 0 = a + 1 := h.2.2.1
theorem RQ.s_tape {M : Mem} {a : Nat} (h : RQ M a) : mS M (a + 1) = (2, 500) := h.2.2.2
/-- the trace -/
def TQ (M : Mem) (a : Nat) : Prop := mS M a = (4, 7) ∧ 21 ≤ a ∧ (mR M a 0 = a + 1 ∧ mS M (a + 1) = (1, 16))
theorem TQ.o {M : Mem} {a : Nat} (h : TQ M a) : mS M a = (4, 7) := h.1
theorem TQ.lo {M : Mem} {a : Nat} (h : TQ M a) : 21 ≤ a := h.2.1
theorem TQ.numbers {M : Mem} {a : Nat} (h : TQ M a) : mR M a 0 = a + 1 := h.2.2.1
theorem TQ.s_numbers {M : Mem} {a : Nat} (h : TQ M a) : mS M (a + 1) = (1, 16) := h.2.2.2
theorem RQ.j {M : Mem} {a : Nat} (I : AS) (h : RQ M a) : RQ (mJ M I) a := h
/-- the object and what it is made of: 21 the object, 22 rows, 26 reader, 28 trace, 30 31 32 rows of its own, 47 53 59 65 71 washes -/
def XO (M : Mem) : Prop := (mS M 21 = (4, 10) ∧ mR M 21 0 = 22 ∧ mR M 21 1 = 26 ∧ mR M 21 2 = 47 ∧ mR M 21 3 = 53 ∧ mR M 21 4 = 59 ∧ mR M 21 5 = 65 ∧ mR M 21 6 = 71 ∧ mR M 21 7 = 28 ∧ mR M 21 8 = 30 ∧ mR M 21 9 = 31 ∧ mR M 21 10 = 32) ∧ (mS M 30 = (1, 4) ∧ mS M 31 = (1, 4) ∧ mS M 32 = (1, 32)) ∧ RP M 22 ∧ RQ M 26 ∧ TQ M 28 ∧ WA M 47 ∧ WA M 53 ∧ WA M 59 ∧ WA M 65 ∧ WA M 71
theorem XO.o {M : Mem} (h : XO M) : mS M 21 = (4, 10) := h.1.1
theorem XO.rows {M : Mem} (h : XO M) : mR M 21 0 = 22 := h.1.2.1
theorem XO.reader {M : Mem} (h : XO M) : mR M 21 1 = 26 := h.1.2.2.1
theorem XO.wash {M : Mem} (h : XO M) : mR M 21 2 = 47 := h.1.2.2.2.1
theorem XO.firstImage {M : Mem} (h : XO M) : mR M 21 3 = 53 := h.1.2.2.2.2.1
theorem XO.secondImage {M : Mem} (h : XO M) : mR M 21 4 = 59 := h.1.2.2.2.2.2.1
theorem XO.draft {M : Mem} (h : XO M) : mR M 21 5 = 65 := h.1.2.2.2.2.2.2.1
theorem XO.trial {M : Mem} (h : XO M) : mR M 21 6 = 71 := h.1.2.2.2.2.2.2.2.1
theorem XO.trace {M : Mem} (h : XO M) : mR M 21 7 = 28 := h.1.2.2.2.2.2.2.2.2.1
theorem XO.triedLines {M : Mem} (h : XO M) : mR M 21 8 = 30 := h.1.2.2.2.2.2.2.2.2.2.1
theorem XO.bestLines {M : Mem} (h : XO M) : mR M 21 9 = 31 := h.1.2.2.2.2.2.2.2.2.2.2.1
theorem XO.timesAlone {M : Mem} (h : XO M) : mR M 21 10 = 32 := h.1.2.2.2.2.2.2.2.2.2.2.2
theorem XO.s8 {M : Mem} (h : XO M) : mS M 30 = (1, 4) := h.2.1.1
theorem XO.s9 {M : Mem} (h : XO M) : mS M 31 = (1, 4) := h.2.1.2.1
theorem XO.s10 {M : Mem} (h : XO M) : mS M 32 = (1, 32) := h.2.1.2.2
theorem XO.rp {M : Mem} (h : XO M) : RP M 22 := h.2.2.1
theorem XO.rq {M : Mem} (h : XO M) : RQ M 26 := h.2.2.2.1
theorem XO.tq {M : Mem} (h : XO M) : TQ M 28 := h.2.2.2.2.1
theorem XO.w0 {M : Mem} (h : XO M) : WA M 47 := h.2.2.2.2.2.1
theorem XO.w1 {M : Mem} (h : XO M) : WA M 53 := h.2.2.2.2.2.2.1
theorem XO.w2 {M : Mem} (h : XO M) : WA M 59 := h.2.2.2.2.2.2.2.1
theorem XO.w3 {M : Mem} (h : XO M) : WA M 65 := h.2.2.2.2.2.2.2.2.1
theorem XO.w4 {M : Mem} (h : XO M) : WA M 71 := h.2.2.2.2.2.2.2.2.2
theorem XO.j {M : Mem} (I : AS) (h : XO M) : XO (mJ M I) := h
/-- rows, tape, trace, fields -/
def QR (I A : AS) : Prop := ∀ r, 0 ≤ r → r < 8 → I 23 r = A 1 r ∧ (0 ≤ A 1 r → I 24 r = A 2 r ∧ ∀ k, 0 ≤ k → k < A 2 r → I 25 (40 * r + k) = A 3 (40 * r + k))
def sg (x : Int) : Int := if x ≤ 127 then x else x - 256
def QT (I A : AS) : Prop := I 26 1 = A 0 9 ∧ ∀ j, 0 ≤ j → j < A 0 9 → I 27 j = sg (A 6 j)
def QC (I A : AS) : Prop := I 28 1 = A 0 27 ∧ ∀ j, 0 ≤ j → j < A 0 27 → I 29 j = A 14 j
def QS (I A : AS) : Prop := I 21 13 = A 0 10 ∧ I 21 14 = A 0 1
theorem QR.cg {I J A C : AS} (h : QR I A) (e3 : ∀ j, J 23 j = I 23 j) (e4 : ∀ j, J 24 j = I 24 j) (e5 : ∀ j, J 25 j = I 25 j) (f1 : ∀ j, C 1 j = A 1 j) (f2 : ∀ j, C 2 j = A 2 j) (f3 : ∀ j, C 3 j = A 3 j) : QR J C := by
  intro r r0 r1
  rw [e3, f1, e4, f2]
  refine ⟨(h r r0 r1).1, fun q => ⟨((h r r0 r1).2 q).1, fun k k0 k1 => ?_⟩⟩
  rw [e5, f3]
  exact ((h r r0 r1).2 q).2 k k0 k1
theorem QT.cg {I J A C : AS} (h : QT I A) (e1 : J 26 1 = I 26 1) (e2 : ∀ j, J 27 j = I 27 j) (f1 : C 0 9 = A 0 9) (f2 : ∀ j, C 6 j = A 6 j) : QT J C := by
  unfold QT
  rw [e1, f1]
  exact ⟨h.1, fun j j0 j1 => by rw [e2, f2]; exact h.2 j j0 j1⟩
theorem QC.cg {I J A C : AS} (h : QC I A) (e1 : J 28 1 = I 28 1) (e2 : ∀ j, J 29 j = I 29 j) (f1 : C 0 27 = A 0 27) (f2 : ∀ j, C 14 j = A 14 j) : QC J C := by
  unfold QC
  rw [e1, f1]
  exact ⟨h.1, fun j j0 j1 => by rw [e2, f2]; exact h.2 j j0 j1⟩
theorem QS.cg {I J A C : AS} (h : QS I A) (e1 : J 21 13 = I 21 13) (e2 : J 21 14 = I 21 14) (f1 : C 0 10 = A 0 10) (f2 : C 0 1 = A 0 1) : QS J C := by
  unfold QS
  rw [e1, e2, f1, f2]
  exact h
/-- a wash holds a court and a time of it -/
def WR (M : Mem) (w : Nat) (cd : CD) : Prop := ∃ a, mR M w 0 = a ∧ CA M a ∧ (a = 33 ∨ 92 ≤ a) ∧ a + 13 < mN M ∧ CC (mI M) a cd ∧ HC (mI M) w cd (cHu cd) ∧ EC (mI M) w cd (cWe cd) ∧ SC (mI M) w cd (cSn cd) ∧ mI M w 1 = cd 3 ∧ ∀ p, 0 ≤ p → p < 10 → mI M (w + 3) p = 0 ∨ mI M (w + 3) p = 1
theorem WR.cg {M : Mem} {w : Nat} {cd cd' : CD} {I : AS} (h : WR M w cd) (hc : ∀ b j, (33 ≤ b ∧ b ≤ 46) ∨ 92 ≤ b → I b j = mI M b j) (hw : ∀ b j, w ≤ b → b ≤ w + 3 → I b j = mI M b j) (hd : ∀ j, cd' j = cd j) : WR (mJ M I) w cd' := by
  obtain rfl : cd' = cd := funext hd
  obtain ⟨a, h1, h2, h3, h4, h5, h6, h7, h8, h9, h10⟩ := h
  refine ⟨a, h1, h2, h3, h4, h5.off (fun b j b0 b1 => hc b j (by omega)), fun p p0 p1 => (hw _ _ (by omega) (by omega)).trans (h6 p p0 p1), fun p p0 p1 => (hw _ _ (by omega) (by omega)).trans (h7 p p0 p1), fun p p0 p1 => (hw _ _ (by omega) (by omega)).trans (h8 p p0 p1), (hw _ _ (by omega) (by omega)).trans h9, fun p p0 p1 => ?_⟩
  show I (w + 3) p = 0 ∨ I (w + 3) p = 1
  rw [hw _ _ (by omega) (by omega)]
  exact h10 p p0 p1
/-- THE CLASS HOLDS THE STATE A -/
def CI (M : Mem) (A : AS) : Prop := XO M ∧ 92 ≤ mN M ∧ QR (mI M) A ∧ QT (mI M) A ∧ QC (mI M) A ∧ QS (mI M) A ∧ WR M 47 (A 4) ∧ WR M 53 (img A 0) ∧ WR M 59 (img A 1)
/-- the reference's part is as it was -/
def FX (M M' : Mem) : Prop := mN M ≤ mN M' ∧ ∀ b, 77 ≤ b → b ≤ 91 → mS M' b = mS M b ∧ mI M' b = mI M b ∧ mR M' b = mR M b
theorem FX.rfl' (M : Mem) : FX M M := ⟨Nat.le_refl _, fun _ _ _ => ⟨rfl, rfl, rfl⟩⟩
theorem FX.tr {M M1 M2 : Mem} (h : FX M M1) (g : FX M1 M2) : FX M M2 := ⟨Nat.le_trans h.1 g.1, fun b b0 b1 => ⟨(g.2 b b0 b1).1.trans (h.2 b b0 b1).1, (g.2 b b0 b1).2.1.trans (h.2 b b0 b1).2.1, (g.2 b b0 b1).2.2.trans (h.2 b b0 b1).2.2⟩⟩
theorem FX.j {M M1 : Mem} {J : AS} (h : FX M M1) (e : ∀ b j, 77 ≤ b → b ≤ 91 → J b j = mI M1 b j) : FX M (mJ M1 J) := h.tr ⟨Nat.le_refl _, fun b b0 b1 => ⟨rfl, funext fun j => e b j b0 b1, rfl⟩⟩
theorem FX.w {M M1 : Mem} {b : Nat} {j x : Int} (h : FX M M1) (hb : b < 77 ∨ 91 < b) : FX M (mWI M1 b j x) := h.j (J := up2 (mI M1) b j x) (fun c i c0 c1 => up2_ne _ _ (by omega))
/-- what an operation of the class does -/
def xM (M : Mem) (x : Int) (A : AS) : Option MV → Mem → Prop := fun r M' => r = some (vI x) ∧ CI M' A ∧ FX M M'
/-- courts and washes stay -/
theorem CI.j {M : Mem} {A C I : AS} (h : CI M A) (hI : ∀ b j, (33 ≤ b ∧ b ≤ 64) ∨ 92 ≤ b → I b j = mI M b j) (hr : QR I C) (ht : QT I C) (hc : QC I C) (hs : QS I C) (h4 : ∀ j, C 4 j = A 4 j) (h13 : ∀ j, C 13 j = A 13 j) : CI (mJ M I) C := by
  obtain ⟨x1, x2, x3, x4, x5, x6, x7, x8, x9⟩ := h
  exact ⟨x1, x2, hr, ht, hc, hs, x7.cg (fun b j hb => hI b j (by omega)) (fun b j b0 b1 => hI b j (by omega)) h4, x8.cg (fun b j hb => hI b j (by omega)) (fun b j b0 b1 => hI b j (by omega)) (fun j => h13 _), x9.cg (fun b j hb => hI b j (by omega)) (fun b j b0 b1 => hI b j (by omega)) (fun j => h13 _)⟩
theorem up2_up2 (I : AS) (b : Nat) (j x y : Int) : up2 (up2 I b j y) b j x = up2 I b j x := by
  funext c i; unfold up2; split <;> rfl
theorem up2_comm (I : AS) {b c : Nat} {j k x y : Int} (h : b ≠ c) : up2 (up2 I b j x) c k y = up2 (up2 I c k y) b j x := by
  funext e i; simp only [up2]
  by_cases h1 : e = b ∧ i = j
  · have h2 : ¬ (e = c ∧ i = k) := fun z => h (h1.1.symm.trans z.1)
    simp only [if_pos h1, if_neg h2]
  · by_cases h2 : e = c ∧ i = k
    · simp only [if_neg h1, if_pos h2]
    · simp only [if_neg h1, if_neg h2]
theorem fil_up2 (I : AS) {b c : Nat} {lo hi x j y : Int} (h : b ≠ c) : fil (up2 I c j y) b lo hi x = up2 (fil I b lo hi x) c j y := by
  funext e i; simp only [fil, up2]
  by_cases h1 : e = b ∧ lo ≤ i ∧ i < hi
  · have h2 : ¬ (e = c ∧ i = j) := fun z => h (h1.1.symm.trans z.1)
    simp only [if_pos h1, if_neg h2]
  · simp only [if_neg h1]
theorem mov_up2 (I : AS) {b f c : Nat} {s d n j y : Int} (h : b ≠ c) (h2 : f ≠ c) : mov (up2 I c j y) b f s d n = up2 (mov I b f s d n) c j y := by
  funext e i; simp only [mov, up2]
  by_cases h1 : e = b ∧ d ≤ i ∧ i < d + n
  · have h3 : ¬ (e = c ∧ i = j) := fun z => h (h1.1.symm.trans z.1)
    have h4 : ¬ (f = c ∧ i - d + s = j) := fun z => h2 z.1
    simp only [if_pos h1, if_neg h3, if_neg h4]
  · simp only [if_neg h1]
theorem CI.st {M : Mem} {A : AS} (h : CI M A) (x : Int) : CI (mWI M 21 14 x) (up2 A 0 1 x) :=
  h.j (I := up2 (mI M) 21 14 x) (fun b j hb => up2_ne _ _ (by omega)) (h.2.2.1.cg (fun j => up2_ne _ _ (by omega)) (fun j => up2_ne _ _ (by omega)) (fun j => up2_ne _ _ (by omega)) (fun j => up2_ne _ _ (by omega)) (fun j => up2_ne _ _ (by omega)) (fun j => up2_ne _ _ (by omega))) (h.2.2.2.1.cg (up2_ne _ _ (by omega)) (fun j => up2_ne _ _ (by omega)) (up2_ne _ _ (by omega)) (fun j => up2_ne _ _ (by omega))) (h.2.2.2.2.1.cg (up2_ne _ _ (by omega)) (fun j => up2_ne _ _ (by omega)) (up2_ne _ _ (by omega)) (fun j => up2_ne _ _ (by omega))) ⟨(up2_ne _ _ (by omega)).trans (h.2.2.2.2.2.1.1.trans (up2_ne _ _ (by omega)).symm), (up2_self _ _ _ _).trans (up2_self _ _ _ _).symm⟩ (fun j => up2_ne _ _ (by omega)) (fun j => up2_ne _ _ (by omega))
theorem CI.st2 {M : Mem} {A : AS} (h : CI M A) (x y : Int) : CI (mWI M 21 14 x) (up2 (up2 A 0 1 y) 0 1 x) := by
  rw [up2_up2]; exact h.st x
/-- only the rows change -/
theorem CI.rw {M : Mem} {A C I : AS} (h : CI M A) (hI : ∀ b j, b ≠ 23 → b ≠ 24 → b ≠ 25 → I b j = mI M b j) (hC : ∀ k j, k ≠ 1 → k ≠ 2 → k ≠ 3 → C k j = A k j) (hr : QR I C) : CI (mJ M I) C :=
  h.j (fun b j hb => hI b j (by omega) (by omega) (by omega)) hr (h.2.2.2.1.cg (hI _ _ (by omega) (by omega) (by omega)) (fun j => hI _ _ (by omega) (by omega) (by omega)) (hC _ _ (by omega) (by omega) (by omega)) (fun j => hC _ _ (by omega) (by omega) (by omega))) (h.2.2.2.2.1.cg (hI _ _ (by omega) (by omega) (by omega)) (fun j => hI _ _ (by omega) (by omega) (by omega)) (hC _ _ (by omega) (by omega) (by omega)) (fun j => hC _ _ (by omega) (by omega) (by omega))) (h.2.2.2.2.2.1.cg (hI _ _ (by omega) (by omega) (by omega)) (hI _ _ (by omega) (by omega) (by omega)) (hC _ _ (by omega) (by omega) (by omega)) (hC _ _ (by omega) (by omega) (by omega))) (fun j => hC _ _ (by omega) (by omega) (by omega)) (fun j => hC _ _ (by omega) (by omega) (by omega))
theorem QR.item {I A : AS} (h : QR I A) (i c : Int) : QR (up2 I 25 i c) (up2 A 3 i c) := by
  intro r r0 r1
  rw [up2_ne _ _ (by omega), up2_ne _ _ (by omega), up2_ne _ _ (by omega), up2_ne _ _ (by omega)]
  refine ⟨(h r r0 r1).1, fun q => ⟨((h r r0 r1).2 q).1, fun k k0 k1 => ?_⟩⟩
  unfold up2
  by_cases hi : 40 * r + k = i
  · rw [if_pos ⟨rfl, hi⟩, if_pos ⟨rfl, hi⟩]
  · rw [if_neg (fun z => hi z.2), if_neg (fun z => hi z.2)]
    exact ((h r r0 r1).2 q).2 k k0 k1
theorem QR.lose {I A : AS} (h : QR I A) (r : Int) : QR (up2 (up2 I 23 r (-1)) 24 r 0) (up2 A 1 r (-1)) := by
  intro q q0 q1
  by_cases hq : q = r
  · subst hq
    rw [up2_ne _ _ (by omega), up2_self, up2_self]
    exact ⟨rfl, fun z => absurd z (by decide)⟩
  · rw [up2_ne _ _ (by omega), up2_ne _ _ (by omega), up2_ne _ _ (by omega), up2_ne _ _ (by omega), up2_ne _ _ (by omega), up2_ne _ _ (by omega)]
    refine ⟨(h q q0 q1).1, fun z => ⟨((h q q0 q1).2 z).1, fun k k0 k1 => ?_⟩⟩
    rw [up2_ne _ _ (by omega), up2_ne _ _ (by omega), up2_ne _ _ (by omega)]
    exact ((h q q0 q1).2 z).2 k k0 k1
theorem QR.make {I A : AS} {B : Int} (h : QR I A) (hG : GA A B) {r n : Int} (l : Int) (n0 : 0 ≤ n ∧ n ≤ 40) : QR (fil (up2 (up2 I 23 r l) 24 r n) 25 (40 * r) (40 * r + n) 0) (fil (up2 (up2 A 1 r l) 2 r n) 3 (40 * r) (40 * r + 40) 0) := by
  intro q q0 q1
  rw [fil_ne _ (by omega), fil_ne _ (by omega), fil_ne _ (by omega), fil_ne _ (by omega)]
  by_cases hq : q = r
  · subst hq
    rw [up2_ne _ _ (by omega), up2_self, up2_ne _ _ (by omega), up2_self, up2_self, up2_self]
    refine ⟨rfl, fun z => ⟨rfl, fun k k0 k1 => ?_⟩⟩
    rw [fil_at _ (by omega), fil_at _ (by omega)]
  · have hs := hG.sz q0 q1
    rw [up2_ne _ _ (by omega), up2_ne _ _ (by omega), up2_ne _ _ (by omega), up2_ne _ _ (by omega), up2_ne _ _ (by omega), up2_ne _ _ (by omega), up2_ne _ _ (by omega), up2_ne _ _ (by omega)]
    refine ⟨(h q q0 q1).1, fun z => ⟨((h q q0 q1).2 z).1, fun k k0 k1 => ?_⟩⟩
    rw [fil_ne _ (by omega), fil_ne _ (by omega), up2_ne _ _ (by omega), up2_ne _ _ (by omega), up2_ne _ _ (by omega), up2_ne _ _ (by omega)]
    exact ((h q q0 q1).2 z).2 k k0 k1
theorem QR.move {I A : AS} {B : Int} (h : QR I A) (hG : GA A B) {r i t j n : Int} (r0 : 0 ≤ r ∧ r ≤ 7) (t0 : 0 ≤ t ∧ t ≤ 7) (hl : 0 ≤ A 1 r) (i0 : 0 ≤ i ∧ i + n ≤ A 2 r) (j0 : 0 ≤ j ∧ j + n ≤ A 2 t) : QR (mov I 25 25 (40 * r + i) (40 * t + j) n) (mov A 3 3 (40 * r + i) (40 * t + j) n) := by
  intro q q0 q1
  rw [mov_ne _ (by omega), mov_ne _ (by omega), mov_ne _ (by omega), mov_ne _ (by omega)]
  refine ⟨(h q q0 q1).1, fun z => ⟨((h q q0 q1).2 z).1, fun k k0 k1 => ?_⟩⟩
  unfold mov
  by_cases hq : 40 * t + j ≤ 40 * q + k ∧ 40 * q + k < 40 * t + j + n
  · rw [if_pos ⟨rfl, hq⟩, if_pos ⟨rfl, hq⟩]
    have e : 40 * q + k - (40 * t + j) + (40 * r + i) = 40 * r + (40 * q + k - (40 * t + j) + i) := by omega
    rw [e]
    exact ((h r r0.1 (by omega)).2 hl).2 _ (by omega) (by omega)
  · rw [if_neg (fun w => hq w.2), if_neg (fun w => hq w.2)]
    exact ((h q q0 q1).2 z).2 k k0 k1
set_option maxRecDepth 20000 in
set_option maxHeartbeats 3000000 in
theorem c_noCourt {G : Ctx} {M : Mem} (hX : XO M) {a : Nat} {cd : CD} (hRc : mR M 47 0 = a) (hC : CA M a) (hD : CC (mI M) a cd) : CT G m_X11_noCourt 1 0 0 [vR 21] M (rI M (tB (decide (cd 0 ≤ 0)))) := by
  refine CT.of k_X11_noCourt 0 (ls := [some (vR 21)]) rfl (Nat.le_of_ble_eq_true rfl) ?_
  refine E_aload_n dX11_noCourt_0 rfl ?_
  refine g_X11_48 rfl dX11_noCourt_1 hX.o hX.wash ?_
  refine g_X11_168 rfl dX11_noCourt_4 hX.w0.o hRc ?_
  refine i_X11_271 rfl dX11_noCourt_7 (by exact hC.o) (c_isTold (by exact hC.o)) (by omega) (Nat.le_of_ble_eq_true rfl) rfl rfl ?_
  rintro _ _ ⟨rfl, rfl⟩
  try dsimp only [pu]
  rw [hD.lnc]
  refine E_if_ne (tgt := 17) dX11_noCourt_10 (by decide) (fun h10 => ?_) (fun h10 => ?_)
  · simp only [tB0, ne_eq, Bool.not_eq_false, Bool.not_eq_true, decide_eq_true_eq, decide_eq_false_iff_not, Classical.not_not] at h10
    refine E_iconst dX11_noCourt_17 (by decide) ?_
    refine E_zret dX11_noCourt_18 rfl (by decide) ?_
    refine ⟨?_, rfl⟩
    congr 2; first | (rw [decide_eq_true (by omega)]; rfl) | (rw [decide_eq_false (by omega)]; rfl)
  · simp only [tB0, ne_eq, Bool.not_eq_false, Bool.not_eq_true, decide_eq_true_eq, decide_eq_false_iff_not, Classical.not_not] at h10
    refine E_iconst dX11_noCourt_13 (by decide) ?_
    refine E_goto (tgt := 18) dX11_noCourt_14 (by decide) ?_
    refine E_zret dX11_noCourt_18 rfl (by decide) ?_
    refine ⟨?_, rfl⟩
    congr 2; first | (rw [decide_eq_true (by omega)]; rfl) | (rw [decide_eq_false (by omega)]; rfl)
set_option maxRecDepth 20000 in
set_option maxHeartbeats 3000000 in
theorem c_isPiece {G : Ctx} {M : Mem} (hX : XO M) {a : Nat} {cd : CD} (hRc : mR M 47 0 = a) (hC : CA M a) (hD : CC (mI M) a cd) (hW : WFc cd) {p : Int} : CT G m_X11_isPiece 1 0 0 [vR 21, vI p] M (rI M (tB (decide (0 ≤ p ∧ p ≤ cd 2 - 1)))) := by
  refine CT.of k_X11_isPiece 0 (ls := [some (vR 21), some (vI p)]) rfl (Nat.le_of_ble_eq_true rfl) ?_
  have hpn := hW.pn
  refine E_iload_n dX11_isPiece_0 rfl ?_
  refine E_iconst dX11_isPiece_1 (by decide) ?_
  refine E_aload_n dX11_isPiece_2 rfl ?_
  refine g_X11_48 rfl dX11_isPiece_3 hX.o hX.wash ?_
  refine g_X11_168 rfl dX11_isPiece_6 hX.w0.o hRc ?_
  refine g_X11_172 rfl dX11_isPiece_9 hC.o hD.pnc ?_
  refine E_iconst dX11_isPiece_12 (by decide) ?_
  refine E_isub dX11_isPiece_13 (by omega) (by omega) ?_
  refine i_X11_68 rfl dX11_isPiece_14 c_isIn (by omega) (Nat.le_of_ble_eq_true rfl) rfl rfl ?_
  rintro _ _ ⟨rfl, rfl⟩
  try dsimp only [pu]
  refine E_zret dX11_isPiece_17 rfl (tB_nar _) ?_
  exact ⟨rfl, rfl⟩
set_option maxRecDepth 20000 in
set_option maxHeartbeats 3000000 in
theorem c_isLine {G : Ctx} {M : Mem} (hX : XO M) {a : Nat} {cd : CD} (hRc : mR M 47 0 = a) (hC : CA M a) (hD : CC (mI M) a cd) (hW : WFc cd) {p : Int} : CT G m_X11_isLine 1 0 0 [vR 21, vI p] M (rI M (tB (decide (0 ≤ p ∧ p ≤ cd 0 - 1)))) := by
  refine CT.of k_X11_isLine 0 (ls := [some (vR 21), some (vI p)]) rfl (Nat.le_of_ble_eq_true rfl) ?_
  have hpn := hW.ln
  refine E_iload_n dX11_isLine_0 rfl ?_
  refine E_iconst dX11_isLine_1 (by decide) ?_
  refine E_aload_n dX11_isLine_2 rfl ?_
  refine g_X11_48 rfl dX11_isLine_3 hX.o hX.wash ?_
  refine g_X11_168 rfl dX11_isLine_6 hX.w0.o hRc ?_
  refine g_X11_131 rfl dX11_isLine_9 hC.o hD.lnc ?_
  refine E_iconst dX11_isLine_12 (by decide) ?_
  refine E_isub dX11_isLine_13 (by omega) (by omega) ?_
  refine i_X11_68 rfl dX11_isLine_14 c_isIn (by omega) (Nat.le_of_ble_eq_true rfl) rfl rfl ?_
  rintro _ _ ⟨rfl, rfl⟩
  try dsimp only [pu]
  refine E_zret dX11_isLine_17 rfl (tB_nar _) ?_
  exact ⟨rfl, rfl⟩
