/-! ===== 33: what both sides hold: the state A, told as the reference's rows ===== -/
abbrev AS : Type := Nat → Int → Int
/-- the reference's rows, and its fields, that count -/
def SA (k : Nat) (j : Int) : Prop := (k = 4 ∧ 0 ≤ j ∧ j < 144) ∨ k = 1 ∨ k = 2 ∨ k = 3 ∨ k = 6 ∨ k = 12 ∨ k = 13 ∨ k = 14
def SJ (j : Int) : Prop := j = 1 ∨ j = 7 ∨ j = 9 ∨ j = 10 ∨ j = 27
def MA (I : AS) (m : Nat) (A : AS) : Prop := (∀ k j, SA k j → I (m + k) j = A k j) ∧ ∀ j, SJ j → I m j = A 0 j
theorem MA.up {I A : AS} {m : Nat} (h : MA I m A) {k : Nat} (hk : 1 ≤ k) (j x : Int) : MA (up2 I (m + k) j x) m (up2 A k j x) := by
  refine ⟨fun c i hs => ?_, fun i hs => ?_⟩
  · unfold up2
    by_cases q : c = k ∧ i = j
    · rw [if_pos q, if_pos ⟨by omega, q.2⟩]
    · rw [if_neg q, if_neg (by omega)]; exact h.1 c i hs
  · rw [up2_ne _ _ (by omega), up2_ne _ _ (by omega)]; exact h.2 i hs
theorem MA.up0 {I A : AS} {m : Nat} (h : MA I m A) (j x : Int) : MA (up2 I m j x) m (up2 A 0 j x) := by
  refine ⟨fun c i hs => ?_, fun i hs => ?_⟩
  · have hc : 1 ≤ c := by unfold SA at hs; omega
    rw [up2_ne _ _ (by omega), up2_ne _ _ (by omega)]; exact h.1 c i hs
  · unfold up2
    by_cases q : i = j
    · rw [if_pos ⟨rfl, q⟩, if_pos ⟨rfl, q⟩]
    · rw [if_neg (by omega), if_neg (by omega)]; exact h.2 i hs
theorem MA.no {I A : AS} {m : Nat} (h : MA I m A) {k : Nat} (hk : 1 ≤ k) (hn : ∀ j, ¬ SA k j) (j x : Int) : MA (up2 I (m + k) j x) m A := by
  refine ⟨fun c i hs => ?_, fun i hs => ?_⟩
  · rw [up2_ne _ _ (fun q => hn i (by rw [show k = c by omega]; exact hs))]; exact h.1 c i hs
  · rw [up2_ne _ _ (by omega)]; exact h.2 i hs
theorem MA.no0 {I A : AS} {m : Nat} (h : MA I m A) {j : Int} (hn : ¬ SJ j) (x : Int) : MA (up2 I m j x) m A := by
  refine ⟨fun c i hs => ?_, fun i hs => ?_⟩
  · have hc : 1 ≤ c := by unfold SA at hs; omega
    rw [up2_ne _ _ (by omega)]; exact h.1 c i hs
  · rw [up2_ne _ _ (fun q => hn (by rw [← q.2]; exact hs))]; exact h.2 i hs
theorem MA.of {I J A : AS} {m : Nat} (h : MA I m A) (e : ∀ k j, SA k j → J (m + k) j = I (m + k) j) (e0 : ∀ j, SJ j → J m j = I m j) : MA J m A := ⟨fun k j hs => (e k j hs).trans (h.1 k j hs), fun j hs => (e0 j hs).trans (h.2 j hs)⟩
theorem MA.mc {I A : AS} {m : Nat} (h : MA I m A) : MC I m (A 4) := fun k _ _ => h.1 4 k (by unfold SA; omega)
/-- a stretch of a row becomes x -/
def fil (I : AS) (b : Nat) (lo hi x : Int) : AS := fun c j => if c = b ∧ lo ≤ j ∧ j < hi then x else I c j
theorem fil_nil (I : AS) (b : Nat) (lo x : Int) : fil I b lo lo x = I := by
  funext c j; unfold fil; rw [if_neg (by omega)]
theorem fil_ne (I : AS) {b c : Nat} {lo hi x j : Int} (h : ¬ (c = b ∧ lo ≤ j ∧ j < hi)) : fil I b lo hi x c j = I c j := by unfold fil; rw [if_neg h]
theorem fil_at (I : AS) {b : Nat} {lo hi x j : Int} (h : lo ≤ j ∧ j < hi) : fil I b lo hi x b j = x := by unfold fil; rw [if_pos ⟨rfl, h⟩]
theorem fil_step (I : AS) (b : Nat) (lo hi x : Int) (h : lo ≤ hi) : up2 (fil I b lo hi x) b hi x = fil I b lo (hi + 1) x := by
  funext c j; unfold up2 fil
  by_cases q : c = b ∧ j = hi
  · rw [if_pos q, if_pos ⟨q.1, by omega, by omega⟩]
  · rw [if_neg q]
    by_cases q2 : c = b ∧ lo ≤ j ∧ j < hi
    · rw [if_pos q2, if_pos ⟨q2.1, q2.2.1, by omega⟩]
    · rw [if_neg q2, if_neg (by omega)]
theorem MA.fl {I A : AS} {m : Nat} (h : MA I m A) {k : Nat} (hk : 1 ≤ k) (lo hi x : Int) : MA (fil I (m + k) lo hi x) m (fil A k lo hi x) := by
  refine ⟨fun c i hs => ?_, fun i hs => ?_⟩
  · unfold fil
    by_cases q : c = k ∧ lo ≤ i ∧ i < hi
    · rw [if_pos q, if_pos ⟨by omega, q.2⟩]
    · rw [if_neg q, if_neg (by omega)]; exact h.1 c i hs
  · rw [fil_ne _ (by omega), fil_ne _ (by omega)]; exact h.2 i hs
/-- a stretch of a row (b) becomes a stretch of another (e), as it was -/
def mov (I : AS) (b e : Nat) (src dst n : Int) : AS := fun c j => if c = b ∧ dst ≤ j ∧ j < dst + n then I e (j - dst + src) else I c j
theorem mov_ne (I : AS) {b e c : Nat} {src dst n j : Int} (h : ¬ (c = b ∧ dst ≤ j ∧ j < dst + n)) : mov I b e src dst n c j = I c j := by unfold mov; rw [if_neg h]
theorem MA.mv {I A : AS} {m : Nat} (h : MA I m A) {k l : Nat} (hk : 1 ≤ k) (src dst n : Int) (hl : ∀ i, SA k i → dst ≤ i → i < dst + n → SA l (i - dst + src)) : MA (mov I (m + k) (m + l) src dst n) m (mov A k l src dst n) := by
  refine ⟨fun c i hs => ?_, fun i hs => ?_⟩
  · unfold mov
    by_cases q : c = k ∧ dst ≤ i ∧ i < dst + n
    · rw [if_pos q, if_pos ⟨by omega, q.2⟩]; exact h.1 l _ (hl i (by rw [← q.1]; exact hs) q.2.1 q.2.2)
    · rw [if_neg q, if_neg (by omega)]; exact h.1 c i hs
  · rw [mov_ne _ (by omega), mov_ne _ (by omega)]; exact h.2 i hs
theorem mov_nil (I : AS) (b e : Nat) (s d : Int) : mov I b e s d 0 = I := by
  funext c j; unfold mov; rw [if_neg (by omega)]
theorem mov_up (I : AS) (b e : Nat) (s d r : Int) (h : 0 ≤ r) : up2 (mov I b e s d r) b (d + r) (I e (s + r)) = mov I b e s d (r + 1) := by
  funext c j; unfold up2 mov
  by_cases q : c = b ∧ j = d + r
  · rw [if_pos q, if_pos ⟨q.1, by omega, by omega⟩, q.2, show d + r - d + s = s + r by omega]
  · rw [if_neg q]
    by_cases q2 : c = b ∧ d ≤ j ∧ j < d + r
    · rw [if_pos q2, if_pos ⟨q2.1, q2.2.1, by omega⟩]
    · rw [if_neg q2, if_neg (by omega)]
theorem mov_dn (I : AS) (b e : Nat) (s d r : Int) (h : 0 ≤ r) : up2 (mov I b e s d r) b (d - 1) (I e (s - 1)) = mov I b e (s - 1) (d - 1) (r + 1) := by
  funext c j; unfold up2 mov
  by_cases q : c = b ∧ j = d - 1
  · rw [if_pos q, if_pos ⟨q.1, by omega, by omega⟩, q.2, show d - 1 - (d - 1) + (s - 1) = s - 1 by omega]
  · rw [if_neg q]
    by_cases q2 : c = b ∧ d ≤ j ∧ j < d + r
    · rw [if_pos q2, if_pos ⟨q2.1, by omega, by omega⟩, show j - (d - 1) + (s - 1) = j - d + s by omega]
    · rw [if_neg q2, if_neg (by omega)]
/-- only the reference's ints have changed -/
def RF (M : Mem) (m : Nat) (M' : Mem) : Prop := M' = mJ M (mI M') ∧ ∀ b j, (b < m ∨ m + 14 < b) → mI M' b j = mI M b j
theorem RF.rfl' (M : Mem) (m : Nat) : RF M m M := ⟨rfl, fun _ _ _ => rfl⟩
theorem RF.tr {M M1 M2 : Mem} {m : Nat} (h : RF M m M1) (g : RF M1 m M2) : RF M m M2 := by
  refine ⟨?_, fun b j hb => (g.2 b j hb).trans (h.2 b j hb)⟩
  rw [g.1, h.1]; rfl
theorem RF.w {M M1 : Mem} {m b : Nat} (h : RF M m M1) (hb : m ≤ b ∧ b ≤ m + 14) (j x : Int) : RF M m (mWI M1 b j x) := by
  refine h.tr ⟨rfl, fun c i hc => mI_ne (by omega)⟩
theorem RF.j {M M1 : Mem} {m : Nat} {J : AS} (h : RF M m M1) (hj : ∀ b j, (b < m ∨ m + 14 < b) → J b j = mI M1 b j) : RF M m (mJ M1 J) := h.tr ⟨rfl, hj⟩
theorem thr {M : Mem} {m : Nat} {A : AS} (hO : MO M m) (hV : MA (mI M) m A) : ∃ M1, mWI M m 0 0 = M1 ∧ MO M1 m ∧ MA (mI M1) m A ∧ RF M m M1 :=
  ⟨_, rfl, hO.w, hV.no0 (by unfold SJ; omega) 0, (RF.rfl' M m).w (by omega) 0 0⟩
theorem stz {M M1 : Mem} {m : Nat} {A : AS} (hO : MO M1 m) (hV : MA (mI M1) m A) (hF : RF M m M1) : ∃ M2, mWI M1 m 1 0 = M2 ∧ MO M2 m ∧ MA (mI M2) m (up2 A 0 1 0) ∧ RF M m M2 ∧ ∀ k j, SA k j → mI M2 (m + k) j = A k j :=
  ⟨_, rfl, hO.w, hV.up0 1 0, hF.w (by omega) 1 0, fun k j hs => (mI_ne (by unfold SA at hs; omega)).trans (hV.1 k j hs)⟩
theorem gen {M M1 : Mem} {m : Nat} {A : AS} (hO : MO M1 m) (hV : MA (mI M1) m A) (hF : RF M m M1) : ∃ M2, M1 = M2 ∧ MO M2 m ∧ MA (mI M2) m A ∧ RF M m M2 := ⟨M1, rfl, hO, hV, hF⟩
/-- what an operation of the reference does -/
def rM (M : Mem) (m : Nat) (x : Int) (A : AS) : Option MV → Mem → Prop := fun r M' => r = some (vI x) ∧ RF M m M' ∧ MA (mI M') m A
/-- a court and a time of it -/
def WFs (cd : CD) (B : Int) : Prop := WFc cd ∧ HV cd (cHu cd) ∧ (∀ p, 0 ≤ p → p < cd 2 → 0 ≤ cd (86 + 6 * p) ∧ cd (86 + 6 * p) ≤ 99) ∧ (∀ p, 0 ≤ p → p < cd 2 → cd (89 + 6 * p) = 0 ∨ cd (89 + 6 * p) = 1) ∧ (0 ≤ cd 3 ∧ cd 3 ≤ B)
theorem WFs.c {cd : CD} {B : Int} (h : WFs cd B) : WFc cd := h.1
theorem WFs.hv {cd : CD} {B : Int} (h : WFs cd B) : HV cd (cHu cd) := h.2.1
theorem WFs.we {cd : CD} {B : Int} (h : WFs cd B) : ∀ p, 0 ≤ p → p < cd 2 → 0 ≤ cWe cd p ∧ cWe cd p ≤ 99 := h.2.2.1
theorem WFs.sn {cd : CD} {B : Int} (h : WFs cd B) : ∀ p, 0 ≤ p → p < cd 2 → cd (89 + 6 * p) = 0 ∨ cd (89 + 6 * p) = 1 := h.2.2.2.1
theorem WFs.g {cd : CD} {B : Int} (h : WFs cd B) : 0 ≤ cd 3 ∧ cd 3 ≤ B := h.2.2.2.2
theorem WFs.le {cd : CD} {B C : Int} (h : WFs cd B) (hb : B ≤ C) : WFs cd C := ⟨h.1, h.2.1, h.2.2.1, h.2.2.2.1, h.g.1, by have := h.g.2; omega⟩
def img (A : AS) (k : Int) : CD := fun j => A 13 (144 * k + j)
def GA (A : AS) (B : Int) : Prop := (∀ r, 0 ≤ r → r < 8 → -1 ≤ A 1 r ∧ A 1 r ≤ 2) ∧ (∀ r, 0 ≤ r → r < 8 → 0 ≤ A 2 r ∧ A 2 r ≤ 40) ∧ WFs (A 4) B ∧ ((A 0 7 = 0 ∧ A 4 0 = 0) ∨ (A 0 7 = 1 ∧ 1 ≤ A 4 0)) ∧ (0 ≤ A 0 9 ∧ A 0 9 ≤ 500) ∧ (∀ j, 0 ≤ j → j < A 0 9 → 0 ≤ A 6 j ∧ A 6 j ≤ 255) ∧ (0 ≤ A 0 27 ∧ A 0 27 ≤ 16) ∧ (∀ k, k = 0 ∨ k = 1 → WFs (img A k) B ∧ ((A 12 k = 0 ∧ img A k 0 = 0) ∨ (A 12 k = 1 ∧ 1 ≤ img A k 0 ∧ A 0 7 = 1)))
theorem GA.ln {A : AS} {B : Int} (h : GA A B) {r : Int} (h0 : 0 ≤ r) (h1 : r < 8) : -1 ≤ A 1 r ∧ A 1 r ≤ 2 := h.1 r h0 h1
theorem GA.sz {A : AS} {B : Int} (h : GA A B) {r : Int} (h0 : 0 ≤ r) (h1 : r < 8) : 0 ≤ A 2 r ∧ A 2 r ≤ 40 := h.2.1 r h0 h1
theorem GA.w {A : AS} {B : Int} (h : GA A B) : WFs (A 4) B := h.2.2.1
theorem GA.th {A : AS} {B : Int} (h : GA A B) : (A 0 7 = 0 ∧ A 4 0 = 0) ∨ (A 0 7 = 1 ∧ 1 ≤ A 4 0) := h.2.2.2.1
theorem GA.tn {A : AS} {B : Int} (h : GA A B) : 0 ≤ A 0 9 ∧ A 0 9 ≤ 500 := h.2.2.2.2.1
theorem GA.tp {A : AS} {B : Int} (h : GA A B) {j : Int} (h0 : 0 ≤ j) (h1 : j < A 0 9) : 0 ≤ A 6 j ∧ A 6 j ≤ 255 := h.2.2.2.2.2.1 j h0 h1
theorem GA.tr {A : AS} {B : Int} (h : GA A B) : 0 ≤ A 0 27 ∧ A 0 27 ≤ 16 := h.2.2.2.2.2.2.1
theorem GA.im {A : AS} {B : Int} (h : GA A B) {k : Int} (hk : k = 0 ∨ k = 1) : WFs (img A k) B ∧ ((A 12 k = 0 ∧ img A k 0 = 0) ∨ (A 12 k = 1 ∧ 1 ≤ img A k 0 ∧ A 0 7 = 1)) := h.2.2.2.2.2.2.2 k hk
/-- what a row keeps of a number, by its lane -/
def cut (l v : Int) : Int := if l = 0 then bI2b v else if l = 1 then bI2s v else v
/-! the operations: answers s_, states t_ -/
def s_row (r l n : Int) : Int := if (0 ≤ r ∧ r ≤ 7) ∧ (0 ≤ l ∧ l ≤ 2) ∧ n ≤ 40 then (if n < 0 then -1000014 else n) else -1000001
def t_row (A : AS) (r l n : Int) : AS := if (0 ≤ r ∧ r ≤ 7) ∧ (0 ≤ l ∧ l ≤ 2) ∧ n ≤ 40 then (if n < 0 then up2 (up2 A 0 1 0) 0 1 4 else fil (up2 (up2 (up2 A 0 1 0) 1 r l) 2 r n) 3 (40 * r) (40 * r + 40) 0) else A
def s_set (A : AS) (r i v : Int) : Int := if 0 ≤ r ∧ r ≤ 7 then (if A 1 r < 0 then -1000011 else if 0 ≤ i ∧ i ≤ A 2 r - 1 then cut (A 1 r) v else -1000012) else -1000001
def t_sett (A : AS) (r i v : Int) : AS := if 0 ≤ r ∧ r ≤ 7 then (if A 1 r < 0 then up2 (up2 A 0 1 0) 0 1 1 else if 0 ≤ i ∧ i ≤ A 2 r - 1 then up2 (up2 A 0 1 0) 3 (40 * r + i) (cut (A 1 r) v) else up2 (up2 A 0 1 0) 0 1 2) else A
def s_drop (A : AS) (r : Int) : Int := if 0 ≤ r ∧ r ≤ 7 then (if A 1 r < 0 then -1000011 else A 2 r) else -1000001
def t_drop (A : AS) (r : Int) : AS := if 0 ≤ r ∧ r ≤ 7 then (if A 1 r < 0 then up2 (up2 A 0 1 0) 0 1 1 else up2 (up2 A 0 1 0) 1 r (-1)) else A
def s_copy (A : AS) (a i b j n : Int) : Int := if (0 ≤ a ∧ a ≤ 7) ∧ (0 ≤ b ∧ b ≤ 7) then (if A 1 a < 0 ∨ A 1 b < 0 then -1000011 else if A 1 a ≠ A 1 b then -1000015 else if 0 ≤ i ∧ 0 ≤ j ∧ 0 ≤ n ∧ i + n ≤ A 2 a ∧ j + n ≤ A 2 b then n else -1000012) else -1000001
def t_copy (A : AS) (a i b j n : Int) : AS := if (0 ≤ a ∧ a ≤ 7) ∧ (0 ≤ b ∧ b ≤ 7) then (if A 1 a < 0 ∨ A 1 b < 0 then up2 (up2 A 0 1 0) 0 1 1 else if A 1 a ≠ A 1 b then up2 (up2 A 0 1 0) 0 1 5 else if 0 ≤ i ∧ 0 ≤ j ∧ 0 ≤ n ∧ i + n ≤ A 2 a ∧ j + n ≤ A 2 b then mov (up2 A 0 1 0) 3 3 (40 * a + i) (40 * b + j) n else up2 (up2 A 0 1 0) 0 1 2) else A
def byt (w : Int) (k : Int) : Int := lL2i (lAnd (lShr w (8 * k)) 255)
def fd (A : AS) (w n : Int) : Nat → AS
  | 0 => A
  | r + 1 => up2 (up2 (fd A w n r) 6 (A 0 9 + r) (byt w (n - 1 - r))) 0 9 (A 0 9 + r + 1)
def s_feed (A : AS) (n : Int) : Int := if 1 ≤ n ∧ n ≤ 8 then (if 500 < A 0 9 + n then -1000003 else A 0 9 + n) else -1000001
def t_feed (A : AS) (w n : Int) : AS := if 1 ≤ n ∧ n ≤ 8 then (if 500 < A 0 9 + n then A else fd A w n n.toNat) else A
def s_take (A : AS) (p : Int) : Int := if 0 ≤ p ∧ p ≤ A 4 2 - 1 then (if cHu (A 4) p = -1000000 then -1000002 else cHu (A 4) p) else -1000001
def t_take (A : AS) (p : Int) : AS := if 0 ≤ p ∧ p ≤ A 4 2 - 1 then (if cHu (A 4) p = -1000000 then A else up2 A 4 (88 + 6 * p) (-1000000)) else A
def s_piece (A : AS) (p w : Int) : Int := if (0 ≤ p ∧ p ≤ A 4 2 - 1) ∧ (0 ≤ w ∧ w ≤ 4) then (if w = 0 then cWe (A 4) p else if w = 1 then cHu (A 4) p else if w = 2 then cSn (A 4) p else if w = 3 then A 4 (85 + 6 * p) else A 4 (87 + 6 * p)) else -1000001
def s_line (A : AS) (l w : Int) (n rn : Nat) : Int := if (0 ≤ l ∧ l ≤ A 4 0 - 1) ∧ (0 ≤ w ∧ w ≤ 5) then (if w < 3 then A 4 (28 + 3 * l + w) else if w = 3 then fOn (cHu (A 4)) l n else if w = 4 then fHold (A 4) l (Int.tmod (A 4 3) 24) rn else bel (A 4) l) else -1000001
def s_sun (A : AS) (l h : Int) : Int := if (0 ≤ l ∧ l ≤ A 4 0 - 1) ∧ (0 ≤ h ∧ h ≤ 9) then fSunN (A 4) l 0 h 24 else -1000001
def s_kind (A : AS) (p : Int) : Int := if 0 ≤ p ∧ p ≤ A 4 2 - 1 then A 4 (84 + 6 * p) else -1000001
def s_trace (A : AS) (i : Int) : Int := if 0 ≤ i ∧ i ≤ A 0 27 - 1 then A 14 i else -1000000
def s_image (A : AS) (k : Int) : Int := if 0 ≤ k ∧ k ≤ 1 then (if A 0 7 = 0 then -1000002 else 1) else -1000001
def t_image (A : AS) (k : Int) : AS := if 0 ≤ k ∧ k ≤ 1 then (if A 0 7 = 0 then A else up2 (mov A 13 4 0 (144 * k) 144) 12 k 1) else A
def s_restore (A : AS) (k : Int) : Int := if 0 ≤ k ∧ k ≤ 1 then (if A 12 k = 0 then -1000002 else 1) else -1000001
def t_restore (A : AS) (k : Int) : AS := if 0 ≤ k ∧ k ≤ 1 then (if A 12 k = 0 then A else mov A 4 13 (144 * k) 0 144) else A
/-- quarters one by one: how wet, how stained -/
def itW (cd : CD) (hu : Int → Int) (n : Nat) (we : Int → Int) (g : Int) : Nat → Int → Int
  | 0 => we
  | k + 1 => qW2 cd hu (qW1 cd hu (itW cd hu n we g k) (Int.tmod (g + k) 24)) n
def itS (cd : CD) (hu : Int → Int) (n : Nat) (we sn : Int → Int) (g : Int) : Nat → Int → Int
  | 0 => sn
  | k + 1 => qS2 cd hu (qW1 cd hu (itW cd hu n we g k) (Int.tmod (g + k) 24)) (itS cd hu n we sn g k) n
theorem itW_b {cd : CD} {hu : Int → Int} {n : Nat} {we : Int → Int} {g : Int} (h : ∀ p, 0 ≤ p → p < cd 2 → 0 ≤ we p ∧ we p ≤ 99) : ∀ k p, 0 ≤ p → p < cd 2 → 0 ≤ itW cd hu n we g k p ∧ itW cd hu n we g k p ≤ 99
  | 0, p, p0, p1 => h p p0 p1
  | k + 1, p, p0, p1 => qW2_b (qW1_b (itW_b h k p p0 p1))
theorem itS_b {cd : CD} {hu : Int → Int} {n : Nat} {we sn : Int → Int} {g : Int} (h : ∀ p, 0 ≤ p → p < cd 2 → sn p = 0 ∨ sn p = 1) : ∀ k p, 0 ≤ p → p < cd 2 → itS cd hu n we sn g k p = 0 ∨ itS cd hu n we sn g k p = 1
  | 0, p, p0, p1 => h p p0 p1
  | k + 1, p, p0, p1 => qS2_b (itS_b h k p p0 p1)
/-- the court's row becomes f -/
def pg4 (A : AS) (f : CD) : AS := fun k j => if k = 4 then f j else A k j
def upH (hu : Int → Int) (p l : Int) : Int → Int := fun q => if q = p then l else hu q
def s_hang (A : AS) (p l : Int) (n rn : Nat) : Int := if (0 ≤ p ∧ p ≤ A 4 2 - 1) ∧ (0 ≤ l ∧ l ≤ A 4 0 - 1) then (if fRef (A 4) (cHu (A 4)) (A 4 3) p l n rn = 0 then fLeft (A 4) (cHu (A 4)) p l n else fRef (A 4) (cHu (A 4)) (A 4 3) p l n rn) else -1000001
def t_hang (A : AS) (p l : Int) (n rn : Nat) : AS := if (0 ≤ p ∧ p ≤ A 4 2 - 1) ∧ (0 ≤ l ∧ l ≤ A 4 0 - 1) then pg4 A (cKeep (A 4) (if fRef (A 4) (cHu (A 4)) (A 4 3) p l n rn = 0 then upH (cHu (A 4)) p l else cHu (A 4)) (cWe (A 4)) (cSn (A 4)) n) else A
def s_quarters (A : AS) (c : Int) : Int := if A 0 7 = 0 then -1000002 else if 1 ≤ c ∧ c ≤ 96 then A 4 3 + c else -1000001
def t_quarters (A : AS) (c : Int) (n : Nat) : AS := if A 0 7 = 0 then A else if 1 ≤ c ∧ c ≤ 96 then pg4 A (upC (cKeep (A 4) (cHu (A 4)) (itW (A 4) (cHu (A 4)) n (cWe (A 4)) (A 4 3) c.toNat) (itS (A 4) (cHu (A 4)) n (cWe (A 4)) (cSn (A 4)) (A 4 3) c.toNat) n) 3 (A 4 3 + c)) else A
/-- the first time from t on, of k times, at which b holds; none -/
def firstT (b : Nat → Bool) : Nat → Nat → Int
  | 0, _ => -1000000
  | k + 1, t => if b t = true then (t : Int) else firstT b k (t + 1)
def s_dry (A : AS) (n : Nat) : Int := if A 0 7 = 0 then -1000002 else firstT (fun t => fDrB (fun p => decide (cHu (A 4) p ≠ -1000000)) (itW (A 4) (cHu (A 4)) n (cWe (A 4)) (A 4 3) t) n) 97 0
/-- how many of the first k hold -/
def cnt (b : Nat → Bool) : Nat → Int
  | 0 => 0
  | k + 1 => cnt b k + tB (b k)
theorem cnt_b (b : Nat → Bool) : ∀ n : Nat, 0 ≤ cnt b n ∧ cnt b n ≤ n
  | 0 => by simp [cnt]
  | n + 1 => by have h := cnt_b b n; have t := tB_ran (b n); simp only [cnt]; omega
def sSt (sn : Int → Int) : Nat → Int
  | 0 => 0
  | k + 1 => sSt sn k + sn k
def s_count (A : AS) (w : Int) (n : Nat) : Int := if 0 ≤ w ∧ w ≤ 7 then (if w = 0 then cnt (fun r => decide (0 ≤ A 1 r)) 8 else if w ≤ 3 then A 4 (w - 1) else if w = 4 then cnt (fun p => decide (cHu (A 4) p ≠ -1000000)) n else if w = 5 then sSt (cSn (A 4)) n else if w = 6 then A 4 3 else A 0 9) else -1000001
def fWh (cd : CD) (fl co : Int) : Nat → Bool := fun p => decide (cHu cd p ≠ -1000000 ∧ fl < cd (28 + 3 * cHu cd p) ∧ cd (29 + 3 * cHu cd p) = co ∧ cd (87 + 6 * p) ≤ 3)
/-- bits of those that hold -/
def fBits (b : Nat → Bool) : Nat → Int
  | 0 => 0
  | k + 1 => if b k = true then bOr (fBits b k) (bShl 1 k) else fBits b k
theorem fBits_ran (b : Nat → Bool) : ∀ k : Nat, -2147483648 ≤ fBits b k ∧ fBits b k ≤ 2147483647
  | 0 => by simp [fBits]
  | k + 1 => by
    simp only [fBits]; split
    · exact bOr_ran _ _
    · exact fBits_ran b k
def s_whose (A : AS) (fl co : Int) (n : Nat) : Int := if A 0 7 = 0 then -1000002 else if (0 ≤ fl ∧ fl ≤ 9) ∧ (0 ≤ co ∧ co ≤ 3) then fBits (fWh (A 4) fl co) n else -1000001
