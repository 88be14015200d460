/-! ===== 11: Wash: what hangs ===== -/
def HV (cd : CD) (hu : Int → Int) : Prop := ∀ p, 0 ≤ p → p < cd 2 → hu p = -1000000 ∨ (0 ≤ hu p ∧ hu p < cd 0)
def HC (I : Nat → Int → Int) (w : Nat) (cd : CD) (hu : Int → Int) : Prop := ∀ p, 0 ≤ p → p < cd 2 → I (w + 2) p = nm1 (hu p)
def EC (I : Nat → Int → Int) (w : Nat) (cd : CD) (we : Int → Int) : Prop := ∀ p, 0 ≤ p → p < cd 2 → I (w + 1) p = we p
def SC (I : Nat → Int → Int) (w : Nat) (cd : CD) (sn : Int → Int) : Prop := ∀ p, 0 ≤ p → p < cd 2 → I (w + 3) p = sn p
/-- bits: those that hang on a line; all that hang; how many are stained -/
def fOn (hu : Int → Int) (l : Int) : Nat → Int
  | 0 => 0
  | k + 1 => if hu k = l then bOr (fOn hu l k) (bShl 1 k) else fOn hu l k
def fHu (hu : Int → Int) : Nat → Int
  | 0 => 0
  | k + 1 => if hu k ≠ -1000000 then bOr (fHu hu k) (bShl 1 k) else fHu hu k
def fSt (sn : Int → Int) : Nat → Int
  | 0 => 0
  | k + 1 => fSt sn k + (if sn k = 0 then 0 else 1)
theorem fSt_b (sn : Int → Int) : ∀ n : Nat, 0 ≤ fSt sn n ∧ fSt sn n ≤ n
  | 0 => by simp [fSt]
  | n + 1 => by have h := fSt_b sn n; simp only [fSt]; omega
/-- yards on a line; something there that bars -/
def fY (cd : CD) (hu : Int → Int) (l : Int) : Nat → Int
  | 0 => 0
  | k + 1 => fY cd hu l k + (if hu k = l then cd (87 + 6 * k) else 0)
def fBar (cd : CD) (hu : Int → Int) (l : Int) (sh : Bool) : Nat → Bool
  | 0 => false
  | k + 1 => fBar cd hu l sh k || decide (hu k = l ∧ (cd (84 + 6 * k) = 4 ∨ sh = true))
def fRoom (cd : CD) (hu : Int → Int) (p l : Int) (n : Nat) : Bool := !fBar cd hu l (decide (cd (84 + 6 * p) = 4)) n && decide (cd (87 + 6 * p) + fY cd hu l n ≤ cd (30 + 3 * l))
theorem fBar_mono {cd : CD} {hu : Int → Int} {l : Int} {sh : Bool} {k n : Nat} (h : fBar cd hu l sh k = true) (hk : k ≤ n) : fBar cd hu l sh n = true := by
  induction hk with
  | refl => exact h
  | step _ ih => simp [fBar, ih]
theorem fY_b {cd : CD} (hW : WFc cd) (hu : Int → Int) (l : Int) : ∀ n : Nat, (n : Int) ≤ cd 2 → 0 ≤ fY cd hu l n ∧ fY cd hu l n ≤ 9 * n
  | 0, _ => by simp [fY]
  | n + 1, hn => by
    have h := fY_b hW hu l n (by omega)
    have y := hW.ya (p := n) (by omega) (by omega)
    simp only [fY]; split <;> omega
/-- somebody else's right -/
def fOth (cd : CD) (g p l : Int) (rn : Nat) : Bool := decide (fHold cd l (Int.tmod g 24) rn ≠ 0 ∧ bAnd (bShr (fHold cd l (Int.tmod g 24) rn) (cd (85 + 6 * p))) 1 = 0)
/-- why a piece cannot be hung: STATE, FULL; 0 if it can -/
def fRef (cd : CD) (hu : Int → Int) (g p l : Int) (n rn : Nat) : Int := if hu p ≠ -1000000 ∨ fOth cd g p l rn = true then -1000002 else if fRoom cd hu p l n = true then 0 else -1000003
theorem bXor_nn {x y : Int} (hx : 0 ≤ x) (hy : 0 ≤ y) (hx2 : x ≤ 2147483647) (hy2 : y ≤ 2147483647) : 0 ≤ bXor x y := by
  obtain ⟨n, rfl⟩ := Int.eq_ofNat_of_zero_le hx
  obtain ⟨m, rfl⟩ := Int.eq_ofNat_of_zero_le hy
  unfold bXor
  have e1 : Int32.ofInt (n : Int) = nI n := rfl
  have e2 : Int32.ofInt (m : Int) = nI m := rfl
  rw [e1, e2]
  have h : nI n ^^^ nI m = nI (n ^^^ m) := by
    apply Int32.toBitVec_inj.mp
    simp [nI, Int32.toBitVec_xor, BitVec.ofNat_xor]
  have hb : n ^^^ m < 2 ^ 31 := Nat.xor_lt_two_pow (by omega) (by omega)
  rw [h, nI_toInt hb]
  omega
set_option maxRecDepth 20000 in
set_option maxHeartbeats 8000000 in
theorem c_isHung {G : Ctx} {M : Mem} {w : Nat} {cd : CD} (hA : WA M w) (hW : WFc cd) {hu : Int → Int} (hV : HV cd hu) (hH : HC (mI M) w cd hu) {p : Int} (p0 : 0 ≤ p) (p1 : p < cd 2) : CT G m_X9_isHung 0 0 0 [vR w, vI p] M (rI M (tB (decide (hu p ≠ -1000000)))) := by
  refine CT.of k_X9_isHung 0 (ls := [some (vR w), some (vI p)]) rfl (Nat.le_of_ble_eq_true rfl) ?_
  have hpn := hW.pn
  have hv := hV p p0 p1
  refine E_aload_n dX9_isHung_0 rfl ?_
  refine g_X9_17 rfl dX9_isHung_1 hA.o hA.where ?_
  refine E_iload_n dX9_isHung_4 rfl ?_
  refine E_iald dX9_isHung_5 hA.s_where (by omega) (by omega) (hH _ (by omega) (by omega)) ?_
  refine E_iconst dX9_isHung_6 (by decide) ?_
  refine E_icmp_eq (tgt := 14) dX9_isHung_7 (by decide) (fun h7 => ?_) (fun h7 => ?_)
  · refine E_iconst dX9_isHung_14 (by decide) ?_
    refine E_zret dX9_isHung_15 rfl (by decide) ?_
    refine ⟨?_, rfl⟩
    unfold nm1 at h7
    congr 2; first | (rw [decide_eq_true (by omega)]; rfl) | (rw [decide_eq_false (by omega)]; rfl)
  · refine E_iconst dX9_isHung_10 (by decide) ?_
    refine E_goto (tgt := 15) dX9_isHung_11 (by decide) ?_
    refine E_zret dX9_isHung_15 rfl (by decide) ?_
    refine ⟨?_, rfl⟩
    unfold nm1 at h7
    congr 2; first | (rw [decide_eq_true (by omega)]; rfl) | (rw [decide_eq_false (by omega)]; rfl)
set_option maxRecDepth 20000 in
set_option maxHeartbeats 8000000 in
theorem c_floorMod {G : Ctx} {M : Mem} {x y : Int} (hx : 0 ≤ x) (hx2 : x ≤ 2147483647) (hy : 0 < y) (hy2 : y ≤ 2147483647) : CT G m_J9_floorMod_7cf53 0 0 0 [vI x, vI y] M (rI M (Int.tmod x y)) := by
  refine CT.of k_J9_floorMod_7cf53 1 (ls := [some (vI x), some (vI y), none]) rfl (Nat.le_of_ble_eq_true rfl) ?_
  have hq := bXor_nn hx (by omega) hx2 hy2
  have ht : 0 ≤ Int.tdiv x y ∧ Int.tdiv x y ≤ x := by
    rw [Int.tdiv_eq_ediv_of_nonneg hx]; exact ⟨Int.ediv_nonneg hx (by omega), Int.ediv_le_self y hx⟩
  refine E_iload_n dJ9_floorMod_7cf53_0 rfl ?_
  refine E_iload_n dJ9_floorMod_7cf53_1 rfl ?_
  refine E_irem dJ9_floorMod_7cf53_2 (by omega) (by omega) (by omega) ?_
  refine E_istore_n dJ9_floorMod_7cf53_3 rfl (by decide) ?_
  try dsimp only [List.set]
  refine E_iload_n dJ9_floorMod_7cf53_4 rfl ?_
  refine E_iload_n dJ9_floorMod_7cf53_5 rfl ?_
  refine E_ixor dJ9_floorMod_7cf53_6 ?_
  refine E_if_ge (tgt := 18) dJ9_floorMod_7cf53_7 (by decide) (fun h7 => ?_) (fun h7 => ?_)
  · refine E_iload_n dJ9_floorMod_7cf53_18 rfl ?_
    refine E_iret dJ9_floorMod_7cf53_19 rfl ?_
    exact ⟨rfl, rfl⟩
  · exfalso; omega
set_option maxRecDepth 20000 in
set_option maxHeartbeats 8000000 in
theorem c_quarterNow {G : Ctx} {M : Mem} {w : Nat} {g : Int} (hA : WA M w) (hg : mI M w 1 = g) (g0 : 0 ≤ g) (g1 : g ≤ 1000000) : CT G m_X9_quarterNow 1 0 0 [vR w] M (rI M (Int.tmod g 24)) := by
  refine CT.of k_X9_quarterNow 0 (ls := [some (vR w)]) rfl (Nat.le_of_ble_eq_true rfl) ?_
  refine E_aload_n dX9_quarterNow_0 rfl ?_
  refine g_X9_34 rfl dX9_quarterNow_1 hA.o hg ?_
  refine E_bipush dX9_quarterNow_4 (by decide) ?_
  refine i_X9_41 rfl dX9_quarterNow_6 (c_floorMod (by omega) (by omega) (by omega) (by omega)) (by omega) (Nat.le_of_ble_eq_true rfl) rfl rfl ?_
  rintro _ _ ⟨rfl, rfl⟩
  try dsimp only [pu]
  refine E_iret dX9_quarterNow_9 rfl ?_
  exact ⟨rfl, rfl⟩
set_option maxRecDepth 20000 in
set_option maxHeartbeats 8000000 in
theorem c_putUp {G : Ctx} {M : Mem} {w : Nat} (hA : WA M w) {p l : Int} (p0 : 0 ≤ p) (p1 : p < 10) : CT G m_X9_putUp 0 0 0 [vR w, vI p, vI l] M (rJ M (fun I => I = up2 (mI M) (w + 2) p l)) := by
  refine CT.of k_X9_putUp 0 (ls := [some (vR w), some (vI p), some (vI l)]) rfl (Nat.le_of_ble_eq_true rfl) ?_
  refine E_aload_n dX9_putUp_0 rfl ?_
  refine g_X9_17 rfl dX9_putUp_1 hA.o hA.where ?_
  refine E_iload_n dX9_putUp_4 rfl ?_
  refine E_iload_n dX9_putUp_5 rfl ?_
  refine E_iast dX9_putUp_6 hA.s_where (by omega) (by omega) ?_
  refine E_vret dX9_putUp_7 rfl ?_
  exact ⟨rfl, _, rfl, rfl⟩
set_option maxRecDepth 20000 in
set_option maxHeartbeats 8000000 in
theorem c_takeDown {G : Ctx} {M : Mem} {w : Nat} (hA : WA M w) {p : Int} (p0 : 0 ≤ p) (p1 : p < 10) : CT G m_X9_takeDown 0 0 0 [vR w, vI p] M (fun r M' => r = some (vI (mI M (w + 2) p)) ∧ M' = mWI M (w + 2) p (-1)) := by
  refine CT.of k_X9_takeDown 1 (ls := [some (vR w), some (vI p), none]) rfl (Nat.le_of_ble_eq_true rfl) ?_
  refine E_aload_n dX9_takeDown_0 rfl ?_
  refine g_X9_17 rfl dX9_takeDown_1 hA.o hA.where ?_
  refine E_iload_n dX9_takeDown_4 rfl ?_
  refine E_iald dX9_takeDown_5 hA.s_where (by omega) (by omega) rfl ?_
  refine E_istore_n dX9_takeDown_6 rfl (by decide) ?_
  try dsimp only [List.set]
  refine E_aload_n dX9_takeDown_7 rfl ?_
  refine g_X9_17 rfl dX9_takeDown_8 hA.o hA.where ?_
  refine E_iload_n dX9_takeDown_11 rfl ?_
  refine E_iconst dX9_takeDown_12 (by decide) ?_
  refine E_iast dX9_takeDown_13 hA.s_where (by omega) (by omega) ?_
  refine E_iload_n dX9_takeDown_14 rfl ?_
  refine E_iret dX9_takeDown_15 rfl ?_
  exact ⟨rfl, rfl⟩
set_option maxRecDepth 20000 in
set_option maxHeartbeats 8000000 in
theorem c_bitsOn {G : Ctx} {M : Mem} {w a : Nat} {cd : CD} (hA : WA M w) (hRc : mR M w 0 = a) (hC : CA M a) (hD : CC (mI M) a cd) (hW : WFc cd) {hu : Int → Int} (hV : HV cd hu) (hH : HC (mI M) w cd hu) {l : Int} (l0 : 0 ≤ l) (n : Nat) (hn : cd 2 = n) : CT G m_X9_bitsOn 0 0 0 [vR w, vI l] M (rI M (fOn hu l n)) := by
  refine CT.of k_X9_bitsOn 2 (ls := [some (vR w), some (vI l), none, none]) rfl (Nat.le_of_ble_eq_true rfl) ?_
  have hpn := hW.pn
  refine E_iconst dX9_bitsOn_0 (by decide) ?_
  refine E_istore_n dX9_bitsOn_1 rfl (by decide) ?_
  try dsimp only [List.set]
  refine E_iconst dX9_bitsOn_2 (by decide) ?_
  refine E_istore_n dX9_bitsOn_3 rfl (by decide) ?_
  try dsimp only [List.set]
  suffices H : ∀ (k r : Nat) , r + k = n → EV G m_X9_bitsOn 0 0 0 (rI M (fOn hu l n)) 4 [some (vR w), some (vI l), some (vI (fOn hu l r)), some (vI (r : Int))] [] M by
    exact EV.lq (by simp [fOn]) (H n 0 (by omega))
  intro k
  induction k with
  | zero =>
    intro r  hr
    obtain rfl : r = n := by omega
    refine E_iload_n dX9_bitsOn_4 rfl ?_
    refine E_aload_n dX9_bitsOn_5 rfl ?_
    refine g_X9_30 rfl dX9_bitsOn_6 hA.o hRc ?_
    refine g_X9_47 rfl dX9_bitsOn_9 hC.o (hD.pnc.trans hn) ?_
    refine E_icmp_ge (tgt := 37) dX9_bitsOn_12 (by decide) (fun h12 => ?_) (fun h12 => ?_)
    · refine E_iload_n dX9_bitsOn_37 rfl ?_
      refine E_iret dX9_bitsOn_38 rfl ?_
      exact ⟨rfl, rfl⟩
    · exfalso; omega
  | succ k ih =>
    intro r  hr
    have hv := hV r (by omega) (by omega)
    have e : nm1 (hu r) = l ↔ hu r = l := by unfold nm1; omega
    refine E_iload_n dX9_bitsOn_4 rfl ?_
    refine E_aload_n dX9_bitsOn_5 rfl ?_
    refine g_X9_30 rfl dX9_bitsOn_6 hA.o hRc ?_
    refine g_X9_47 rfl dX9_bitsOn_9 hC.o (hD.pnc.trans hn) ?_
    refine E_icmp_ge (tgt := 37) dX9_bitsOn_12 (by decide) (fun h12 => ?_) (fun h12 => ?_)
    · exfalso; omega
    · refine E_aload_n dX9_bitsOn_15 rfl ?_
      refine g_X9_17 rfl dX9_bitsOn_16 hA.o hA.where ?_
      refine E_iload_n dX9_bitsOn_19 rfl ?_
      refine E_iald dX9_bitsOn_20 hA.s_where (by omega) (by omega) (hH _ (by omega) (by omega)) ?_
      refine E_iload_n dX9_bitsOn_21 rfl ?_
      refine E_icmp_ne (tgt := 31) dX9_bitsOn_22 (by decide) (fun h22 => ?_) (fun h22 => ?_)
      · refine E_iinc dX9_bitsOn_31 rfl (by omega) (by omega) (by decide) rfl (by decide) ?_
        try dsimp only [List.set]
        refine E_goto (tgt := 4) dX9_bitsOn_34 (by decide) ?_
        exact EV.lq (by simp only [fOn]; (first | rw [if_pos (by omega)] | rw [if_neg (by omega)]); rfl) (ih (r + 1) (by omega))
      · refine E_iload_n dX9_bitsOn_25 rfl ?_
        refine E_iconst dX9_bitsOn_26 (by decide) ?_
        refine E_iload_n dX9_bitsOn_27 rfl ?_
        refine E_ishl dX9_bitsOn_28 ?_
        refine E_ior dX9_bitsOn_29 ?_
        refine E_istore_n dX9_bitsOn_30 rfl (by decide) ?_
        try dsimp only [List.set]
        refine E_iinc dX9_bitsOn_31 rfl (by omega) (by omega) (by decide) rfl (by decide) ?_
        try dsimp only [List.set]
        refine E_goto (tgt := 4) dX9_bitsOn_34 (by decide) ?_
        exact EV.lq (by simp only [fOn]; (first | rw [if_pos (by omega)] | rw [if_neg (by omega)]); rfl) (ih (r + 1) (by omega))
set_option maxRecDepth 20000 in
set_option maxHeartbeats 8000000 in
theorem c_hungBits {G : Ctx} {M : Mem} {w a : Nat} {cd : CD} (hA : WA M w) (hRc : mR M w 0 = a) (hC : CA M a) (hD : CC (mI M) a cd) (hW : WFc cd) {hu : Int → Int} (hV : HV cd hu) (hH : HC (mI M) w cd hu) (n : Nat) (hn : cd 2 = n) : CT G m_X9_hungBits 1 0 0 [vR w] M (rI M (fHu hu n)) := by
  refine CT.of k_X9_hungBits 2 (ls := [some (vR w), none, none]) rfl (Nat.le_of_ble_eq_true rfl) ?_
  have hpn := hW.pn
  refine E_iconst dX9_hungBits_0 (by decide) ?_
  refine E_istore_n dX9_hungBits_1 rfl (by decide) ?_
  try dsimp only [List.set]
  refine E_iconst dX9_hungBits_2 (by decide) ?_
  refine E_istore_n dX9_hungBits_3 rfl (by decide) ?_
  try dsimp only [List.set]
  suffices H : ∀ (k r : Nat) , r + k = n → EV G m_X9_hungBits 1 0 0 (rI M (fHu hu n)) 4 [some (vR w), some (vI (fHu hu r)), some (vI (r : Int))] [] M by
    exact EV.lq (by simp [fHu]) (H n 0 (by omega))
  intro k
  induction k with
  | zero =>
    intro r  hr
    obtain rfl : r = n := by omega
    refine E_iload_n dX9_hungBits_4 rfl ?_
    refine E_aload_n dX9_hungBits_5 rfl ?_
    refine g_X9_30 rfl dX9_hungBits_6 hA.o hRc ?_
    refine g_X9_47 rfl dX9_hungBits_9 hC.o (hD.pnc.trans hn) ?_
    refine E_icmp_ge (tgt := 35) dX9_hungBits_12 (by decide) (fun h12 => ?_) (fun h12 => ?_)
    · refine E_iload_n dX9_hungBits_35 rfl ?_
      refine E_iret dX9_hungBits_36 rfl ?_
      exact ⟨rfl, rfl⟩
    · exfalso; omega
  | succ k ih =>
    intro r  hr
    refine E_iload_n dX9_hungBits_4 rfl ?_
    refine E_aload_n dX9_hungBits_5 rfl ?_
    refine g_X9_30 rfl dX9_hungBits_6 hA.o hRc ?_
    refine g_X9_47 rfl dX9_hungBits_9 hC.o (hD.pnc.trans hn) ?_
    refine E_icmp_ge (tgt := 35) dX9_hungBits_12 (by decide) (fun h12 => ?_) (fun h12 => ?_)
    · exfalso; omega
    · refine E_aload_n dX9_hungBits_15 rfl ?_
      refine E_iload_n dX9_hungBits_16 rfl ?_
      refine i_X9_54 rfl dX9_hungBits_17 hA.o (c_isHung hA hW hV hH (by omega) (by omega)) (by omega) (Nat.le_of_ble_eq_true rfl) rfl rfl ?_
      rintro _ _ ⟨rfl, rfl⟩
      try dsimp only [pu]
      refine E_if_eq (tgt := 29) dX9_hungBits_20 (by decide) (fun h20 => ?_) (fun h20 => ?_)
      · simp only [tB0, ne_eq, Bool.not_eq_false, Bool.not_eq_true, decide_eq_true_eq, decide_eq_false_iff_not, Classical.not_not] at h20
        refine E_iinc dX9_hungBits_29 rfl (by omega) (by omega) (by decide) rfl (by decide) ?_
        try dsimp only [List.set]
        refine E_goto (tgt := 4) dX9_hungBits_32 (by decide) ?_
        exact EV.lq (by simp only [fHu]; (first | rw [if_pos (by omega)] | rw [if_neg (by omega)]); rfl) (ih (r + 1) (by omega))
      · simp only [tB0, ne_eq, Bool.not_eq_false, Bool.not_eq_true, decide_eq_true_eq, decide_eq_false_iff_not, Classical.not_not] at h20
        refine E_iload_n dX9_hungBits_23 rfl ?_
        refine E_iconst dX9_hungBits_24 (by decide) ?_
        refine E_iload_n dX9_hungBits_25 rfl ?_
        refine E_ishl dX9_hungBits_26 ?_
        refine E_ior dX9_hungBits_27 ?_
        refine E_istore_n dX9_hungBits_28 rfl (by decide) ?_
        try dsimp only [List.set]
        refine E_iinc dX9_hungBits_29 rfl (by omega) (by omega) (by decide) rfl (by decide) ?_
        try dsimp only [List.set]
        refine E_goto (tgt := 4) dX9_hungBits_32 (by decide) ?_
        exact EV.lq (by simp only [fHu]; (first | rw [if_pos (by omega)] | rw [if_neg (by omega)]); rfl) (ih (r + 1) (by omega))
set_option maxRecDepth 20000 in
set_option maxHeartbeats 8000000 in
theorem c_howManyStained {G : Ctx} {M : Mem} {w a : Nat} {cd : CD} (hA : WA M w) (hRc : mR M w 0 = a) (hC : CA M a) (hD : CC (mI M) a cd) (hW : WFc cd) {sn : Int → Int} (hS : SC (mI M) w cd sn) (n : Nat) (hn : cd 2 = n) : CT G m_X9_howManyStained 0 0 0 [vR w] M (rI M (fSt sn n)) := by
  refine CT.of k_X9_howManyStained 2 (ls := [some (vR w), none, none]) rfl (Nat.le_of_ble_eq_true rfl) ?_
  have hpn := hW.pn
  refine E_iconst dX9_howManyStained_0 (by decide) ?_
  refine E_istore_n dX9_howManyStained_1 rfl (by decide) ?_
  try dsimp only [List.set]
  refine E_iconst dX9_howManyStained_2 (by decide) ?_
  refine E_istore_n dX9_howManyStained_3 rfl (by decide) ?_
  try dsimp only [List.set]
  suffices H : ∀ (k r : Nat) , r + k = n → EV G m_X9_howManyStained 0 0 0 (rI M (fSt sn n)) 4 [some (vR w), some (vI (fSt sn r)), some (vI (r : Int))] [] M by
    exact EV.lq (by simp [fSt]) (H n 0 (by omega))
  intro k
  induction k with
  | zero =>
    intro r  hr
    obtain rfl : r = n := by omega
    refine E_iload_n dX9_howManyStained_4 rfl ?_
    refine E_aload_n dX9_howManyStained_5 rfl ?_
    refine g_X9_30 rfl dX9_howManyStained_6 hA.o hRc ?_
    refine g_X9_47 rfl dX9_howManyStained_9 hC.o (hD.pnc.trans hn) ?_
    refine E_icmp_ge (tgt := 38) dX9_howManyStained_12 (by decide) (fun h12 => ?_) (fun h12 => ?_)
    · refine E_iload_n dX9_howManyStained_38 rfl ?_
      refine E_iret dX9_howManyStained_39 rfl ?_
      exact ⟨rfl, rfl⟩
    · exfalso; omega
  | succ k ih =>
    intro r  hr
    have hb := fSt_b sn r
    refine E_iload_n dX9_howManyStained_4 rfl ?_
    refine E_aload_n dX9_howManyStained_5 rfl ?_
    refine g_X9_30 rfl dX9_howManyStained_6 hA.o hRc ?_
    refine g_X9_47 rfl dX9_howManyStained_9 hC.o (hD.pnc.trans hn) ?_
    refine E_icmp_ge (tgt := 38) dX9_howManyStained_12 (by decide) (fun h12 => ?_) (fun h12 => ?_)
    · exfalso; omega
    · refine E_iload_n dX9_howManyStained_15 rfl ?_
      refine E_aload_n dX9_howManyStained_16 rfl ?_
      refine g_X9_20 rfl dX9_howManyStained_17 hA.o hA.stained ?_
      refine E_iload_n dX9_howManyStained_20 rfl ?_
      refine E_zald dX9_howManyStained_21 hA.s_stained (by omega) (by omega) (hS _ (by omega) (by omega)) ?_
      refine E_if_eq (tgt := 29) dX9_howManyStained_22 (by decide) (fun h22 => ?_) (fun h22 => ?_)
      · refine E_iconst dX9_howManyStained_29 (by decide) ?_
        refine E_iadd dX9_howManyStained_30 (by omega) (by omega) ?_
        refine E_istore_n dX9_howManyStained_31 rfl (by decide) ?_
        try dsimp only [List.set]
        refine E_iinc dX9_howManyStained_32 rfl (by omega) (by omega) (by decide) rfl (by decide) ?_
        try dsimp only [List.set]
        refine E_goto (tgt := 4) dX9_howManyStained_35 (by decide) ?_
        exact EV.lq (by simp only [fSt]; (first | rw [if_pos (by omega)] | rw [if_neg (by omega)]); rfl) (ih (r + 1) (by omega))
      · refine E_iconst dX9_howManyStained_25 (by decide) ?_
        refine E_goto (tgt := 30) dX9_howManyStained_26 (by decide) ?_
        refine E_iadd dX9_howManyStained_30 (by omega) (by omega) ?_
        refine E_istore_n dX9_howManyStained_31 rfl (by decide) ?_
        try dsimp only [List.set]
        refine E_iinc dX9_howManyStained_32 rfl (by omega) (by omega) (by decide) rfl (by decide) ?_
        try dsimp only [List.set]
        refine E_goto (tgt := 4) dX9_howManyStained_35 (by decide) ?_
        exact EV.lq (by simp only [fSt]; (first | rw [if_pos (by omega)] | rw [if_neg (by omega)]); rfl) (ih (r + 1) (by omega))
set_option maxRecDepth 20000 in
set_option maxHeartbeats 8000000 in
theorem c_isOfOthers {G : Ctx} {M : Mem} {w a : Nat} {cd : CD} (hA : WA M w) (hRc : mR M w 0 = a) (hC : CA M a) (hD : CC (mI M) a cd) (hW : WFc cd) {g : Int} (hg : mI M w 1 = g) (g0 : 0 ≤ g) (g1 : g ≤ 1000000) (rn : Nat) (hrn : cd 1 = rn) {p l : Int} (p0 : 0 ≤ p) (p1 : p < cd 2) : CT G m_X9_isOfOthers 2 0 0 [vR w, vI p, vI l] M (rI M (tB (fOth cd g p l rn))) := by
  refine CT.of k_X9_isOfOthers 1 (ls := [some (vR w), some (vI p), some (vI l), none]) rfl (Nat.le_of_ble_eq_true rfl) ?_
  have hpn := hW.pn
  refine E_aload_n dX9_isOfOthers_0 rfl ?_
  refine g_X9_30 rfl dX9_isOfOthers_1 hA.o hRc ?_
  refine E_iload_n dX9_isOfOthers_4 rfl ?_
  refine E_aload_n dX9_isOfOthers_5 rfl ?_
  refine i_X9_67 rfl dX9_isOfOthers_6 hA.o (c_quarterNow hA hg g0 g1) (by omega) (Nat.le_of_ble_eq_true rfl) rfl rfl ?_
  rintro _ _ ⟨rfl, rfl⟩
  try dsimp only [pu]
  refine i_X9_71 rfl dX9_isOfOthers_9 hC.o (c_holders hC hD hW rn hrn) (by omega) (Nat.le_of_ble_eq_true rfl) rfl rfl ?_
  rintro _ _ ⟨rfl, rfl⟩
  try dsimp only [pu]
  refine E_istore_n dX9_isOfOthers_12 rfl (by decide) ?_
  try dsimp only [List.set]
  refine E_iload_n dX9_isOfOthers_13 rfl ?_
  refine E_if_eq (tgt := 37) dX9_isOfOthers_14 (by decide) (fun h14 => ?_) (fun h14 => ?_)
  · refine E_iconst dX9_isOfOthers_37 (by decide) ?_
    refine E_zret dX9_isOfOthers_38 rfl (by decide) ?_
    refine ⟨?_, rfl⟩
    congr 2; unfold fOth; first | (rw [decide_eq_true (by omega)]; rfl) | (rw [decide_eq_false (by omega)]; rfl)
  · refine E_iload_n dX9_isOfOthers_17 rfl ?_
    refine E_aload_n dX9_isOfOthers_18 rfl ?_
    refine g_X9_30 rfl dX9_isOfOthers_19 hA.o hRc ?_
    refine g_X9_74 rfl dX9_isOfOthers_22 hC.o hC.owners ?_
    refine E_iload_n dX9_isOfOthers_25 rfl ?_
    refine E_iald dX9_isOfOthers_26 hC.s_owners (by omega) (by omega) (hD.owners (by omega) (by omega)) ?_
    refine E_ishr dX9_isOfOthers_27 ?_
    refine E_iconst dX9_isOfOthers_28 (by decide) ?_
    refine E_iand dX9_isOfOthers_29 ?_
    refine E_if_ne (tgt := 37) dX9_isOfOthers_30 (by decide) (fun h30 => ?_) (fun h30 => ?_)
    · refine E_iconst dX9_isOfOthers_37 (by decide) ?_
      refine E_zret dX9_isOfOthers_38 rfl (by decide) ?_
      refine ⟨?_, rfl⟩
      congr 2; unfold fOth; first | (rw [decide_eq_true (by omega)]; rfl) | (rw [decide_eq_false (by omega)]; rfl)
    · refine E_iconst dX9_isOfOthers_33 (by decide) ?_
      refine E_goto (tgt := 38) dX9_isOfOthers_34 (by decide) ?_
      refine E_zret dX9_isOfOthers_38 rfl (by decide) ?_
      refine ⟨?_, rfl⟩
      congr 2; unfold fOth; first | (rw [decide_eq_true (by omega)]; rfl) | (rw [decide_eq_false (by omega)]; rfl)
set_option maxRecDepth 20000 in
set_option maxHeartbeats 8000000 in
theorem c_hasRoomFor {G : Ctx} {M : Mem} {w a : Nat} {cd : CD} (hA : WA M w) (hRc : mR M w 0 = a) (hC : CA M a) (hD : CC (mI M) a cd) (hW : WFc cd) {hu : Int → Int} (hV : HV cd hu) (hH : HC (mI M) w cd hu) (n : Nat) (hn : cd 2 = n) {p l : Int} (p0 : 0 ≤ p) (p1 : p < cd 2) (l0 : 0 ≤ l) (l1 : l < cd 0) : CT G m_X9_hasRoomFor 0 0 0 [vR w, vI p, vI l] M (rI M (tB (fRoom cd hu p l n))) := by
  refine CT.of k_X9_hasRoomFor 2 (ls := [some (vR w), some (vI p), some (vI l), none, none]) rfl (Nat.le_of_ble_eq_true rfl) ?_
  have hpn := hW.pn
  have hln := hW.ln
  refine E_aload_n dX9_hasRoomFor_0 rfl ?_
  refine g_X9_30 rfl dX9_hasRoomFor_1 hA.o hRc ?_
  refine g_X9_77 rfl dX9_hasRoomFor_4 hC.o hC.yards ?_
  refine E_iload_n dX9_hasRoomFor_7 rfl ?_
  refine E_iald dX9_hasRoomFor_8 hC.s_yards (by omega) (by omega) (hD.yards (by omega) (by omega)) ?_
  refine E_istore_n dX9_hasRoomFor_9 rfl (by decide) ?_
  try dsimp only [List.set]
  refine E_iconst dX9_hasRoomFor_10 (by decide) ?_
  refine E_istore dX9_hasRoomFor_11 rfl (by decide) ?_
  try dsimp only [List.set]
  suffices H : ∀ (k r : Nat) , r + k = n → fBar cd hu l (decide (cd (84 + 6 * p) = 4)) r = false → EV G m_X9_hasRoomFor 0 0 0 (rI M (tB (fRoom cd hu p l n))) 13 [some (vR w), some (vI p), some (vI l), some (vI (cd (87 + 6 * p) + fY cd hu l r)), some (vI (r : Int))] [] M by
    exact EV.lq (by simp [fY]) (H n 0 (by omega) rfl)
  intro k
  induction k with
  | zero =>
    intro r  hr hi
    obtain rfl : r = n := by omega
    refine E_iload dX9_hasRoomFor_13 rfl ?_
    refine E_aload_n dX9_hasRoomFor_15 rfl ?_
    refine g_X9_30 rfl dX9_hasRoomFor_16 hA.o hRc ?_
    refine g_X9_47 rfl dX9_hasRoomFor_19 hC.o (hD.pnc.trans hn) ?_
    refine E_icmp_ge (tgt := 87) dX9_hasRoomFor_22 (by decide) (fun h22 => ?_) (fun h22 => ?_)
    · refine E_iload_n dX9_hasRoomFor_87 rfl ?_
      refine E_aload_n dX9_hasRoomFor_88 rfl ?_
      refine g_X9_30 rfl dX9_hasRoomFor_89 hA.o hRc ?_
      refine g_X9_83 rfl dX9_hasRoomFor_92 hC.o hC.wides ?_
      refine E_iload_n dX9_hasRoomFor_95 rfl ?_
      refine E_iald dX9_hasRoomFor_96 hC.s_wides (by omega) (by omega) (hD.wides (by omega) (by omega)) ?_
      refine E_icmp_gt (tgt := 104) dX9_hasRoomFor_97 (by decide) (fun h97 => ?_) (fun h97 => ?_)
      · refine E_iconst dX9_hasRoomFor_104 (by decide) ?_
        refine E_zret dX9_hasRoomFor_105 rfl (by decide) ?_
        refine ⟨?_, rfl⟩
        congr 2; unfold fRoom; rw [hi]; first | (rw [decide_eq_true (by omega)]; rfl) | (rw [decide_eq_false (by omega)]; rfl)
      · refine E_iconst dX9_hasRoomFor_100 (by decide) ?_
        refine E_goto (tgt := 105) dX9_hasRoomFor_101 (by decide) ?_
        refine E_zret dX9_hasRoomFor_105 rfl (by decide) ?_
        refine ⟨?_, rfl⟩
        congr 2; unfold fRoom; rw [hi]; first | (rw [decide_eq_true (by omega)]; rfl) | (rw [decide_eq_false (by omega)]; rfl)
    · exfalso; omega
  | succ k ih =>
    intro r  hr hi
    have hv := hV r (by omega) (by omega)
    have e : nm1 (hu r) = l ↔ hu r = l := by unfold nm1; omega
    have hy := fY_b hW hu l r (by omega)
    have hyp := hW.ya p0 p1
    have hyr := hW.ya (p := r) (by omega) (by omega)
    refine E_iload dX9_hasRoomFor_13 rfl ?_
    refine E_aload_n dX9_hasRoomFor_15 rfl ?_
    refine g_X9_30 rfl dX9_hasRoomFor_16 hA.o hRc ?_
    refine g_X9_47 rfl dX9_hasRoomFor_19 hC.o (hD.pnc.trans hn) ?_
    refine E_icmp_ge (tgt := 87) dX9_hasRoomFor_22 (by decide) (fun h22 => ?_) (fun h22 => ?_)
    · exfalso; omega
    · refine E_aload_n dX9_hasRoomFor_25 rfl ?_
      refine g_X9_17 rfl dX9_hasRoomFor_26 hA.o hA.where ?_
      refine E_iload dX9_hasRoomFor_29 rfl ?_
      refine E_iald dX9_hasRoomFor_31 hA.s_where (by omega) (by omega) (hH _ (by omega) (by omega)) ?_
      refine E_iload_n dX9_hasRoomFor_32 rfl ?_
      refine E_icmp_eq (tgt := 39) dX9_hasRoomFor_33 (by decide) (fun h33 => ?_) (fun h33 => ?_)
      · refine E_aload_n dX9_hasRoomFor_39 rfl ?_
        refine g_X9_30 rfl dX9_hasRoomFor_40 hA.o hRc ?_
        refine g_X9_80 rfl dX9_hasRoomFor_43 hC.o hC.kinds ?_
        refine E_iload dX9_hasRoomFor_46 rfl ?_
        refine E_iald dX9_hasRoomFor_48 hC.s_kinds (by omega) (by omega) (hD.kinds (by omega) (by omega)) ?_
        refine E_iconst dX9_hasRoomFor_49 (by decide) ?_
        refine E_icmp_eq (tgt := 66) dX9_hasRoomFor_50 (by decide) (fun h50 => ?_) (fun h50 => ?_)
        · refine E_iconst dX9_hasRoomFor_66 (by decide) ?_
          refine E_zret dX9_hasRoomFor_67 rfl (by decide) ?_
          refine ⟨?_, rfl⟩
          have hx : fBar cd hu l (decide (cd (84 + 6 * p) = 4)) (r + 1) = true := by
            simp only [fBar, hi, Bool.false_or, decide_eq_true_eq]
            omega
          congr 2; unfold fRoom; rw [fBar_mono hx (show r + 1 ≤ n by omega)]; rfl
        · refine E_aload_n dX9_hasRoomFor_53 rfl ?_
          refine g_X9_30 rfl dX9_hasRoomFor_54 hA.o hRc ?_
          refine g_X9_80 rfl dX9_hasRoomFor_57 hC.o hC.kinds ?_
          refine E_iload_n dX9_hasRoomFor_60 rfl ?_
          refine E_iald dX9_hasRoomFor_61 hC.s_kinds (by omega) (by omega) (hD.kinds (by omega) (by omega)) ?_
          refine E_iconst dX9_hasRoomFor_62 (by decide) ?_
          refine E_icmp_ne (tgt := 68) dX9_hasRoomFor_63 (by decide) (fun h63 => ?_) (fun h63 => ?_)
          · refine E_iload_n dX9_hasRoomFor_68 rfl ?_
            refine E_aload_n dX9_hasRoomFor_69 rfl ?_
            refine g_X9_30 rfl dX9_hasRoomFor_70 hA.o hRc ?_
            refine g_X9_77 rfl dX9_hasRoomFor_73 hC.o hC.yards ?_
            refine E_iload dX9_hasRoomFor_76 rfl ?_
            refine E_iald dX9_hasRoomFor_78 hC.s_yards (by omega) (by omega) (hD.yards (by omega) (by omega)) ?_
            refine E_iadd dX9_hasRoomFor_79 (by omega) (by omega) ?_
            refine E_istore_n dX9_hasRoomFor_80 rfl (by decide) ?_
            try dsimp only [List.set]
            refine E_iinc dX9_hasRoomFor_81 rfl (by omega) (by omega) (by decide) rfl (by decide) ?_
            try dsimp only [List.set]
            refine E_goto (tgt := 13) dX9_hasRoomFor_84 (by decide) ?_
            exact EV.lq (by simp only [fY]; (first | rw [if_pos (by omega)] | rw [if_neg (by omega)]); simp only [Int.add_assoc, Int.add_zero]; rfl) (ih (r + 1) (by omega) (by simp only [fBar, hi, Bool.false_or, decide_eq_false_iff_not, decide_eq_true_eq]; omega))
          · refine E_iconst dX9_hasRoomFor_66 (by decide) ?_
            refine E_zret dX9_hasRoomFor_67 rfl (by decide) ?_
            refine ⟨?_, rfl⟩
            have hx : fBar cd hu l (decide (cd (84 + 6 * p) = 4)) (r + 1) = true := by
              simp only [fBar, hi, Bool.false_or, decide_eq_true_eq]
              omega
            congr 2; unfold fRoom; rw [fBar_mono hx (show r + 1 ≤ n by omega)]; rfl
      · refine E_goto (tgt := 81) dX9_hasRoomFor_36 (by decide) ?_
        refine E_iinc dX9_hasRoomFor_81 rfl (by omega) (by omega) (by decide) rfl (by decide) ?_
        try dsimp only [List.set]
        refine E_goto (tgt := 13) dX9_hasRoomFor_84 (by decide) ?_
        exact EV.lq (by simp only [fY]; (first | rw [if_pos (by omega)] | rw [if_neg (by omega)]); simp only [Int.add_assoc, Int.add_zero]; rfl) (ih (r + 1) (by omega) (by simp only [fBar, hi, Bool.false_or, decide_eq_false_iff_not, decide_eq_true_eq]; omega))
set_option maxRecDepth 20000 in
set_option maxHeartbeats 8000000 in
theorem c_refusal {G : Ctx} {M : Mem} {w a : Nat} {cd : CD} (hA : WA M w) (hRc : mR M w 0 = a) (hC : CA M a) (hD : CC (mI M) a cd) (hW : WFc cd) {hu : Int → Int} (hV : HV cd hu) (hH : HC (mI M) w cd hu) (n : Nat) (hn : cd 2 = n) {g : Int} (hg : mI M w 1 = g) (g0 : 0 ≤ g) (g1 : g ≤ 1000000) (rn : Nat) (hrn : cd 1 = rn) {p l : Int} (p0 : 0 ≤ p) (p1 : p < cd 2) (l0 : 0 ≤ l) (l1 : l < cd 0) : CT G m_X9_refusal 3 0 0 [vR w, vI p, vI l] M (rI M (fRef cd hu g p l n rn)) := by
  refine CT.of k_X9_refusal 0 (ls := [some (vR w), some (vI p), some (vI l)]) rfl (Nat.le_of_ble_eq_true rfl) ?_
  refine E_aload_n dX9_refusal_0 rfl ?_
  refine E_iload_n dX9_refusal_1 rfl ?_
  refine i_X9_54 rfl dX9_refusal_2 hA.o (c_isHung hA hW hV hH p0 p1) (by omega) (Nat.le_of_ble_eq_true rfl) rfl rfl ?_
  rintro _ _ ⟨rfl, rfl⟩
  try dsimp only [pu]
  refine E_if_ne (tgt := 17) dX9_refusal_5 (by decide) (fun h5 => ?_) (fun h5 => ?_)
  · simp only [tB0, ne_eq, Bool.not_eq_false, Bool.not_eq_true, decide_eq_true_eq, decide_eq_false_iff_not, Classical.not_not] at h5
    refine c_X9_62 rfl dX9_refusal_17 ?_
    refine E_iret dX9_refusal_19 rfl ?_
    refine ⟨?_, rfl⟩
    congr 2; unfold fRef; first | rw [if_pos (Or.inl h5)] | rw [if_pos (Or.inr h14)]
  · simp only [tB0, ne_eq, Bool.not_eq_false, Bool.not_eq_true, decide_eq_true_eq, decide_eq_false_iff_not, Classical.not_not] at h5
    refine E_aload_n dX9_refusal_8 rfl ?_
    refine E_iload_n dX9_refusal_9 rfl ?_
    refine E_iload_n dX9_refusal_10 rfl ?_
    refine i_X9_58 rfl dX9_refusal_11 hA.o (c_isOfOthers hA hRc hC hD hW hg g0 g1 rn hrn p0 p1) (by omega) (Nat.le_of_ble_eq_true rfl) rfl rfl ?_
    rintro _ _ ⟨rfl, rfl⟩
    try dsimp only [pu]
    refine E_if_eq (tgt := 20) dX9_refusal_14 (by decide) (fun h14 => ?_) (fun h14 => ?_)
    · simp only [tB0, ne_eq, Bool.not_eq_false, Bool.not_eq_true, decide_eq_true_eq, decide_eq_false_iff_not, Classical.not_not] at h14
      refine E_aload_n dX9_refusal_20 rfl ?_
      refine E_iload_n dX9_refusal_21 rfl ?_
      refine E_iload_n dX9_refusal_22 rfl ?_
      refine i_X9_63 rfl dX9_refusal_23 hA.o (c_hasRoomFor hA hRc hC hD hW hV hH n hn p0 p1 l0 l1) (by omega) (Nat.le_of_ble_eq_true rfl) rfl rfl ?_
      rintro _ _ ⟨rfl, rfl⟩
      try dsimp only [pu]
      refine E_if_eq (tgt := 33) dX9_refusal_26 (by decide) (fun h26 => ?_) (fun h26 => ?_)
      · simp only [tB0, ne_eq, Bool.not_eq_false, Bool.not_eq_true, decide_eq_true_eq, decide_eq_false_iff_not, Classical.not_not] at h26
        refine c_X9_66 rfl dX9_refusal_33 ?_
        refine E_iret dX9_refusal_35 rfl ?_
        refine ⟨?_, rfl⟩
        congr 2; unfold fRef; rw [if_neg (by simp [h5, h14])]; first | rw [if_pos h26] | rw [if_neg (by simp [h26])]
      · simp only [tB0, ne_eq, Bool.not_eq_false, Bool.not_eq_true, decide_eq_true_eq, decide_eq_false_iff_not, Classical.not_not] at h26
        refine E_iconst dX9_refusal_29 (by decide) ?_
        refine E_goto (tgt := 35) dX9_refusal_30 (by decide) ?_
        refine E_iret dX9_refusal_35 rfl ?_
        refine ⟨?_, rfl⟩
        congr 2; unfold fRef; rw [if_neg (by simp [h5, h14])]; first | rw [if_pos h26] | rw [if_neg (by simp [h26])]
    · simp only [tB0, ne_eq, Bool.not_eq_false, Bool.not_eq_true, decide_eq_true_eq, decide_eq_false_iff_not, Classical.not_not] at h14
      refine c_X9_62 rfl dX9_refusal_17 ?_
      refine E_iret dX9_refusal_19 rfl ?_
      refine ⟨?_, rfl⟩
      congr 2; unfold fRef; first | rw [if_pos (Or.inl h5)] | rw [if_pos (Or.inr h14)]
set_option maxRecDepth 20000 in
set_option maxHeartbeats 8000000 in
theorem c_yardsLeft {G : Ctx} {M : Mem} {w a : Nat} {cd : CD} (hA : WA M w) (hRc : mR M w 0 = a) (hC : CA M a) (hD : CC (mI M) a cd) (hW : WFc cd) {hu : Int → Int} (hV : HV cd hu) (hH : HC (mI M) w cd hu) (n : Nat) (hn : cd 2 = n) {p l : Int} (p0 : 0 ≤ p) (p1 : p < cd 2) (l0 : 0 ≤ l) (l1 : l < cd 0) : CT G m_X9_yardsLeft 0 0 0 [vR w, vI p, vI l] M (rI M (if cd (84 + 6 * p) = 4 then 0 else cd (30 + 3 * l) - fY cd hu l n)) := by
  refine CT.of k_X9_yardsLeft 2 (ls := [some (vR w), some (vI p), some (vI l), none, none]) rfl (Nat.le_of_ble_eq_true rfl) ?_
  have hpn := hW.pn
  have hln := hW.ln
  refine E_aload_n dX9_yardsLeft_0 rfl ?_
  refine g_X9_30 rfl dX9_yardsLeft_1 hA.o hRc ?_
  refine g_X9_80 rfl dX9_yardsLeft_4 hC.o hC.kinds ?_
  refine E_iload_n dX9_yardsLeft_7 rfl ?_
  refine E_iald dX9_yardsLeft_8 hC.s_kinds (by omega) (by omega) (hD.kinds (by omega) (by omega)) ?_
  refine E_iconst dX9_yardsLeft_9 (by decide) ?_
  refine E_icmp_ne (tgt := 15) dX9_yardsLeft_10 (by decide) (fun h10 => ?_) (fun h10 => ?_)
  · refine E_aload_n dX9_yardsLeft_15 rfl ?_
    refine g_X9_30 rfl dX9_yardsLeft_16 hA.o hRc ?_
    refine g_X9_83 rfl dX9_yardsLeft_19 hC.o hC.wides ?_
    refine E_iload_n dX9_yardsLeft_22 rfl ?_
    refine E_iald dX9_yardsLeft_23 hC.s_wides (by omega) (by omega) (hD.wides (by omega) (by omega)) ?_
    refine E_istore_n dX9_yardsLeft_24 rfl (by decide) ?_
    try dsimp only [List.set]
    refine E_iconst dX9_yardsLeft_25 (by decide) ?_
    refine E_istore dX9_yardsLeft_26 rfl (by decide) ?_
    try dsimp only [List.set]
    suffices H : ∀ (k r : Nat) , r + k = n → EV G m_X9_yardsLeft 0 0 0 (rI M (if cd (84 + 6 * p) = 4 then 0 else cd (30 + 3 * l) - fY cd hu l n)) 28 [some (vR w), some (vI p), some (vI l), some (vI (cd (30 + 3 * l) - fY cd hu l r)), some (vI (r : Int))] [] M by
      exact EV.lq (by simp [fY]) (H n 0 (by omega))
    intro k
    induction k with
    | zero =>
      intro r  hr
      obtain rfl : r = n := by omega
      refine E_iload dX9_yardsLeft_28 rfl ?_
      refine E_aload_n dX9_yardsLeft_30 rfl ?_
      refine g_X9_30 rfl dX9_yardsLeft_31 hA.o hRc ?_
      refine g_X9_47 rfl dX9_yardsLeft_34 hC.o (hD.pnc.trans hn) ?_
      refine E_icmp_ge (tgt := 74) dX9_yardsLeft_37 (by decide) (fun h37 => ?_) (fun h37 => ?_)
      · refine E_iload_n dX9_yardsLeft_74 rfl ?_
        refine E_iret dX9_yardsLeft_75 rfl ?_
        exact ⟨by rw [if_neg h10], rfl⟩
      · exfalso; omega
    | succ k ih =>
      intro r  hr
      have hv := hV r (by omega) (by omega)
      have e : nm1 (hu r) = l ↔ hu r = l := by unfold nm1; omega
      have hy := fY_b hW hu l r (by omega)
      have hyr := hW.ya (p := r) (by omega) (by omega)
      have hwi := hW.wi l0 l1
      refine E_iload dX9_yardsLeft_28 rfl ?_
      refine E_aload_n dX9_yardsLeft_30 rfl ?_
      refine g_X9_30 rfl dX9_yardsLeft_31 hA.o hRc ?_
      refine g_X9_47 rfl dX9_yardsLeft_34 hC.o (hD.pnc.trans hn) ?_
      refine E_icmp_ge (tgt := 74) dX9_yardsLeft_37 (by decide) (fun h37 => ?_) (fun h37 => ?_)
      · exfalso; omega
      · refine E_iload_n dX9_yardsLeft_40 rfl ?_
        refine E_aload_n dX9_yardsLeft_41 rfl ?_
        refine g_X9_17 rfl dX9_yardsLeft_42 hA.o hA.where ?_
        refine E_iload dX9_yardsLeft_45 rfl ?_
        refine E_iald dX9_yardsLeft_47 hA.s_where (by omega) (by omega) (hH _ (by omega) (by omega)) ?_
        refine E_iload_n dX9_yardsLeft_48 rfl ?_
        refine E_icmp_ne (tgt := 65) dX9_yardsLeft_49 (by decide) (fun h49 => ?_) (fun h49 => ?_)
        · refine E_iconst dX9_yardsLeft_65 (by decide) ?_
          refine E_isub dX9_yardsLeft_66 (by omega) (by omega) ?_
          refine E_istore_n dX9_yardsLeft_67 rfl (by decide) ?_
          try dsimp only [List.set]
          refine E_iinc dX9_yardsLeft_68 rfl (by omega) (by omega) (by decide) rfl (by decide) ?_
          try dsimp only [List.set]
          refine E_goto (tgt := 28) dX9_yardsLeft_71 (by decide) ?_
          exact EV.lq (by simp only [fY]; (first | rw [if_pos (by omega)] | rw [if_neg (by omega)]); simp only [List.cons.injEq, Option.some.injEq, Sum.inl.injEq, and_true, true_and]; omega) (ih (r + 1) (by omega))
        · refine E_aload_n dX9_yardsLeft_52 rfl ?_
          refine g_X9_30 rfl dX9_yardsLeft_53 hA.o hRc ?_
          refine g_X9_77 rfl dX9_yardsLeft_56 hC.o hC.yards ?_
          refine E_iload dX9_yardsLeft_59 rfl ?_
          refine E_iald dX9_yardsLeft_61 hC.s_yards (by omega) (by omega) (hD.yards (by omega) (by omega)) ?_
          refine E_goto (tgt := 66) dX9_yardsLeft_62 (by decide) ?_
          refine E_isub dX9_yardsLeft_66 (by omega) (by omega) ?_
          refine E_istore_n dX9_yardsLeft_67 rfl (by decide) ?_
          try dsimp only [List.set]
          refine E_iinc dX9_yardsLeft_68 rfl (by omega) (by omega) (by decide) rfl (by decide) ?_
          try dsimp only [List.set]
          refine E_goto (tgt := 28) dX9_yardsLeft_71 (by decide) ?_
          exact EV.lq (by simp only [fY]; (first | rw [if_pos (by omega)] | rw [if_neg (by omega)]); simp only [List.cons.injEq, Option.some.injEq, Sum.inl.injEq, and_true, true_and]; omega) (ih (r + 1) (by omega))
  · refine E_iconst dX9_yardsLeft_13 (by decide) ?_
    refine E_iret dX9_yardsLeft_14 rfl ?_
    exact ⟨by rw [if_pos (by omega)], rfl⟩
