/-! ===== 71: the class's reader: numbers, signs, words ===== -/
theorem CR.e {T : Int → Int} {N : Nat} {I : AS} {a : Nat} {p : PT} (h : CR T N I a p) : I a 5 = pE p := by
  obtain ⟨s, f, t, e2, e3, e4, hv, hp, e5, e6⟩ := h; exact e5
theorem CR.t {T : Int → Int} {N : Nat} {I : AS} {a : Nat} {p : PT} (h : CR T N I a p) : pE p = 0 → I a 4 = pT p ∧ pT p ≤ N := by
  obtain ⟨s, f, t, e2, e3, e4, hv, hp, e5, e6⟩ := h
  intro he
  have z := hp he
  rw [e4, ← z.2.2]
  exact ⟨rfl, hv.2.1⟩
theorem CR.v {T : Int → Int} {N : Nat} {I : AS} {a : Nat} {p : PT} (h : CR T N I a p) (he : pE p = 0) : PV T N p := by
  obtain ⟨s, f, t, e2, e3, e4, hv, hp, e5, e6⟩ := h
  obtain ⟨rfl, rfl, rfl⟩ := hp he
  exact hv
theorem CR.q {T : Int → Int} {N : Nat} {I : AS} {a : Nat} {p q : PT} (h : CR T N I a p) (e : p = q) : CR T N I a q := e ▸ h
theorem pX_wf {k : Int} {p : PT} {f : Nat} (h : pE p = 0 → f = pF p) : pW (pX k p) = if pE p = 0 then (f : Int) else pW p := by
  rw [pX_w]
  by_cases e : pE p = 0
  · rw [if_pos e, if_pos e, h e]
  · rw [if_neg e, if_neg e]
theorem sg_id {x : Int} (h : x ≤ 127) : sg x = x := by unfold sg; rw [if_pos h]
theorem CR.w {T : Int → Int} {N : Nat} {p : PT} {s : Int} {f t : Nat} (hv : TVs T N s f t) (hp : pE p = 0 → s = pS p ∧ f = pF p ∧ t = pT p) {i : Nat} (hi : i < 9) : nmV T p = wV i ↔ (pE p = 0 ∧ s = 1 ∧ t - f = sLen.getD i 0 ∧ ∀ j, j < sLen.getD i 0 → T ((f + j : Nat) : Int) = sCh i j) := by
  by_cases he : pE p = 0
  · obtain ⟨rfl, rfl, rfl⟩ := hp he
    exact isW_iff hv hi
  · constructor
    · intro z
      have h0 : nmV T p = 0 := by unfold nmV; rw [if_neg (fun q => he q.1)]
      rw [h0] at z
      have hpos : 0 < wV i := by
        have b : ∀ i, i < 9 → 0 < wV i := by decide +kernel
        exact b i hi
      omega
    · exact fun z => absurd z.1 he
set_option maxRecDepth 20000 in
set_option maxHeartbeats 3000000 in
theorem c_failAt {G : Ctx} {M : Mem} {a : Nat} (hR : RQ M a) {T : Int → Int} {N : Nat} (hT : TP (mI M) a T N) {p : PT} (hC : CR T N (mI M) a p) {p2 : PT} {pl num : Int} (hn : num ≠ 0) (he : pE p2 = if pE p = 0 then num else pE p) (hw : pW p2 = if pE p = 0 then pl else pW p) : CT G m_X3_failAt 0 0 0 [vR a, vI pl, vI num] M (rJ M (fun I => RA M a I ∧ CR T N I a (p2))) := by
  refine CT.of k_X3_failAt 0 (ls := [some (vR a), some (vI pl), some (vI num)]) rfl (Nat.le_of_ble_eq_true rfl) ?_
  obtain ⟨s, f, t, e2, e3, e4, hv, hp, e5, e6⟩ := id hC
  refine E_aload_n dX3_failAt_0 rfl ?_
  refine g_X3_22 rfl dX3_failAt_1 (by exact hR.o) e5 ?_
  refine E_if_ne (tgt := 17) dX3_failAt_4 (by decide) (fun h4 => ?_) (fun h4 => ?_)
  · refine E_vret dX3_failAt_17 rfl ?_
    have hq : pE p ≠ 0 := by omega
    refine ⟨rfl, mI M, rfl, fun _ _ _ => rfl, s, f, t, e2, e3, e4, hv, fun z => ?_, ?_, fun _ => ?_⟩
    · exact absurd (by rw [he, if_neg hq] at z; exact z) hq
    · rw [he, if_neg hq]; exact e5
    · rw [hw, if_neg hq]; exact e6 hq
  · refine E_aload_n dX3_failAt_7 rfl ?_
    refine E_iload_n dX3_failAt_8 rfl ?_
    refine p_X3_22 rfl dX3_failAt_9 (by exact hR.o) ?_
    refine E_aload_n dX3_failAt_12 rfl ?_
    refine E_iload_n dX3_failAt_13 rfl ?_
    refine p_X3_25 rfl dX3_failAt_14 (by exact hR.o) ?_
    refine E_vret dX3_failAt_17 rfl ?_
    have hq : pE p = 0 := by omega
    refine ⟨rfl, _, rfl, fun b j hb => (mI_ne (by omega)).trans (mI_ne (by omega)), s, f, t, (mI_ne (by omega)).trans ((mI_ne (by omega)).trans e2), (mI_ne (by omega)).trans ((mI_ne (by omega)).trans e3), (mI_ne (by omega)).trans ((mI_ne (by omega)).trans e4), hv, fun z => ?_, ?_, fun _ => ?_⟩
    · exact absurd (by rw [he, if_pos hq] at z; exact z) hn
    · rw [he, if_pos hq]; exact (mI_ne (by omega)).trans mI_eq
    · rw [hw, if_pos hq]; exact mI_eq
set_option maxRecDepth 20000 in
set_option maxHeartbeats 3000000 in
theorem l_isNext {G : Ctx} {M : Mem} {a : Nat} (hR : RQ M a) {T : Int → Int} {N : Nat} (hT : TP (mI M) a T N) {i : Nat} (hs9 : i < 9) {f t : Nat} (hf : mI M a 3 = f) (hv : TVs T N 1 f t) (hl : t - f = sLen.getD i 0) {Q : Option MV → Mem → Prop} (K1 : (∀ j, j < sLen.getD i 0 → T ((f + j : Nat) : Int) = sCh i j) → Q (some (vI 1)) M) (K0 : ¬ (∀ j, j < sLen.getD i 0 → T ((f + j : Nat) : Int) = sCh i j) → Q (some (vI 0)) M) : ∀ (k r : Nat) , r + k = sLen.getD i 0 → (∀ j, j < r → T ((f + j : Nat) : Int) = sCh i j) → EV G m_X3_isNext 4 0 0 (Q) 35 [some (vR a), some (vR (2 + i)), some (vI (r : Int))] [] M := by
  intro k
  induction k with
  | zero =>
    intro r  hr hi
    have hrr : r = sLen.getD i 0 := by omega
    have h500 := hT.2.1
    have hl5 := sLen_b i hs9
    have htN := hv.2.1
    have hft := hv.1
    refine E_iload_n dX3_isNext_35 rfl ?_
    refine E_aload_n dX3_isNext_36 rfl ?_
    refine E_callK0 (i := i) hs9 qs_1 qs_2 dX3_isNext_37 k_J0_length_8abf5 qs_0 (c_slen hs9) (by omega) (Nat.le_of_ble_eq_true rfl) rfl rfl ?_
    rintro _ _ ⟨rfl, rfl⟩
    try dsimp only [pu]
    refine E_icmp_ge (tgt := 70) dX3_isNext_40 (by decide) (fun h40 => ?_) (fun h40 => ?_)
    · refine E_iconst dX3_isNext_70 (by decide) ?_
      refine E_zret dX3_isNext_71 rfl (by decide) ?_
      exact K1 (fun j hj => hi j (by omega))
    · exfalso; omega
  | succ k ih =>
    intro r  hr hi
    have h500 := hT.2.1
    have hl5 := sLen_b i hs9
    have htN := hv.2.1
    have hft := hv.1
    have hch := sCh_b i hs9 r (by omega)
    have hle := hv.let (j := f + r) (by omega) (by omega)
    have hz : mI M (a + 1) ((f : Int) + (r : Int)) = T ((f + r : Nat) : Int) := by
      have z := (hT.2.2 (f + r) (by omega)).1
      rw [sg_id (by omega)] at z
      rw [← z, Int.natCast_add]
    refine E_iload_n dX3_isNext_35 rfl ?_
    refine E_aload_n dX3_isNext_36 rfl ?_
    refine E_callK0 (i := i) hs9 qs_1 qs_2 dX3_isNext_37 k_J0_length_8abf5 qs_0 (c_slen hs9) (by omega) (Nat.le_of_ble_eq_true rfl) rfl rfl ?_
    rintro _ _ ⟨rfl, rfl⟩
    try dsimp only [pu]
    refine E_icmp_ge (tgt := 70) dX3_isNext_40 (by decide) (fun h40 => ?_) (fun h40 => ?_)
    · exfalso; omega
    · refine E_aload_n dX3_isNext_43 rfl ?_
      refine g_X3_11 rfl dX3_isNext_44 hR.o hR.tape ?_
      refine E_aload_n dX3_isNext_47 rfl ?_
      refine g_X3_50 rfl dX3_isNext_48 hR.o hf ?_
      refine E_iload_n dX3_isNext_51 rfl ?_
      refine E_iadd dX3_isNext_52 (by omega) (by omega) ?_
      refine E_bald dX3_isNext_53 hR.s_tape (by omega) (by omega) hz ?_
      refine E_aload_n dX3_isNext_54 rfl ?_
      refine E_iload_n dX3_isNext_55 rfl ?_
      refine E_callK1 (i := i) hs9 qs_8 qs_9 dX3_isNext_56 k_J0_charAt_5068e qs_7 (c_schar hs9 ⟨by omega, by omega⟩) (by omega) (Nat.le_of_ble_eq_true rfl) rfl rfl ?_
      rintro _ _ ⟨rfl, rfl⟩
      try dsimp only [pu]
      refine E_icmp_eq (tgt := 64) dX3_isNext_59 (by decide) (fun h59 => ?_) (fun h59 => ?_)
      · refine E_iinc dX3_isNext_64 rfl (by omega) (by omega) (by decide) rfl (by decide) ?_
        try dsimp only [List.set]
        refine E_goto (tgt := 35) dX3_isNext_67 (by decide) ?_
        exact EV.lq rfl (ih (r + 1) (by omega) (fun j hj => by
          by_cases e : j = r
          · rw [e]; rw [Int.toNat_natCast] at h59; exact h59
          · exact hi j (by omega)))
      · refine E_iconst dX3_isNext_62 (by decide) ?_
        refine E_zret dX3_isNext_63 rfl (by decide) ?_
        exact K0 (fun z => h59 (by rw [z r (by omega), Int.toNat_natCast]))
set_option maxRecDepth 20000 in
set_option maxHeartbeats 3000000 in
theorem c_isNext {G : Ctx} {M : Mem} {a : Nat} (hR : RQ M a) {T : Int → Int} {N : Nat} (hT : TP (mI M) a T N) {p : PT} (hC : CR T N (mI M) a p) {i : Nat} (hs9 : i < 9) : CT G m_X3_isNext 4 0 0 [vR a, vR (2 + i)] M (rI M (tB (decide (nmV T p = wV i)))) := by
  refine CT.of k_X3_isNext 1 (ls := [some (vR a), some (vR (2 + i)), none]) rfl (Nat.le_of_ble_eq_true rfl) ?_
  obtain ⟨s, f, t, e2, e3, e4, hv, hp, e5, e6⟩ := id hC
  have h500 := hT.2.1
  have htN := hv.2.1
  have hft := hv.1
  have hl5 := sLen_b i hs9
  refine E_aload_n dX3_isNext_0 rfl ?_
  refine g_X3_22 rfl dX3_isNext_1 hR.o e5 ?_
  refine E_if_ne (tgt := 31) dX3_isNext_4 (by decide) (fun h4 => ?_) (fun h4 => ?_)
  · refine E_iconst dX3_isNext_31 (by decide) ?_
    refine E_zret dX3_isNext_32 rfl (by decide) ?_
    have hw := CR.w hv hp hs9
    refine ⟨?_, rfl⟩
    congr 2; rw [decide_eq_false (fun z => ?_)]; · rfl
    have z := hw.mp z
    omega
  · refine E_aload_n dX3_isNext_7 rfl ?_
    refine g_X3_47 rfl dX3_isNext_8 hR.o e2 ?_
    refine E_iconst dX3_isNext_11 (by decide) ?_
    refine E_icmp_ne (tgt := 31) dX3_isNext_12 (by decide) (fun h12 => ?_) (fun h12 => ?_)
    · refine E_iconst dX3_isNext_31 (by decide) ?_
      refine E_zret dX3_isNext_32 rfl (by decide) ?_
      have hw := CR.w hv hp hs9
      refine ⟨?_, rfl⟩
      congr 2; rw [decide_eq_false (fun z => ?_)]; · rfl
      have z := hw.mp z
      omega
    · refine E_aload_n dX3_isNext_15 rfl ?_
      refine g_X3_28 rfl dX3_isNext_16 hR.o e4 ?_
      refine E_aload_n dX3_isNext_19 rfl ?_
      refine g_X3_50 rfl dX3_isNext_20 hR.o e3 ?_
      refine E_isub dX3_isNext_23 (by omega) (by omega) ?_
      refine E_aload_n dX3_isNext_24 rfl ?_
      refine E_callK0 (i := i) hs9 qs_1 qs_2 dX3_isNext_25 k_J0_length_8abf5 qs_0 (c_slen hs9) (by omega) (Nat.le_of_ble_eq_true rfl) rfl rfl ?_
      rintro _ _ ⟨rfl, rfl⟩
      try dsimp only [pu]
      refine E_icmp_eq (tgt := 33) dX3_isNext_28 (by decide) (fun h28 => ?_) (fun h28 => ?_)
      · refine E_iconst dX3_isNext_33 (by decide) ?_
        refine E_istore_n dX3_isNext_34 rfl (by decide) ?_
        try dsimp only [List.set]
        have hw := CR.w hv hp hs9
        have s1 : s = 1 := by omega
        subst s1
        refine l_isNext hR hT hs9 e3 hv (by omega) (fun z => ?_) (fun z => ?_) (sLen.getD i 0) 0 (by omega) (fun j hj => by omega)
        · exact ⟨by rw [decide_eq_true (hw.mpr ⟨by omega, rfl, by omega, z⟩)]; rfl, rfl⟩
        · exact ⟨by rw [decide_eq_false (fun y => z (hw.mp y).2.2.2)]; rfl, rfl⟩
      · refine E_iconst dX3_isNext_31 (by decide) ?_
        refine E_zret dX3_isNext_32 rfl (by decide) ?_
        have hw := CR.w hv hp hs9
        refine ⟨?_, rfl⟩
        congr 2; rw [decide_eq_false (fun z => ?_)]; · rfl
        have z := hw.mp z
        omega
set_option maxRecDepth 20000 in
set_option maxHeartbeats 3000000 in
theorem l_numTok {G : Ctx} {M : Mem} {a : Nat} (hR : RQ M a) {T : Int → Int} {N : Nat} (hT : TP (mI M) a T N) {f t : Nat} (hf : mI M a 3 = f) (ht : mI M a 4 = t) (hv : TVs T N 2 f t) (n : Nat) (hn : t = f + n) : ∀ (k r : Nat) , r + k = n → EV G m_X3_numberOfToken 0 0 0 (rI M (dg T f n)) 7 [some (vR a), some (vI (dg T f r)), some (vI ((f : Int) + (r : Int)))] [] M := by
  intro k
  induction k with
  | zero =>
    intro r  hr
    obtain rfl : r = n := by omega
    have h500 := hT.2.1
    have htN := hv.2.1
    have hft := hv.1
    refine E_iload_n dX3_numberOfToken_7 rfl ?_
    refine E_aload_n dX3_numberOfToken_8 rfl ?_
    refine g_X3_28 rfl dX3_numberOfToken_9 hR.o ht ?_
    refine E_icmp_ge (tgt := 36) dX3_numberOfToken_12 (by decide) (fun h12 => ?_) (fun h12 => ?_)
    · refine E_iload_n dX3_numberOfToken_36 rfl ?_
      refine E_iret dX3_numberOfToken_37 rfl ?_
      exact ⟨rfl, rfl⟩
    · exfalso; omega
  | succ k ih =>
    intro r  hr
    have h500 := hT.2.1
    have htN := hv.2.1
    have hft := hv.1
    have hd0 := fg_v hv r (by omega)
    have hd1 := fg_v hv (r + 1) (by omega)
    have hde : dg T f (r + 1) = 10 * dg T f r + T ((f + r : Nat) : Int) - 48 := rfl
    have hfg := hv.fig (j := f + r) (by omega) (by omega)
    have hz : mI M (a + 1) ((f : Int) + (r : Int)) = T ((f + r : Nat) : Int) := by
      have z := (hT.2.2 (f + r) (by omega)).1
      rw [sg_id (by omega)] at z
      rw [← z, Int.natCast_add]
    refine E_iload_n dX3_numberOfToken_7 rfl ?_
    refine E_aload_n dX3_numberOfToken_8 rfl ?_
    refine g_X3_28 rfl dX3_numberOfToken_9 hR.o ht ?_
    refine E_icmp_ge (tgt := 36) dX3_numberOfToken_12 (by decide) (fun h12 => ?_) (fun h12 => ?_)
    · exfalso; omega
    · refine E_iload_n dX3_numberOfToken_15 rfl ?_
      refine E_bipush dX3_numberOfToken_16 (by decide) ?_
      refine E_imul dX3_numberOfToken_18 (by omega) (by omega) ?_
      refine E_aload_n dX3_numberOfToken_19 rfl ?_
      refine g_X3_11 rfl dX3_numberOfToken_20 hR.o hR.tape ?_
      refine E_iload_n dX3_numberOfToken_23 rfl ?_
      refine E_bald dX3_numberOfToken_24 hR.s_tape (by omega) (by omega) hz ?_
      refine E_iadd dX3_numberOfToken_25 (by omega) (by omega) ?_
      refine E_bipush dX3_numberOfToken_26 (by decide) ?_
      refine E_isub dX3_numberOfToken_28 (by omega) (by omega) ?_
      refine E_istore_n dX3_numberOfToken_29 rfl (by decide) ?_
      try dsimp only [List.set]
      refine E_iinc dX3_numberOfToken_30 rfl (by omega) (by omega) (by decide) rfl (by decide) ?_
      try dsimp only [List.set]
      refine E_goto (tgt := 7) dX3_numberOfToken_33 (by decide) ?_
      exact EV.lq (by rw [hde, show dg T f r * 10 + T ((f + r : Nat) : Int) - 48 = 10 * dg T f r + T ((f + r : Nat) : Int) - 48 by omega, show (f : Int) + ((r + 1 : Nat) : Int) = (f : Int) + (r : Int) + 1 by omega]) (ih (r + 1) (by omega))
set_option maxRecDepth 20000 in
set_option maxHeartbeats 3000000 in
theorem c_numTok {G : Ctx} {M : Mem} {a : Nat} (hR : RQ M a) {T : Int → Int} {N : Nat} (hT : TP (mI M) a T N) {f t : Nat} (hf : mI M a 3 = f) (ht : mI M a 4 = t) (hv : TVs T N 2 f t) : CT G m_X3_numberOfToken 0 0 0 [vR a] M (rI M (dg T f (t - f))) := by
  refine CT.of k_X3_numberOfToken 2 (ls := [some (vR a), none, none]) rfl (Nat.le_of_ble_eq_true rfl) ?_
  refine E_iconst dX3_numberOfToken_0 (by decide) ?_
  refine E_istore_n dX3_numberOfToken_1 rfl (by decide) ?_
  try dsimp only [List.set]
  refine E_aload_n dX3_numberOfToken_2 rfl ?_
  refine g_X3_50 rfl dX3_numberOfToken_3 hR.o hf ?_
  refine E_istore_n dX3_numberOfToken_6 rfl (by decide) ?_
  try dsimp only [List.set]
  have hft := hv.1
  exact EV.lq (by rw [show ((f : Int) + ((0 : Nat) : Int)) = (f : Int) by omega]; rfl) (l_numTok hR hT hf ht hv (t - f) (by omega) (t - f) 0 (by omega))
theorem pU_1 {T : Int → Int} {N : Nat} {lo hi : Int} {p : PT} (h : pE p = 0 → pS p ≠ 2) : pN T N (pX 1 p) = pU T N lo hi p := by
  by_cases e : pE p = 0
  · unfold pU; rw [if_neg (h e)]
  · rw [pU_f e, pX_f e, pN_f e]
theorem pU_2 {T : Int → Int} {N : Nat} {lo hi : Int} {p : PT} (h : pE p = 0 → pS p = 2 ∧ ¬ (lo ≤ fgV T p ∧ fgV T p ≤ hi)) : pN T N (pX 2 p) = pU T N lo hi p := by
  by_cases e : pE p = 0
  · unfold pU; rw [if_pos (h e).1, if_neg (h e).2]
  · rw [pU_f e, pX_f e, pN_f e]
theorem pU_0 {T : Int → Int} {N : Nat} {lo hi : Int} {p : PT} (h : pE p = 0 → pS p = 2 ∧ (lo ≤ fgV T p ∧ fgV T p ≤ hi)) : pN T N p = pU T N lo hi p := by
  by_cases e : pE p = 0
  · unfold pU; rw [if_pos (h e).1, if_pos (h e).2]
  · rw [pU_f e, pN_f e]
theorem pG_1 {T : Int → Int} {N : Nat} {p : PT} (h : pE p = 0 → pS p ≠ 3) : pN T N (pX 1 p) = pG T N p := by
  by_cases e : pE p = 0
  · unfold pG; rw [if_neg (h e)]
  · rw [pG_f e, pX_f e, pN_f e]
theorem pG_0 {T : Int → Int} {N : Nat} {p : PT} (h : pE p = 0 → pS p = 3) : pN T N p = pG T N p := by
  by_cases e : pE p = 0
  · unfold pG; rw [if_pos (h e)]
  · rw [pG_f e, pN_f e]
theorem c_nextC {G : Ctx} {M : Mem} {a : Nat} (hR : RQ M a) {T : Int → Int} {N : Nat} (hT : TP (mI M) a T N) {p : PT} (hC : CR T N (mI M) a p) : CT G m_X3_nextToken 2 0 0 [vR a] M (rJ M (fun I => RA M a I ∧ CR T N I a (pN T N p))) := c_nextTok hR hT hC.e hC.t (fun _ => hC)
/-- what the word i and its room do -/
def pR (T : Int → Int) (N : Nat) (i : Nat) (b : Bool) (p : PT) : PT := pN T N (if nmV T p = wV i then (if b = true then p else pX 3 p) else pX 1 p)
set_option maxRecDepth 20000 in
set_option maxHeartbeats 3000000 in
theorem c_readNumber {G : Ctx} {M : Mem} {a : Nat} (hR : RQ M a) {T : Int → Int} {N : Nat} (hT : TP (mI M) a T N) {p : PT} (hC : CR T N (mI M) a p) {lo hi : Int} : CT G m_X3_readNumber 3 0 0 [vR a, vI lo, vI hi] M (fun x M' => ∃ v : Int, x = some (vI v) ∧ (pE p = 0 → v = fgV T p) ∧ (0 ≤ v ∧ v ≤ 999) ∧ ∃ I, M' = mJ M I ∧ RA M a I ∧ CR T N I a (pU T N lo hi p)) := by
  refine CT.of k_X3_readNumber 1 (ls := [some (vR a), some (vI lo), some (vI hi), none]) rfl (Nat.le_of_ble_eq_true rfl) ?_
  obtain ⟨s, f, t, e2, e3, e4, hv, hp, e5, e6⟩ := id hC
  have hft := hv.1
  refine E_aload_n dX3_readNumber_0 rfl ?_
  refine g_X3_47 rfl dX3_readNumber_1 hR.o e2 ?_
  refine E_iconst dX3_readNumber_4 (by decide) ?_
  refine E_icmp_ne (tgt := 15) dX3_readNumber_5 (by decide) (fun h5 => ?_) (fun h5 => ?_)
  · refine E_iconst dX3_readNumber_15 (by decide) ?_
    refine E_istore_n dX3_readNumber_16 rfl (by decide) ?_
    try dsimp only [List.set]
    refine E_aload_n dX3_readNumber_17 rfl ?_
    refine g_X3_47 rfl dX3_readNumber_18 hR.o e2 ?_
    refine E_iconst dX3_readNumber_21 (by decide) ?_
    refine E_icmp_eq (tgt := 37) dX3_readNumber_22 (by decide) (fun h22 => ?_) (fun h22 => ?_)
    · exfalso; omega
    · refine E_aload_n dX3_readNumber_25 rfl ?_
      refine E_aload_n dX3_readNumber_26 rfl ?_
      refine g_X3_50 rfl dX3_readNumber_27 hR.o e3 ?_
      refine E_iconst dX3_readNumber_30 (by decide) ?_
      refine i_X3_53 rfl dX3_readNumber_31 (by exact hR.o) (c_failAt hR hT hC (p2 := pX 1 p) (by decide) (pX_e) (pX_wf (fun z => (hp z).2.1))) (by omega) (Nat.le_of_ble_eq_true rfl) rfl rfl ?_
      rintro _ _ ⟨rfl, I, rfl, hA, hD⟩
      have hTI : TP (mI (mJ M I)) a T N := hA.tp hT
      try dsimp only [pu]
      refine E_goto (tgt := 55) dX3_readNumber_34 (by decide) ?_
      refine E_aload_n dX3_readNumber_55 rfl ?_
      refine i_X3_31 rfl dX3_readNumber_56 (by exact hR.o) (c_nextC (M := mJ M I) (by exact hR) hTI (p := pX 1 p) (by exact hD)) (by omega) (Nat.le_of_ble_eq_true rfl) rfl rfl ?_
      rintro _ _ ⟨rfl, J, rfl, hB, hF⟩
      try dsimp only [pu]
      refine E_iload_n dX3_readNumber_59 rfl ?_
      refine E_iret dX3_readNumber_60 rfl ?_
      have hfv : pE p = 0 → 0 = fgV T p := fun z => by
        unfold fgV; obtain ⟨q1, q2, q3⟩ := hp z
        rw [← q1, ← q2, ← q3]; rw [if_neg (by omega)]
      refine ⟨_, rfl, hfv, by omega, J, rfl, hA.tr hB, ?_⟩
      exact CR.q hF (pU_1 (fun z => by have := (hp z).1; omega))
  · have s2 : s = 2 := by omega
    have hv2 : TVs T N 2 f t := by rw [← s2]; exact hv
    have hdb := fg_v hv2 (t - f) (Nat.le_refl _)
    refine E_aload_n dX3_readNumber_8 rfl ?_
    refine i_X3_139 rfl dX3_readNumber_9 (by exact hR.o) (c_numTok hR hT e3 e4 hv2) (by omega) (Nat.le_of_ble_eq_true rfl) rfl rfl ?_
    rintro _ _ ⟨rfl, rfl⟩
    try dsimp only [pu]
    refine E_goto (tgt := 16) dX3_readNumber_12 (by decide) ?_
    refine E_istore_n dX3_readNumber_16 rfl (by decide) ?_
    try dsimp only [List.set]
    refine E_aload_n dX3_readNumber_17 rfl ?_
    refine g_X3_47 rfl dX3_readNumber_18 hR.o e2 ?_
    refine E_iconst dX3_readNumber_21 (by decide) ?_
    refine E_icmp_eq (tgt := 37) dX3_readNumber_22 (by decide) (fun h22 => ?_) (fun h22 => ?_)
    · refine E_iload_n dX3_readNumber_37 rfl ?_
      refine E_iload_n dX3_readNumber_38 rfl ?_
      refine E_iload_n dX3_readNumber_39 rfl ?_
      refine i_X3_142 rfl dX3_readNumber_40 c_isIn (by omega) (Nat.le_of_ble_eq_true rfl) rfl rfl ?_
      rintro _ _ ⟨rfl, rfl⟩
      try dsimp only [pu]
      refine E_if_ne (tgt := 55) dX3_readNumber_43 (by decide) (fun h43 => ?_) (fun h43 => ?_)
      · simp only [tB0, ne_eq, Bool.not_eq_false, Bool.not_eq_true, decide_eq_true_eq, decide_eq_false_iff_not, Classical.not_not] at h43
        refine E_aload_n dX3_readNumber_55 rfl ?_
        refine i_X3_31 rfl dX3_readNumber_56 (by exact hR.o) (c_nextC hR hT hC) (by omega) (Nat.le_of_ble_eq_true rfl) rfl rfl ?_
        rintro _ _ ⟨rfl, J, rfl, hB, hF⟩
        try dsimp only [pu]
        refine E_iload_n dX3_readNumber_59 rfl ?_
        refine E_iret dX3_readNumber_60 rfl ?_
        have hfv : pE p = 0 → dg T f (t - f) = fgV T p := fun z => by
          unfold fgV; obtain ⟨q1, q2, q3⟩ := hp z
          rw [← q1, ← q2, ← q3]; rw [if_pos (by omega)]
        refine ⟨_, rfl, hfv, hdb, J, rfl, hB, ?_⟩
        exact CR.q hF (pU_0 (fun z => ⟨by have := (hp z).1; omega, by rw [← hfv z]; exact h43⟩))
      · simp only [tB0, ne_eq, Bool.not_eq_false, Bool.not_eq_true, decide_eq_true_eq, decide_eq_false_iff_not, Classical.not_not] at h43
        refine E_aload_n dX3_readNumber_46 rfl ?_
        refine E_aload_n dX3_readNumber_47 rfl ?_
        refine g_X3_50 rfl dX3_readNumber_48 hR.o e3 ?_
        refine E_iconst dX3_readNumber_51 (by decide) ?_
        refine i_X3_53 rfl dX3_readNumber_52 (by exact hR.o) (c_failAt hR hT hC (p2 := pX 2 p) (by decide) (pX_e) (pX_wf (fun z => (hp z).2.1))) (by omega) (Nat.le_of_ble_eq_true rfl) rfl rfl ?_
        rintro _ _ ⟨rfl, I, rfl, hA, hD⟩
        have hTI : TP (mI (mJ M I)) a T N := hA.tp hT
        try dsimp only [pu]
        refine E_aload_n dX3_readNumber_55 rfl ?_
        refine i_X3_31 rfl dX3_readNumber_56 (by exact hR.o) (c_nextC (M := mJ M I) (by exact hR) hTI (p := pX 2 p) (by exact hD)) (by omega) (Nat.le_of_ble_eq_true rfl) rfl rfl ?_
        rintro _ _ ⟨rfl, J, rfl, hB, hF⟩
        try dsimp only [pu]
        refine E_iload_n dX3_readNumber_59 rfl ?_
        refine E_iret dX3_readNumber_60 rfl ?_
        have hfv : pE p = 0 → dg T f (t - f) = fgV T p := fun z => by
          unfold fgV; obtain ⟨q1, q2, q3⟩ := hp z
          rw [← q1, ← q2, ← q3]; rw [if_pos (by omega)]
        refine ⟨_, rfl, hfv, hdb, J, rfl, hA.tr hB, ?_⟩
        exact CR.q hF (pU_2 (fun z => ⟨by have := (hp z).1; omega, by rw [← hfv z]; exact h43⟩))
    · exfalso; omega
set_option maxRecDepth 20000 in
set_option maxHeartbeats 3000000 in
theorem c_readSign {G : Ctx} {M : Mem} {a : Nat} (hR : RQ M a) {T : Int → Int} {N : Nat} (hT : TP (mI M) a T N) {p : PT} (hC : CR T N (mI M) a p) : CT G m_X3_readSign 3 0 0 [vR a] M (rJ M (fun I => RA M a I ∧ CR T N I a (pG T N p))) := by
  refine CT.of k_X3_readSign 0 (ls := [some (vR a)]) rfl (Nat.le_of_ble_eq_true rfl) ?_
  obtain ⟨s, f, t, e2, e3, e4, hv, hp, e5, e6⟩ := id hC
  refine E_aload_n dX3_readSign_0 rfl ?_
  refine g_X3_47 rfl dX3_readSign_1 hR.o e2 ?_
  refine E_iconst dX3_readSign_4 (by decide) ?_
  refine E_icmp_eq (tgt := 17) dX3_readSign_5 (by decide) (fun h5 => ?_) (fun h5 => ?_)
  · refine E_aload_n dX3_readSign_17 rfl ?_
    refine i_X3_31 rfl dX3_readSign_18 (by exact hR.o) (c_nextC hR hT hC) (by omega) (Nat.le_of_ble_eq_true rfl) rfl rfl ?_
    rintro _ _ ⟨rfl, J, rfl, hB, hF⟩
    try dsimp only [pu]
    refine E_vret dX3_readSign_21 rfl ?_
    exact ⟨rfl, J, rfl, hB, CR.q hF (pG_0 (fun z => by have := (hp z).1; omega))⟩
  · refine E_aload_n dX3_readSign_8 rfl ?_
    refine E_aload_n dX3_readSign_9 rfl ?_
    refine g_X3_50 rfl dX3_readSign_10 hR.o e3 ?_
    refine E_iconst dX3_readSign_13 (by decide) ?_
    refine i_X3_53 rfl dX3_readSign_14 (by exact hR.o) (c_failAt hR hT hC (p2 := pX 1 p) (by decide) (pX_e) (pX_wf (fun z => (hp z).2.1))) (by omega) (Nat.le_of_ble_eq_true rfl) rfl rfl ?_
    rintro _ _ ⟨rfl, I, rfl, hA, hD⟩
    have hTI : TP (mI (mJ M I)) a T N := hA.tp hT
    try dsimp only [pu]
    refine E_aload_n dX3_readSign_17 rfl ?_
    refine i_X3_31 rfl dX3_readSign_18 (by exact hR.o) (c_nextC (M := mJ M I) (by exact hR) hTI (p := pX 1 p) (by exact hD)) (by omega) (Nat.le_of_ble_eq_true rfl) rfl rfl ?_
    rintro _ _ ⟨rfl, J, rfl, hB, hF⟩
    try dsimp only [pu]
    refine E_vret dX3_readSign_21 rfl ?_
    exact ⟨rfl, J, rfl, hA.tr hB, CR.q hF (pG_1 (fun z => by have := (hp z).1; omega))⟩
set_option maxRecDepth 20000 in
set_option maxHeartbeats 3000000 in
theorem c_readWord {G : Ctx} {M : Mem} {a : Nat} (hR : RQ M a) {T : Int → Int} {N : Nat} (hT : TP (mI M) a T N) {p : PT} (hC : CR T N (mI M) a p) {i : Nat} (hs9 : i < 9) (b : Bool) : CT G m_X3_readWord 5 0 0 [vR a, vR (2 + i), vI (tB b)] M (rJ M (fun I => RA M a I ∧ CR T N I a (pR T N i b p))) := by
  refine CT.of k_X3_readWord 0 (ls := [some (vR a), some (vR (2 + i)), some (vI (tB b))]) rfl (Nat.le_of_ble_eq_true rfl) ?_
  obtain ⟨s, f, t, e2, e3, e4, hv, hp, e5, e6⟩ := id hC
  refine E_aload_n dX3_readWord_0 rfl ?_
  refine E_aload_n dX3_readWord_1 rfl ?_
  refine i_X3_81 rfl dX3_readWord_2 (by exact hR.o) (c_isNext hR hT hC hs9) (by omega) (Nat.le_of_ble_eq_true rfl) rfl rfl ?_
  rintro _ _ ⟨rfl, rfl⟩
  try dsimp only [pu]
  refine E_if_ne (tgt := 20) dX3_readWord_5 (by decide) (fun h5 => ?_) (fun h5 => ?_)
  · simp only [tB0, ne_eq, Bool.not_eq_false, Bool.not_eq_true, decide_eq_true_eq, decide_eq_false_iff_not, Classical.not_not] at h5
    refine E_iload_n dX3_readWord_20 rfl ?_
    refine E_if_ne (tgt := 33) dX3_readWord_21 (by decide) (fun h21 => ?_) (fun h21 => ?_)
    · simp only [tB0, ne_eq, Bool.not_eq_false, Bool.not_eq_true, decide_eq_true_eq, decide_eq_false_iff_not, Classical.not_not] at h21
      refine E_aload_n dX3_readWord_33 rfl ?_
      refine i_X3_31 rfl dX3_readWord_34 (by exact hR.o) (c_nextC hR hT hC) (by omega) (Nat.le_of_ble_eq_true rfl) rfl rfl ?_
      rintro _ _ ⟨rfl, J, rfl, hB, hF⟩
      try dsimp only [pu]
      refine E_vret dX3_readWord_37 rfl ?_
      exact ⟨rfl, J, rfl, hB, CR.q hF (by unfold pR; rw [if_pos h5, if_pos h21])⟩
    · simp only [tB0, ne_eq, Bool.not_eq_false, Bool.not_eq_true, decide_eq_true_eq, decide_eq_false_iff_not, Classical.not_not] at h21
      refine E_aload_n dX3_readWord_24 rfl ?_
      refine E_aload_n dX3_readWord_25 rfl ?_
      refine g_X3_50 rfl dX3_readWord_26 hR.o e3 ?_
      refine E_iconst dX3_readWord_29 (by decide) ?_
      refine i_X3_53 rfl dX3_readWord_30 (by exact hR.o) (c_failAt hR hT hC (p2 := pX 3 p) (by decide) (pX_e) (pX_wf (fun z => (hp z).2.1))) (by omega) (Nat.le_of_ble_eq_true rfl) rfl rfl ?_
      rintro _ _ ⟨rfl, I, rfl, hA, hD⟩
      have hTI : TP (mI (mJ M I)) a T N := hA.tp hT
      try dsimp only [pu]
      refine E_aload_n dX3_readWord_33 rfl ?_
      refine i_X3_31 rfl dX3_readWord_34 (by exact hR.o) (c_nextC (M := mJ M I) (by exact hR) hTI (p := pX 3 p) (by exact hD)) (by omega) (Nat.le_of_ble_eq_true rfl) rfl rfl ?_
      rintro _ _ ⟨rfl, J, rfl, hB, hF⟩
      try dsimp only [pu]
      refine E_vret dX3_readWord_37 rfl ?_
      exact ⟨rfl, J, rfl, hA.tr hB, CR.q hF (by unfold pR; rw [if_pos h5, if_neg (by rw [h21]; decide)])⟩
  · simp only [tB0, ne_eq, Bool.not_eq_false, Bool.not_eq_true, decide_eq_true_eq, decide_eq_false_iff_not, Classical.not_not] at h5
    refine E_aload_n dX3_readWord_8 rfl ?_
    refine E_aload_n dX3_readWord_9 rfl ?_
    refine g_X3_50 rfl dX3_readWord_10 hR.o e3 ?_
    refine E_iconst dX3_readWord_13 (by decide) ?_
    refine i_X3_53 rfl dX3_readWord_14 (by exact hR.o) (c_failAt hR hT hC (p2 := pX 1 p) (by decide) (pX_e) (pX_wf (fun z => (hp z).2.1))) (by omega) (Nat.le_of_ble_eq_true rfl) rfl rfl ?_
    rintro _ _ ⟨rfl, I, rfl, hA, hD⟩
    have hTI : TP (mI (mJ M I)) a T N := hA.tp hT
    try dsimp only [pu]
    refine E_goto (tgt := 33) dX3_readWord_17 (by decide) ?_
    refine E_aload_n dX3_readWord_33 rfl ?_
    refine i_X3_31 rfl dX3_readWord_34 (by exact hR.o) (c_nextC (M := mJ M I) (by exact hR) hTI (p := pX 1 p) (by exact hD)) (by omega) (Nat.le_of_ble_eq_true rfl) rfl rfl ?_
    rintro _ _ ⟨rfl, J, rfl, hB, hF⟩
    try dsimp only [pu]
    refine E_vret dX3_readWord_37 rfl ?_
    exact ⟨rfl, J, rfl, hA.tr hB, CR.q hF (by unfold pR; rw [if_neg h5])⟩
set_option maxRecDepth 20000 in
set_option maxHeartbeats 3000000 in
theorem c_sortOf {G : Ctx} {M : Mem} {k : Nat} (hk : 1 ≤ k ∧ k ≤ 5) : CT G m_X3_sortOf 0 0 0 [vI (k : Int)] M (fun r M' => r = some (vR (2 + (3 + k))) ∧ M = M') := by
  refine CT.of k_X3_sortOf 0 (ls := [some (vI (k : Int))]) rfl (Nat.le_of_ble_eq_true rfl) ?_
  refine E_iload_n dX3_sortOf_0 rfl ?_
  by_cases q1_1 : (k : Int) = 1
  · refine E_tabIn (off := 31) (tgt := 32) dX3_sortOf_1 (by omega) (by omega) (by rw [q1_1]; rfl) (by decide) ?_
    refine E_ldcS (i := 4) dX3_sortOf_32 rfl rfl rfl ?_
    refine E_aret dX3_sortOf_34 rfl (Or.inl ⟨_, rfl⟩) ?_
    obtain rfl : k = 1 := by omega
    exact ⟨rfl, rfl⟩
  by_cases q1_2 : (k : Int) = 2
  · refine E_tabIn (off := 34) (tgt := 35) dX3_sortOf_1 (by omega) (by omega) (by rw [q1_2]; rfl) (by decide) ?_
    refine E_ldcS (i := 5) dX3_sortOf_35 rfl rfl rfl ?_
    refine E_aret dX3_sortOf_37 rfl (Or.inl ⟨_, rfl⟩) ?_
    obtain rfl : k = 2 := by omega
    exact ⟨rfl, rfl⟩
  by_cases q1_3 : (k : Int) = 3
  · refine E_tabIn (off := 37) (tgt := 38) dX3_sortOf_1 (by omega) (by omega) (by rw [q1_3]; rfl) (by decide) ?_
    refine E_ldcS (i := 6) dX3_sortOf_38 rfl rfl rfl ?_
    refine E_aret dX3_sortOf_40 rfl (Or.inl ⟨_, rfl⟩) ?_
    obtain rfl : k = 3 := by omega
    exact ⟨rfl, rfl⟩
  by_cases q1_4 : (k : Int) = 4
  · refine E_tabIn (off := 40) (tgt := 41) dX3_sortOf_1 (by omega) (by omega) (by rw [q1_4]; rfl) (by decide) ?_
    refine E_ldcS (i := 7) dX3_sortOf_41 rfl rfl rfl ?_
    refine E_aret dX3_sortOf_43 rfl (Or.inl ⟨_, rfl⟩) ?_
    obtain rfl : k = 4 := by omega
    exact ⟨rfl, rfl⟩
  refine E_tabOut (tgt := 44) dX3_sortOf_1 (by omega) (by decide) ?_
  refine E_ldcS (i := 8) dX3_sortOf_44 rfl rfl rfl ?_
  refine E_aret dX3_sortOf_46 rfl (Or.inl ⟨_, rfl⟩) ?_
  obtain rfl : k = 5 := by omega
  exact ⟨rfl, rfl⟩
/-- the kind that stands here -/
def kdV (T : Int → Int) (p : PT) : Int := if nmV T p = wV 4 then 1 else if nmV T p = wV 5 then 2 else if nmV T p = wV 6 then 3 else if nmV T p = wV 7 then 4 else if nmV T p = wV 8 then 5 else -1000000
def pK (T : Int → Int) (N : Nat) (p : PT) : PT := pN T N (if kdV T p ≠ -1000000 then p else pX 1 p)
theorem wV_ne : ∀ i, i < 9 → ∀ j, j < 9 → i ≠ j → wV i ≠ wV j := by decide +kernel
theorem kdV_is {T : Int → Int} {p : PT} {k : Nat} (hk : 1 ≤ k ∧ k ≤ 5) (h : nmV T p = wV (3 + k)) : kdV T p = (k : Int) := by
  have hn : ∀ j, j < 9 → j ≠ 3 + k → nmV T p ≠ wV j := fun j hj hne z => wV_ne (3 + k) (by omega) j hj (Ne.symm hne) (h.symm.trans z)
  unfold kdV
  rcases (by omega : k = 1 ∨ k = 2 ∨ k = 3 ∨ k = 4 ∨ k = 5) with rfl | rfl | rfl | rfl | rfl
  · rw [if_pos h]; rfl
  · rw [if_neg (hn 4 (by omega) (by omega)), if_pos h]; rfl
  · rw [if_neg (hn 4 (by omega) (by omega)), if_neg (hn 5 (by omega) (by omega)), if_pos h]; rfl
  · rw [if_neg (hn 4 (by omega) (by omega)), if_neg (hn 5 (by omega) (by omega)), if_neg (hn 6 (by omega) (by omega)), if_pos h]; rfl
  · rw [if_neg (hn 4 (by omega) (by omega)), if_neg (hn 5 (by omega) (by omega)), if_neg (hn 6 (by omega) (by omega)), if_neg (hn 7 (by omega) (by omega)), if_pos h]; rfl
theorem kdV_no {T : Int → Int} {p : PT} (h : ∀ k, 1 ≤ k → k ≤ 5 → nmV T p ≠ wV (3 + k)) : kdV T p = -1000000 := by
  unfold kdV
  rw [if_neg (h 1 (by omega) (by omega)), if_neg (h 2 (by omega) (by omega)), if_neg (h 3 (by omega) (by omega)), if_neg (h 4 (by omega) (by omega)), if_neg (h 5 (by omega) (by omega))]
set_option maxRecDepth 20000 in
set_option maxHeartbeats 3000000 in
theorem l_readKind {G : Ctx} {M : Mem} {a : Nat} (hR : RQ M a) {T : Int → Int} {N : Nat} (hT : TP (mI M) a T N) {p : PT} (hC : CR T N (mI M) a p) : ∀ (k r : Nat) , r + k = 5 → (∀ j, j < r → nmV T p ≠ wV (3 + (j + 1))) → EV G m_X3_readKind 5 0 0 (fun x M' => ∃ v : Int, x = some (vI v) ∧ (pE (pK T N p) = 0 → v = kdV T p) ∧ ∃ I, M' = mJ M I ∧ RA M a I ∧ CR T N I a (pK T N p)) 2 [some (vR a), some (vI ((r : Int) + 1))] [] M := by
  intro k
  induction k with
  | zero =>
    intro r  hr hi
    obtain rfl : r = 5 := by omega
    obtain ⟨s, f, t, e2, e3, e4, hv, hp, e5, e6⟩ := id hC
    refine E_iload_n dX3_readKind_2 rfl ?_
    refine E_iconst dX3_readKind_3 (by decide) ?_
    refine E_icmp_gt (tgt := 30) dX3_readKind_4 (by decide) (fun h4 => ?_) (fun h4 => ?_)
    · refine E_aload_n dX3_readKind_30 rfl ?_
      refine E_aload_n dX3_readKind_31 rfl ?_
      refine g_X3_50 rfl dX3_readKind_32 hR.o e3 ?_
      refine E_iconst dX3_readKind_35 (by decide) ?_
      refine i_X3_53 rfl dX3_readKind_36 (by exact hR.o) (c_failAt hR hT hC (p2 := pX 1 p) (by decide) (pX_e) (pX_wf (fun z => (hp z).2.1))) (by omega) (Nat.le_of_ble_eq_true rfl) rfl rfl ?_
      rintro _ _ ⟨rfl, I, rfl, hA, hD⟩
      have hTI : TP (mI (mJ M I)) a T N := hA.tp hT
      try dsimp only [pu]
      refine E_iconst dX3_readKind_39 (by decide) ?_
      refine E_iret dX3_readKind_40 rfl ?_
      have hk : kdV T p = -1000000 := kdV_no (fun k k0 k1 => by
        have z := hi (k - 1) (by omega)
        rw [show k - 1 + 1 = k by omega] at z; exact z)
      have e : pX 1 p = pK T N p := by
        unfold pK; rw [if_neg (fun z => z hk)]
        rw [pN_f]
        rw [pX_e]; split
        · decide
        · assumption
      have ee : pE (pK T N p) ≠ 0 := by
        rw [← e, pX_e]; split
        · decide
        · assumption
      exact ⟨_, rfl, fun z => absurd z ee, I, rfl, hA, CR.q hD e⟩
    · exfalso; omega
  | succ k ih =>
    intro r  hr hi
    obtain ⟨s, f, t, e2, e3, e4, hv, hp, e5, e6⟩ := id hC
    refine E_iload_n dX3_readKind_2 rfl ?_
    refine E_iconst dX3_readKind_3 (by decide) ?_
    refine E_icmp_gt (tgt := 30) dX3_readKind_4 (by decide) (fun h4 => ?_) (fun h4 => ?_)
    · exfalso; omega
    · refine E_aload_n dX3_readKind_7 rfl ?_
      refine E_iload_n dX3_readKind_8 rfl ?_
      refine i_X3_125 rfl dX3_readKind_9 (c_sortOf (k := r + 1) ⟨by omega, by omega⟩) (by omega) (Nat.le_of_ble_eq_true rfl) rfl rfl ?_
      rintro _ _ ⟨rfl, rfl⟩
      try dsimp only [pu]
      refine i_X3_81 rfl dX3_readKind_12 (by exact hR.o) (c_isNext hR hT hC (i := 3 + (r + 1)) (by omega)) (by omega) (Nat.le_of_ble_eq_true rfl) rfl rfl ?_
      rintro _ _ ⟨rfl, rfl⟩
      try dsimp only [pu]
      refine E_if_eq (tgt := 24) dX3_readKind_15 (by decide) (fun h15 => ?_) (fun h15 => ?_)
      · simp only [tB0, ne_eq, Bool.not_eq_false, Bool.not_eq_true, decide_eq_true_eq, decide_eq_false_iff_not, Classical.not_not] at h15
        refine E_iinc dX3_readKind_24 rfl (by omega) (by omega) (by decide) rfl (by decide) ?_
        try dsimp only [List.set]
        refine E_goto (tgt := 2) dX3_readKind_27 (by decide) ?_
        exact EV.lq (by rw [show ((r + 1 : Nat) : Int) + 1 = (r : Int) + 1 + 1 by omega]) (ih (r + 1) (by omega) (fun j hj => by
          by_cases e : j = r
          · rw [e]; exact h15
          · exact hi j (by omega)))
      · simp only [tB0, ne_eq, Bool.not_eq_false, Bool.not_eq_true, decide_eq_true_eq, decide_eq_false_iff_not, Classical.not_not] at h15
        refine E_aload_n dX3_readKind_18 rfl ?_
        refine i_X3_31 rfl dX3_readKind_19 (by exact hR.o) (c_nextC hR hT hC) (by omega) (Nat.le_of_ble_eq_true rfl) rfl rfl ?_
        rintro _ _ ⟨rfl, J, rfl, hB, hF⟩
        try dsimp only [pu]
        refine E_iload_n dX3_readKind_22 rfl ?_
        refine E_iret dX3_readKind_23 rfl ?_
        have hk := kdV_is (T := T) (p := p) (k := r + 1) ⟨by omega, by omega⟩ h15
        have e : pN T N p = pK T N p := by unfold pK; rw [if_pos (by omega)]
        exact ⟨_, rfl, fun _ => by rw [hk]; omega, J, rfl, hB, CR.q hF e⟩
set_option maxRecDepth 20000 in
set_option maxHeartbeats 3000000 in
theorem c_readKind {G : Ctx} {M : Mem} {a : Nat} (hR : RQ M a) {T : Int → Int} {N : Nat} (hT : TP (mI M) a T N) {p : PT} (hC : CR T N (mI M) a p) : CT G m_X3_readKind 5 0 0 [vR a] M (fun x M' => ∃ v : Int, x = some (vI v) ∧ (pE (pK T N p) = 0 → v = kdV T p) ∧ ∃ I, M' = mJ M I ∧ RA M a I ∧ CR T N I a (pK T N p)) := by
  refine CT.of k_X3_readKind 1 (ls := [some (vR a), none]) rfl (Nat.le_of_ble_eq_true rfl) ?_
  refine E_iconst dX3_readKind_0 (by decide) ?_
  refine E_istore_n dX3_readKind_1 rfl (by decide) ?_
  try dsimp only [List.set]
  exact EV.lq rfl (l_readKind hR hT hC 5 0 (by omega) (fun j hj => by omega))
