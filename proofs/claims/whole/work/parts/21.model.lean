/-! ===== 21: the reference: sun, hanging ===== -/
theorem fBar_sh {cd : CD} (hW : WFc cd) (hu : Int → Int) (l : Int) (sh : Bool) : ∀ n : Nat, (n : Int) ≤ cd 2 → fBar cd hu l sh n = (fBar cd hu l false n || (sh && decide (0 < fY cd hu l n)))
  | 0, _ => by simp [fBar, fY]
  | n + 1, hn => by
    have ih := fBar_sh hW hu l sh n (by omega)
    have y := hW.ya (p := n) (by omega) (by omega)
    have b := fY_b hW hu l n (by omega)
    simp only [fBar, fY, ih]
    cases sh
    · simp
    · by_cases h : hu n = l
      · have e : decide (0 < fY cd hu l n + cd (87 + 6 * n)) = true := decide_eq_true (by omega)
        simp [h, e]
      · simp [h]
def fLeft (cd : CD) (hu : Int → Int) (p l : Int) (n : Nat) : Int := if cd (84 + 6 * p) = 4 then 0 else cd (30 + 3 * l) - fY cd hu l n - cd (87 + 6 * p)
theorem fRoom_iff {cd : CD} (hW : WFc cd) (hu : Int → Int) (p l : Int) (n : Nat) (hn : (n : Int) ≤ cd 2) : fRoom cd hu p l n = true ↔ ¬ (cd (30 + 3 * l) - fY cd hu l n - cd (87 + 6 * p) < 0 ∨ fBar cd hu l false n = true ∨ (cd (84 + 6 * p) = 4 ∧ 0 < fY cd hu l n)) := by
  unfold fRoom
  rw [fBar_sh hW hu l _ n hn]
  cases fBar cd hu l false n
  · simp only [Bool.false_or, Bool.and_eq_true, Bool.not_eq_true', Bool.and_eq_false_iff, decide_eq_false_iff_not, decide_eq_true_eq, Bool.false_eq_true, false_or]
    omega
  · simp
set_option maxRecDepth 20000 in
set_option maxHeartbeats 1600000 in
theorem c_mHasSun {G : Ctx} {M : Mem} {m : Nat} {cd : CD} (hO : MO M m) (hQ : MC (mI M) m cd) (hW : WFc cd) {l h : Int} (l0 : 0 ≤ l) (l1 : l < cd 0) (h0 : 0 ≤ h) (h1 : h ≤ 9) {q : Int} (q0 : 0 ≤ q) (q1 : q ≤ 1000000) : CT G m_X12_hasSun 1 0 0 [vR m, vI l, vI q, vI h] M (rI M (tB (fSun cd l (Int.tmod q 24) h))) := by
  refine CT.of k_X12_hasSun 0 (ls := [some (vR m), some (vI l), some (vI q), some (vI h)]) rfl (Nat.le_of_ble_eq_true rfl) ?_
  have hpn := hW.pn
  have hl8 := hW.ln
  have hr8 := hW.rn
  have hq := tmod24 q0
  have hqd : 0 ≤ Int.tdiv q 24 ∧ Int.tdiv q 24 ≤ 1000000 := by rw [Int.tdiv_eq_ediv_of_nonneg q0]; omega
  have hdy := hW.day hq.1 hq.2
  have htd := tdiv10 hdy.1 hdy.2
  have htm := tmod10 hdy.1 hdy.2
  refine E_aload_n dX12_hasSun_0 rfl ?_
  refine E_iload_n dX12_hasSun_1 rfl ?_
  refine i_X12_196 rfl dX12_hasSun_2 (by exact hO.o) (c_floor hO hQ (by omega)) (by omega) (Nat.le_of_ble_eq_true rfl) rfl rfl ?_
  rintro _ _ ⟨rfl, rfl⟩
  try dsimp only [pu]
  refine E_aload_n dX12_hasSun_5 rfl ?_
  refine g_X12_19 rfl dX12_hasSun_6 hO.o hO.court ?_
  refine E_iconst dX12_hasSun_9 (by decide) ?_
  refine E_iload_n dX12_hasSun_10 rfl ?_
  refine E_bipush dX12_hasSun_11 (by decide) ?_
  refine E_irem dX12_hasSun_13 (by omega) (by omega) (by omega) ?_
  refine E_iadd dX12_hasSun_14 (by omega) (by omega) ?_
  refine E_iald dX12_hasSun_15 hO.s_court (by omega) (by omega) (hQ.at (j := 4 + Int.tmod q 24) (by omega) (by omega) (by omega)) ?_
  refine E_bipush dX12_hasSun_16 (by decide) ?_
  refine E_idiv dX12_hasSun_18 (by omega) (by omega) (by omega) ?_
  refine E_iload_n dX12_hasSun_19 rfl ?_
  refine E_iadd dX12_hasSun_20 (by omega) (by omega) ?_
  refine E_icmp_lt (tgt := 28) dX12_hasSun_21 (by decide) (fun h21 => ?_) (fun h21 => ?_)
  · refine E_iconst dX12_hasSun_28 (by decide) ?_
    refine E_zret dX12_hasSun_29 rfl (by decide) ?_
    refine ⟨?_, rfl⟩
    congr 2; unfold fSun; first | (rw [decide_eq_true (by omega)]; rfl) | (rw [decide_eq_false (by omega)]; rfl)
  · refine E_iconst dX12_hasSun_24 (by decide) ?_
    refine E_goto (tgt := 29) dX12_hasSun_25 (by decide) ?_
    refine E_zret dX12_hasSun_29 rfl (by decide) ?_
    refine ⟨?_, rfl⟩
    congr 2; unfold fSun; first | (rw [decide_eq_true (by omega)]; rfl) | (rw [decide_eq_false (by omega)]; rfl)
theorem tmod_lt {q : Int} (h0 : 0 ≤ q) (h1 : q < 24) : Int.tmod q 24 = q := by
  rw [Int.tmod_eq_emod_of_nonneg h0]; omega
set_option maxRecDepth 20000 in
set_option maxHeartbeats 1600000 in
theorem l_sunsOf {G : Ctx} {M : Mem} {m : Nat} {cd : CD} (hO : MO M m) (hQ : MC (mI M) m cd) (hW : WFc cd) {l f t h : Int} (l0 : 0 ≤ l) (l1 : l < cd 0) (f0 : 0 ≤ f) (n : Nat) (hn : f + n = t + 1) (t1 : t < 24) (h0 : 0 ≤ h) (h1 : h ≤ 9) : ∀ (k r : Nat) , r + k = n → EV G m_X12_sunsOf 2 0 0 (rI M (fSunN cd l f h n)) 6 [some (vR m), some (vI l), some (vI f), some (vI t), some (vI h), some (vI (fSunN cd l f h r)), some (vI (f + r))] [] M := by
  intro k
  induction k with
  | zero =>
    intro r  hr
    obtain rfl : r = n := by omega
    refine E_iload dX12_sunsOf_6 rfl ?_
    refine E_iload_n dX12_sunsOf_8 rfl ?_
    refine E_icmp_gt (tgt := 40) dX12_sunsOf_9 (by decide) (fun h9 => ?_) (fun h9 => ?_)
    · refine E_iload dX12_sunsOf_40 rfl ?_
      refine E_iret dX12_sunsOf_42 rfl ?_
      exact ⟨rfl, rfl⟩
    · exfalso; omega
  | succ k ih =>
    intro r  hr
    have hb := fSunN_b cd l f h r
    refine E_iload dX12_sunsOf_6 rfl ?_
    refine E_iload_n dX12_sunsOf_8 rfl ?_
    refine E_icmp_gt (tgt := 40) dX12_sunsOf_9 (by decide) (fun h9 => ?_) (fun h9 => ?_)
    · exfalso; omega
    · refine E_iload dX12_sunsOf_12 rfl ?_
      refine E_aload_n dX12_sunsOf_14 rfl ?_
      refine E_iload_n dX12_sunsOf_15 rfl ?_
      refine E_iload dX12_sunsOf_16 rfl ?_
      refine E_iload dX12_sunsOf_18 rfl ?_
      refine i_X12_230 rfl dX12_sunsOf_20 (by exact hO.o) (c_mHasSun hO hQ hW l0 l1 h0 h1 (by omega) (by omega)) (by omega) (Nat.le_of_ble_eq_true rfl) rfl rfl ?_
      rintro _ _ ⟨rfl, rfl⟩
      try dsimp only [pu]
      refine E_if_eq (tgt := 30) dX12_sunsOf_23 (by decide) (fun h23 => ?_) (fun h23 => ?_)
      · simp only [tB0, ne_eq, Bool.not_eq_false, Bool.not_eq_true, decide_eq_true_eq, decide_eq_false_iff_not, Classical.not_not] at h23
        refine E_iconst dX12_sunsOf_30 (by decide) ?_
        refine E_iadd dX12_sunsOf_31 (by omega) (by omega) ?_
        refine E_istore dX12_sunsOf_32 rfl (by decide) ?_
        try dsimp only [List.set]
        refine E_iinc dX12_sunsOf_34 rfl (by omega) (by omega) (by decide) rfl (by decide) ?_
        try dsimp only [List.set]
        refine E_goto (tgt := 6) dX12_sunsOf_37 (by decide) ?_
        rw [tmod_lt (by omega) (by omega)] at h23
        exact EV.lq (by simp [fSunN, h23, tB, Int.add_assoc]) (ih (r + 1) (by omega))
      · simp only [tB0, ne_eq, Bool.not_eq_false, Bool.not_eq_true, decide_eq_true_eq, decide_eq_false_iff_not, Classical.not_not] at h23
        refine E_iconst dX12_sunsOf_26 (by decide) ?_
        refine E_goto (tgt := 31) dX12_sunsOf_27 (by decide) ?_
        refine E_iadd dX12_sunsOf_31 (by omega) (by omega) ?_
        refine E_istore dX12_sunsOf_32 rfl (by decide) ?_
        try dsimp only [List.set]
        refine E_iinc dX12_sunsOf_34 rfl (by omega) (by omega) (by decide) rfl (by decide) ?_
        try dsimp only [List.set]
        refine E_goto (tgt := 6) dX12_sunsOf_37 (by decide) ?_
        rw [tmod_lt (by omega) (by omega)] at h23
        exact EV.lq (by simp [fSunN, h23, tB, Int.add_assoc]) (ih (r + 1) (by omega))
set_option maxRecDepth 20000 in
set_option maxHeartbeats 1600000 in
theorem c_sunsOf {G : Ctx} {M : Mem} {m : Nat} {cd : CD} (hO : MO M m) (hQ : MC (mI M) m cd) (hW : WFc cd) {l f t h : Int} (l0 : 0 ≤ l) (l1 : l < cd 0) (f0 : 0 ≤ f) (n : Nat) (hn : f + n = t + 1) (t1 : t < 24) (h0 : 0 ≤ h) (h1 : h ≤ 9) : CT G m_X12_sunsOf 2 0 0 [vR m, vI l, vI f, vI t, vI h] M (rI M (fSunN cd l f h n)) := by
  refine CT.of k_X12_sunsOf 2 (ls := [some (vR m), some (vI l), some (vI f), some (vI t), some (vI h), none, none]) rfl (Nat.le_of_ble_eq_true rfl) ?_
  refine E_iconst dX12_sunsOf_0 (by decide) ?_
  refine E_istore dX12_sunsOf_1 rfl (by decide) ?_
  try dsimp only [List.set]
  refine E_iload_n dX12_sunsOf_3 rfl ?_
  refine E_istore dX12_sunsOf_4 rfl (by decide) ?_
  try dsimp only [List.set]
  exact EV.lq (by simp [fSunN]) (l_sunsOf hO hQ hW l0 l1 f0 n hn t1 h0 h1 n 0 (by omega))
set_option maxRecDepth 20000 in
set_option maxHeartbeats 1600000 in
theorem c_isReddish {G : Ctx} {M : Mem} {m : Nat} {cd : CD} (hO : MO M m) (hQ : MC (mI M) m cd) (hW : WFc cd) {p : Int} (p0 : 0 ≤ p) (p1 : p < cd 2) : CT G m_X12_isReddish 1 0 0 [vR m, vI p] M (rI M (tB (!fTak cd p))) := by
  refine CT.of k_X12_isReddish 0 (ls := [some (vR m), some (vI p)]) rfl (Nat.le_of_ble_eq_true rfl) ?_
  have hpn := hW.pn
  have hl8 := hW.ln
  have hr8 := hW.rn
  refine E_aload_n dX12_isReddish_0 rfl ?_
  refine E_iload_n dX12_isReddish_1 rfl ?_
  refine E_iconst dX12_isReddish_2 (by decide) ?_
  refine i_X12_202 rfl dX12_isReddish_3 (by exact hO.o) (c_of hO hQ (j := 84 + 6 * p) (by omega) (by omega) (by omega)) (by omega) (Nat.le_of_ble_eq_true rfl) rfl rfl ?_
  rintro _ _ ⟨rfl, rfl⟩
  try dsimp only [pu]
  refine E_iconst dX12_isReddish_6 (by decide) ?_
  refine E_icmp_eq (tgt := 20) dX12_isReddish_7 (by decide) (fun h7 => ?_) (fun h7 => ?_)
  · refine E_iconst dX12_isReddish_20 (by decide) ?_
    refine E_goto (tgt := 25) dX12_isReddish_21 (by decide) ?_
    refine E_zret dX12_isReddish_25 rfl (by decide) ?_
    refine ⟨?_, rfl⟩
    congr 2; unfold fTak; first | (rw [decide_eq_true (by omega)]; rfl) | (rw [decide_eq_false (by omega)]; rfl)
  · refine E_aload_n dX12_isReddish_10 rfl ?_
    refine E_iload_n dX12_isReddish_11 rfl ?_
    refine E_iconst dX12_isReddish_12 (by decide) ?_
    refine i_X12_202 rfl dX12_isReddish_13 (by exact hO.o) (c_of hO hQ (j := 84 + 6 * p) (by omega) (by omega) (by omega)) (by omega) (Nat.le_of_ble_eq_true rfl) rfl rfl ?_
    rintro _ _ ⟨rfl, rfl⟩
    try dsimp only [pu]
    refine E_iconst dX12_isReddish_16 (by decide) ?_
    refine E_icmp_ne (tgt := 24) dX12_isReddish_17 (by decide) (fun h17 => ?_) (fun h17 => ?_)
    · refine E_iconst dX12_isReddish_24 (by decide) ?_
      refine E_zret dX12_isReddish_25 rfl (by decide) ?_
      refine ⟨?_, rfl⟩
      congr 2; unfold fTak; first | (rw [decide_eq_true (by omega)]; rfl) | (rw [decide_eq_false (by omega)]; rfl)
    · refine E_iconst dX12_isReddish_20 (by decide) ?_
      refine E_goto (tgt := 25) dX12_isReddish_21 (by decide) ?_
      refine E_zret dX12_isReddish_25 rfl (by decide) ?_
      refine ⟨?_, rfl⟩
      congr 2; unfold fTak; first | (rw [decide_eq_true (by omega)]; rfl) | (rw [decide_eq_false (by omega)]; rfl)
theorem fOn_ran (hu : Int → Int) (l : Int) : ∀ k : Nat, -2147483648 ≤ fOn hu l k ∧ fOn hu l k ≤ 2147483647
  | 0 => by simp [fOn]
  | k + 1 => by
    simp only [fOn]; split
    · exact bOr_ran _ _
    · exact fOn_ran hu l k
theorem fHu_ran (hu : Int → Int) : ∀ k : Nat, -2147483648 ≤ fHu hu k ∧ fHu hu k ≤ 2147483647
  | 0 => by simp [fHu]
  | k + 1 => by
    simp only [fHu]; split
    · exact bOr_ran _ _
    · exact fHu_ran hu k
/-- where the pieces hang, of a court -/
def cHu (cd : CD) : Int → Int := fun p => cd (88 + 6 * p)
def cWe (cd : CD) : Int → Int := fun p => cd (86 + 6 * p)
def cSn (cd : CD) : Int → Int := fun p => cd (89 + 6 * p)
set_option maxRecDepth 20000 in
set_option maxHeartbeats 1600000 in
theorem l_hangOn {G : Ctx} {M : Mem} {m : Nat} {cd : CD} (hO : MO M m) (hQ : MC (mI M) m cd) (hW : WFc cd) {l : Int} (n : Nat) (hn : cd 2 = n) : ∀ (k r : Nat) , r + k = n → EV G m_X12_hangOn 1 0 0 (rI M (fOn (cHu cd) l n)) 4 [some (vR m), some (vI l), some (vI (fOn (cHu cd) l r)), some (vI (r : Int))] [] M := by
  intro k
  induction k with
  | zero =>
    intro r  hr
    obtain rfl : r = n := by omega
    have hpn := hW.pn
    have hl8 := hW.ln
    have hr8 := hW.rn
    refine E_iload_n dX12_hangOn_4 rfl ?_
    refine E_aload_n dX12_hangOn_5 rfl ?_
    refine g_X12_19 rfl dX12_hangOn_6 hO.o hO.court ?_
    refine E_iconst dX12_hangOn_9 (by decide) ?_
    refine E_iald dX12_hangOn_10 hO.s_court (by omega) (by omega) (hQ.at (j := 2) (by omega) (by omega) (by omega)) ?_
    refine E_icmp_ge (tgt := 40) dX12_hangOn_11 (by decide) (fun h11 => ?_) (fun h11 => ?_)
    · refine E_iload_n dX12_hangOn_40 rfl ?_
      refine E_iret dX12_hangOn_41 rfl ?_
      exact ⟨rfl, rfl⟩
    · exfalso; omega
  | succ k ih =>
    intro r  hr
    have hpn := hW.pn
    have hl8 := hW.ln
    have hr8 := hW.rn
    have hfr := fOn_ran (cHu cd) l r
    refine E_iload_n dX12_hangOn_4 rfl ?_
    refine E_aload_n dX12_hangOn_5 rfl ?_
    refine g_X12_19 rfl dX12_hangOn_6 hO.o hO.court ?_
    refine E_iconst dX12_hangOn_9 (by decide) ?_
    refine E_iald dX12_hangOn_10 hO.s_court (by omega) (by omega) (hQ.at (j := 2) (by omega) (by omega) (by omega)) ?_
    refine E_icmp_ge (tgt := 40) dX12_hangOn_11 (by decide) (fun h11 => ?_) (fun h11 => ?_)
    · exfalso; omega
    · refine E_iload_n dX12_hangOn_14 rfl ?_
      refine E_aload_n dX12_hangOn_15 rfl ?_
      refine E_iload_n dX12_hangOn_16 rfl ?_
      refine E_iconst dX12_hangOn_17 (by decide) ?_
      refine i_X12_202 rfl dX12_hangOn_18 (by exact hO.o) (c_of hO hQ (j := 88 + 6 * ↑r) (by omega) (by omega) (by omega)) (by omega) (Nat.le_of_ble_eq_true rfl) rfl rfl ?_
      rintro _ _ ⟨rfl, rfl⟩
      try dsimp only [pu]
      refine E_iload_n dX12_hangOn_21 rfl ?_
      refine E_icmp_ne (tgt := 31) dX12_hangOn_22 (by decide) (fun h22 => ?_) (fun h22 => ?_)
      · refine E_iconst dX12_hangOn_31 (by decide) ?_
        refine E_ior dX12_hangOn_32 ?_
        refine E_istore_n dX12_hangOn_33 rfl (by decide) ?_
        try dsimp only [List.set]
        refine E_iinc dX12_hangOn_34 rfl (by omega) (by omega) (by decide) rfl (by decide) ?_
        try dsimp only [List.set]
        refine E_goto (tgt := 4) dX12_hangOn_37 (by decide) ?_
        exact EV.lq (by simp only [fOn]; rw [if_neg (by unfold cHu; omega), bOr_0 hfr.1 hfr.2]; rfl) (ih (r + 1) (by omega))
      · refine E_iconst dX12_hangOn_25 (by decide) ?_
        refine E_iload_n dX12_hangOn_26 rfl ?_
        refine E_ishl dX12_hangOn_27 ?_
        refine E_goto (tgt := 32) dX12_hangOn_28 (by decide) ?_
        refine E_ior dX12_hangOn_32 ?_
        refine E_istore_n dX12_hangOn_33 rfl (by decide) ?_
        try dsimp only [List.set]
        refine E_iinc dX12_hangOn_34 rfl (by omega) (by omega) (by decide) rfl (by decide) ?_
        try dsimp only [List.set]
        refine E_goto (tgt := 4) dX12_hangOn_37 (by decide) ?_
        exact EV.lq (by simp only [fOn]; rw [if_pos (by unfold cHu; omega)]; rfl) (ih (r + 1) (by omega))
set_option maxRecDepth 20000 in
set_option maxHeartbeats 1600000 in
theorem c_hangOn {G : Ctx} {M : Mem} {m : Nat} {cd : CD} (hO : MO M m) (hQ : MC (mI M) m cd) (hW : WFc cd) {l : Int} (n : Nat) (hn : cd 2 = n) : CT G m_X12_hangOn 1 0 0 [vR m, vI l] M (rI M (fOn (cHu cd) l n)) := by
  refine CT.of k_X12_hangOn 2 (ls := [some (vR m), some (vI l), none, none]) rfl (Nat.le_of_ble_eq_true rfl) ?_
  refine E_iconst dX12_hangOn_0 (by decide) ?_
  refine E_istore_n dX12_hangOn_1 rfl (by decide) ?_
  try dsimp only [List.set]
  refine E_iconst dX12_hangOn_2 (by decide) ?_
  refine E_istore_n dX12_hangOn_3 rfl (by decide) ?_
  try dsimp only [List.set]
  exact l_hangOn hO hQ hW n hn n 0 (by omega)
set_option maxRecDepth 20000 in
set_option maxHeartbeats 1600000 in
theorem c_comes {G : Ctx} {M : Mem} {m : Nat} {cd : CD} (hO : MO M m) (hQ : MC (mI M) m cd) (hW : WFc cd) {hu : Int → Int} (hH : ∀ p, 0 ≤ p → p < cd 2 → mI M (m + 7) p = hu p) (g0 : 0 ≤ cd 3) (g1 : cd 3 ≤ 1000000) (n : Nat) (hn : cd 2 = n) (rn : Nat) (hrn : cd 1 = rn) {p l : Int} (p0 : 0 ≤ p) (p1 : p < cd 2) (l0 : 0 ≤ l) (l1 : l < cd 0) : CT G m_X12_comes 2 0 0 [vR m, vI p, vI l] M (fun r M' => r = some (vI (if (fRef cd hu (cd 3) p l n rn) = 0 then fLeft cd hu p l n else (fRef cd hu (cd 3) p l n rn))) ∧ M' = if (fRef cd hu (cd 3) p l n rn) = 0 then mWI M (m + 7) p l else M) := by
  refine CT.of k_X12_comes 4 (ls := [some (vR m), some (vI p), some (vI l), none, none, none, none]) rfl (Nat.le_of_ble_eq_true rfl) ?_
  have hpn := hW.pn
  have hl8 := hW.ln
  have hr8 := hW.rn
  have hy := fY_b hW hu l n (by omega)
  have hyp := hW.ya p0 p1
  have hwi := hW.wi l0 l1
  refine E_aload_n dX12_comes_0 rfl ?_
  refine E_iload_n dX12_comes_1 rfl ?_
  refine i_X12_205 rfl dX12_comes_2 (by exact hO.o) (c_rightsTo hO hQ hW g0 g1 rn hrn) (by omega) (Nat.le_of_ble_eq_true rfl) rfl rfl ?_
  rintro _ _ ⟨rfl, rfl⟩
  try dsimp only [pu]
  refine E_istore_n dX12_comes_5 rfl (by decide) ?_
  try dsimp only [List.set]
  refine E_aload_n dX12_comes_6 rfl ?_
  refine g_X12_28 rfl dX12_comes_7 hO.o hO.hung ?_
  refine E_iload_n dX12_comes_10 rfl ?_
  refine E_iald dX12_comes_11 hO.s_hung (by omega) (by omega) (hH _ (by omega) (by omega)) ?_
  refine c_X12_89 rfl dX12_comes_12 ?_
  refine E_icmp_ne (tgt := 34) dX12_comes_14 (by decide) (fun h14 => ?_) (fun h14 => ?_)
  · refine c_X12_208 rfl dX12_comes_34 ?_
    refine E_iret dX12_comes_36 rfl ?_
    have e : (fRef cd hu (cd 3) p l n rn) = -1000002 := by
      unfold fRef; rw [if_pos]
      exact Or.inl (by omega)
    rw [e]; exact ⟨rfl, rfl⟩
  · refine E_iload_n dX12_comes_17 rfl ?_
    refine E_if_eq (tgt := 37) dX12_comes_18 (by decide) (fun h18 => ?_) (fun h18 => ?_)
    · refine E_aload_n dX12_comes_37 rfl ?_
      refine E_iload_n dX12_comes_38 rfl ?_
      refine i_X12_209 rfl dX12_comes_39 (by exact hO.o) (c_yardsOn hO hQ hW hH n hn) (by omega) (Nat.le_of_ble_eq_true rfl) rfl rfl ?_
      rintro _ _ ⟨rfl, rfl⟩
      try dsimp only [pu]
      refine E_istore dX12_comes_42 rfl (by decide) ?_
      try dsimp only [List.set]
      refine E_aload_n dX12_comes_44 rfl ?_
      refine E_iload_n dX12_comes_45 rfl ?_
      refine E_iconst dX12_comes_46 (by decide) ?_
      refine i_X12_202 rfl dX12_comes_47 (by exact hO.o) (c_of hO hQ (j := 84 + 6 * p) (by omega) (by omega) (by omega)) (by omega) (Nat.le_of_ble_eq_true rfl) rfl rfl ?_
      rintro _ _ ⟨rfl, rfl⟩
      try dsimp only [pu]
      refine E_iconst dX12_comes_50 (by decide) ?_
      refine E_icmp_ne (tgt := 58) dX12_comes_51 (by decide) (fun h51 => ?_) (fun h51 => ?_)
      · refine E_iconst dX12_comes_58 (by decide) ?_
        refine E_istore dX12_comes_59 rfl (by decide) ?_
        try dsimp only [List.set]
        refine E_aload_n dX12_comes_61 rfl ?_
        refine g_X12_19 rfl dX12_comes_62 hO.o hO.court ?_
        refine E_bipush dX12_comes_65 (by decide) ?_
        refine E_iconst dX12_comes_67 (by decide) ?_
        refine E_iload_n dX12_comes_68 rfl ?_
        refine E_imul dX12_comes_69 (by omega) (by omega) ?_
        refine E_iadd dX12_comes_70 (by omega) (by omega) ?_
        refine E_iconst dX12_comes_71 (by decide) ?_
        refine E_iadd dX12_comes_72 (by omega) (by omega) ?_
        refine E_iald dX12_comes_73 hO.s_court (by omega) (by omega) (hQ.at (j := 30 + 3 * l) (by omega) (by omega) (by omega)) ?_
        refine E_iload dX12_comes_74 rfl ?_
        refine E_isub dX12_comes_76 (by omega) (by omega) ?_
        refine E_aload_n dX12_comes_77 rfl ?_
        refine E_iload_n dX12_comes_78 rfl ?_
        refine E_iconst dX12_comes_79 (by decide) ?_
        refine i_X12_202 rfl dX12_comes_80 (by exact hO.o) (c_of hO hQ (j := 87 + 6 * p) (by omega) (by omega) (by omega)) (by omega) (Nat.le_of_ble_eq_true rfl) rfl rfl ?_
        rintro _ _ ⟨rfl, rfl⟩
        try dsimp only [pu]
        refine E_isub dX12_comes_83 (by omega) (by omega) ?_
        refine E_istore dX12_comes_84 rfl (by decide) ?_
        try dsimp only [List.set]
        refine E_iload dX12_comes_86 rfl ?_
        refine E_if_lt (tgt := 109) dX12_comes_88 (by decide) (fun h88 => ?_) (fun h88 => ?_)
        · refine c_X12_83 rfl dX12_comes_109 ?_
          refine E_iret dX12_comes_111 rfl ?_
          have hno : ¬ (hu p ≠ -1000000 ∨ fOth cd (cd 3) p l rn = true) := by unfold fOth; simp only [decide_eq_true_eq]; omega
          have hfl : ¬ fRoom cd hu p l n = true := fun hq => (fRoom_iff hW hu p l n (by omega)).mp hq (by first | exact Or.inl (by omega) | exact Or.inr (Or.inl h96) | exact Or.inr (Or.inr ⟨by omega, by omega⟩))
          have e : (fRef cd hu (cd 3) p l n rn) = -1000003 := by unfold fRef; rw [if_neg hno, if_neg hfl]
          rw [e]; exact ⟨rfl, rfl⟩
        · refine E_aload_n dX12_comes_91 rfl ?_
          refine E_iload_n dX12_comes_92 rfl ?_
          refine i_X12_212 rfl dX12_comes_93 (by exact hO.o) (c_hasSheet hO hQ hW hH n hn) (by omega) (Nat.le_of_ble_eq_true rfl) rfl rfl ?_
          rintro _ _ ⟨rfl, rfl⟩
          try dsimp only [pu]
          refine E_if_ne (tgt := 109) dX12_comes_96 (by decide) (fun h96 => ?_) (fun h96 => ?_)
          · simp only [tB0, ne_eq, Bool.not_eq_false, Bool.not_eq_true, decide_eq_true_eq, decide_eq_false_iff_not, Classical.not_not] at h96
            refine c_X12_83 rfl dX12_comes_109 ?_
            refine E_iret dX12_comes_111 rfl ?_
            have hno : ¬ (hu p ≠ -1000000 ∨ fOth cd (cd 3) p l rn = true) := by unfold fOth; simp only [decide_eq_true_eq]; omega
            have hfl : ¬ fRoom cd hu p l n = true := fun hq => (fRoom_iff hW hu p l n (by omega)).mp hq (by first | exact Or.inl (by omega) | exact Or.inr (Or.inl h96) | exact Or.inr (Or.inr ⟨by omega, by omega⟩))
            have e : (fRef cd hu (cd 3) p l n rn) = -1000003 := by unfold fRef; rw [if_neg hno, if_neg hfl]
            rw [e]; exact ⟨rfl, rfl⟩
          · simp only [tB0, ne_eq, Bool.not_eq_false, Bool.not_eq_true, decide_eq_true_eq, decide_eq_false_iff_not, Classical.not_not] at h96
            refine E_iload dX12_comes_99 rfl ?_
            refine E_if_eq (tgt := 112) dX12_comes_101 (by decide) (fun h101 => ?_) (fun h101 => ?_)
            · refine E_aload_n dX12_comes_112 rfl ?_
              refine g_X12_28 rfl dX12_comes_113 hO.o hO.hung ?_
              refine E_iload_n dX12_comes_116 rfl ?_
              refine E_iload_n dX12_comes_117 rfl ?_
              refine E_iast dX12_comes_118 hO.s_hung (by omega) (by omega) ?_
              refine E_iload dX12_comes_119 rfl ?_
              refine E_if_eq (tgt := 128) dX12_comes_121 (by decide) (fun h121 => ?_) (fun h121 => ?_)
              · refine E_iload dX12_comes_128 rfl ?_
                refine E_iret dX12_comes_130 rfl ?_
                have hno : ¬ (hu p ≠ -1000000 ∨ fOth cd (cd 3) p l rn = true) := by unfold fOth; simp only [decide_eq_true_eq]; omega
                have hfl : fRoom cd hu p l n = true := (fRoom_iff hW hu p l n (by omega)).mpr (by rw [h96]; simp only [Bool.false_eq_true, false_or]; omega)
                have e : (fRef cd hu (cd 3) p l n rn) = 0 := by unfold fRef; rw [if_neg hno, if_pos hfl]
                rw [e]
                refine ⟨?_, rfl⟩
                rw [if_pos rfl, fLeft]
                first | rw [if_pos (by omega)] | rw [if_neg (by omega)]
              · exfalso; omega
            · exfalso; omega
      · refine E_iconst dX12_comes_54 (by decide) ?_
        refine E_goto (tgt := 59) dX12_comes_55 (by decide) ?_
        refine E_istore dX12_comes_59 rfl (by decide) ?_
        try dsimp only [List.set]
        refine E_aload_n dX12_comes_61 rfl ?_
        refine g_X12_19 rfl dX12_comes_62 hO.o hO.court ?_
        refine E_bipush dX12_comes_65 (by decide) ?_
        refine E_iconst dX12_comes_67 (by decide) ?_
        refine E_iload_n dX12_comes_68 rfl ?_
        refine E_imul dX12_comes_69 (by omega) (by omega) ?_
        refine E_iadd dX12_comes_70 (by omega) (by omega) ?_
        refine E_iconst dX12_comes_71 (by decide) ?_
        refine E_iadd dX12_comes_72 (by omega) (by omega) ?_
        refine E_iald dX12_comes_73 hO.s_court (by omega) (by omega) (hQ.at (j := 30 + 3 * l) (by omega) (by omega) (by omega)) ?_
        refine E_iload dX12_comes_74 rfl ?_
        refine E_isub dX12_comes_76 (by omega) (by omega) ?_
        refine E_aload_n dX12_comes_77 rfl ?_
        refine E_iload_n dX12_comes_78 rfl ?_
        refine E_iconst dX12_comes_79 (by decide) ?_
        refine i_X12_202 rfl dX12_comes_80 (by exact hO.o) (c_of hO hQ (j := 87 + 6 * p) (by omega) (by omega) (by omega)) (by omega) (Nat.le_of_ble_eq_true rfl) rfl rfl ?_
        rintro _ _ ⟨rfl, rfl⟩
        try dsimp only [pu]
        refine E_isub dX12_comes_83 (by omega) (by omega) ?_
        refine E_istore dX12_comes_84 rfl (by decide) ?_
        try dsimp only [List.set]
        refine E_iload dX12_comes_86 rfl ?_
        refine E_if_lt (tgt := 109) dX12_comes_88 (by decide) (fun h88 => ?_) (fun h88 => ?_)
        · refine c_X12_83 rfl dX12_comes_109 ?_
          refine E_iret dX12_comes_111 rfl ?_
          have hno : ¬ (hu p ≠ -1000000 ∨ fOth cd (cd 3) p l rn = true) := by unfold fOth; simp only [decide_eq_true_eq]; omega
          have hfl : ¬ fRoom cd hu p l n = true := fun hq => (fRoom_iff hW hu p l n (by omega)).mp hq (by first | exact Or.inl (by omega) | exact Or.inr (Or.inl h96) | exact Or.inr (Or.inr ⟨by omega, by omega⟩))
          have e : (fRef cd hu (cd 3) p l n rn) = -1000003 := by unfold fRef; rw [if_neg hno, if_neg hfl]
          rw [e]; exact ⟨rfl, rfl⟩
        · refine E_aload_n dX12_comes_91 rfl ?_
          refine E_iload_n dX12_comes_92 rfl ?_
          refine i_X12_212 rfl dX12_comes_93 (by exact hO.o) (c_hasSheet hO hQ hW hH n hn) (by omega) (Nat.le_of_ble_eq_true rfl) rfl rfl ?_
          rintro _ _ ⟨rfl, rfl⟩
          try dsimp only [pu]
          refine E_if_ne (tgt := 109) dX12_comes_96 (by decide) (fun h96 => ?_) (fun h96 => ?_)
          · simp only [tB0, ne_eq, Bool.not_eq_false, Bool.not_eq_true, decide_eq_true_eq, decide_eq_false_iff_not, Classical.not_not] at h96
            refine c_X12_83 rfl dX12_comes_109 ?_
            refine E_iret dX12_comes_111 rfl ?_
            have hno : ¬ (hu p ≠ -1000000 ∨ fOth cd (cd 3) p l rn = true) := by unfold fOth; simp only [decide_eq_true_eq]; omega
            have hfl : ¬ fRoom cd hu p l n = true := fun hq => (fRoom_iff hW hu p l n (by omega)).mp hq (by first | exact Or.inl (by omega) | exact Or.inr (Or.inl h96) | exact Or.inr (Or.inr ⟨by omega, by omega⟩))
            have e : (fRef cd hu (cd 3) p l n rn) = -1000003 := by unfold fRef; rw [if_neg hno, if_neg hfl]
            rw [e]; exact ⟨rfl, rfl⟩
          · simp only [tB0, ne_eq, Bool.not_eq_false, Bool.not_eq_true, decide_eq_true_eq, decide_eq_false_iff_not, Classical.not_not] at h96
            refine E_iload dX12_comes_99 rfl ?_
            refine E_if_eq (tgt := 112) dX12_comes_101 (by decide) (fun h101 => ?_) (fun h101 => ?_)
            · exfalso; omega
            · refine E_iload dX12_comes_104 rfl ?_
              refine E_if_le (tgt := 112) dX12_comes_106 (by decide) (fun h106 => ?_) (fun h106 => ?_)
              · refine E_aload_n dX12_comes_112 rfl ?_
                refine g_X12_28 rfl dX12_comes_113 hO.o hO.hung ?_
                refine E_iload_n dX12_comes_116 rfl ?_
                refine E_iload_n dX12_comes_117 rfl ?_
                refine E_iast dX12_comes_118 hO.s_hung (by omega) (by omega) ?_
                refine E_iload dX12_comes_119 rfl ?_
                refine E_if_eq (tgt := 128) dX12_comes_121 (by decide) (fun h121 => ?_) (fun h121 => ?_)
                · exfalso; omega
                · refine E_iconst dX12_comes_124 (by decide) ?_
                  refine E_goto (tgt := 130) dX12_comes_125 (by decide) ?_
                  refine E_iret dX12_comes_130 rfl ?_
                  have hno : ¬ (hu p ≠ -1000000 ∨ fOth cd (cd 3) p l rn = true) := by unfold fOth; simp only [decide_eq_true_eq]; omega
                  have hfl : fRoom cd hu p l n = true := (fRoom_iff hW hu p l n (by omega)).mpr (by rw [h96]; simp only [Bool.false_eq_true, false_or]; omega)
                  have e : (fRef cd hu (cd 3) p l n rn) = 0 := by unfold fRef; rw [if_neg hno, if_pos hfl]
                  rw [e]
                  refine ⟨?_, rfl⟩
                  rw [if_pos rfl, fLeft]
                  first | rw [if_pos (by omega)] | rw [if_neg (by omega)]
              · refine c_X12_83 rfl dX12_comes_109 ?_
                refine E_iret dX12_comes_111 rfl ?_
                have hno : ¬ (hu p ≠ -1000000 ∨ fOth cd (cd 3) p l rn = true) := by unfold fOth; simp only [decide_eq_true_eq]; omega
                have hfl : ¬ fRoom cd hu p l n = true := fun hq => (fRoom_iff hW hu p l n (by omega)).mp hq (by first | exact Or.inl (by omega) | exact Or.inr (Or.inl h96) | exact Or.inr (Or.inr ⟨by omega, by omega⟩))
                have e : (fRef cd hu (cd 3) p l n rn) = -1000003 := by unfold fRef; rw [if_neg hno, if_neg hfl]
                rw [e]; exact ⟨rfl, rfl⟩
    · refine E_iload_n dX12_comes_21 rfl ?_
      refine E_aload_n dX12_comes_22 rfl ?_
      refine E_iload_n dX12_comes_23 rfl ?_
      refine E_iconst dX12_comes_24 (by decide) ?_
      refine i_X12_202 rfl dX12_comes_25 (by exact hO.o) (c_of hO hQ (j := 85 + 6 * p) (by omega) (by omega) (by omega)) (by omega) (Nat.le_of_ble_eq_true rfl) rfl rfl ?_
      rintro _ _ ⟨rfl, rfl⟩
      try dsimp only [pu]
      refine E_ishr dX12_comes_28 ?_
      refine E_iconst dX12_comes_29 (by decide) ?_
      refine E_iand dX12_comes_30 ?_
      refine E_if_ne (tgt := 37) dX12_comes_31 (by decide) (fun h31 => ?_) (fun h31 => ?_)
      · refine E_aload_n dX12_comes_37 rfl ?_
        refine E_iload_n dX12_comes_38 rfl ?_
        refine i_X12_209 rfl dX12_comes_39 (by exact hO.o) (c_yardsOn hO hQ hW hH n hn) (by omega) (Nat.le_of_ble_eq_true rfl) rfl rfl ?_
        rintro _ _ ⟨rfl, rfl⟩
        try dsimp only [pu]
        refine E_istore dX12_comes_42 rfl (by decide) ?_
        try dsimp only [List.set]
        refine E_aload_n dX12_comes_44 rfl ?_
        refine E_iload_n dX12_comes_45 rfl ?_
        refine E_iconst dX12_comes_46 (by decide) ?_
        refine i_X12_202 rfl dX12_comes_47 (by exact hO.o) (c_of hO hQ (j := 84 + 6 * p) (by omega) (by omega) (by omega)) (by omega) (Nat.le_of_ble_eq_true rfl) rfl rfl ?_
        rintro _ _ ⟨rfl, rfl⟩
        try dsimp only [pu]
        refine E_iconst dX12_comes_50 (by decide) ?_
        refine E_icmp_ne (tgt := 58) dX12_comes_51 (by decide) (fun h51 => ?_) (fun h51 => ?_)
        · refine E_iconst dX12_comes_58 (by decide) ?_
          refine E_istore dX12_comes_59 rfl (by decide) ?_
          try dsimp only [List.set]
          refine E_aload_n dX12_comes_61 rfl ?_
          refine g_X12_19 rfl dX12_comes_62 hO.o hO.court ?_
          refine E_bipush dX12_comes_65 (by decide) ?_
          refine E_iconst dX12_comes_67 (by decide) ?_
          refine E_iload_n dX12_comes_68 rfl ?_
          refine E_imul dX12_comes_69 (by omega) (by omega) ?_
          refine E_iadd dX12_comes_70 (by omega) (by omega) ?_
          refine E_iconst dX12_comes_71 (by decide) ?_
          refine E_iadd dX12_comes_72 (by omega) (by omega) ?_
          refine E_iald dX12_comes_73 hO.s_court (by omega) (by omega) (hQ.at (j := 30 + 3 * l) (by omega) (by omega) (by omega)) ?_
          refine E_iload dX12_comes_74 rfl ?_
          refine E_isub dX12_comes_76 (by omega) (by omega) ?_
          refine E_aload_n dX12_comes_77 rfl ?_
          refine E_iload_n dX12_comes_78 rfl ?_
          refine E_iconst dX12_comes_79 (by decide) ?_
          refine i_X12_202 rfl dX12_comes_80 (by exact hO.o) (c_of hO hQ (j := 87 + 6 * p) (by omega) (by omega) (by omega)) (by omega) (Nat.le_of_ble_eq_true rfl) rfl rfl ?_
          rintro _ _ ⟨rfl, rfl⟩
          try dsimp only [pu]
          refine E_isub dX12_comes_83 (by omega) (by omega) ?_
          refine E_istore dX12_comes_84 rfl (by decide) ?_
          try dsimp only [List.set]
          refine E_iload dX12_comes_86 rfl ?_
          refine E_if_lt (tgt := 109) dX12_comes_88 (by decide) (fun h88 => ?_) (fun h88 => ?_)
          · refine c_X12_83 rfl dX12_comes_109 ?_
            refine E_iret dX12_comes_111 rfl ?_
            have hno : ¬ (hu p ≠ -1000000 ∨ fOth cd (cd 3) p l rn = true) := by unfold fOth; simp only [decide_eq_true_eq]; omega
            have hfl : ¬ fRoom cd hu p l n = true := fun hq => (fRoom_iff hW hu p l n (by omega)).mp hq (by first | exact Or.inl (by omega) | exact Or.inr (Or.inl h96) | exact Or.inr (Or.inr ⟨by omega, by omega⟩))
            have e : (fRef cd hu (cd 3) p l n rn) = -1000003 := by unfold fRef; rw [if_neg hno, if_neg hfl]
            rw [e]; exact ⟨rfl, rfl⟩
          · refine E_aload_n dX12_comes_91 rfl ?_
            refine E_iload_n dX12_comes_92 rfl ?_
            refine i_X12_212 rfl dX12_comes_93 (by exact hO.o) (c_hasSheet hO hQ hW hH n hn) (by omega) (Nat.le_of_ble_eq_true rfl) rfl rfl ?_
            rintro _ _ ⟨rfl, rfl⟩
            try dsimp only [pu]
            refine E_if_ne (tgt := 109) dX12_comes_96 (by decide) (fun h96 => ?_) (fun h96 => ?_)
            · simp only [tB0, ne_eq, Bool.not_eq_false, Bool.not_eq_true, decide_eq_true_eq, decide_eq_false_iff_not, Classical.not_not] at h96
              refine c_X12_83 rfl dX12_comes_109 ?_
              refine E_iret dX12_comes_111 rfl ?_
              have hno : ¬ (hu p ≠ -1000000 ∨ fOth cd (cd 3) p l rn = true) := by unfold fOth; simp only [decide_eq_true_eq]; omega
              have hfl : ¬ fRoom cd hu p l n = true := fun hq => (fRoom_iff hW hu p l n (by omega)).mp hq (by first | exact Or.inl (by omega) | exact Or.inr (Or.inl h96) | exact Or.inr (Or.inr ⟨by omega, by omega⟩))
              have e : (fRef cd hu (cd 3) p l n rn) = -1000003 := by unfold fRef; rw [if_neg hno, if_neg hfl]
              rw [e]; exact ⟨rfl, rfl⟩
            · simp only [tB0, ne_eq, Bool.not_eq_false, Bool.not_eq_true, decide_eq_true_eq, decide_eq_false_iff_not, Classical.not_not] at h96
              refine E_iload dX12_comes_99 rfl ?_
              refine E_if_eq (tgt := 112) dX12_comes_101 (by decide) (fun h101 => ?_) (fun h101 => ?_)
              · refine E_aload_n dX12_comes_112 rfl ?_
                refine g_X12_28 rfl dX12_comes_113 hO.o hO.hung ?_
                refine E_iload_n dX12_comes_116 rfl ?_
                refine E_iload_n dX12_comes_117 rfl ?_
                refine E_iast dX12_comes_118 hO.s_hung (by omega) (by omega) ?_
                refine E_iload dX12_comes_119 rfl ?_
                refine E_if_eq (tgt := 128) dX12_comes_121 (by decide) (fun h121 => ?_) (fun h121 => ?_)
                · refine E_iload dX12_comes_128 rfl ?_
                  refine E_iret dX12_comes_130 rfl ?_
                  have hno : ¬ (hu p ≠ -1000000 ∨ fOth cd (cd 3) p l rn = true) := by unfold fOth; simp only [decide_eq_true_eq]; omega
                  have hfl : fRoom cd hu p l n = true := (fRoom_iff hW hu p l n (by omega)).mpr (by rw [h96]; simp only [Bool.false_eq_true, false_or]; omega)
                  have e : (fRef cd hu (cd 3) p l n rn) = 0 := by unfold fRef; rw [if_neg hno, if_pos hfl]
                  rw [e]
                  refine ⟨?_, rfl⟩
                  rw [if_pos rfl, fLeft]
                  first | rw [if_pos (by omega)] | rw [if_neg (by omega)]
                · exfalso; omega
              · exfalso; omega
        · refine E_iconst dX12_comes_54 (by decide) ?_
          refine E_goto (tgt := 59) dX12_comes_55 (by decide) ?_
          refine E_istore dX12_comes_59 rfl (by decide) ?_
          try dsimp only [List.set]
          refine E_aload_n dX12_comes_61 rfl ?_
          refine g_X12_19 rfl dX12_comes_62 hO.o hO.court ?_
          refine E_bipush dX12_comes_65 (by decide) ?_
          refine E_iconst dX12_comes_67 (by decide) ?_
          refine E_iload_n dX12_comes_68 rfl ?_
          refine E_imul dX12_comes_69 (by omega) (by omega) ?_
          refine E_iadd dX12_comes_70 (by omega) (by omega) ?_
          refine E_iconst dX12_comes_71 (by decide) ?_
          refine E_iadd dX12_comes_72 (by omega) (by omega) ?_
          refine E_iald dX12_comes_73 hO.s_court (by omega) (by omega) (hQ.at (j := 30 + 3 * l) (by omega) (by omega) (by omega)) ?_
          refine E_iload dX12_comes_74 rfl ?_
          refine E_isub dX12_comes_76 (by omega) (by omega) ?_
          refine E_aload_n dX12_comes_77 rfl ?_
          refine E_iload_n dX12_comes_78 rfl ?_
          refine E_iconst dX12_comes_79 (by decide) ?_
          refine i_X12_202 rfl dX12_comes_80 (by exact hO.o) (c_of hO hQ (j := 87 + 6 * p) (by omega) (by omega) (by omega)) (by omega) (Nat.le_of_ble_eq_true rfl) rfl rfl ?_
          rintro _ _ ⟨rfl, rfl⟩
          try dsimp only [pu]
          refine E_isub dX12_comes_83 (by omega) (by omega) ?_
          refine E_istore dX12_comes_84 rfl (by decide) ?_
          try dsimp only [List.set]
          refine E_iload dX12_comes_86 rfl ?_
          refine E_if_lt (tgt := 109) dX12_comes_88 (by decide) (fun h88 => ?_) (fun h88 => ?_)
          · refine c_X12_83 rfl dX12_comes_109 ?_
            refine E_iret dX12_comes_111 rfl ?_
            have hno : ¬ (hu p ≠ -1000000 ∨ fOth cd (cd 3) p l rn = true) := by unfold fOth; simp only [decide_eq_true_eq]; omega
            have hfl : ¬ fRoom cd hu p l n = true := fun hq => (fRoom_iff hW hu p l n (by omega)).mp hq (by first | exact Or.inl (by omega) | exact Or.inr (Or.inl h96) | exact Or.inr (Or.inr ⟨by omega, by omega⟩))
            have e : (fRef cd hu (cd 3) p l n rn) = -1000003 := by unfold fRef; rw [if_neg hno, if_neg hfl]
            rw [e]; exact ⟨rfl, rfl⟩
          · refine E_aload_n dX12_comes_91 rfl ?_
            refine E_iload_n dX12_comes_92 rfl ?_
            refine i_X12_212 rfl dX12_comes_93 (by exact hO.o) (c_hasSheet hO hQ hW hH n hn) (by omega) (Nat.le_of_ble_eq_true rfl) rfl rfl ?_
            rintro _ _ ⟨rfl, rfl⟩
            try dsimp only [pu]
            refine E_if_ne (tgt := 109) dX12_comes_96 (by decide) (fun h96 => ?_) (fun h96 => ?_)
            · simp only [tB0, ne_eq, Bool.not_eq_false, Bool.not_eq_true, decide_eq_true_eq, decide_eq_false_iff_not, Classical.not_not] at h96
              refine c_X12_83 rfl dX12_comes_109 ?_
              refine E_iret dX12_comes_111 rfl ?_
              have hno : ¬ (hu p ≠ -1000000 ∨ fOth cd (cd 3) p l rn = true) := by unfold fOth; simp only [decide_eq_true_eq]; omega
              have hfl : ¬ fRoom cd hu p l n = true := fun hq => (fRoom_iff hW hu p l n (by omega)).mp hq (by first | exact Or.inl (by omega) | exact Or.inr (Or.inl h96) | exact Or.inr (Or.inr ⟨by omega, by omega⟩))
              have e : (fRef cd hu (cd 3) p l n rn) = -1000003 := by unfold fRef; rw [if_neg hno, if_neg hfl]
              rw [e]; exact ⟨rfl, rfl⟩
            · simp only [tB0, ne_eq, Bool.not_eq_false, Bool.not_eq_true, decide_eq_true_eq, decide_eq_false_iff_not, Classical.not_not] at h96
              refine E_iload dX12_comes_99 rfl ?_
              refine E_if_eq (tgt := 112) dX12_comes_101 (by decide) (fun h101 => ?_) (fun h101 => ?_)
              · exfalso; omega
              · refine E_iload dX12_comes_104 rfl ?_
                refine E_if_le (tgt := 112) dX12_comes_106 (by decide) (fun h106 => ?_) (fun h106 => ?_)
                · refine E_aload_n dX12_comes_112 rfl ?_
                  refine g_X12_28 rfl dX12_comes_113 hO.o hO.hung ?_
                  refine E_iload_n dX12_comes_116 rfl ?_
                  refine E_iload_n dX12_comes_117 rfl ?_
                  refine E_iast dX12_comes_118 hO.s_hung (by omega) (by omega) ?_
                  refine E_iload dX12_comes_119 rfl ?_
                  refine E_if_eq (tgt := 128) dX12_comes_121 (by decide) (fun h121 => ?_) (fun h121 => ?_)
                  · exfalso; omega
                  · refine E_iconst dX12_comes_124 (by decide) ?_
                    refine E_goto (tgt := 130) dX12_comes_125 (by decide) ?_
                    refine E_iret dX12_comes_130 rfl ?_
                    have hno : ¬ (hu p ≠ -1000000 ∨ fOth cd (cd 3) p l rn = true) := by unfold fOth; simp only [decide_eq_true_eq]; omega
                    have hfl : fRoom cd hu p l n = true := (fRoom_iff hW hu p l n (by omega)).mpr (by rw [h96]; simp only [Bool.false_eq_true, false_or]; omega)
                    have e : (fRef cd hu (cd 3) p l n rn) = 0 := by unfold fRef; rw [if_neg hno, if_pos hfl]
                    rw [e]
                    refine ⟨?_, rfl⟩
                    rw [if_pos rfl, fLeft]
                    first | rw [if_pos (by omega)] | rw [if_neg (by omega)]
                · refine c_X12_83 rfl dX12_comes_109 ?_
                  refine E_iret dX12_comes_111 rfl ?_
                  have hno : ¬ (hu p ≠ -1000000 ∨ fOth cd (cd 3) p l rn = true) := by unfold fOth; simp only [decide_eq_true_eq]; omega
                  have hfl : ¬ fRoom cd hu p l n = true := fun hq => (fRoom_iff hW hu p l n (by omega)).mp hq (by first | exact Or.inl (by omega) | exact Or.inr (Or.inl h96) | exact Or.inr (Or.inr ⟨by omega, by omega⟩))
                  have e : (fRef cd hu (cd 3) p l n rn) = -1000003 := by unfold fRef; rw [if_neg hno, if_neg hfl]
                  rw [e]; exact ⟨rfl, rfl⟩
      · refine c_X12_208 rfl dX12_comes_34 ?_
        refine E_iret dX12_comes_36 rfl ?_
        have e : (fRef cd hu (cd 3) p l n rn) = -1000002 := by
          unfold fRef; rw [if_pos]
          exact Or.inr (by unfold fOth; exact decide_eq_true ⟨h18, by omega⟩)
        rw [e]; exact ⟨rfl, rfl⟩
