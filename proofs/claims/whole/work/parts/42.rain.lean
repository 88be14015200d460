/-! ===== 42: rain ===== -/
/-- of those told the one with most yards, the first of them; none -/
def nx (cd : CD) (b : Nat → Bool) : Nat → Int
  | 0 => -1000000
  | k + 1 => if b k = true ∧ (nx cd b k = -1000000 ∨ cd (87 + 6 * nx cd b k) < cd (87 + 6 * k)) then (k : Int) else nx cd b k
theorem nx_r (cd : CD) (b : Nat → Bool) : ∀ k : Nat, nx cd b k = -1000000 ∨ (0 ≤ nx cd b k ∧ nx cd b k < k)
  | 0 => Or.inl rfl
  | k + 1 => by
    have h := nx_r cd b k
    simp only [nx]
    split <;> omega
theorem nx_b (cd : CD) (b : Nat → Bool) : ∀ k j : Nat, nx cd b k = (j : Int) → b j = true
  | 0, j, h => by simp only [nx] at h; omega
  | k + 1, j, h => by
    simp only [nx] at h
    split at h
    · rename_i hc
      have e : k = j := by omega
      rw [← e]; exact hc.1
    · exact nx_b cd b k j h
theorem nx_n (cd : CD) (b : Nat → Bool) : ∀ k : Nat, (∀ j, j < k → b j = false) → nx cd b k = -1000000
  | 0, _ => rfl
  | k + 1, h => by
    simp only [nx]
    rw [if_neg (fun q => by rw [h k (by omega)] at q; exact absurd q.1 (by simp))]
    exact nx_n cd b k (fun j hj => h j (by omega))
theorem nx_cg (cd : CD) {b c : Nat → Bool} : ∀ k : Nat, (∀ j, j < k → b j = c j) → nx cd b k = nx cd c k
  | 0, _ => rfl
  | k + 1, h => by simp only [nx]; rw [nx_cg cd k (fun j hj => h j (by omega)), h k (by omega)]
def nxM (cd : CD) (b : Nat → Bool) (k : Nat) : Int := if nx cd b k = -1000000 then 0 else cd (87 + 6 * nx cd b k)
/-- those told but one -/
def wo (b : Nat → Bool) (x : Int) : Nat → Bool := fun q => b q && !decide ((q : Int) = x)
/-- yards that get wet, times a million: so many taken in at most, those told, how likely it stays dry, what is summed up -/
def rnS (cd : CD) (n : Nat) (p : Int) : Nat → (Nat → Bool) → Int → Int → Int
  | 0, _, _, s => s
  | f + 1, b, st, s => if nx cd b n = -1000000 then s else rnS cd n p f (wo b (nx cd b n)) (Int.tdiv (st * (100 - p)) 100) (s + cd (87 + 6 * nx cd b n) * (1000000 - st))
theorem rnS_cg (cd : CD) (n : Nat) (p : Int) : ∀ (f : Nat) (b c : Nat → Bool) (st s : Int), (∀ j, j < n → b j = c j) → rnS cd n p f b st s = rnS cd n p f c st s
  | 0, _, _, _, _, _ => rfl
  | f + 1, b, c, st, s, h => by
    simp only [rnS]
    rw [nx_cg cd n h]
    split
    · rfl
    · exact rnS_cg cd n p f _ _ _ _ (fun j hj => by unfold wo; rw [h j hj])
theorem cnt_cg {b c : Nat → Bool} : ∀ n : Nat, (∀ j, j < n → b j = c j) → cnt b n = cnt c n
  | 0, _ => rfl
  | n + 1, h => by simp only [cnt]; rw [cnt_cg n (fun j hj => h j (by omega)), h n (by omega)]
theorem cnt_wo (b : Nat → Bool) (j : Nat) : ∀ n : Nat, j < n → b j = true → cnt (wo b j) n = cnt b n - 1
  | 0, h, _ => by omega
  | n + 1, h, hb => by
    simp only [cnt]
    by_cases e : n = j
    · subst e
      have h1 : cnt (wo b (n : Int)) n = cnt b n := cnt_cg n (fun q hq => by unfold wo; rw [decide_eq_false (by omega)]; simp)
      have h2 : wo b (n : Int) n = false := by unfold wo; simp
      rw [h1, h2, hb]
      show cnt b n + 0 = cnt b n + 1 - 1
      omega
    · have h1 := cnt_wo b j n (by omega) hb
      have h2 : wo b (j : Int) n = b n := by unfold wo; rw [decide_eq_false (by omega)]; simp
      rw [h1, h2]; omega
theorem cnt_0 {b : Nat → Bool} : ∀ n : Nat, cnt b n ≤ 0 → ∀ j, j < n → b j = false
  | 0, _, j, hj => by omega
  | n + 1, h, j, hj => by
    simp only [cnt] at h
    have h1 := cnt_b b n
    have h2 := tB_ran (b n)
    by_cases e : j = n
    · subst e
      cases hb : b j
      · rfl
      · rw [hb] at h; simp [tB] at h; omega
    · exact cnt_0 n (by omega) j (by omega)
def hg_ (cd : CD) : Nat → Bool := fun p => decide (cHu cd p ≠ -1000000)
def s_rain (A : AS) (p w : Int) (n : Nat) : Int := if A 0 7 = 0 then -1000002 else if (0 ≤ p ∧ p ≤ 100) ∧ (0 ≤ w ∧ w ≤ 1) then (if w = 1 then nx (A 4) (hg_ (A 4)) n else rnS (A 4) n p n (hg_ (A 4)) 1000000 0) else -1000001
theorem clr10 : ∀ x : Nat, x < 1024 → ∀ k : Nat, k < 10 → bAnd (x : Int) (bXor (bShl 1 k) (-1)) = ((x &&& (1023 - 2 ^ k) : Nat) : Int) := by decide +kernel
theorem clr_t : ∀ k : Nat, k < 10 → ∀ p : Nat, p < 10 → Nat.testBit (1023 - 2 ^ k) p = !decide (p = k) := by decide +kernel
theorem BS.clear {s : Int} {n : Nat} {b : Nat → Bool} (h : BS s n b) (hn : n ≤ 10) {k : Nat} (hk : k < 10) : BS (bAnd s (bXor (bShl 1 k) (-1))) n (wo b k) := by
  obtain ⟨x, rfl, hx, ht⟩ := h
  have h10 : x < 1024 := by
    have : x < 2 ^ 10 := Nat.lt_pow_two_of_testBit x (fun i hi => by rw [ht i, decide_eq_false (by omega), Bool.false_and])
    exact this
  refine ⟨x &&& (1023 - 2 ^ k), clr10 x h10 k hk, Nat.lt_of_le_of_lt Nat.and_le_left hx, fun p => ?_⟩
  rw [Nat.testBit_and, ht p]
  by_cases hp : p < n
  · rw [decide_eq_true hp, clr_t k hk p (by omega)]
    unfold wo
    simp only [Bool.true_and]
    congr 2
    exact decide_eq_decide.mpr (by omega)
  · rw [decide_eq_false hp, Bool.false_and, Bool.false_and, Bool.false_and]
theorem rain_b {y st : Int} (h1 : 1 ≤ y ∧ y ≤ 9) (h2 : 0 ≤ st ∧ st ≤ 1000000) : 0 ≤ y * (1000000 - st) ∧ y * (1000000 - st) ≤ 9000000 := by
  refine ⟨Int.mul_nonneg (by omega) (by omega), ?_⟩
  have := Int.mul_le_mul_of_nonneg_right h1.2 (show 0 ≤ 1000000 - st by omega)
  omega
theorem rain_s {st p : Int} (h1 : 0 ≤ p ∧ p ≤ 100) (h2 : 0 ≤ st ∧ st ≤ 1000000) : (0 ≤ st * (100 - p) ∧ st * (100 - p) ≤ 100000000) ∧ 0 ≤ Int.tdiv (st * (100 - p)) 100 ∧ Int.tdiv (st * (100 - p)) 100 ≤ 1000000 := by
  have h3 : 0 ≤ st * (100 - p) := Int.mul_nonneg h2.1 (by omega)
  have h4 := Int.mul_le_mul_of_nonneg_right h2.2 (show 0 ≤ 100 - p by omega)
  rw [Int.tdiv_eq_ediv_of_nonneg h3]
  omega
set_option maxRecDepth 20000 in
set_option maxHeartbeats 3000000 in
theorem l_takenNext {G : Ctx} {M : Mem} (hX : XO M) {a : Nat} {cd : CD} (hRc : mR M 47 0 = a) (hC : CA M a) (hD : CC (mI M) a cd) (hW : WFc cd) (n : Nat) (hn : cd 2 = n) {s : Int} {b : Nat → Bool} (hB : BS s n b) : ∀ (k r : Nat) , r + k = n → EV G m_X11_takenNext 0 0 0 (rI M (nm1 (nx cd b n))) 7 [some (vR 21), some (vI s), some (vI (nm1 (nx cd b r))), some (vI (nxM cd b r)), some (vI (r : Int))] [] M := by
  intro k
  induction k with
  | zero =>
    intro r  hr
    obtain rfl : r = n := by omega
    have hpn := hW.pn
    refine E_iload dX11_takenNext_7 rfl ?_
    refine E_aload_n dX11_takenNext_9 rfl ?_
    refine g_X11_48 rfl dX11_takenNext_10 hX.o hX.wash ?_
    refine g_X11_168 rfl dX11_takenNext_13 hX.w0.o hRc ?_
    refine g_X11_172 rfl dX11_takenNext_16 hC.o (hD.pnc.trans hn) ?_
    refine E_icmp_ge (tgt := 71) dX11_takenNext_19 (by decide) (fun h19 => ?_) (fun h19 => ?_)
    · refine E_iload_n dX11_takenNext_71 rfl ?_
      refine E_iret dX11_takenNext_72 rfl ?_
      exact ⟨rfl, rfl⟩
    · exfalso; omega
  | succ k ih =>
    intro r  hr
    have hpn := hW.pn
    have hbt := hB.bit (p := r) (by omega) (by omega)
    have hy := hW.ya (p := r) (by omega) (by omega)
    have hm : nxM cd b r = if nx cd b r = -1000000 then 0 else cd (87 + 6 * nx cd b r) := rfl
    refine E_iload dX11_takenNext_7 rfl ?_
    refine E_aload_n dX11_takenNext_9 rfl ?_
    refine g_X11_48 rfl dX11_takenNext_10 hX.o hX.wash ?_
    refine g_X11_168 rfl dX11_takenNext_13 hX.w0.o hRc ?_
    refine g_X11_172 rfl dX11_takenNext_16 hC.o (hD.pnc.trans hn) ?_
    refine E_icmp_ge (tgt := 71) dX11_takenNext_19 (by decide) (fun h19 => ?_) (fun h19 => ?_)
    · exfalso; omega
    · refine E_iload_n dX11_takenNext_22 rfl ?_
      refine E_iload dX11_takenNext_23 rfl ?_
      refine E_ishr dX11_takenNext_25 ?_
      refine E_iconst dX11_takenNext_26 (by decide) ?_
      refine E_iand dX11_takenNext_27 ?_
      rw [hbt]
      refine E_if_eq (tgt := 65) dX11_takenNext_28 (by decide) (fun h28 => ?_) (fun h28 => ?_)
      · simp only [tB0, ne_eq, Bool.not_eq_false, Bool.not_eq_true, decide_eq_true_eq, decide_eq_false_iff_not, Classical.not_not] at h28
        refine E_iinc dX11_takenNext_65 rfl (by omega) (by omega) (by decide) rfl (by decide) ?_
        try dsimp only [List.set]
        refine E_goto (tgt := 7) dX11_takenNext_68 (by decide) ?_
        have e : nx cd b (r + 1) = nx cd b r := by simp only [nx]; rw [if_neg (by rw [h28]; simp)]
        exact EV.lq (by unfold nxM; rw [e]; rfl) (ih (r + 1) (by omega))
      · simp only [tB0, ne_eq, Bool.not_eq_false, Bool.not_eq_true, decide_eq_true_eq, decide_eq_false_iff_not, Classical.not_not] at h28
        refine E_aload_n dX11_takenNext_31 rfl ?_
        refine g_X11_48 rfl dX11_takenNext_32 hX.o hX.wash ?_
        refine g_X11_168 rfl dX11_takenNext_35 hX.w0.o hRc ?_
        refine g_X11_209 rfl dX11_takenNext_38 hC.o hC.yards ?_
        refine E_iload dX11_takenNext_41 rfl ?_
        refine E_iald dX11_takenNext_43 hC.s_yards (by omega) (by omega) (hD.yards (by omega) (by omega)) ?_
        refine E_iload_n dX11_takenNext_44 rfl ?_
        refine E_icmp_le (tgt := 65) dX11_takenNext_45 (by decide) (fun h45 => ?_) (fun h45 => ?_)
        · refine E_iinc dX11_takenNext_65 rfl (by omega) (by omega) (by decide) rfl (by decide) ?_
          try dsimp only [List.set]
          refine E_goto (tgt := 7) dX11_takenNext_68 (by decide) ?_
          have e : nx cd b (r + 1) = nx cd b r := by simp only [nx]; rw [if_neg (fun z => by rcases z.2 with z | z; (· rw [if_pos z] at hm; omega); (· by_cases q : nx cd b r = -1000000; (· rw [if_pos q] at hm; omega); (· rw [if_neg q] at hm; omega)))]
          exact EV.lq (by unfold nxM; rw [e]; rfl) (ih (r + 1) (by omega))
        · refine E_iload dX11_takenNext_48 rfl ?_
          refine E_istore_n dX11_takenNext_50 rfl (by decide) ?_
          try dsimp only [List.set]
          refine E_aload_n dX11_takenNext_51 rfl ?_
          refine g_X11_48 rfl dX11_takenNext_52 hX.o hX.wash ?_
          refine g_X11_168 rfl dX11_takenNext_55 hX.w0.o hRc ?_
          refine g_X11_209 rfl dX11_takenNext_58 hC.o hC.yards ?_
          refine E_iload dX11_takenNext_61 rfl ?_
          refine E_iald dX11_takenNext_63 hC.s_yards (by omega) (by omega) (hD.yards (by omega) (by omega)) ?_
          refine E_istore_n dX11_takenNext_64 rfl (by decide) ?_
          try dsimp only [List.set]
          refine E_iinc dX11_takenNext_65 rfl (by omega) (by omega) (by decide) rfl (by decide) ?_
          try dsimp only [List.set]
          refine E_goto (tgt := 7) dX11_takenNext_68 (by decide) ?_
          have e : nx cd b (r + 1) = r := by simp only [nx]; rw [if_pos ⟨h28, by by_cases q : nx cd b r = -1000000; (· exact Or.inl q); (· rw [if_neg q] at hm; exact Or.inr (by omega))⟩]
          exact EV.lq (by unfold nxM; rw [e, if_neg (by omega)]; unfold nm1; rw [if_neg (by omega)]; rfl) (ih (r + 1) (by omega))
set_option maxRecDepth 20000 in
set_option maxHeartbeats 3000000 in
theorem c_takenNext {G : Ctx} {M : Mem} (hX : XO M) {a : Nat} {cd : CD} (hRc : mR M 47 0 = a) (hC : CA M a) (hD : CC (mI M) a cd) (hW : WFc cd) (n : Nat) (hn : cd 2 = n) {s : Int} {b : Nat → Bool} (hB : BS s n b) : CT G m_X11_takenNext 0 0 0 [vR 21, vI s] M (rI M (nm1 (nx cd b n))) := by
  refine CT.of k_X11_takenNext 3 (ls := [some (vR 21), some (vI s), none, none, none]) rfl (Nat.le_of_ble_eq_true rfl) ?_
  refine E_iconst dX11_takenNext_0 (by decide) ?_
  refine E_istore_n dX11_takenNext_1 rfl (by decide) ?_
  try dsimp only [List.set]
  refine E_iconst dX11_takenNext_2 (by decide) ?_
  refine E_istore_n dX11_takenNext_3 rfl (by decide) ?_
  try dsimp only [List.set]
  refine E_iconst dX11_takenNext_4 (by decide) ?_
  refine E_istore dX11_takenNext_5 rfl (by decide) ?_
  try dsimp only [List.set]
  exact l_takenNext hX hRc hC hD hW n hn hB n 0 (by omega)
set_option maxRecDepth 20000 in
set_option maxHeartbeats 3000000 in
theorem l_yardsWet {G : Ctx} {M : Mem} (hX : XO M) {a : Nat} {cd : CD} (hRc : mR M 47 0 = a) (hC : CA M a) (hD : CC (mI M) a cd) (hW : WFc cd) (n : Nat) (hn : cd 2 = n) {p : Int} (p0 : 0 ≤ p ∧ p ≤ 100) : ∀ (k r : Nat) (s st sum : Int) (b : Nat → Bool) (z : Option MV), r + k = n → BS s n b ∧ (0 ≤ st ∧ st ≤ 1000000) ∧ (0 ≤ sum ∧ sum + 9000000 * k ≤ 90000000) → EV G m_X11_yardsWet 1 0 0 (rI M (rnS cd n p k b st sum)) 18 [some (vR 21), some (vI p), some (vI s), some (vI st), some (vI sum), some (vI (r : Int)), z] [] M := by
  intro k
  induction k with
  | zero =>
    intro r s st sum b z hr hi
    obtain rfl : r = n := by omega
    have hpn := hW.pn
    refine E_iload dX11_yardsWet_18 rfl ?_
    refine E_aload_n dX11_yardsWet_20 rfl ?_
    refine g_X11_48 rfl dX11_yardsWet_21 hX.o hX.wash ?_
    refine g_X11_168 rfl dX11_yardsWet_24 hX.w0.o hRc ?_
    refine g_X11_172 rfl dX11_yardsWet_27 hC.o (hD.pnc.trans hn) ?_
    refine E_icmp_ge (tgt := 97) dX11_yardsWet_30 (by decide) (fun h30 => ?_) (fun h30 => ?_)
    · refine E_iload dX11_yardsWet_97 rfl ?_
      refine E_iret dX11_yardsWet_99 rfl ?_
      exact ⟨rfl, rfl⟩
    · exfalso; omega
  | succ k ih =>
    intro r s st sum b z hr hi
    have hpn := hW.pn
    have hr := nx_r cd b n
    have hnm : nm1 (nx cd b n) = if nx cd b n = -1000000 then -1 else nx cd b n := rfl
    refine E_iload dX11_yardsWet_18 rfl ?_
    refine E_aload_n dX11_yardsWet_20 rfl ?_
    refine g_X11_48 rfl dX11_yardsWet_21 hX.o hX.wash ?_
    refine g_X11_168 rfl dX11_yardsWet_24 hX.w0.o hRc ?_
    refine g_X11_172 rfl dX11_yardsWet_27 hC.o (hD.pnc.trans hn) ?_
    refine E_icmp_ge (tgt := 97) dX11_yardsWet_30 (by decide) (fun h30 => ?_) (fun h30 => ?_)
    · exfalso; omega
    · refine E_aload_n dX11_yardsWet_33 rfl ?_
      refine E_iload_n dX11_yardsWet_34 rfl ?_
      refine i_X11_264 rfl dX11_yardsWet_35 (by exact hX.o) (c_takenNext hX hRc hC hD hW n hn hi.1) (by omega) (Nat.le_of_ble_eq_true rfl) rfl rfl ?_
      rintro _ _ ⟨rfl, rfl⟩
      try dsimp only [pu]
      refine E_istore dX11_yardsWet_38 rfl (by decide) ?_
      try dsimp only [List.set]
      refine E_iload dX11_yardsWet_40 rfl ?_
      refine E_if_ge (tgt := 48) dX11_yardsWet_42 (by decide) (fun h42 => ?_) (fun h42 => ?_)
      · have hne : nx cd b n ≠ -1000000 := by omega
        have hnn : nm1 (nx cd b n) = nx cd b n := by omega
        have hy := hW.ya (p := nx cd b n) (by omega) (by omega)
        have hyb := rain_b hy hi.2.1
        have hs2 := rain_s p0 hi.2.1
        refine E_iload dX11_yardsWet_48 rfl ?_
        refine E_aload_n dX11_yardsWet_50 rfl ?_
        refine g_X11_48 rfl dX11_yardsWet_51 hX.o hX.wash ?_
        refine g_X11_168 rfl dX11_yardsWet_54 hX.w0.o hRc ?_
        refine g_X11_209 rfl dX11_yardsWet_57 hC.o hC.yards ?_
        refine E_iload dX11_yardsWet_60 rfl ?_
        refine E_iald dX11_yardsWet_62 hC.s_yards (by omega) (by omega) (by rw [hnn]; exact hD.yards (by omega) (by omega)) ?_
        refine c_X11_372 rfl dX11_yardsWet_63 ?_
        refine E_iload_n dX11_yardsWet_66 rfl ?_
        refine E_isub dX11_yardsWet_67 (by omega) (by omega) ?_
        refine E_imul dX11_yardsWet_68 (by omega) (by omega) ?_
        refine E_iadd dX11_yardsWet_69 (by omega) (by omega) ?_
        refine E_istore dX11_yardsWet_70 rfl (by decide) ?_
        try dsimp only [List.set]
        refine E_iload_n dX11_yardsWet_72 rfl ?_
        refine E_bipush dX11_yardsWet_73 (by decide) ?_
        refine E_iload_n dX11_yardsWet_75 rfl ?_
        refine E_isub dX11_yardsWet_76 (by omega) (by omega) ?_
        refine E_imul dX11_yardsWet_77 (by omega) (by omega) ?_
        refine E_bipush dX11_yardsWet_78 (by decide) ?_
        refine E_idiv dX11_yardsWet_80 (by omega) (by omega) (by omega) ?_
        refine E_istore_n dX11_yardsWet_81 rfl (by decide) ?_
        try dsimp only [List.set]
        refine E_iload_n dX11_yardsWet_82 rfl ?_
        refine E_iconst dX11_yardsWet_83 (by decide) ?_
        refine E_iload dX11_yardsWet_84 rfl ?_
        refine E_ishl dX11_yardsWet_86 ?_
        refine E_iconst dX11_yardsWet_87 (by decide) ?_
        refine E_ixor dX11_yardsWet_88 ?_
        refine E_iand dX11_yardsWet_89 ?_
        refine E_istore_n dX11_yardsWet_90 rfl (by decide) ?_
        try dsimp only [List.set]
        refine E_iinc dX11_yardsWet_91 rfl (by omega) (by omega) (by decide) rfl (by decide) ?_
        try dsimp only [List.set]
        refine E_goto (tgt := 18) dX11_yardsWet_94 (by decide) ?_
        exact EV.lq (by rw [hnn]; simp only [rnS]; rfl) (EV.post (fun x M' hq => by simp only [rnS]; rw [if_neg hne]; exact hq) (ih (r + 1) _ _ _ (wo b (nx cd b n)) _ (by omega) ⟨by obtain ⟨j, hj⟩ := Int.eq_ofNat_of_zero_le (show 0 ≤ nx cd b n by omega); rw [hj]; exact hi.1.clear (by omega) (by omega), hs2.2, by omega, by omega⟩))
      · refine E_goto (tgt := 97) dX11_yardsWet_45 (by decide) ?_
        refine E_iload dX11_yardsWet_97 rfl ?_
        refine E_iret dX11_yardsWet_99 rfl ?_
        exact ⟨by simp only [rnS]; rw [if_pos (by omega)], rfl⟩
set_option maxRecDepth 20000 in
set_option maxHeartbeats 3000000 in
theorem c_yardsWet {G : Ctx} {M : Mem} (hX : XO M) {a : Nat} {cd : CD} (hRc : mR M 47 0 = a) (hC : CA M a) (hD : CC (mI M) a cd) (hW : WFc cd) (n : Nat) (hn : cd 2 = n) {p : Int} (p0 : 0 ≤ p ∧ p ≤ 100) (hV : HV cd (cHu cd)) (hH : HC (mI M) 47 cd (cHu cd)) : CT G m_X11_yardsWet 2 0 0 [vR 21, vI p] M (rI M (rnS cd n p n (hg_ cd) 1000000 0)) := by
  refine CT.of k_X11_yardsWet 5 (ls := [some (vR 21), some (vI p), none, none, none, none, none]) rfl (Nat.le_of_ble_eq_true rfl) ?_
  have hpn := hW.pn
  refine E_aload_n dX11_yardsWet_0 rfl ?_
  refine g_X11_48 rfl dX11_yardsWet_1 hX.o hX.wash ?_
  refine i_X11_186 rfl dX11_yardsWet_4 (by exact hX.w0.o) (c_hungBits (by exact hX.w0) hRc hC hD hW hV hH n hn) (by omega) (Nat.le_of_ble_eq_true rfl) rfl rfl ?_
  rintro _ _ ⟨rfl, rfl⟩
  try dsimp only [pu]
  refine E_istore_n dX11_yardsWet_7 rfl (by decide) ?_
  try dsimp only [List.set]
  refine c_X11_372 rfl dX11_yardsWet_8 ?_
  refine E_istore_n dX11_yardsWet_11 rfl (by decide) ?_
  try dsimp only [List.set]
  refine E_iconst dX11_yardsWet_12 (by decide) ?_
  refine E_istore dX11_yardsWet_13 rfl (by decide) ?_
  try dsimp only [List.set]
  refine E_iconst dX11_yardsWet_15 (by decide) ?_
  refine E_istore dX11_yardsWet_16 rfl (by decide) ?_
  try dsimp only [List.set]
  exact EV.deep (d := 1) (by omega) (l_yardsWet hX hRc hC hD hW n hn p0 n 0 _ _ _ (hg_ cd) _ (by omega) ⟨fHu_bs _ n (by omega), by omega, by omega⟩)
set_option maxRecDepth 20000 in
set_option maxHeartbeats 3000000 in
theorem x_rain {G : Ctx} {M : Mem} {A : AS} {B : Int} (hI : CI M A) (hG : GA A B) (hB : B ≤ 900000) {p w : Int} (n : Nat) (hn : A 4 2 = n) : CT G m_X11_rain 3 0 0 [vR 21, vI p, vI w] M (xM M (s_rain A p w n) (A)) := by
  refine CT.of k_X11_rain 1 (ls := [some (vR 21), some (vI p), some (vI w), none]) rfl (Nat.le_of_ble_eq_true rfl) ?_
  obtain ⟨hX, hN, hR, hT, hK, hS, hW0, hW1, hW2⟩ := id hI
  obtain ⟨a, hRc, hC, ha, haN, hD, hH, hE, hSn, hg, hZ⟩ := hW0
  have hW := hG.w.c
  have hpn := hW.pn
  have hl8 := hW.ln
  have hr8 := hW.rn
  have hgg := hG.w.g
  have hth := hG.th
  have hV := hG.w.hv
  refine E_aload_n dX11_rain_0 rfl ?_
  refine i_X11_158 rfl dX11_rain_1 (by exact hX.o) (c_noCourt hX hRc hC hD) (by omega) (Nat.le_of_ble_eq_true rfl) rfl rfl ?_
  rintro _ _ ⟨rfl, rfl⟩
  try dsimp only [pu]
  refine E_if_eq (tgt := 10) dX11_rain_4 (by decide) (fun h4 => ?_) (fun h4 => ?_)
  · simp only [tB0, ne_eq, Bool.not_eq_false, Bool.not_eq_true, decide_eq_true_eq, decide_eq_false_iff_not, Classical.not_not] at h4
    refine E_iload_n dX11_rain_10 rfl ?_
    refine E_iconst dX11_rain_11 (by decide) ?_
    refine E_bipush dX11_rain_12 (by decide) ?_
    refine i_X11_68 rfl dX11_rain_14 c_isIn (by omega) (Nat.le_of_ble_eq_true rfl) rfl rfl ?_
    rintro _ _ ⟨rfl, rfl⟩
    try dsimp only [pu]
    refine E_if_eq (tgt := 29) dX11_rain_17 (by decide) (fun h17 => ?_) (fun h17 => ?_)
    · simp only [tB0, ne_eq, Bool.not_eq_false, Bool.not_eq_true, decide_eq_true_eq, decide_eq_false_iff_not, Classical.not_not] at h17
      refine c_X11_72 rfl dX11_rain_29 ?_
      refine E_iret dX11_rain_31 rfl ?_
      refine ⟨?_, ?_, (FX.rfl' M)⟩
      · congr 2; unfold s_rain; rw [if_neg (by omega), if_neg (by omega)]; try rfl
      · exact hI
    · simp only [tB0, ne_eq, Bool.not_eq_false, Bool.not_eq_true, decide_eq_true_eq, decide_eq_false_iff_not, Classical.not_not] at h17
      refine E_iload_n dX11_rain_20 rfl ?_
      refine E_iconst dX11_rain_21 (by decide) ?_
      refine E_iconst dX11_rain_22 (by decide) ?_
      refine i_X11_68 rfl dX11_rain_23 c_isIn (by omega) (Nat.le_of_ble_eq_true rfl) rfl rfl ?_
      rintro _ _ ⟨rfl, rfl⟩
      try dsimp only [pu]
      refine E_if_ne (tgt := 32) dX11_rain_26 (by decide) (fun h26 => ?_) (fun h26 => ?_)
      · simp only [tB0, ne_eq, Bool.not_eq_false, Bool.not_eq_true, decide_eq_true_eq, decide_eq_false_iff_not, Classical.not_not] at h26
        refine E_iload_n dX11_rain_32 rfl ?_
        refine E_if_ne (tgt := 42) dX11_rain_33 (by decide) (fun h33 => ?_) (fun h33 => ?_)
        · refine E_aload_n dX11_rain_42 rfl ?_
          refine E_aload_n dX11_rain_43 rfl ?_
          refine g_X11_48 rfl dX11_rain_44 hX.o hX.wash ?_
          refine i_X11_186 rfl dX11_rain_47 (by exact hX.w0.o) (c_hungBits (by exact hX.w0) hRc hC hD hW hV hH n hn) (by omega) (Nat.le_of_ble_eq_true rfl) rfl rfl ?_
          rintro _ _ ⟨rfl, rfl⟩
          try dsimp only [pu]
          refine i_X11_264 rfl dX11_rain_50 (by exact hX.o) (c_takenNext hX hRc hC hD hW n hn (b := hg_ (A 4)) (fHu_bs _ n (by omega))) (by omega) (Nat.le_of_ble_eq_true rfl) rfl rfl ?_
          rintro _ _ ⟨rfl, rfl⟩
          try dsimp only [pu]
          refine E_istore_n dX11_rain_53 rfl (by decide) ?_
          try dsimp only [List.set]
          have hr := nx_r (A 4) (hg_ (A 4)) n
          have hnm : nm1 (nx (A 4) (hg_ (A 4)) n) = if nx (A 4) (hg_ (A 4)) n = -1000000 then -1 else nx (A 4) (hg_ (A 4)) n := rfl
          refine E_iload_n dX11_rain_54 rfl ?_
          refine E_if_ge (tgt := 63) dX11_rain_55 (by decide) (fun h55 => ?_) (fun h55 => ?_)
          · refine E_iload_n dX11_rain_63 rfl ?_
            refine E_iret dX11_rain_64 rfl ?_
            refine ⟨?_, hI, FX.rfl' M⟩
            congr 2; unfold s_rain; rw [if_neg (by omega), if_pos (by omega), if_pos (by omega)]; omega
          · refine c_X11_201 rfl dX11_rain_58 ?_
            refine E_goto (tgt := 64) dX11_rain_60 (by decide) ?_
            refine E_iret dX11_rain_64 rfl ?_
            refine ⟨?_, hI, FX.rfl' M⟩
            congr 2; unfold s_rain; rw [if_neg (by omega), if_pos (by omega), if_pos (by omega)]; omega
        · refine E_aload_n dX11_rain_36 rfl ?_
          refine E_iload_n dX11_rain_37 rfl ?_
          refine i_X11_261 rfl dX11_rain_38 (by exact hX.o) (c_yardsWet hX hRc hC hD hW n hn (by omega) hV hH) (by omega) (Nat.le_of_ble_eq_true rfl) rfl rfl ?_
          rintro _ _ ⟨rfl, rfl⟩
          try dsimp only [pu]
          refine E_iret dX11_rain_41 rfl ?_
          refine ⟨?_, ?_, (FX.rfl' M)⟩
          · congr 2; unfold s_rain; rw [if_neg (by omega), if_pos (by omega), if_neg (by omega)]; try rfl
          · exact hI
      · simp only [tB0, ne_eq, Bool.not_eq_false, Bool.not_eq_true, decide_eq_true_eq, decide_eq_false_iff_not, Classical.not_not] at h26
        refine c_X11_72 rfl dX11_rain_29 ?_
        refine E_iret dX11_rain_31 rfl ?_
        refine ⟨?_, ?_, (FX.rfl' M)⟩
        · congr 2; unfold s_rain; rw [if_neg (by omega), if_neg (by omega)]; try rfl
        · exact hI
  · simp only [tB0, ne_eq, Bool.not_eq_false, Bool.not_eq_true, decide_eq_true_eq, decide_eq_false_iff_not, Classical.not_not] at h4
    refine c_X11_154 rfl dX11_rain_7 ?_
    refine E_iret dX11_rain_9 rfl ?_
    refine ⟨?_, ?_, (FX.rfl' M)⟩
    · congr 2; unfold s_rain; rw [if_pos (by omega)]; try rfl
    · exact hI
set_option maxRecDepth 20000 in
set_option maxHeartbeats 3000000 in
theorem l_nextIn {G : Ctx} {M : Mem} {m : Nat} {cd : CD} (hO : MO M m) (hQ : MC (mI M) m cd) (hW : WFc cd) (n : Nat) (hn : cd 2 = n) {s : Int} {tk : Nat → Bool} (hB : BS s n tk) : ∀ (k r : Nat) (z : Option MV), r + k = n → EV G m_X12_nextIn 1 0 0 (rI M (nx cd (fun p => hg_ cd p && !tk p) n)) 5 [some (vR m), some (vI s), some (vI (nx cd (fun p => hg_ cd p && !tk p) r)), some (vI (r : Int)), z] [] M := by
  intro k
  induction k with
  | zero =>
    intro r z hr
    obtain rfl : r = n := by omega
    have hpn := hW.pn
    refine E_iload_n dX12_nextIn_5 rfl ?_
    refine E_aload_n dX12_nextIn_6 rfl ?_
    refine g_X12_19 rfl dX12_nextIn_7 hO.o hO.court ?_
    refine E_iconst dX12_nextIn_10 (by decide) ?_
    refine E_iald dX12_nextIn_11 hO.s_court (by omega) (by omega) (hQ.at (j := 2) (by omega) (by omega) (by omega)) ?_
    refine E_icmp_ge (tgt := 79) dX12_nextIn_12 (by decide) (fun h12 => ?_) (fun h12 => ?_)
    · refine E_iload_n dX12_nextIn_79 rfl ?_
      refine E_iret dX12_nextIn_80 rfl ?_
      exact ⟨rfl, rfl⟩
    · exfalso; omega
  | succ k ih =>
    intro r z hr
    have hpn := hW.pn
    have hbt := hB.bit (p := r) (by omega) (by omega)
    have hr2 := nx_r cd (fun p => hg_ cd p && !tk p) r
    refine E_iload_n dX12_nextIn_5 rfl ?_
    refine E_aload_n dX12_nextIn_6 rfl ?_
    refine g_X12_19 rfl dX12_nextIn_7 hO.o hO.court ?_
    refine E_iconst dX12_nextIn_10 (by decide) ?_
    refine E_iald dX12_nextIn_11 hO.s_court (by omega) (by omega) (hQ.at (j := 2) (by omega) (by omega) (by omega)) ?_
    refine E_icmp_ge (tgt := 79) dX12_nextIn_12 (by decide) (fun h12 => ?_) (fun h12 => ?_)
    · exfalso; omega
    · refine E_aload_n dX12_nextIn_15 rfl ?_
      refine E_iload_n dX12_nextIn_16 rfl ?_
      refine E_iconst dX12_nextIn_17 (by decide) ?_
      refine i_X12_202 rfl dX12_nextIn_18 (by exact hO.o) (c_of hO hQ (j := 88 + 6 * ↑r) (by omega) (by omega) (by omega)) (by omega) (Nat.le_of_ble_eq_true rfl) rfl rfl ?_
      rintro _ _ ⟨rfl, rfl⟩
      try dsimp only [pu]
      refine c_X12_89 rfl dX12_nextIn_21 ?_
      refine E_icmp_eq (tgt := 38) dX12_nextIn_23 (by decide) (fun h23 => ?_) (fun h23 => ?_)
      · refine E_iconst dX12_nextIn_38 (by decide) ?_
        refine E_istore dX12_nextIn_39 rfl (by decide) ?_
        try dsimp only [List.set]
        refine E_iload dX12_nextIn_41 rfl ?_
        refine E_if_eq (tgt := 71) dX12_nextIn_43 (by decide) (fun h43 => ?_) (fun h43 => ?_)
        · refine E_iload_n dX12_nextIn_71 rfl ?_
          refine E_istore_n dX12_nextIn_72 rfl (by decide) ?_
          try dsimp only [List.set]
          refine E_iinc dX12_nextIn_73 rfl (by omega) (by omega) (by decide) rfl (by decide) ?_
          try dsimp only [List.set]
          refine E_goto (tgt := 5) dX12_nextIn_76 (by decide) ?_
          have hb : (fun p => hg_ cd p && !tk p) r = false := by unfold hg_ cHu; simp only []; rw [decide_eq_false (by omega)]; rfl
          have e : nx cd (fun p => hg_ cd p && !tk p) (r + 1) = nx cd (fun p => hg_ cd p && !tk p) r := by simp only [nx]; rw [if_neg (fun z => by rw [show (hg_ cd r && !tk r) = false from hb] at z; exact absurd z.1 (by simp))]
          exact EV.lq (by rw [e]; rfl) (ih (r + 1) _ (by omega))
        · exfalso; omega
      · refine E_iload_n dX12_nextIn_26 rfl ?_
        refine E_iload_n dX12_nextIn_27 rfl ?_
        refine E_ishr dX12_nextIn_28 ?_
        refine E_iconst dX12_nextIn_29 (by decide) ?_
        refine E_iand dX12_nextIn_30 ?_
        rw [hbt]
        refine E_if_ne (tgt := 38) dX12_nextIn_31 (by decide) (fun h31 => ?_) (fun h31 => ?_)
        · simp only [tB0, ne_eq, Bool.not_eq_false, Bool.not_eq_true, decide_eq_true_eq, decide_eq_false_iff_not, Classical.not_not] at h31
          refine E_iconst dX12_nextIn_38 (by decide) ?_
          refine E_istore dX12_nextIn_39 rfl (by decide) ?_
          try dsimp only [List.set]
          refine E_iload dX12_nextIn_41 rfl ?_
          refine E_if_eq (tgt := 71) dX12_nextIn_43 (by decide) (fun h43 => ?_) (fun h43 => ?_)
          · refine E_iload_n dX12_nextIn_71 rfl ?_
            refine E_istore_n dX12_nextIn_72 rfl (by decide) ?_
            try dsimp only [List.set]
            refine E_iinc dX12_nextIn_73 rfl (by omega) (by omega) (by decide) rfl (by decide) ?_
            try dsimp only [List.set]
            refine E_goto (tgt := 5) dX12_nextIn_76 (by decide) ?_
            have hb : (fun p => hg_ cd p && !tk p) r = false := by unfold hg_ cHu; simp only []; rw [show tk r = true from h31]; simp
            have e : nx cd (fun p => hg_ cd p && !tk p) (r + 1) = nx cd (fun p => hg_ cd p && !tk p) r := by simp only [nx]; rw [if_neg (fun z => by rw [show (hg_ cd r && !tk r) = false from hb] at z; exact absurd z.1 (by simp))]
            exact EV.lq (by rw [e]; rfl) (ih (r + 1) _ (by omega))
          · exfalso; omega
        · simp only [tB0, ne_eq, Bool.not_eq_false, Bool.not_eq_true, decide_eq_true_eq, decide_eq_false_iff_not, Classical.not_not] at h31
          refine E_iconst dX12_nextIn_34 (by decide) ?_
          refine E_goto (tgt := 39) dX12_nextIn_35 (by decide) ?_
          refine E_istore dX12_nextIn_39 rfl (by decide) ?_
          try dsimp only [List.set]
          refine E_iload dX12_nextIn_41 rfl ?_
          refine E_if_eq (tgt := 71) dX12_nextIn_43 (by decide) (fun h43 => ?_) (fun h43 => ?_)
          · exfalso; omega
          · refine E_iload_n dX12_nextIn_46 rfl ?_
            refine c_X12_89 rfl dX12_nextIn_47 ?_
            refine E_icmp_eq (tgt := 67) dX12_nextIn_49 (by decide) (fun h49 => ?_) (fun h49 => ?_)
            · refine E_iload_n dX12_nextIn_67 rfl ?_
              refine E_goto (tgt := 72) dX12_nextIn_68 (by decide) ?_
              refine E_istore_n dX12_nextIn_72 rfl (by decide) ?_
              try dsimp only [List.set]
              refine E_iinc dX12_nextIn_73 rfl (by omega) (by omega) (by decide) rfl (by decide) ?_
              try dsimp only [List.set]
              refine E_goto (tgt := 5) dX12_nextIn_76 (by decide) ?_
              have hb : (fun p => hg_ cd p && !tk p) r = true := by unfold hg_ cHu; simp only []; rw [decide_eq_true (by omega), show tk r = false from h31]; rfl
              have e : nx cd (fun p => hg_ cd p && !tk p) (r + 1) = r := by simp only [nx]; rw [if_pos ⟨hb, by omega⟩]
              exact EV.lq (by rw [e]; rfl) (ih (r + 1) _ (by omega))
            · refine E_aload_n dX12_nextIn_52 rfl ?_
              refine E_iload_n dX12_nextIn_53 rfl ?_
              refine E_iconst dX12_nextIn_54 (by decide) ?_
              refine i_X12_202 rfl dX12_nextIn_55 (by exact hO.o) (c_of hO hQ (j := 87 + 6 * ↑r) (by omega) (by omega) (by omega)) (by omega) (Nat.le_of_ble_eq_true rfl) rfl rfl ?_
              rintro _ _ ⟨rfl, rfl⟩
              try dsimp only [pu]
              refine E_aload_n dX12_nextIn_58 rfl ?_
              refine E_iload_n dX12_nextIn_59 rfl ?_
              refine E_iconst dX12_nextIn_60 (by decide) ?_
              refine i_X12_202 rfl dX12_nextIn_61 (by exact hO.o) (c_of hO hQ (j := 87 + 6 * nx cd (fun p => hg_ cd p && !tk p) r) (by omega) (by omega) (by omega)) (by omega) (Nat.le_of_ble_eq_true rfl) rfl rfl ?_
              rintro _ _ ⟨rfl, rfl⟩
              try dsimp only [pu]
              refine E_icmp_le (tgt := 71) dX12_nextIn_64 (by decide) (fun h64 => ?_) (fun h64 => ?_)
              · refine E_iload_n dX12_nextIn_71 rfl ?_
                refine E_istore_n dX12_nextIn_72 rfl (by decide) ?_
                try dsimp only [List.set]
                refine E_iinc dX12_nextIn_73 rfl (by omega) (by omega) (by decide) rfl (by decide) ?_
                try dsimp only [List.set]
                refine E_goto (tgt := 5) dX12_nextIn_76 (by decide) ?_
                have hb : (fun p => hg_ cd p && !tk p) r = true := by unfold hg_ cHu; simp only []; rw [decide_eq_true (by omega), show tk r = false from h31]; rfl
                have e : nx cd (fun p => hg_ cd p && !tk p) (r + 1) = nx cd (fun p => hg_ cd p && !tk p) r := by simp only [nx]; rw [if_neg (fun z => by omega)]
                exact EV.lq (by rw [e]; rfl) (ih (r + 1) _ (by omega))
              · refine E_iload_n dX12_nextIn_67 rfl ?_
                refine E_goto (tgt := 72) dX12_nextIn_68 (by decide) ?_
                refine E_istore_n dX12_nextIn_72 rfl (by decide) ?_
                try dsimp only [List.set]
                refine E_iinc dX12_nextIn_73 rfl (by omega) (by omega) (by decide) rfl (by decide) ?_
                try dsimp only [List.set]
                refine E_goto (tgt := 5) dX12_nextIn_76 (by decide) ?_
                have hb : (fun p => hg_ cd p && !tk p) r = true := by unfold hg_ cHu; simp only []; rw [decide_eq_true (by omega), show tk r = false from h31]; rfl
                have e : nx cd (fun p => hg_ cd p && !tk p) (r + 1) = r := by simp only [nx]; rw [if_pos ⟨hb, by omega⟩]
                exact EV.lq (by rw [e]; rfl) (ih (r + 1) _ (by omega))
set_option maxRecDepth 20000 in
set_option maxHeartbeats 3000000 in
theorem c_nextIn {G : Ctx} {M : Mem} {m : Nat} {cd : CD} (hO : MO M m) (hQ : MC (mI M) m cd) (hW : WFc cd) (n : Nat) (hn : cd 2 = n) {s : Int} {tk : Nat → Bool} (hB : BS s n tk) : CT G m_X12_nextIn 1 0 0 [vR m, vI s] M (rI M (nx cd (fun p => hg_ cd p && !tk p) n)) := by
  refine CT.of k_X12_nextIn 3 (ls := [some (vR m), some (vI s), none, none, none]) rfl (Nat.le_of_ble_eq_true rfl) ?_
  refine c_X12_89 rfl dX12_nextIn_0 ?_
  refine E_istore_n dX12_nextIn_2 rfl (by decide) ?_
  try dsimp only [List.set]
  refine E_iconst dX12_nextIn_3 (by decide) ?_
  refine E_istore_n dX12_nextIn_4 rfl (by decide) ?_
  try dsimp only [List.set]
  exact l_nextIn hO hQ hW n hn hB n 0 _ (by omega)
set_option maxRecDepth 20000 in
set_option maxHeartbeats 3000000 in
theorem l_rrain {G : Ctx} {M : Mem} {m : Nat} {cd : CD} (hO : MO M m) (hQ : MC (mI M) m cd) (hW : WFc cd) (n : Nat) (hn : cd 2 = n) {p w : Int} (p0 : 0 ≤ p ∧ p ≤ 100) : ∀ (k r : Nat) (s : Int) (tk : Nat → Bool) (st sum : Int), r + k = n → BS s n tk ∧ (0 ≤ st ∧ st ≤ 1000000) ∧ (0 ≤ sum ∧ sum + 9000000 * k ≤ 90000000) ∧ cnt (fun p => hg_ cd p && !tk p) n ≤ k → EV G m_X12_rain 2 0 0 (rI M (rnS cd n p k (fun p => hg_ cd p && !tk p) st sum)) 68 [some (vR m), some (vI p), some (vI w), some (vI s), some (vI sum), some (vI st), some (vI (nx cd (fun p => hg_ cd p && !tk p) n))] [] M := by
  intro k
  induction k with
  | zero =>
    intro r s tk st sum hr hi
    obtain rfl : r = n := by omega
    have hpn := hW.pn
    have hr := nx_r cd (fun p => hg_ cd p && !tk p) n
    have hz := nx_n cd (fun p => hg_ cd p && !tk p) n (cnt_0 n (by omega))
    refine E_iload dX12_rain_68 rfl ?_
    refine c_X12_89 rfl dX12_rain_70 ?_
    refine E_icmp_eq (tgt := 123) dX12_rain_72 (by decide) (fun h72 => ?_) (fun h72 => ?_)
    · refine E_iload dX12_rain_123 rfl ?_
      refine E_iret dX12_rain_125 rfl ?_
      exact ⟨rfl, rfl⟩
    · exfalso; omega
  | succ k ih =>
    intro r s tk st sum hr hi
    have hpn := hW.pn
    have hr := nx_r cd (fun p => hg_ cd p && !tk p) n
    refine E_iload dX12_rain_68 rfl ?_
    refine c_X12_89 rfl dX12_rain_70 ?_
    refine E_icmp_eq (tgt := 123) dX12_rain_72 (by decide) (fun h72 => ?_) (fun h72 => ?_)
    · refine E_iload dX12_rain_123 rfl ?_
      refine E_iret dX12_rain_125 rfl ?_
      exact ⟨by simp only [rnS]; rw [if_pos h72], rfl⟩
    · obtain ⟨j, hj⟩ := Int.eq_ofNat_of_zero_le (show 0 ≤ (nx cd (fun p => hg_ cd p && !tk p) n) by omega)
      rw [hj]
      have hy := hW.ya (p := (j : Int)) (by omega) (by omega)
      have hyb := rain_b hy hi.2.1
      have hs2 := rain_s p0 hi.2.1
      refine E_iload dX12_rain_75 rfl ?_
      refine E_aload_n dX12_rain_77 rfl ?_
      refine E_iload dX12_rain_78 rfl ?_
      refine E_iconst dX12_rain_80 (by decide) ?_
      refine i_X12_202 rfl dX12_rain_81 (by exact hO.o) (c_of hO hQ (j := 87 + 6 * (j : Int)) (by omega) (by omega) (by omega)) (by omega) (Nat.le_of_ble_eq_true rfl) rfl rfl ?_
      rintro _ _ ⟨rfl, rfl⟩
      try dsimp only [pu]
      refine c_X12_287 rfl dX12_rain_84 ?_
      refine E_iload dX12_rain_87 rfl ?_
      refine E_isub dX12_rain_89 (by omega) (by omega) ?_
      refine E_imul dX12_rain_90 (by omega) (by omega) ?_
      refine E_iadd dX12_rain_91 (by omega) (by omega) ?_
      refine E_istore dX12_rain_92 rfl (by decide) ?_
      try dsimp only [List.set]
      refine E_iload dX12_rain_94 rfl ?_
      refine E_bipush dX12_rain_96 (by decide) ?_
      refine E_iload_n dX12_rain_98 rfl ?_
      refine E_isub dX12_rain_99 (by omega) (by omega) ?_
      refine E_imul dX12_rain_100 (by omega) (by omega) ?_
      refine E_bipush dX12_rain_101 (by decide) ?_
      refine E_idiv dX12_rain_103 (by omega) (by omega) (by omega) ?_
      refine E_istore dX12_rain_104 rfl (by decide) ?_
      try dsimp only [List.set]
      refine E_iload_n dX12_rain_106 rfl ?_
      refine E_iconst dX12_rain_107 (by decide) ?_
      refine E_iload dX12_rain_108 rfl ?_
      refine E_ishl dX12_rain_110 ?_
      refine E_ior dX12_rain_111 ?_
      refine E_istore_n dX12_rain_112 rfl (by decide) ?_
      try dsimp only [List.set]
      refine E_aload_n dX12_rain_113 rfl ?_
      refine E_iload_n dX12_rain_114 rfl ?_
      refine i_X12_284 rfl dX12_rain_115 (by exact hO.o) (c_nextIn hO hQ hW n hn (hi.1.set (k := j) (by omega) (by omega))) (by omega) (Nat.le_of_ble_eq_true rfl) rfl rfl ?_
      rintro _ _ ⟨rfl, rfl⟩
      try dsimp only [pu]
      refine E_istore dX12_rain_118 rfl (by decide) ?_
      try dsimp only [List.set]
      refine E_goto (tgt := 68) dX12_rain_120 (by decide) ?_
      have hcg : ∀ q, q < n → (fun p => hg_ cd p && !(tk p || decide (p = j))) q = wo (fun p => hg_ cd p && !tk p) (j : Int) q := fun q hq => by unfold wo; simp only []; rw [show decide ((q : Int) = (j : Int)) = decide (q = j) from decide_eq_decide.mpr (by omega)]; cases hg_ cd q <;> cases tk q <;> cases decide (q = j) <;> rfl
      have hcn : cnt (fun p => hg_ cd p && !(tk p || decide (p = j))) n ≤ k := by rw [cnt_cg n hcg, cnt_wo (fun p => hg_ cd p && !tk p) j n (by omega) (nx_b cd _ n j hj)]; omega
      exact EV.post (fun x M' hq => by simp only [rnS]; rw [if_neg h72, hj, ← rnS_cg cd n p k _ _ _ _ hcg]; exact hq) (ih (r + 1) _ (fun p => tk p || decide (p = j)) _ _ (by omega) ⟨hi.1.set (by omega) (by omega), hs2.2, ⟨by omega, by omega⟩, hcn⟩)
theorem bs0 : ∀ n : Nat, BS 0 n (fun _ => false)
  | 0 => BS.nil _
  | n + 1 => (bs0 n).skip rfl
set_option maxRecDepth 20000 in
set_option maxHeartbeats 3000000 in
theorem r_rain {G : Ctx} {M : Mem} {m : Nat} {A : AS} {B : Int} (hO : MO M m) (hV : MA (mI M) m A) (hG : GA A B) (hB : B ≤ 900000) {p w : Int} (n : Nat) (hn : A 4 2 = n) : CT G m_X12_rain 2 0 0 [vR m, vI p, vI w] M (rM M m (s_rain A p w n) A) := by
  refine CT.of k_X12_rain 4 (ls := [some (vR m), some (vI p), some (vI w), none, none, none, none]) rfl (Nat.le_of_ble_eq_true rfl) ?_
  refine E_aload_n dX12_rain_0 rfl ?_
  refine E_iconst dX12_rain_1 (by decide) ?_
  refine p_X12_53 rfl dX12_rain_2 hO.o ?_
  obtain ⟨M1, e1, hO, hV, hF⟩ := thr hO hV
  refine EV.mq rfl e1.symm ?_
  clear e1
  have hQ := hV.mc
  have hW := hG.w.c
  have hpn := hW.pn
  have hl8 := hW.ln
  have hr8 := hW.rn
  have hgg := hG.w.g
  have hth := hG.th
  refine E_aload_n dX12_rain_5 rfl ?_
  refine g_X12_192 rfl dX12_rain_6 hO.o (hV.2 7 (by unfold SJ; omega)) ?_
  refine E_if_ne (tgt := 15) dX12_rain_9 (by decide) (fun h9 => ?_) (fun h9 => ?_)
  · refine E_iload_n dX12_rain_15 rfl ?_
    refine E_i2l dX12_rain_16 ?_
    refine E_lconst (x := 0) dX12_rain_17 (by decide) ?_
    refine c_X12_282 rfl dX12_rain_18 ?_
    refine i_X12_63 rfl dX12_rain_21 c_in (by omega) (Nat.le_of_ble_eq_true rfl) rfl rfl ?_
    rintro _ _ ⟨rfl, rfl⟩
    try dsimp only [pu]
    refine E_if_eq (tgt := 37) dX12_rain_24 (by decide) (fun h24 => ?_) (fun h24 => ?_)
    · simp only [tB0, ne_eq, Bool.not_eq_false, Bool.not_eq_true, decide_eq_true_eq, decide_eq_false_iff_not, Classical.not_not] at h24
      refine c_X12_73 rfl dX12_rain_37 ?_
      refine E_iret dX12_rain_39 rfl ?_
      refine ⟨?_, hF, hV⟩
      congr 2; unfold s_rain; rw [if_neg (by omega), if_neg (by omega)]
    · simp only [tB0, ne_eq, Bool.not_eq_false, Bool.not_eq_true, decide_eq_true_eq, decide_eq_false_iff_not, Classical.not_not] at h24
      refine E_iload_n dX12_rain_27 rfl ?_
      refine E_i2l dX12_rain_28 ?_
      refine E_lconst (x := 0) dX12_rain_29 (by decide) ?_
      refine E_lconst (x := 1) dX12_rain_30 (by decide) ?_
      refine i_X12_63 rfl dX12_rain_31 c_in (by omega) (Nat.le_of_ble_eq_true rfl) rfl rfl ?_
      rintro _ _ ⟨rfl, rfl⟩
      try dsimp only [pu]
      refine E_if_ne (tgt := 40) dX12_rain_34 (by decide) (fun h34 => ?_) (fun h34 => ?_)
      · simp only [tB0, ne_eq, Bool.not_eq_false, Bool.not_eq_true, decide_eq_true_eq, decide_eq_false_iff_not, Classical.not_not] at h34
        refine E_iload_n dX12_rain_40 rfl ?_
        refine E_iconst dX12_rain_41 (by decide) ?_
        refine E_icmp_ne (tgt := 51) dX12_rain_42 (by decide) (fun h42 => ?_) (fun h42 => ?_)
        · refine E_iconst dX12_rain_51 (by decide) ?_
          refine E_istore_n dX12_rain_52 rfl (by decide) ?_
          try dsimp only [List.set]
          refine E_iconst dX12_rain_53 (by decide) ?_
          refine E_istore dX12_rain_54 rfl (by decide) ?_
          try dsimp only [List.set]
          refine c_X12_287 rfl dX12_rain_56 ?_
          refine E_istore dX12_rain_59 rfl (by decide) ?_
          try dsimp only [List.set]
          refine E_aload_n dX12_rain_61 rfl ?_
          refine E_iconst dX12_rain_62 (by decide) ?_
          refine i_X12_284 rfl dX12_rain_63 (by exact hO.o) (c_nextIn hO hQ hW n hn (s := 0) (tk := fun _ => false) (bs0 n)) (by omega) (Nat.le_of_ble_eq_true rfl) rfl rfl ?_
          rintro _ _ ⟨rfl, rfl⟩
          try dsimp only [pu]
          refine E_istore dX12_rain_66 rfl (by decide) ?_
          try dsimp only [List.set]
          have hcb := cnt_b (fun p => hg_ (A 4) p && !(fun _ => false) p) n
          refine EV.post (fun x M' hq => ?_) (l_rrain hO hQ hW n hn (p := p) (w := w) (by omega) n 0 0 (fun _ => false) _ _ (by omega) ⟨bs0 n, by omega, by omega, hcb.2⟩)
          obtain ⟨rfl, rfl⟩ := hq
          refine ⟨?_, hF, hV⟩
          congr 2; unfold s_rain; rw [if_neg (by omega), if_pos (by omega), if_neg (by omega)]; exact rnS_cg _ _ _ _ _ _ _ _ (fun j _ => by simp)
        · refine E_aload_n dX12_rain_45 rfl ?_
          refine E_iconst dX12_rain_46 (by decide) ?_
          refine i_X12_284 rfl dX12_rain_47 (by exact hO.o) (c_nextIn hO hQ hW n hn (s := 0) (tk := fun _ => false) (bs0 n)) (by omega) (Nat.le_of_ble_eq_true rfl) rfl rfl ?_
          rintro _ _ ⟨rfl, rfl⟩
          try dsimp only [pu]
          refine E_iret dX12_rain_50 rfl ?_
          refine ⟨?_, hF, hV⟩
          congr 2; unfold s_rain; rw [if_neg (by omega), if_pos (by omega), if_pos (by omega)]; exact nx_cg _ n (fun j _ => by simp)
      · simp only [tB0, ne_eq, Bool.not_eq_false, Bool.not_eq_true, decide_eq_true_eq, decide_eq_false_iff_not, Classical.not_not] at h34
        refine c_X12_73 rfl dX12_rain_37 ?_
        refine E_iret dX12_rain_39 rfl ?_
        refine ⟨?_, hF, hV⟩
        congr 2; unfold s_rain; rw [if_neg (by omega), if_neg (by omega)]
  · refine c_X12_208 rfl dX12_rain_12 ?_
    refine E_iret dX12_rain_14 rfl ?_
    refine ⟨?_, hF, hV⟩
    congr 2; unfold s_rain; rw [if_pos (by omega)]
