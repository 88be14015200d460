/-! ===== 50: rings of the class ===== -/
theorem rgI_snoc (cd : CD) (h : Int → Int) (n : Nat) : ∀ (t : Nat) (g : Int → Int), rgI cd h n (t + 1) g = rgT cd h n (rgI cd h n t g)
  | 0, _ => rfl
  | t + 1, g => by
    show rgI cd h n (t + 1) (rgT cd h n g) = rgT cd h n (rgI cd h n t (rgT cd h n g))
    exact rgI_snoc cd h n t (rgT cd h n g)
/-- a got line is a line -/
def GL (cd : CD) (n : Nat) (g : Int → Int) : Prop := ∀ i : Int, 0 ≤ i → i < n → g i = -1000000 ∨ (0 ≤ g i ∧ g i < cd 0)
theorem GL.t {cd : CD} {h g : Int → Int} {n : Nat} (hL : HL cd h n) (hg : GL cd n g) : GL cd n (rgT cd h n g) := fun i i0 i1 => by
  unfold rgT
  split
  · rename_i hc
    have hp := pt_u (cd := cd) (h := h) ⟨hc.1, hc.2.1⟩
    exact Or.inr (hL.1 _ hp.1.1 hp.1.2)
  · exact hg i i0 i1
theorem GL.i {cd : CD} {h : Int → Int} {n : Nat} (hL : HL cd h n) : ∀ (t : Nat) {g : Int → Int}, GL cd n g → GL cd n (rgI cd h n t g)
  | 0, _, hg => hg
  | t + 1, _, hg => GL.i hL t (hg.t hL)
/-- what the class points at: gone people at themselves -/
def ptc (cd : CD) (h g : Int → Int) (n : Nat) : Int → Int := fun i => if g i = -1000000 then pt cd h g n i else i
theorem ptc_in {cd : CD} {h g : Int → Int} {n : Nat} {i : Int} (i0 : 0 ≤ i ∧ i < n) : 0 ≤ ptc cd h g n i ∧ ptc cd h g n i < n := by
  unfold ptc
  split
  · rename_i hc; exact (pt_u ⟨i0, hc⟩).1
  · exact i0
theorem ptc_r {cd : CD} {h g : Int → Int} {n : Nat} {k : Int} (hk : (0 ≤ k ∧ k < n) ∧ g k = -1000000) (m : Nat) : inR (ptc cd h g n) k m = inR (pt cd h g n) k m :=
  inR_cg (itP_cg (U := fun x => (0 ≤ x ∧ x < n) ∧ g x = -1000000) (fun x hx => pt_u hx) (fun x hx => by unfold ptc; rw [if_pos hx.2]) hk) m
set_option maxRecDepth 20000 in
set_option maxHeartbeats 3000000 in
theorem c_checkLength {G : Ctx} {M : Mem} {f t : Int} (h : f ≤ t) : CT G m_J7_checkLength_df160 0 0 0 [vI f, vI t] M (fun r M' => r = none ∧ M = M') := by
  refine CT.of k_J7_checkLength_df160 0 (ls := [some (vI f), some (vI t)]) rfl (Nat.le_of_ble_eq_true rfl) ?_
  refine E_iload_n dJ7_checkLength_df160_0 rfl ?_
  refine E_iload_n dJ7_checkLength_df160_1 rfl ?_
  refine E_icmp_ge (tgt := 37) dJ7_checkLength_df160_2 (by decide) (fun h2 => ?_) (fun h2 => ?_)
  · refine E_vret dJ7_checkLength_df160_37 rfl ?_
    exact ⟨rfl, rfl⟩
  · exfalso; omega
set_option maxRecDepth 20000 in
set_option maxHeartbeats 3000000 in
theorem c_copyRI {G : Ctx} {M : Mem} {x N : Nat} (hs : mS M x = (1, N)) (hx : x ≠ mN M) {f t : Int} (n : Nat) (hn : f + n = t) (f0 : 0 ≤ f) (t1 : t ≤ N) (n1 : n ≤ 1000) (N1 : N ≤ 1000) : CT G m_J7_copyOfRangeInt_feecc 1 1 n [vR x, vI f, vI t] M (fun r M' => r = some (vR (mN M)) ∧ M' = mJ (mNew M (1, n)) (mov (mI (mNew M (1, n))) (mN M) x f 0 n)) := by
  refine CT.of k_J7_copyOfRangeInt_feecc 2 (ls := [some (vR x), some (vI f), some (vI t), none, none]) rfl (Nat.le_of_ble_eq_true rfl) ?_
  refine EV.room (kc := 0 + 1) (ks := 0 + n) (by omega) (by omega) ?_
  refine E_iload_n dJ7_copyOfRangeInt_feecc_0 rfl ?_
  refine E_iload_n dJ7_copyOfRangeInt_feecc_1 rfl ?_
  refine i_J7_343 rfl dJ7_copyOfRangeInt_feecc_2 (c_checkLength (by omega)) (by omega) (Nat.le_of_ble_eq_true rfl) rfl rfl ?_
  rintro _ _ ⟨rfl, rfl⟩
  try dsimp only [pu]
  refine E_iload_n dJ7_copyOfRangeInt_feecc_5 rfl ?_
  refine E_iload_n dJ7_copyOfRangeInt_feecc_6 rfl ?_
  refine E_isub dJ7_copyOfRangeInt_feecc_7 (by omega) (by omega) ?_
  refine E_istore_n dJ7_copyOfRangeInt_feecc_8 rfl (by decide) ?_
  try dsimp only [List.set]
  refine E_iload_n dJ7_copyOfRangeInt_feecc_9 rfl ?_
  refine E_newI (N := n) dJ7_copyOfRangeInt_feecc_10 n_arrI (by omega) (by omega) ?_
  refine E_astore dJ7_copyOfRangeInt_feecc_12 rfl (by decide) ?_
  try dsimp only [List.set]
  refine E_aload_n dJ7_copyOfRangeInt_feecc_14 rfl ?_
  refine E_iload_n dJ7_copyOfRangeInt_feecc_15 rfl ?_
  refine E_aload dJ7_copyOfRangeInt_feecc_16 rfl ?_
  refine E_iconst dJ7_copyOfRangeInt_feecc_18 (by decide) ?_
  refine E_aload_n dJ7_copyOfRangeInt_feecc_19 rfl ?_
  refine E_alen dJ7_copyOfRangeInt_feecc_20 ((mS_new hx).trans hs) ?_
  refine E_iload_n dJ7_copyOfRangeInt_feecc_21 rfl ?_
  refine E_isub dJ7_copyOfRangeInt_feecc_22 (by omega) (by omega) ?_
  refine E_iload_n dJ7_copyOfRangeInt_feecc_23 rfl ?_
  refine i_J7_304 rfl dJ7_copyOfRangeInt_feecc_24 c_mmin (by omega) (Nat.le_of_ble_eq_true rfl) rfl rfl ?_
  rintro _ _ ⟨rfl, rfl⟩
  try dsimp only [pu]
  have hmn : min ((N : Int) - f) (t - f) = n := by omega
  rw [hmn]
  refine E_acopy (na := N) (nb := n) dJ7_copyOfRangeInt_feecc_27 qa_arr ((mS_new hx).trans hs) (mS_new0 _ _) (by omega) (by omega) (by omega) (by omega) (by omega) (by omega) (Nat.le_of_ble_eq_true rfl) ?_
  refine E_aload dJ7_copyOfRangeInt_feecc_30 rfl ?_
  refine E_aret dJ7_copyOfRangeInt_feecc_32 rfl (Or.inr ⟨_, rfl⟩) ?_
  exact ⟨rfl, rfl⟩
set_option maxRecDepth 20000 in
set_option maxHeartbeats 3000000 in
theorem c_copyR {G : Ctx} {M : Mem} {x N : Nat} (hs : mS M x = (1, N)) (hx : x ≠ mN M) {f t : Int} (n : Nat) (hn : f + n = t) (f0 : 0 ≤ f) (t1 : t ≤ N) (n1 : n ≤ 1000) (N1 : N ≤ 1000) (hc : ¬ (f = 0 ∧ t = N)) : CT G m_J7_copyOfRange_feecc 2 1 n [vR x, vI f, vI t] M (fun r M' => r = some (vR (mN M)) ∧ M' = mJ (mNew M (1, n)) (mov (mI (mNew M (1, n))) (mN M) x f 0 n)) := by
  refine CT.of k_J7_copyOfRange_feecc 0 (ls := [some (vR x), some (vI f), some (vI t)]) rfl (Nat.le_of_ble_eq_true rfl) ?_
  refine EV.room (kc := 0 + 1) (ks := 0 + n) (by omega) (by omega) ?_
  refine E_iload_n dJ7_copyOfRange_feecc_0 rfl ?_
  refine E_if_ne (tgt := 10) dJ7_copyOfRange_feecc_1 (by decide) (fun h1 => ?_) (fun h1 => ?_)
  · refine E_aload_n dJ7_copyOfRange_feecc_10 rfl ?_
    refine E_iload_n dJ7_copyOfRange_feecc_11 rfl ?_
    refine E_iload_n dJ7_copyOfRange_feecc_12 rfl ?_
    refine i_J7_351 rfl dJ7_copyOfRange_feecc_13 (c_copyRI hs hx n hn f0 t1 n1 N1) (by omega) (Nat.le_of_ble_eq_true rfl) rfl rfl ?_
    rintro _ M9 ⟨rfl, hM9⟩
    try dsimp only [pu]
    refine E_aret dJ7_copyOfRange_feecc_16 rfl (Or.inr ⟨_, rfl⟩) ?_
    exact ⟨rfl, hM9⟩
  · refine E_iload_n dJ7_copyOfRange_feecc_4 rfl ?_
    refine E_aload_n dJ7_copyOfRange_feecc_5 rfl ?_
    refine E_alen dJ7_copyOfRange_feecc_6 hs ?_
    refine E_icmp_eq (tgt := 17) dJ7_copyOfRange_feecc_7 (by decide) (fun h7 => ?_) (fun h7 => ?_)
    · exfalso; omega
    · refine E_aload_n dJ7_copyOfRange_feecc_10 rfl ?_
      refine E_iload_n dJ7_copyOfRange_feecc_11 rfl ?_
      refine E_iload_n dJ7_copyOfRange_feecc_12 rfl ?_
      refine i_J7_351 rfl dJ7_copyOfRange_feecc_13 (c_copyRI hs hx n hn f0 t1 n1 N1) (by omega) (Nat.le_of_ble_eq_true rfl) rfl rfl ?_
      rintro _ M9 ⟨rfl, hM9⟩
      try dsimp only [pu]
      refine E_aret dJ7_copyOfRange_feecc_16 rfl (Or.inr ⟨_, rfl⟩) ?_
      exact ⟨rfl, hM9⟩
set_option maxRecDepth 20000 in
set_option maxHeartbeats 3000000 in
theorem c_firstItems {G : Ctx} {M : Mem} {a : Nat} (hP : RP M a) (ha : a + 3 < mN M) {q : Int} (r0 : 0 ≤ q ∧ q ≤ 7) (n : Nat) (n0 : n ≤ 40) : CT G m_X5_firstItems 3 1 n [vR a, vI q, vI (n : Int)] M (fun r M' => r = some (vR (mN M)) ∧ EX M M' ∧ mN M' = mN M + 1 ∧ mS M' (mN M) = (1, n) ∧ ∀ i : Int, 0 ≤ i → i < n → mI M' (mN M) i = mI M (a + 3) (40 * q + i)) := by
  refine CT.of k_X5_firstItems 0 (ls := [some (vR a), some (vI q), some (vI (n : Int))]) rfl (Nat.le_of_ble_eq_true rfl) ?_
  refine EV.room (kc := 0 + 1) (ks := 0 + n) (by omega) (by omega) ?_
  refine E_aload_n dX5_firstItems_0 rfl ?_
  refine g_X5_16 rfl dX5_firstItems_1 hP.o hP.items ?_
  refine E_iload_n dX5_firstItems_4 rfl ?_
  refine E_bipush dX5_firstItems_5 (by decide) ?_
  refine E_imul dX5_firstItems_7 (by omega) (by omega) ?_
  refine E_iload_n dX5_firstItems_8 rfl ?_
  refine E_bipush dX5_firstItems_9 (by decide) ?_
  refine E_imul dX5_firstItems_11 (by omega) (by omega) ?_
  refine E_iload_n dX5_firstItems_12 rfl ?_
  refine E_iadd dX5_firstItems_13 (by omega) (by omega) ?_
  refine i_X5_47 rfl dX5_firstItems_14 (c_copyR hP.s_items (by omega) n rfl (by omega) (by omega) (by omega) (by omega) (by omega)) (by omega) (Nat.le_of_ble_eq_true rfl) rfl rfl ?_
  rintro _ M9 ⟨rfl, rfl⟩
  try dsimp only [pu]
  refine E_aret dX5_firstItems_17 rfl (Or.inr ⟨_, rfl⟩) ?_
  refine ⟨rfl, ⟨Nat.le_succ _, fun b hb => ⟨mS_new (sh := (1, n)) (by omega), ?_, mR_new (sh := (1, n)) (by omega)⟩⟩, rfl, mS_new0 _ _, fun i i0 i1 => ?_⟩
  · funext j; show mov (mI (mNew M (1, n))) (mN M) (a + 3) (q * 40) 0 n b j = mI M b j; rw [mov_ne _ (by omega), mI_new (by omega)]
  · show mov (mI (mNew M (1, n))) (mN M) (a + 3) (q * 40) 0 n (mN M) i = _; unfold mov; rw [if_pos ⟨rfl, by omega, by omega⟩, mI_new (by omega)]; congr 1; omega
set_option maxRecDepth 20000 in
set_option maxHeartbeats 3000000 in
theorem c_likesMore {G : Ctx} {M : Mem} (hX : XO M) {a : Nat} {cd : CD} (hRc : mR M 47 0 = a) (hC : CA M a) (hD : CC (mI M) a cd) (hW : WFc cd) {k : Nat} (k5 : k ≤ 5) {x y : Int} (x0 : 0 ≤ x ∧ x < cd 0) (y0 : 0 ≤ y ∧ y < cd 0) : CT G m_X11_likesMore 2 0 0 [vR 21, vI (k : Int), vI x, vI y] M (rI M (tB (decide (sunK cd k y < sunK cd k x)))) := by
  refine CT.of k_X11_likesMore 2 (ls := [some (vR 21), some (vI (k : Int)), some (vI x), some (vI y), none, none]) rfl (Nat.le_of_ble_eq_true rfl) ?_
  have hl8 := hW.ln
  refine E_aload_n dX11_likesMore_0 rfl ?_
  refine g_X11_48 rfl dX11_likesMore_1 hX.o hX.wash ?_
  refine g_X11_168 rfl dX11_likesMore_4 hX.w0.o hRc ?_
  refine E_iload_n dX11_likesMore_7 rfl ?_
  refine E_iconst dX11_likesMore_8 (by decide) ?_
  refine E_iload_n dX11_likesMore_9 rfl ?_
  refine E_imul dX11_likesMore_10 (by omega) (by omega) ?_
  refine E_iconst dX11_likesMore_11 (by decide) ?_
  refine E_iload_n dX11_likesMore_12 rfl ?_
  refine E_imul dX11_likesMore_13 (by omega) (by omega) ?_
  refine E_iconst dX11_likesMore_14 (by decide) ?_
  refine E_iadd dX11_likesMore_15 (by omega) (by omega) ?_
  refine E_iconst dX11_likesMore_16 (by decide) ?_
  refine i_X11_246 rfl dX11_likesMore_17 (by exact hC.o) (c_sunnyQuarters hC hD hW (l := x) (by omega) (by omega) (by omega) 4 (by omega) (by omega) (by omega) (by omega)) (by omega) (Nat.le_of_ble_eq_true rfl) rfl rfl ?_
  rintro _ _ ⟨rfl, rfl⟩
  try dsimp only [pu]
  refine E_istore dX11_likesMore_20 rfl (by decide) ?_
  try dsimp only [List.set]
  refine E_aload_n dX11_likesMore_22 rfl ?_
  refine g_X11_48 rfl dX11_likesMore_23 hX.o hX.wash ?_
  refine g_X11_168 rfl dX11_likesMore_26 hX.w0.o hRc ?_
  refine E_iload_n dX11_likesMore_29 rfl ?_
  refine E_iconst dX11_likesMore_30 (by decide) ?_
  refine E_iload_n dX11_likesMore_31 rfl ?_
  refine E_imul dX11_likesMore_32 (by omega) (by omega) ?_
  refine E_iconst dX11_likesMore_33 (by decide) ?_
  refine E_iload_n dX11_likesMore_34 rfl ?_
  refine E_imul dX11_likesMore_35 (by omega) (by omega) ?_
  refine E_iconst dX11_likesMore_36 (by decide) ?_
  refine E_iadd dX11_likesMore_37 (by omega) (by omega) ?_
  refine E_iconst dX11_likesMore_38 (by decide) ?_
  refine i_X11_246 rfl dX11_likesMore_39 (by exact hC.o) (c_sunnyQuarters hC hD hW (l := y) (by omega) (by omega) (by omega) 4 (by omega) (by omega) (by omega) (by omega)) (by omega) (Nat.le_of_ble_eq_true rfl) rfl rfl ?_
  rintro _ _ ⟨rfl, rfl⟩
  try dsimp only [pu]
  refine E_istore dX11_likesMore_42 rfl (by decide) ?_
  try dsimp only [List.set]
  refine E_iload dX11_likesMore_44 rfl ?_
  refine E_iload dX11_likesMore_46 rfl ?_
  refine E_icmp_gt (tgt := 63) dX11_likesMore_48 (by decide) (fun h48 => ?_) (fun h48 => ?_)
  · refine E_iconst dX11_likesMore_63 (by decide) ?_
    refine E_goto (tgt := 68) dX11_likesMore_64 (by decide) ?_
    refine E_zret dX11_likesMore_68 rfl (by decide) ?_
    refine ⟨?_, rfl⟩
    congr 2; unfold sunK; first | (rw [decide_eq_true (by omega)]; rfl) | (rw [decide_eq_false (by omega)]; rfl)
  · refine E_iload dX11_likesMore_51 rfl ?_
    refine E_iload dX11_likesMore_53 rfl ?_
    refine E_icmp_ne (tgt := 67) dX11_likesMore_55 (by decide) (fun h55 => ?_) (fun h55 => ?_)
    · refine E_iconst dX11_likesMore_67 (by decide) ?_
      refine E_zret dX11_likesMore_68 rfl (by decide) ?_
      refine ⟨?_, rfl⟩
      congr 2; unfold sunK; first | (rw [decide_eq_true (by omega)]; rfl) | (rw [decide_eq_false (by omega)]; rfl)
    · refine E_iload_n dX11_likesMore_58 rfl ?_
      refine E_iload_n dX11_likesMore_59 rfl ?_
      refine E_icmp_ge (tgt := 67) dX11_likesMore_60 (by decide) (fun h60 => ?_) (fun h60 => ?_)
      · refine E_iconst dX11_likesMore_67 (by decide) ?_
        refine E_zret dX11_likesMore_68 rfl (by decide) ?_
        refine ⟨?_, rfl⟩
        congr 2; unfold sunK; first | (rw [decide_eq_true (by omega)]; rfl) | (rw [decide_eq_false (by omega)]; rfl)
      · refine E_iconst dX11_likesMore_63 (by decide) ?_
        refine E_goto (tgt := 68) dX11_likesMore_64 (by decide) ?_
        refine E_zret dX11_likesMore_68 rfl (by decide) ?_
        refine ⟨?_, rfl⟩
        congr 2; unfold sunK; first | (rw [decide_eq_true (by omega)]; rfl) | (rw [decide_eq_false (by omega)]; rfl)
set_option maxRecDepth 20000 in
set_option maxHeartbeats 3000000 in
theorem l_liked {G : Ctx} {M : Mem} (hX : XO M) {a : Nat} {cd : CD} (hRc : mR M 47 0 = a) (hC : CA M a) (hD : CC (mI M) a cd) (hW : WFc cd) {h g : Int → Int} (n : Nat) (n6 : n ≤ 6) (hL : HL cd h n) (hg : GL cd n g) {x1 y1 : Nat} (hx : mS M x1 = (1, n)) (hy : mS M y1 = (1, n)) (hh : ∀ i : Int, 0 ≤ i → i < n → mI M x1 i = h i) (hgt : ∀ i : Int, 0 ≤ i → i < n → mI M y1 i = nm1 (g i)) (v : Nat) (hk : v < n) (hgk : g v = -1000000) : ∀ (k r : Nat) , r + k = n → EV G m_X11_likedMost 3 0 0 (rI M (lkm cd h g v n)) 6 [some (vR 21), some (vI (v : Int)), some (vR x1), some (vR y1), some (vI (lkm cd h g v r)), some (vI (r : Int))] [] M := by
  intro k
  induction k with
  | zero =>
    intro r  hr
    obtain rfl : r = n := by omega
    refine E_iload dX11_likedMost_6 rfl ?_
    refine E_aload_n dX11_likedMost_8 rfl ?_
    refine E_alen dX11_likedMost_9 hx ?_
    refine E_icmp_ge (tgt := 46) dX11_likedMost_10 (by decide) (fun h10 => ?_) (fun h10 => ?_)
    · refine E_iload dX11_likedMost_46 rfl ?_
      refine E_iret dX11_likedMost_48 rfl ?_
      exact ⟨rfl, rfl⟩
    · exfalso; omega
  | succ k ih =>
    intro r  hr
    have hlk := lkm_r cd h g v hgk r
    have hgr := hg r (by omega) (by omega)
    have hnm : nm1 (g r) = if g r = -1000000 then -1 else g r := rfl
    refine E_iload dX11_likedMost_6 rfl ?_
    refine E_aload_n dX11_likedMost_8 rfl ?_
    refine E_alen dX11_likedMost_9 hx ?_
    refine E_icmp_ge (tgt := 46) dX11_likedMost_10 (by decide) (fun h10 => ?_) (fun h10 => ?_)
    · exfalso; omega
    · refine E_aload_n dX11_likedMost_13 rfl ?_
      refine E_iload dX11_likedMost_14 rfl ?_
      refine E_iald dX11_likedMost_16 hy (by omega) (by omega) (hgt _ (by omega) (by omega)) ?_
      refine E_if_ge (tgt := 40) dX11_likedMost_17 (by decide) (fun h17 => ?_) (fun h17 => ?_)
      · refine E_iinc dX11_likedMost_40 rfl (by omega) (by omega) (by decide) rfl (by decide) ?_
        try dsimp only [List.set]
        refine E_goto (tgt := 6) dX11_likedMost_43 (by decide) ?_
        have e : lkm cd h g v (r + 1) = lkm cd h g v r := by simp only [lkm]; rw [if_neg (fun z => by omega)]
        exact EV.lq (by rw [e]; rfl) (ih (r + 1) (by omega))
      · refine E_aload_n dX11_likedMost_20 rfl ?_
        refine E_iload_n dX11_likedMost_21 rfl ?_
        refine E_aload_n dX11_likedMost_22 rfl ?_
        refine E_iload dX11_likedMost_23 rfl ?_
        refine E_iald dX11_likedMost_25 hx (by omega) (by omega) (hh _ (by omega) (by omega)) ?_
        refine E_aload_n dX11_likedMost_26 rfl ?_
        refine E_iload dX11_likedMost_27 rfl ?_
        refine E_iald dX11_likedMost_29 hx (by omega) (by omega) (hh _ (by omega) (by omega)) ?_
        refine i_X11_372 rfl dX11_likedMost_30 (by exact hX.o) (c_likesMore hX hRc hC hD hW (by omega) (hL.1 _ (by omega) (by omega)) (hL.1 _ (by omega) (by omega))) (by omega) (Nat.le_of_ble_eq_true rfl) rfl rfl ?_
        rintro _ _ ⟨rfl, rfl⟩
        try dsimp only [pu]
        refine E_if_eq (tgt := 40) dX11_likedMost_33 (by decide) (fun h33 => ?_) (fun h33 => ?_)
        · simp only [tB0, ne_eq, Bool.not_eq_false, Bool.not_eq_true, decide_eq_true_eq, decide_eq_false_iff_not, Classical.not_not] at h33
          refine E_iinc dX11_likedMost_40 rfl (by omega) (by omega) (by decide) rfl (by decide) ?_
          try dsimp only [List.set]
          refine E_goto (tgt := 6) dX11_likedMost_43 (by decide) ?_
          have e : lkm cd h g v (r + 1) = lkm cd h g v r := by simp only [lkm]; rw [if_neg (fun z => h33 z.2)]
          exact EV.lq (by rw [e]; rfl) (ih (r + 1) (by omega))
        · simp only [tB0, ne_eq, Bool.not_eq_false, Bool.not_eq_true, decide_eq_true_eq, decide_eq_false_iff_not, Classical.not_not] at h33
          refine E_iload dX11_likedMost_36 rfl ?_
          refine E_istore dX11_likedMost_38 rfl (by decide) ?_
          try dsimp only [List.set]
          refine E_iinc dX11_likedMost_40 rfl (by omega) (by omega) (by decide) rfl (by decide) ?_
          try dsimp only [List.set]
          refine E_goto (tgt := 6) dX11_likedMost_43 (by decide) ?_
          have e : lkm cd h g v (r + 1) = r := by simp only [lkm]; rw [if_pos ⟨by omega, h33⟩]
          exact EV.lq (by rw [e]; rfl) (ih (r + 1) (by omega))
set_option maxRecDepth 20000 in
set_option maxHeartbeats 3000000 in
theorem c_likedMost {G : Ctx} {M : Mem} (hX : XO M) {a : Nat} {cd : CD} (hRc : mR M 47 0 = a) (hC : CA M a) (hD : CC (mI M) a cd) (hW : WFc cd) {h g : Int → Int} (n : Nat) (n6 : n ≤ 6) (hL : HL cd h n) (hg : GL cd n g) {x1 y1 : Nat} (hx : mS M x1 = (1, n)) (hy : mS M y1 = (1, n)) (hh : ∀ i : Int, 0 ≤ i → i < n → mI M x1 i = h i) (hgt : ∀ i : Int, 0 ≤ i → i < n → mI M y1 i = nm1 (g i)) (v : Nat) (hk : v < n) (hgk : g v = -1000000) : CT G m_X11_likedMost 3 0 0 [vR 21, vI (v : Int), vR x1, vR y1] M (rI M (pt cd h g n (v : Int))) := by
  refine CT.of k_X11_likedMost 2 (ls := [some (vR 21), some (vI (v : Int)), some (vR x1), some (vR y1), none, none]) rfl (Nat.le_of_ble_eq_true rfl) ?_
  rw [show pt cd h g n (v : Int) = lkm cd h g v n from (lkm_bst hW hL hk hgk).symm]
  refine E_iload_n dX11_likedMost_0 rfl ?_
  refine E_istore dX11_likedMost_1 rfl (by decide) ?_
  try dsimp only [List.set]
  refine E_iconst dX11_likedMost_3 (by decide) ?_
  refine E_istore dX11_likedMost_4 rfl (by decide) ?_
  try dsimp only [List.set]
  exact l_liked hX hRc hC hD hW n n6 hL hg hx hy hh hgt v hk hgk n 0 (by omega)
set_option maxRecDepth 20000 in
set_option maxHeartbeats 3000000 in
theorem l_xring {G : Ctx} {M : Mem} {f : Int → Int} (n : Nat) (n6 : n ≤ 6) {z1 : Nat} (hz : mS M z1 = (1, n)) (hp : ∀ i : Int, 0 ≤ i → i < n → mI M z1 i = f i) {v : Int} (hr_ : ∀ j, 0 ≤ itP f v j ∧ itP f v j < n) : ∀ (k r : Nat) , r + k = n → inR f v r = false → EV G m_X11_isInRing 0 0 0 (rI M (tB (inR f v n))) 5 [some (vR 21), some (vI v), some (vR z1), some (vI (itP f v r)), some (vI (r : Int))] [] M := by
  intro k
  induction k with
  | zero =>
    intro r  hr hi_
    obtain rfl : r = n := by omega
    refine E_iload dX11_isInRing_5 rfl ?_
    refine E_aload_n dX11_isInRing_7 rfl ?_
    refine E_alen dX11_isInRing_8 hz ?_
    refine E_icmp_ge (tgt := 29) dX11_isInRing_9 (by decide) (fun h9 => ?_) (fun h9 => ?_)
    · refine E_iconst dX11_isInRing_29 (by decide) ?_
      refine E_zret dX11_isInRing_30 rfl (by decide) ?_
      refine ⟨?_, rfl⟩
      rw [hi_]; rfl
    · exfalso; omega
  | succ k ih =>
    intro r  hr hi_
    refine E_iload dX11_isInRing_5 rfl ?_
    refine E_aload_n dX11_isInRing_7 rfl ?_
    refine E_alen dX11_isInRing_8 hz ?_
    refine E_icmp_ge (tgt := 29) dX11_isInRing_9 (by decide) (fun h9 => ?_) (fun h9 => ?_)
    · exfalso; omega
    · refine E_aload_n dX11_isInRing_12 rfl ?_
      refine E_iload_n dX11_isInRing_13 rfl ?_
      refine E_iald dX11_isInRing_14 hz (hr_ r).1 (hr_ r).2 (hp _ (hr_ r).1 (hr_ r).2) ?_
      refine E_istore_n dX11_isInRing_15 rfl (by decide) ?_
      try dsimp only [List.set]
      refine E_iload_n dX11_isInRing_16 rfl ?_
      refine E_iload_n dX11_isInRing_17 rfl ?_
      refine E_icmp_ne (tgt := 23) dX11_isInRing_18 (by decide) (fun h18 => ?_) (fun h18 => ?_)
      · refine E_iinc dX11_isInRing_23 rfl (by omega) (by omega) (by decide) rfl (by decide) ?_
        try dsimp only [List.set]
        refine E_goto (tgt := 5) dX11_isInRing_26 (by decide) ?_
        exact EV.lq rfl (ih (r + 1) (by omega) (by simp only [inR, hi_, Bool.false_or]; exact decide_eq_false h18))
      · refine E_iconst dX11_isInRing_21 (by decide) ?_
        refine E_zret dX11_isInRing_22 rfl (by decide) ?_
        refine ⟨?_, rfl⟩
        have e : inR f v (r + 1) = true := inR_of (j := r + 1) (by omega) (Nat.le_refl _) (Classical.not_not.mp h18)
        rw [inR_mono e (show r + 1 ≤ n by omega)]; rfl
set_option maxRecDepth 20000 in
set_option maxHeartbeats 3000000 in
theorem c_xIsInRing {G : Ctx} {M : Mem} {f : Int → Int} (n : Nat) (n6 : n ≤ 6) {z1 : Nat} (hz : mS M z1 = (1, n)) (hp : ∀ i : Int, 0 ≤ i → i < n → mI M z1 i = f i) {v : Int} (hr_ : ∀ j, 0 ≤ itP f v j ∧ itP f v j < n) : CT G m_X11_isInRing 0 0 0 [vR 21, vI v, vR z1] M (rI M (tB (inR f v n))) := by
  refine CT.of k_X11_isInRing 2 (ls := [some (vR 21), some (vI v), some (vR z1), none, none]) rfl (Nat.le_of_ble_eq_true rfl) ?_
  refine E_iload_n dX11_isInRing_0 rfl ?_
  refine E_istore_n dX11_isInRing_1 rfl (by decide) ?_
  try dsimp only [List.set]
  refine E_iconst dX11_isInRing_2 (by decide) ?_
  refine E_istore dX11_isInRing_3 rfl (by decide) ?_
  try dsimp only [List.set]
  exact l_xring n n6 hz hp hr_ n 0 (by omega) rfl
set_option maxRecDepth 20000 in
set_option maxHeartbeats 3000000 in
theorem l_rgA {G : Ctx} {M : Mem} (hX : XO M) {a : Nat} {cd : CD} (hRc : mR M 47 0 = a) (hC : CA M a) (hD : CC (mI M) a cd) (hW : WFc cd) {h : Int → Int} (n : Nat) (n6 : n ≤ 6) (hL : HL cd h n) {x1 y z : Nat} (hx : mS M x1 = (1, n)) (hy : mS M y = (1, n)) (hz : mS M z = (1, n)) (hh : ∀ i : Int, 0 ≤ i → i < n → mI M x1 i = h i) (hd1 : x1 ≠ y ∧ x1 ≠ z ∧ y ≠ z) (hd2 : a + 13 < y ∧ a + 13 < z) {g : Int → Int} (hg : GL cd n g) (t : Nat) {Q : Option MV → Mem → Prop} (K : ∀ I : AS, ((∀ b j, b ≠ y → b ≠ z → I b j = mI M b j) ∧ (∀ i : Int, 0 ≤ i → i < n → I y i = nm1 (g i)) ∧ ∀ i : Int, 0 ≤ i → i < n → I z i = ptc cd h g n i) → EV G m_X11_linesByRings 4 0 0 Q 66 [some (vR 21), some (vR x1), some (vI (n : Int)), some (vR y), some (vR z), some (vI (t : Int)), some (vI (n : Int))] [] (mJ M I)) : ∀ (k r : Nat) (I : Nat → Int → Int), r + k = n → ((∀ b j, b ≠ y → b ≠ z → I b j = mI M b j) ∧ (∀ i : Int, 0 ≤ i → i < n → I y i = nm1 (g i)) ∧ ∀ i : Int, 0 ≤ i → i < r → I z i = ptc cd h g n i) → EV G m_X11_linesByRings 4 0 0 (Q) 29 [some (vR 21), some (vR x1), some (vI (n : Int)), some (vR y), some (vR z), some (vI (t : Int)), some (vI (r : Int))] [] (mJ M I) := by
  intro k
  induction k with
  | zero =>
    intro r I hr hi
    obtain rfl : r = n := by omega
    refine E_iload dX11_linesByRings_29 rfl ?_
    refine E_iload_n dX11_linesByRings_31 rfl ?_
    refine E_icmp_ge (tgt := 66) dX11_linesByRings_32 (by decide) (fun h32 => ?_) (fun h32 => ?_)
    · exact K I hi
    · exfalso; omega
  | succ k ih =>
    intro r I hr hi
    have hDI : CC I a cd := hD.off (fun b j b0 b1 => hi.1 b j (by omega) (by omega))
    have hhI : ∀ i : Int, 0 ≤ i → i < n → I x1 i = h i := fun i i0 i1 => (hi.1 _ _ (by omega) (by omega)).trans (hh i i0 i1)
    have hgr := hg r (by omega) (by omega)
    have hnm : nm1 (g r) = if g r = -1000000 then -1 else g r := rfl
    refine E_iload dX11_linesByRings_29 rfl ?_
    refine E_iload_n dX11_linesByRings_31 rfl ?_
    refine E_icmp_ge (tgt := 66) dX11_linesByRings_32 (by decide) (fun h32 => ?_) (fun h32 => ?_)
    · exfalso; omega
    · refine E_aload dX11_linesByRings_35 rfl ?_
      refine E_iload dX11_linesByRings_37 rfl ?_
      refine E_aload_n dX11_linesByRings_39 rfl ?_
      refine E_iload dX11_linesByRings_40 rfl ?_
      refine E_iald dX11_linesByRings_42 hy (by omega) (by omega) (hi.2.1 _ (by omega) (by omega)) ?_
      refine E_if_ge (tgt := 57) dX11_linesByRings_43 (by decide) (fun h43 => ?_) (fun h43 => ?_)
      · refine E_iload dX11_linesByRings_57 rfl ?_
        refine E_iast dX11_linesByRings_59 hz (by omega) (by omega) ?_
        refine E_iinc dX11_linesByRings_60 rfl (by omega) (by omega) (by decide) rfl (by decide) ?_
        try dsimp only [List.set]
        refine E_goto (tgt := 29) dX11_linesByRings_63 (by decide) ?_
        have ep : ptc cd h g n (r : Int) = (r : Int) := by unfold ptc; rw [if_neg (by omega)]
        refine EV.mq rfl rfl (ih (r + 1) (up2 I z r ((r : Int))) (by omega) ⟨fun b j q1 q2 => (up2_ne _ _ (fun w => q2 w.1)).trans (hi.1 b j q1 q2), fun i i0 i1 => (up2_ne _ _ (by omega)).trans (hi.2.1 i i0 i1), fun i i0 i1 => ?_⟩)
        by_cases e : i = r
        · rw [e, up2_self, ep]
        · rw [up2_ne _ _ (by omega)]; exact hi.2.2 i i0 (by omega)
      · refine E_aload_n dX11_linesByRings_46 rfl ?_
        refine E_iload dX11_linesByRings_47 rfl ?_
        refine E_aload_n dX11_linesByRings_49 rfl ?_
        refine E_aload_n dX11_linesByRings_50 rfl ?_
        refine i_X11_364 rfl dX11_linesByRings_51 (by exact hX.o) (c_likedMost (by exact hX) (by exact hRc) (by exact hC) (by exact hDI) hW n n6 hL hg (by exact hx) (by exact hy) (by exact hhI) (by exact hi.2.1) r (by omega) (by omega)) (by omega) (Nat.le_of_ble_eq_true rfl) rfl rfl ?_
        rintro _ _ ⟨rfl, rfl⟩
        try dsimp only [pu]
        refine E_goto (tgt := 59) dX11_linesByRings_54 (by decide) ?_
        refine E_iast dX11_linesByRings_59 hz (by omega) (by omega) ?_
        refine E_iinc dX11_linesByRings_60 rfl (by omega) (by omega) (by decide) rfl (by decide) ?_
        try dsimp only [List.set]
        refine E_goto (tgt := 29) dX11_linesByRings_63 (by decide) ?_
        have ep : ptc cd h g n (r : Int) = pt cd h g n (r : Int) := by unfold ptc; rw [if_pos (by omega)]
        refine EV.mq rfl rfl (ih (r + 1) (up2 I z r (pt cd h g n (r : Int))) (by omega) ⟨fun b j q1 q2 => (up2_ne _ _ (fun w => q2 w.1)).trans (hi.1 b j q1 q2), fun i i0 i1 => (up2_ne _ _ (by omega)).trans (hi.2.1 i i0 i1), fun i i0 i1 => ?_⟩)
        by_cases e : i = r
        · rw [e, up2_self, ep]
        · rw [up2_ne _ _ (by omega)]; exact hi.2.2 i i0 (by omega)
set_option maxRecDepth 20000 in
set_option maxHeartbeats 3000000 in
theorem l_rgB {G : Ctx} {M : Mem} (hX : XO M) {a : Nat} {cd : CD} (hRc : mR M 47 0 = a) (hC : CA M a) (hD : CC (mI M) a cd) (hW : WFc cd) {h : Int → Int} (n : Nat) (n6 : n ≤ 6) (hL : HL cd h n) {x1 y z : Nat} (hx : mS M x1 = (1, n)) (hy : mS M y = (1, n)) (hz : mS M z = (1, n)) (hh : ∀ i : Int, 0 ≤ i → i < n → mI M x1 i = h i) (hd1 : x1 ≠ y ∧ x1 ≠ z ∧ y ≠ z) (hd2 : a + 13 < y ∧ a + 13 < z) {g : Int → Int} (hg : GL cd n g) (t : Nat) {Q : Option MV → Mem → Prop} (K : ∀ I : AS, ((∀ b j, b ≠ y → b ≠ z → I b j = mI M b j) ∧ (∀ i : Int, 0 ≤ i → i < n → I y i = nm1 (if i < n then rgT cd h n g i else g i)) ∧ ∀ i : Int, 0 ≤ i → i < n → I z i = ptc cd h g n i) → EV G m_X11_linesByRings 4 0 0 Q 110 [some (vR 21), some (vR x1), some (vI (n : Int)), some (vR y), some (vR z), some (vI (t : Int)), some (vI (n : Int))] [] (mJ M I)) : ∀ (k r : Nat) (I : Nat → Int → Int), r + k = n → ((∀ b j, b ≠ y → b ≠ z → I b j = mI M b j) ∧ (∀ i : Int, 0 ≤ i → i < n → I y i = nm1 (if i < r then rgT cd h n g i else g i)) ∧ ∀ i : Int, 0 ≤ i → i < n → I z i = ptc cd h g n i) → EV G m_X11_linesByRings 4 0 0 (Q) 69 [some (vR 21), some (vR x1), some (vI (n : Int)), some (vR y), some (vR z), some (vI (t : Int)), some (vI (r : Int))] [] (mJ M I) := by
  intro k
  induction k with
  | zero =>
    intro r I hr hi
    obtain rfl : r = n := by omega
    refine E_iload dX11_linesByRings_69 rfl ?_
    refine E_iload_n dX11_linesByRings_71 rfl ?_
    refine E_icmp_ge (tgt := 110) dX11_linesByRings_72 (by decide) (fun h72 => ?_) (fun h72 => ?_)
    · exact K I hi
    · exfalso; omega
  | succ k ih =>
    intro r I hr hi
    have hhI : ∀ i : Int, 0 ≤ i → i < n → I x1 i = h i := fun i i0 i1 => (hi.1 _ _ (by omega) (by omega)).trans (hh i i0 i1)
    have hgr := hg r (by omega) (by omega)
    have hnm : nm1 (g r) = if g r = -1000000 then -1 else g r := rfl
    have hyr : I y (r : Int) = nm1 (g r) := by have w := hi.2.1 r (by omega) (by omega); rw [if_neg (by omega)] at w; exact w
    have hpi := ptc_in (cd := cd) (h := h) (g := g) (n := n) (i := (r : Int)) (by omega)
    refine E_iload dX11_linesByRings_69 rfl ?_
    refine E_iload_n dX11_linesByRings_71 rfl ?_
    refine E_icmp_ge (tgt := 110) dX11_linesByRings_72 (by decide) (fun h72 => ?_) (fun h72 => ?_)
    · exfalso; omega
    · refine E_aload_n dX11_linesByRings_75 rfl ?_
      refine E_iload dX11_linesByRings_76 rfl ?_
      refine E_iald dX11_linesByRings_78 hy (by omega) (by omega) hyr ?_
      refine E_if_ge (tgt := 104) dX11_linesByRings_79 (by decide) (fun h79 => ?_) (fun h79 => ?_)
      · refine E_iinc dX11_linesByRings_104 rfl (by omega) (by omega) (by decide) rfl (by decide) ?_
        try dsimp only [List.set]
        refine E_goto (tgt := 69) dX11_linesByRings_107 (by decide) ?_
        have er : rgT cd h n g (r : Int) = g r := by unfold rgT; rw [if_neg (fun w => by have := w.2.1; omega)]
        refine EV.mq rfl rfl (ih (r + 1) I (by omega) ⟨hi.1, fun i i0 i1 => ?_, hi.2.2⟩)
        rw [hi.2.1 i i0 i1]
        by_cases e : i = r
        · rw [e, if_neg (by omega), if_pos (by omega), er]
        · by_cases q : i < r
          · rw [if_pos q, if_pos (by omega)]
          · rw [if_neg q, if_neg (by omega)]
      · refine E_aload_n dX11_linesByRings_82 rfl ?_
        refine E_iload dX11_linesByRings_83 rfl ?_
        refine E_aload dX11_linesByRings_85 rfl ?_
        refine i_X11_368 rfl dX11_linesByRings_87 (by exact hX.o) (c_xIsInRing n n6 (by exact hz) (by exact hi.2.2) (v := r) (orb (U := fun x => 0 ≤ x ∧ x < n) (fun x hx => ptc_in hx) (by omega))) (by omega) (Nat.le_of_ble_eq_true rfl) rfl rfl ?_
        rintro _ _ ⟨rfl, rfl⟩
        try dsimp only [pu]
        refine E_if_eq (tgt := 104) dX11_linesByRings_90 (by decide) (fun h90 => ?_) (fun h90 => ?_)
        · simp only [tB0, ne_eq, Bool.not_eq_false, Bool.not_eq_true, decide_eq_true_eq, decide_eq_false_iff_not, Classical.not_not] at h90
          refine E_iinc dX11_linesByRings_104 rfl (by omega) (by omega) (by decide) rfl (by decide) ?_
          try dsimp only [List.set]
          refine E_goto (tgt := 69) dX11_linesByRings_107 (by decide) ?_
          have er : rgT cd h n g (r : Int) = g r := by unfold rgT; rw [if_neg (fun w => by rw [ptc_r ⟨⟨by omega, by omega⟩, by omega⟩] at h90; rw [h90] at w; exact absurd w.2.2 (by simp))]
          refine EV.mq rfl rfl (ih (r + 1) I (by omega) ⟨hi.1, fun i i0 i1 => ?_, hi.2.2⟩)
          rw [hi.2.1 i i0 i1]
          by_cases e : i = r
          · rw [e, if_neg (by omega), if_pos (by omega), er]
          · by_cases q : i < r
            · rw [if_pos q, if_pos (by omega)]
            · rw [if_neg q, if_neg (by omega)]
        · simp only [tB0, ne_eq, Bool.not_eq_false, Bool.not_eq_true, decide_eq_true_eq, decide_eq_false_iff_not, Classical.not_not] at h90
          refine E_aload_n dX11_linesByRings_93 rfl ?_
          refine E_iload dX11_linesByRings_94 rfl ?_
          refine E_aload_n dX11_linesByRings_96 rfl ?_
          refine E_aload dX11_linesByRings_97 rfl ?_
          refine E_iload dX11_linesByRings_99 rfl ?_
          refine E_iald dX11_linesByRings_101 hz (by omega) (by omega) (hi.2.2 _ (by omega) (by omega)) ?_
          refine E_iald dX11_linesByRings_102 hx (by omega) (by omega) (hhI _ (by omega) (by omega)) ?_
          refine E_iast dX11_linesByRings_103 hy (by omega) (by omega) ?_
          refine E_iinc dX11_linesByRings_104 rfl (by omega) (by omega) (by decide) rfl (by decide) ?_
          try dsimp only [List.set]
          refine E_goto (tgt := 69) dX11_linesByRings_107 (by decide) ?_
          have hgn : g r = -1000000 := by omega
          have hpu := pt_u (cd := cd) (h := h) (n := n) (x := (r : Int)) ⟨⟨by omega, by omega⟩, hgn⟩
          have ep : ptc cd h g n (r : Int) = pt cd h g n r := by unfold ptc; rw [if_pos hgn]
          have er : rgT cd h n g (r : Int) = h (ptc cd h g n r) := by unfold rgT; rw [if_pos ⟨⟨by omega, by omega⟩, hgn, by rw [← ptc_r ⟨⟨by omega, by omega⟩, hgn⟩]; exact h90⟩, ep]
          refine EV.mq rfl rfl (ih (r + 1) (up2 I y r (h (ptc cd h g n r))) (by omega) ⟨fun b j q1 q2 => (up2_ne _ _ (fun w => q1 w.1)).trans (hi.1 b j q1 q2), fun i i0 i1 => ?_, fun i i0 i1 => (up2_ne _ _ (by omega)).trans (hi.2.2 i i0 i1)⟩)
          by_cases e : i = r
          · have hl := hL.1 _ hpu.1.1 hpu.1.2
            rw [e, up2_self, if_pos (by omega), er, ep]; unfold nm1; rw [if_neg (by omega)]
          · rw [up2_ne _ _ (by omega), hi.2.1 i i0 i1]
            by_cases q : i < r
            · rw [if_pos q, if_pos (by omega)]
            · rw [if_neg q, if_neg (by omega)]
set_option maxRecDepth 20000 in
set_option maxHeartbeats 3000000 in
theorem l_rg {G : Ctx} {M : Mem} (hX : XO M) {a : Nat} {cd : CD} (hRc : mR M 47 0 = a) (hC : CA M a) (hD : CC (mI M) a cd) (hW : WFc cd) {h : Int → Int} (n : Nat) (n6 : n ≤ 6) (hL : HL cd h n) {x1 y z : Nat} (hx : mS M x1 = (1, n)) (hy : mS M y = (1, n)) (hz : mS M z = (1, n)) (hh : ∀ i : Int, 0 ≤ i → i < n → mI M x1 i = h i) (hd1 : x1 ≠ y ∧ x1 ≠ z ∧ y ≠ z) (hd2 : a + 13 < y ∧ a + 13 < z) : ∀ (k r : Nat) (I : AS) (z6 : Option MV), r + k = n → ((∀ b j, b ≠ y → b ≠ z → I b j = mI M b j) ∧ ∀ i : Int, 0 ≤ i → i < n → I y i = nm1 (rgI cd h n r (fun _ => -1000000) i)) → EV G m_X11_linesByRings 4 0 0 (fun x M' => x = some (vR y) ∧ ∃ I, M' = mJ M I ∧ ((∀ b j, b ≠ y → b ≠ z → I b j = mI M b j) ∧ ∀ i : Int, 0 ≤ i → i < n → I y i = nm1 (rgI cd h n n (fun _ => -1000000) i))) 20 [some (vR 21), some (vR x1), some (vI (n : Int)), some (vR y), some (vR z), some (vI (r : Int)), z6] [] (mJ M I) := by
  intro k
  induction k with
  | zero =>
    intro r I z6 hr hi
    obtain rfl : r = n := by omega
    refine E_iload dX11_linesByRings_20 rfl ?_
    refine E_iload_n dX11_linesByRings_22 rfl ?_
    refine E_icmp_ge (tgt := 116) dX11_linesByRings_23 (by decide) (fun h23 => ?_) (fun h23 => ?_)
    · refine E_aload_n dX11_linesByRings_116 rfl ?_
      refine E_aret dX11_linesByRings_117 rfl (Or.inr ⟨_, rfl⟩) ?_
      exact ⟨rfl, I, rfl, hi⟩
    · exfalso; omega
  | succ k ih =>
    intro r I z6 hr hi
    have hgg : GL cd n (rgI cd h n r (fun _ => -1000000)) := GL.i hL r (fun i _ _ => Or.inl rfl)
    refine E_iload dX11_linesByRings_20 rfl ?_
    refine E_iload_n dX11_linesByRings_22 rfl ?_
    refine E_icmp_ge (tgt := 116) dX11_linesByRings_23 (by decide) (fun h23 => ?_) (fun h23 => ?_)
    · exfalso; omega
    · refine E_iconst dX11_linesByRings_26 (by decide) ?_
      refine E_istore dX11_linesByRings_27 rfl (by decide) ?_
      try dsimp only [List.set]
      refine l_rgA hX hRc hC hD hW n n6 hL hx hy hz hh hd1 hd2 (g := (rgI cd h n r (fun _ => -1000000))) hgg r (fun J hJ => ?_) n 0 I (by omega) ⟨hi.1, hi.2, fun i i0 i1 => by omega⟩
      refine E_iconst dX11_linesByRings_66 (by decide) ?_
      refine E_istore dX11_linesByRings_67 rfl (by decide) ?_
      try dsimp only [List.set]
      refine l_rgB hX hRc hC hD hW n n6 hL hx hy hz hh hd1 hd2 (g := (rgI cd h n r (fun _ => -1000000))) hgg r (fun K hK => ?_) n 0 J (by omega) ⟨hJ.1, fun i i0 i1 => by rw [if_neg (by omega)]; exact hJ.2.1 i i0 i1, hJ.2.2⟩
      refine E_iinc dX11_linesByRings_110 rfl (by omega) (by omega) (by decide) rfl (by decide) ?_
      try dsimp only [List.set]
      refine E_goto (tgt := 20) dX11_linesByRings_113 (by decide) ?_
      refine EV.mq rfl rfl (ih (r + 1) K _ (by omega) ⟨hK.1, fun i i0 i1 => ?_⟩)
      rw [hK.2.1 i i0 i1, if_pos (by omega), rgI_snoc]
