def bc1 (x : Int) : Int := x - bAnd (bUshr x 1) 1431655765
def bc2 (x : Int) : Int := bAnd x 858993459 + bAnd (bUshr x 2) 858993459
def bc3 (x : Int) : Int := bAnd (x + bUshr x 4) 252645135
def bc4 (x : Int) : Int := x + bUshr x 8
def bc5 (x : Int) : Int := x + bUshr x 16
def bcR (x : Int) : Bool := decide (-100000 ≤ x ∧ x ≤ 100000)
def bcA (x : Int) : Bool := bcR (bc1 x) && bcR (bAnd (bc1 x) 858993459) && bcR (bAnd (bUshr (bc1 x) 2) 858993459) && bcR (bc2 (bc1 x)) && bcR (bc2 (bc1 x) + bUshr (bc2 (bc1 x)) 4) && bcR (bc4 (bc3 (bc2 (bc1 x)))) && bcR (bc5 (bc4 (bc3 (bc2 (bc1 x)))))
theorem bcA_ok : ∀ x : Nat, x < 1024 → bcA x = true ∧ bAnd (bc5 (bc4 (bc3 (bc2 (bc1 x))))) 63 = cnt (fun p => Nat.testBit x p) 10 := by decide +kernel
theorem bcR_of {x : Int} (h : bcR x = true) : -100000 ≤ x ∧ x ≤ 100000 := of_decide_eq_true h
theorem cnt_lt (b : Nat → Bool) (n : Nat) : ∀ k : Nat, cnt (fun p => decide (p < n) && b p) (n + k) = cnt b n := by
  have h : ∀ m, m ≤ n → cnt (fun p => decide (p < n) && b p) m = cnt b m := by
    intro m
    induction m with
    | zero => intro _; rfl
    | succ m ih => intro hm; simp only [cnt]; rw [ih (by omega), decide_eq_true (by omega), Bool.true_and]
  intro k
  induction k with
  | zero => exact h n (Nat.le_refl n)
  | succ k ih =>
    show cnt _ (n + k) + tB (decide (n + k < n) && b (n + k)) = _
    rw [ih, decide_eq_false (by omega), Bool.false_and]
    show _ + 0 = _
    omega
theorem fHu_bs (hu : Int → Int) : ∀ n : Nat, n ≤ 10 → BS (fHu hu n) n (fun p => decide (hu p ≠ -1000000))
  | 0, _ => BS.nil _
  | n + 1, h => by
    have ih := fHu_bs hu n (by omega)
    simp only [fHu]
    by_cases hz : hu n ≠ -1000000
    · rw [if_pos hz]; exact ih.add (by omega) (decide_eq_true hz)
    · rw [if_neg hz]; exact ih.skip (decide_eq_false hz)
theorem bits_cnt {s : Int} {n : Nat} {b : Nat → Bool} (h : BS s n b) (hn : n ≤ 10) : ∃ x : Nat, s = x ∧ x < 1024 ∧ cnt (fun p => Nat.testBit x p) 10 = cnt b n := by
  obtain ⟨x, rfl, hx, ht⟩ := h
  refine ⟨x, rfl, ?_, ?_⟩
  · have : x < 2 ^ 10 := Nat.lt_pow_two_of_testBit x (fun i hi => by rw [ht i, decide_eq_false (by omega), Bool.false_and])
    exact this
  · rw [show (fun p => Nat.testBit x p) = (fun p => decide (p < n) && b p) from funext ht]
    have e : (10 : Nat) = n + (10 - n) := by omega
    rw [e]; exact cnt_lt b n (10 - n)
set_option maxRecDepth 20000 in
set_option maxHeartbeats 3000000 in
theorem c_bitCount {G : Ctx} {M : Mem} {s : Int} {n : Nat} {b : Nat → Bool} (h : BS s n b) (hn : n ≤ 10) : CT G m_J6_bitCount_0f7a4 0 0 0 [vI s] M (rI M (cnt b n)) := by
  refine CT.of k_J6_bitCount_0f7a4 0 (ls := [some (vI s)]) rfl (Nat.le_of_ble_eq_true rfl) ?_
  obtain ⟨x, rfl, hx, hc⟩ := bits_cnt h hn
  obtain ⟨h1, h2⟩ := bcA_ok x hx
  unfold bcA at h1
  simp only [Bool.and_eq_true] at h1
  obtain ⟨⟨⟨⟨⟨⟨a1, a2⟩, a3⟩, a4⟩, a5⟩, a6⟩, a7⟩ := h1
  have a1 := bcR_of a1
  have a2 := bcR_of a2
  have a3 := bcR_of a3
  have a4 := bcR_of a4
  have a5 := bcR_of a5
  have a6 := bcR_of a6
  have a7 := bcR_of a7
  unfold bc5 at a7 h2
  unfold bc4 at a6 a7 h2
  unfold bc3 at a6 a7 h2
  unfold bc2 at a4 a5 a6 a7 h2
  unfold bc1 at a1 a2 a3 a4 a5 a6 a7 h2
  refine E_iload_n dJ6_bitCount_0f7a4_0 rfl ?_
  refine E_iload_n dJ6_bitCount_0f7a4_1 rfl ?_
  refine E_iconst dJ6_bitCount_0f7a4_2 (by decide) ?_
  refine E_iushr dJ6_bitCount_0f7a4_3 ?_
  refine c_J6_265 rfl dJ6_bitCount_0f7a4_4 ?_
  refine E_iand dJ6_bitCount_0f7a4_7 ?_
  refine E_isub dJ6_bitCount_0f7a4_8 (by omega) (by omega) ?_
  refine E_istore_n dJ6_bitCount_0f7a4_9 rfl (by decide) ?_
  try dsimp only [List.set]
  refine E_iload_n dJ6_bitCount_0f7a4_10 rfl ?_
  refine c_J6_266 rfl dJ6_bitCount_0f7a4_11 ?_
  refine E_iand dJ6_bitCount_0f7a4_14 ?_
  refine E_iload_n dJ6_bitCount_0f7a4_15 rfl ?_
  refine E_iconst dJ6_bitCount_0f7a4_16 (by decide) ?_
  refine E_iushr dJ6_bitCount_0f7a4_17 ?_
  refine c_J6_266 rfl dJ6_bitCount_0f7a4_18 ?_
  refine E_iand dJ6_bitCount_0f7a4_21 ?_
  refine E_iadd dJ6_bitCount_0f7a4_22 (by omega) (by omega) ?_
  refine E_istore_n dJ6_bitCount_0f7a4_23 rfl (by decide) ?_
  try dsimp only [List.set]
  refine E_iload_n dJ6_bitCount_0f7a4_24 rfl ?_
  refine E_iload_n dJ6_bitCount_0f7a4_25 rfl ?_
  refine E_iconst dJ6_bitCount_0f7a4_26 (by decide) ?_
  refine E_iushr dJ6_bitCount_0f7a4_27 ?_
  refine E_iadd dJ6_bitCount_0f7a4_28 (by omega) (by omega) ?_
  refine c_J6_267 rfl dJ6_bitCount_0f7a4_29 ?_
  refine E_iand dJ6_bitCount_0f7a4_32 ?_
  refine E_istore_n dJ6_bitCount_0f7a4_33 rfl (by decide) ?_
  try dsimp only [List.set]
  refine E_iload_n dJ6_bitCount_0f7a4_34 rfl ?_
  refine E_iload_n dJ6_bitCount_0f7a4_35 rfl ?_
  refine E_bipush dJ6_bitCount_0f7a4_36 (by decide) ?_
  refine E_iushr dJ6_bitCount_0f7a4_38 ?_
  refine E_iadd dJ6_bitCount_0f7a4_39 (by omega) (by omega) ?_
  refine E_istore_n dJ6_bitCount_0f7a4_40 rfl (by decide) ?_
  try dsimp only [List.set]
  refine E_iload_n dJ6_bitCount_0f7a4_41 rfl ?_
  refine E_iload_n dJ6_bitCount_0f7a4_42 rfl ?_
  refine E_bipush dJ6_bitCount_0f7a4_43 (by decide) ?_
  refine E_iushr dJ6_bitCount_0f7a4_45 ?_
  refine E_iadd dJ6_bitCount_0f7a4_46 (by omega) (by omega) ?_
  refine E_istore_n dJ6_bitCount_0f7a4_47 rfl (by decide) ?_
  try dsimp only [List.set]
  refine E_iload_n dJ6_bitCount_0f7a4_48 rfl ?_
  refine E_bipush dJ6_bitCount_0f7a4_49 (by decide) ?_
  refine E_iand dJ6_bitCount_0f7a4_51 ?_
  refine E_iret dJ6_bitCount_0f7a4_52 rfl ?_
  exact ⟨by rw [← hc, ← h2], rfl⟩
set_option maxRecDepth 20000 in
set_option maxHeartbeats 3000000 in
theorem x_count {G : Ctx} {M : Mem} {A : AS} {B : Int} (hI : CI M A) (hG : GA A B) (hB : B ≤ 900000) {w : Int} (n : Nat) (hn : A 4 2 = n) : CT G m_X11_count 2 0 0 [vR 21, vI w] M (xM M (s_count A w n) (A)) := by
  refine CT.of k_X11_count 0 (ls := [some (vR 21), some (vI w)]) rfl (Nat.le_of_ble_eq_true rfl) ?_
  obtain ⟨hX, hN, hR, hT, hK, hS, hW0, hW1, hW2⟩ := id hI
  obtain ⟨a, hRc, hC, ha, haN, hD, hH, hE, hSn, hg, hZ⟩ := hW0
  have hW := hG.w.c
  have hpn := hW.pn
  have hl8 := hW.ln
  have hr8 := hW.rn
  have hgg := hG.w.g
  have hth := hG.th
  have hV := hG.w.hv
  refine E_iload_n dX11_count_0 rfl ?_
  by_cases q1_0 : w = 0
  · refine E_tabIn (off := 47) (tgt := 48) dX11_count_1 (by omega) (by omega) (by rw [q1_0]; rfl) (by decide) ?_
    refine E_aload_n dX11_count_48 rfl ?_
    refine g_X11_10 rfl dX11_count_49 hX.o hX.rows ?_
    refine i_X11_302 rfl dX11_count_52 (by exact hX.rp.o) (c_howMany (by exact hX.rp) (fun k k0 k1 => (hR k k0 k1).1) (fun k k0 k1 => (hG.ln k0 k1).1)) (by omega) (Nat.le_of_ble_eq_true rfl) rfl rfl ?_
    rintro _ _ ⟨rfl, rfl⟩
    try dsimp only [pu]
    refine E_iret dX11_count_55 rfl ?_
    refine ⟨?_, ?_, (FX.rfl' M)⟩
    · congr 2; unfold s_count; rw [if_pos (by omega), if_pos (by omega)]; try rfl
    · exact hI
  by_cases q1_1 : w = 1
  · refine E_tabIn (off := 55) (tgt := 56) dX11_count_1 (by omega) (by omega) (by rw [q1_1]; rfl) (by decide) ?_
    refine E_aload_n dX11_count_56 rfl ?_
    refine g_X11_48 rfl dX11_count_57 hX.o hX.wash ?_
    refine g_X11_168 rfl dX11_count_60 hX.w0.o hRc ?_
    refine g_X11_131 rfl dX11_count_63 hC.o hD.lnc ?_
    refine E_iret dX11_count_66 rfl ?_
    refine ⟨?_, hI, FX.rfl' M⟩
    congr 2; unfold s_count; rw [if_pos (by omega), if_neg (by omega), if_pos (by omega), q1_1]; rfl
  by_cases q1_2 : w = 2
  · refine E_tabIn (off := 66) (tgt := 67) dX11_count_1 (by omega) (by omega) (by rw [q1_2]; rfl) (by decide) ?_
    refine E_aload_n dX11_count_67 rfl ?_
    refine g_X11_48 rfl dX11_count_68 hX.o hX.wash ?_
    refine g_X11_168 rfl dX11_count_71 hX.w0.o hRc ?_
    refine g_X11_305 rfl dX11_count_74 hC.o hD.rnc ?_
    refine E_iret dX11_count_77 rfl ?_
    refine ⟨?_, hI, FX.rfl' M⟩
    congr 2; unfold s_count; rw [if_pos (by omega), if_neg (by omega), if_pos (by omega), q1_2]; rfl
  by_cases q1_3 : w = 3
  · refine E_tabIn (off := 77) (tgt := 78) dX11_count_1 (by omega) (by omega) (by rw [q1_3]; rfl) (by decide) ?_
    refine E_aload_n dX11_count_78 rfl ?_
    refine g_X11_48 rfl dX11_count_79 hX.o hX.wash ?_
    refine g_X11_168 rfl dX11_count_82 hX.w0.o hRc ?_
    refine g_X11_172 rfl dX11_count_85 hC.o hD.pnc ?_
    refine E_iret dX11_count_88 rfl ?_
    refine ⟨?_, hI, FX.rfl' M⟩
    congr 2; unfold s_count; rw [if_pos (by omega), if_neg (by omega), if_pos (by omega), q1_3]; rfl
  by_cases q1_4 : w = 4
  · refine E_tabIn (off := 88) (tgt := 89) dX11_count_1 (by omega) (by omega) (by rw [q1_4]; rfl) (by decide) ?_
    refine E_aload_n dX11_count_89 rfl ?_
    refine g_X11_48 rfl dX11_count_90 hX.o hX.wash ?_
    refine i_X11_186 rfl dX11_count_93 (by exact hX.w0.o) (c_hungBits (by exact hX.w0) hRc hC hD hW hV hH n hn) (by omega) (Nat.le_of_ble_eq_true rfl) rfl rfl ?_
    rintro _ _ ⟨rfl, rfl⟩
    try dsimp only [pu]
    refine i_X11_190 rfl dX11_count_96 (c_bitCount (fHu_bs (cHu (A 4)) n (by omega)) (by omega)) (by omega) (Nat.le_of_ble_eq_true rfl) rfl rfl ?_
    rintro _ _ ⟨rfl, rfl⟩
    try dsimp only [pu]
    refine E_iret dX11_count_99 rfl ?_
    refine ⟨?_, ?_, (FX.rfl' M)⟩
    · congr 2; unfold s_count; rw [if_pos (by omega), if_neg (by omega), if_neg (by omega), if_pos (by omega)]; try rfl
    · exact hI
  by_cases q1_5 : w = 5
  · refine E_tabIn (off := 99) (tgt := 100) dX11_count_1 (by omega) (by omega) (by rw [q1_5]; rfl) (by decide) ?_
    refine E_aload_n dX11_count_100 rfl ?_
    refine g_X11_48 rfl dX11_count_101 hX.o hX.wash ?_
    refine i_X11_308 rfl dX11_count_104 (by exact hX.w0.o) (c_howManyStained (by exact hX.w0) hRc hC hD hW hSn n hn) (by omega) (Nat.le_of_ble_eq_true rfl) rfl rfl ?_
    rintro _ _ ⟨rfl, rfl⟩
    try dsimp only [pu]
    refine E_iret dX11_count_107 rfl ?_
    refine ⟨?_, hI, FX.rfl' M⟩
    congr 2; unfold s_count; rw [if_pos (by omega), if_neg (by omega), if_neg (by omega), if_neg (by omega), if_pos (by omega)]; exact sSt_f n (fun p p0 p1 => hG.w.sn p p0 (by omega))
  by_cases q1_6 : w = 6
  · refine E_tabIn (off := 107) (tgt := 108) dX11_count_1 (by omega) (by omega) (by rw [q1_6]; rfl) (by decide) ?_
    refine E_aload_n dX11_count_108 rfl ?_
    refine g_X11_48 rfl dX11_count_109 hX.o hX.wash ?_
    refine g_X11_165 rfl dX11_count_112 hX.w0.o hg ?_
    refine E_iret dX11_count_115 rfl ?_
    refine ⟨?_, ?_, (FX.rfl' M)⟩
    · congr 2; unfold s_count; rw [if_pos (by omega), if_neg (by omega), if_neg (by omega), if_neg (by omega), if_neg (by omega), if_pos (by omega)]; try rfl
    · exact hI
  by_cases q1_7 : w = 7
  · refine E_tabIn (off := 115) (tgt := 116) dX11_count_1 (by omega) (by omega) (by rw [q1_7]; rfl) (by decide) ?_
    refine E_aload_n dX11_count_116 rfl ?_
    refine g_X11_19 rfl dX11_count_117 hX.o hX.reader ?_
    refine g_X11_311 rfl dX11_count_120 hX.rq.o hT.1 ?_
    refine E_iret dX11_count_123 rfl ?_
    refine ⟨?_, ?_, (FX.rfl' M)⟩
    · congr 2; unfold s_count; rw [if_pos (by omega), if_neg (by omega), if_neg (by omega), if_neg (by omega), if_neg (by omega), if_neg (by omega)]; try rfl
    · exact hI
  refine E_tabOut (tgt := 124) dX11_count_1 (by omega) (by decide) ?_
  refine c_X11_72 rfl dX11_count_124 ?_
  refine E_iret dX11_count_126 rfl ?_
  refine ⟨?_, ?_, (FX.rfl' M)⟩
  · congr 2; unfold s_count; rw [if_neg (by omega)]; try rfl
  · exact hI
