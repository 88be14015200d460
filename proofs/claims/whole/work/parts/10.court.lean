/-! ===== 10: the class: isIn, Court ===== -/
set_option maxRecDepth 20000 in
set_option maxHeartbeats 8000000 in
theorem c_isIn {G : Ctx} {M : Mem} {v a b : Int} : CT G m_X11_isIn 0 0 0 [vI v, vI a, vI b] M (rI M (tB (decide (a ≤ v ∧ v ≤ b)))) := by
  refine CT.of k_X11_isIn 0 (ls := [some (vI v), some (vI a), some (vI b)]) rfl (Nat.le_of_ble_eq_true rfl) ?_
  refine E_iload_n dX11_isIn_0 rfl ?_
  refine E_iload_n dX11_isIn_1 rfl ?_
  refine E_icmp_lt (tgt := 14) dX11_isIn_2 (by decide) (fun h2 => ?_) (fun h2 => ?_)
  · refine E_iconst dX11_isIn_14 (by decide) ?_
    refine E_zret dX11_isIn_15 rfl (by decide) ?_
    refine ⟨?_, rfl⟩
    congr 2; first | (rw [decide_eq_true (by omega)]; rfl) | (rw [decide_eq_false (by omega)]; rfl)
  · refine E_iload_n dX11_isIn_5 rfl ?_
    refine E_iload_n dX11_isIn_6 rfl ?_
    refine E_icmp_gt (tgt := 14) dX11_isIn_7 (by decide) (fun h7 => ?_) (fun h7 => ?_)
    · refine E_iconst dX11_isIn_14 (by decide) ?_
      refine E_zret dX11_isIn_15 rfl (by decide) ?_
      refine ⟨?_, rfl⟩
      congr 2; first | (rw [decide_eq_true (by omega)]; rfl) | (rw [decide_eq_false (by omega)]; rfl)
    · refine E_iconst dX11_isIn_10 (by decide) ?_
      refine E_goto (tgt := 15) dX11_isIn_11 (by decide) ?_
      refine E_zret dX11_isIn_15 rfl (by decide) ?_
      refine ⟨?_, rfl⟩
      congr 2; first | (rw [decide_eq_true (by omega)]; rfl) | (rw [decide_eq_false (by omega)]; rfl)
set_option maxRecDepth 20000 in
set_option maxHeartbeats 8000000 in
theorem c_isTold {G : Ctx} {M : Mem} {a : Nat} (hC : mS M a = (4, 1)) : CT G m_X1_isTold 0 0 0 [vR a] M (rI M (tB (decide (0 < mI M a 1)))) := by
  refine CT.of k_X1_isTold 0 (ls := [some (vR a)]) rfl (Nat.le_of_ble_eq_true rfl) ?_
  refine E_aload_n dX1_isTold_0 rfl ?_
  refine g_X1_51 rfl dX1_isTold_1 hC rfl ?_
  refine E_if_le (tgt := 11) dX1_isTold_4 (by decide) (fun h4 => ?_) (fun h4 => ?_)
  · refine E_iconst dX1_isTold_11 (by decide) ?_
    refine E_zret dX1_isTold_12 rfl (by decide) ?_
    refine ⟨?_, rfl⟩
    congr 2; first | (rw [decide_eq_true (by omega)]; rfl) | (rw [decide_eq_false (by omega)]; rfl)
  · refine E_iconst dX1_isTold_7 (by decide) ?_
    refine E_goto (tgt := 12) dX1_isTold_8 (by decide) ?_
    refine E_zret dX1_isTold_12 rfl (by decide) ?_
    refine ⟨?_, rfl⟩
    congr 2; first | (rw [decide_eq_true (by omega)]; rfl) | (rw [decide_eq_false (by omega)]; rfl)
/-- has a line sun in a quarter, with a roof -/
def fSun (cd : CD) (l q roof : Int) : Bool := decide (Int.tdiv (cd (4 + q)) 10 + roof ≤ cd (28 + 3 * l))
theorem tdiv10 {x : Int} (h0 : 0 ≤ x) (h1 : x ≤ 99) : 0 ≤ Int.tdiv x 10 ∧ Int.tdiv x 10 ≤ 9 := by
  rw [Int.tdiv_eq_ediv_of_nonneg h0]; omega
theorem tmod10 {x : Int} (h0 : 0 ≤ x) (h1 : x ≤ 99) : 0 ≤ Int.tmod x 10 ∧ Int.tmod x 10 ≤ 9 := by
  rw [Int.tmod_eq_emod_of_nonneg h0]; omega
set_option maxRecDepth 20000 in
set_option maxHeartbeats 8000000 in
theorem c_hasSun {G : Ctx} {M : Mem} {a : Nat} {cd : CD} (hC : CA M a) (hD : CC (mI M) a cd) (hW : WFc cd) {l q h : Int} (l0 : 0 ≤ l) (l1 : l < cd 0) (q0 : 0 ≤ q) (q1 : q < 24) (h0 : 0 ≤ h) (h1 : h ≤ 9) : CT G m_X1_hasSun 0 0 0 [vR a, vI l, vI q, vI h] M (rI M (tB (fSun cd l q h))) := by
  refine CT.of k_X1_hasSun 0 (ls := [some (vR a), some (vI l), some (vI q), some (vI h)]) rfl (Nat.le_of_ble_eq_true rfl) ?_
  have hdy := hW.day q0 q1
  have ht := tdiv10 hdy.1 hdy.2
  have hln := hW.ln
  refine E_aload_n dX1_hasSun_0 rfl ?_
  refine g_X1_15 rfl dX1_hasSun_1 hC.o hC.floors ?_
  refine E_iload_n dX1_hasSun_4 rfl ?_
  refine E_iald dX1_hasSun_5 hC.s_floors (by omega) (by omega) (hD.floors (by omega) (by omega)) ?_
  refine E_aload_n dX1_hasSun_6 rfl ?_
  refine g_X1_9 rfl dX1_hasSun_7 hC.o hC.day ?_
  refine E_iload_n dX1_hasSun_10 rfl ?_
  refine E_iald dX1_hasSun_11 hC.s_day (by omega) (by omega) (hD.day (by omega) (by omega)) ?_
  refine E_bipush dX1_hasSun_12 (by decide) ?_
  refine E_idiv dX1_hasSun_14 (by omega) (by omega) (by omega) ?_
  refine E_iload_n dX1_hasSun_15 rfl ?_
  refine E_iadd dX1_hasSun_16 (by omega) (by omega) ?_
  refine E_icmp_lt (tgt := 24) dX1_hasSun_17 (by decide) (fun h17 => ?_) (fun h17 => ?_)
  · refine E_iconst dX1_hasSun_24 (by decide) ?_
    refine E_zret dX1_hasSun_25 rfl (by decide) ?_
    refine ⟨?_, rfl⟩
    congr 2; unfold fSun; first | (rw [decide_eq_true (by omega)]; rfl) | (rw [decide_eq_false (by omega)]; rfl)
  · refine E_iconst dX1_hasSun_20 (by decide) ?_
    refine E_goto (tgt := 25) dX1_hasSun_21 (by decide) ?_
    refine E_zret dX1_hasSun_25 rfl (by decide) ?_
    refine ⟨?_, rfl⟩
    congr 2; unfold fSun; first | (rw [decide_eq_true (by omega)]; rfl) | (rw [decide_eq_false (by omega)]; rfl)
/-- in how many of n quarters from f on -/
def fSunN (cd : CD) (l f roof : Int) : Nat → Int
  | 0 => 0
  | n + 1 => fSunN cd l f roof n + tB (fSun cd l (f + n) roof)
theorem fSunN_b (cd : CD) (l f roof : Int) : ∀ n : Nat, 0 ≤ fSunN cd l f roof n ∧ fSunN cd l f roof n ≤ n
  | 0 => by simp [fSunN]
  | n + 1 => by
    have h := fSunN_b cd l f roof n
    have t := tB_ran (fSun cd l (f + n) roof)
    simp only [fSunN]; omega
set_option maxRecDepth 20000 in
set_option maxHeartbeats 8000000 in
theorem c_sunnyQuarters {G : Ctx} {M : Mem} {a : Nat} {cd : CD} (hC : CA M a) (hD : CC (mI M) a cd) (hW : WFc cd) {l f t h : Int} (l0 : 0 ≤ l) (l1 : l < cd 0) (f0 : 0 ≤ f) (n : Nat) (hn : f + n = t + 1) (t1 : t < 24) (h0 : 0 ≤ h) (h1 : h ≤ 9) : CT G m_X1_sunnyQuarters 1 0 0 [vR a, vI l, vI f, vI t, vI h] M (rI M (fSunN cd l f h n)) := by
  refine CT.of k_X1_sunnyQuarters 2 (ls := [some (vR a), some (vI l), some (vI f), some (vI t), some (vI h), none, none]) rfl (Nat.le_of_ble_eq_true rfl) ?_
  refine E_iconst dX1_sunnyQuarters_0 (by decide) ?_
  refine E_istore dX1_sunnyQuarters_1 rfl (by decide) ?_
  try dsimp only [List.set]
  refine E_iload_n dX1_sunnyQuarters_3 rfl ?_
  refine E_istore dX1_sunnyQuarters_4 rfl (by decide) ?_
  try dsimp only [List.set]
  suffices H : ∀ k r : Nat, r + k = n → EV G m_X1_sunnyQuarters 1 0 0 (rI M (fSunN cd l f h n)) 6 [some (vR a), some (vI l), some (vI f), some (vI t), some (vI h), some (vI (fSunN cd l f h r)), some (vI (f + r))] [] M by
    exact EV.lq (by simp [fSunN]) (H n 0 (by omega))
  intro k
  induction k with
  | zero =>
    intro r hr
    obtain rfl : r = n := by omega
    refine E_iload dX1_sunnyQuarters_6 rfl ?_
    refine E_iload_n dX1_sunnyQuarters_8 rfl ?_
    refine E_icmp_gt (tgt := 47) dX1_sunnyQuarters_9 (by decide) (fun h9 => ?_) (fun h9 => ?_)
    · refine E_iload dX1_sunnyQuarters_47 rfl ?_
      refine E_iret dX1_sunnyQuarters_49 rfl ?_
      exact ⟨rfl, rfl⟩
    · exact absurd hr (by omega)
  | succ k ih =>
    intro r hr
    have hb := fSunN_b cd l f h r
    refine E_iload dX1_sunnyQuarters_6 rfl ?_
    refine E_iload_n dX1_sunnyQuarters_8 rfl ?_
    refine E_icmp_gt (tgt := 47) dX1_sunnyQuarters_9 (by decide) (fun h9 => ?_) (fun h9 => ?_)
    · exfalso; omega
    · refine E_iload dX1_sunnyQuarters_12 rfl ?_
      refine E_bipush dX1_sunnyQuarters_14 (by decide) ?_
      refine E_icmp_ge (tgt := 47) dX1_sunnyQuarters_16 (by decide) (fun h16 => ?_) (fun h16 => ?_)
      · exfalso; omega
      · refine E_iload dX1_sunnyQuarters_19 rfl ?_
        refine E_aload_n dX1_sunnyQuarters_21 rfl ?_
        refine E_iload_n dX1_sunnyQuarters_22 rfl ?_
        refine E_iload dX1_sunnyQuarters_23 rfl ?_
        refine E_iload dX1_sunnyQuarters_25 rfl ?_
        refine i_X1_65 rfl dX1_sunnyQuarters_27 hC.o (c_hasSun hC hD hW l0 l1 (by omega) (by omega) h0 h1) (by omega) (Nat.le_of_ble_eq_true rfl) rfl rfl ?_
        rintro _ _ ⟨rfl, rfl⟩
        try dsimp only [pu]
        refine E_if_eq (tgt := 37) dX1_sunnyQuarters_30 (by decide) (fun h30 => ?_) (fun h30 => ?_)
        · simp only [tB0, ne_eq, Bool.not_eq_false, Bool.not_eq_true, decide_eq_true_eq, decide_eq_false_iff_not, Classical.not_not] at h30
          refine E_iconst dX1_sunnyQuarters_37 (by decide) ?_
          refine E_iadd dX1_sunnyQuarters_38 (by omega) (by omega) ?_
          refine E_istore dX1_sunnyQuarters_39 rfl (by decide) ?_
          try dsimp only [List.set]
          refine E_iinc dX1_sunnyQuarters_41 rfl (by omega) (by omega) (by decide) rfl (by decide) ?_
          try dsimp only [List.set]
          refine E_goto (tgt := 6) dX1_sunnyQuarters_44 (by decide) ?_
          exact EV.lq (by simp [fSunN, h30, tB, Int.add_assoc]) (ih (r + 1) (by omega))
        · simp only [tB0, ne_eq, Bool.not_eq_false, Bool.not_eq_true, decide_eq_true_eq, decide_eq_false_iff_not, Classical.not_not] at h30
          refine E_iconst dX1_sunnyQuarters_33 (by decide) ?_
          refine E_goto (tgt := 38) dX1_sunnyQuarters_34 (by decide) ?_
          refine E_iadd dX1_sunnyQuarters_38 (by omega) (by omega) ?_
          refine E_istore dX1_sunnyQuarters_39 rfl (by decide) ?_
          try dsimp only [List.set]
          refine E_iinc dX1_sunnyQuarters_41 rfl (by omega) (by omega) (by decide) rfl (by decide) ?_
          try dsimp only [List.set]
          refine E_goto (tgt := 6) dX1_sunnyQuarters_44 (by decide) ?_
          exact EV.lq (by simp [fSunN, h30, tB, Int.add_assoc]) (ih (r + 1) (by omega))
