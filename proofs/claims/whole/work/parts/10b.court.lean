/-! ===== 10b: Court, on ===== -/
def fHold (cd : CD) (l q : Int) : Nat → Int
  | 0 => 0
  | k + 1 => if cd (52 + 4 * k) = l ∧ cd (53 + 4 * k) ≤ q ∧ q ≤ cd (54 + 4 * k) then bOr (fHold cd l q k) (bShl 1 (cd (55 + 4 * k))) else fHold cd l q k
/-- by how much a piece dries on a line in a quarter -/
def fDry (cd : CD) (p l q : Int) : Int := max 0 (Int.tmod (cd (4 + q)) 10 + (if fSun cd l q 0 = true then 2 else 0) - (if cd (84 + 6 * p) = 3 ∨ cd (84 + 6 * p) = 5 then 2 else 0))
/-- no red, no black one -/
def fTak (cd : CD) (p : Int) : Bool := decide (cd (84 + 6 * p) ≠ 1 ∧ cd (84 + 6 * p) ≠ 2)
set_option maxRecDepth 20000 in
set_option maxHeartbeats 8000000 in
theorem c_holders {G : Ctx} {M : Mem} {a : Nat} {cd : CD} (hC : CA M a) (hD : CC (mI M) a cd) (hW : WFc cd) {l q : Int} (n : Nat) (hn : cd 1 = n) : CT G m_X1_holders 1 0 0 [vR a, vI l, vI q] M (rI M (fHold cd l q n)) := by
  refine CT.of k_X1_holders 2 (ls := [some (vR a), some (vI l), some (vI q), none, none]) rfl (Nat.le_of_ble_eq_true rfl) ?_
  have hrn := hW.rn
  refine E_iconst dX1_holders_0 (by decide) ?_
  refine E_istore_n dX1_holders_1 rfl (by decide) ?_
  try dsimp only [List.set]
  refine E_iconst dX1_holders_2 (by decide) ?_
  refine E_istore dX1_holders_3 rfl (by decide) ?_
  try dsimp only [List.set]
  suffices H : ∀ (k r : Nat) , r + k = n → EV G m_X1_holders 1 0 0 (rI M (fHold cd l q n)) 5 [some (vR a), some (vI l), some (vI q), some (vI (fHold cd l q r)), some (vI (r : Int))] [] M by
    exact EV.lq (by simp [fHold]) (H n 0 (by omega))
  intro k
  induction k with
  | zero =>
    intro r  hr
    obtain rfl : r = n := by omega
    refine E_iload dX1_holders_5 rfl ?_
    refine E_aload_n dX1_holders_7 rfl ?_
    refine g_X1_55 rfl dX1_holders_8 hC.o (hD.rnc.trans hn) ?_
    refine E_icmp_ge (tgt := 64) dX1_holders_11 (by decide) (fun h11 => ?_) (fun h11 => ?_)
    · refine E_iload_n dX1_holders_64 rfl ?_
      refine E_iret dX1_holders_65 rfl ?_
      exact ⟨rfl, rfl⟩
    · exfalso; omega
  | succ k ih =>
    intro r  hr
    refine E_iload dX1_holders_5 rfl ?_
    refine E_aload_n dX1_holders_7 rfl ?_
    refine g_X1_55 rfl dX1_holders_8 hC.o (hD.rnc.trans hn) ?_
    refine E_icmp_ge (tgt := 64) dX1_holders_11 (by decide) (fun h11 => ?_) (fun h11 => ?_)
    · exfalso; omega
    · refine E_aload_n dX1_holders_14 rfl ?_
      refine g_X1_27 rfl dX1_holders_15 hC.o hC.rightLines ?_
      refine E_iload dX1_holders_18 rfl ?_
      refine E_iald dX1_holders_20 hC.s_rightLines (by omega) (by omega) (hD.rightLines (by omega) (by omega)) ?_
      refine E_iload_n dX1_holders_21 rfl ?_
      refine E_icmp_ne (tgt := 58) dX1_holders_22 (by decide) (fun h22 => ?_) (fun h22 => ?_)
      · refine E_iinc dX1_holders_58 rfl (by omega) (by omega) (by decide) rfl (by decide) ?_
        try dsimp only [List.set]
        refine E_goto (tgt := 5) dX1_holders_61 (by decide) ?_
        exact EV.lq (by simp only [fHold]; (first | rw [if_pos (by omega)] | rw [if_neg (by omega)]); rfl) (ih (r + 1) (by omega))
      · refine E_iload_n dX1_holders_25 rfl ?_
        refine E_aload_n dX1_holders_26 rfl ?_
        refine g_X1_30 rfl dX1_holders_27 hC.o hC.rightFroms ?_
        refine E_iload dX1_holders_30 rfl ?_
        refine E_iald dX1_holders_32 hC.s_rightFroms (by omega) (by omega) (hD.rightFroms (by omega) (by omega)) ?_
        refine E_aload_n dX1_holders_33 rfl ?_
        refine g_X1_33 rfl dX1_holders_34 hC.o hC.rightTos ?_
        refine E_iload dX1_holders_37 rfl ?_
        refine E_iald dX1_holders_39 hC.s_rightTos (by omega) (by omega) (hD.rightTos (by omega) (by omega)) ?_
        refine i_X1_75 rfl dX1_holders_40 c_isIn (by omega) (Nat.le_of_ble_eq_true rfl) rfl rfl ?_
        rintro _ _ ⟨rfl, rfl⟩
        try dsimp only [pu]
        refine E_if_eq (tgt := 58) dX1_holders_43 (by decide) (fun h43 => ?_) (fun h43 => ?_)
        · simp only [tB0, ne_eq, Bool.not_eq_false, Bool.not_eq_true, decide_eq_true_eq, decide_eq_false_iff_not, Classical.not_not] at h43
          refine E_iinc dX1_holders_58 rfl (by omega) (by omega) (by decide) rfl (by decide) ?_
          try dsimp only [List.set]
          refine E_goto (tgt := 5) dX1_holders_61 (by decide) ?_
          exact EV.lq (by simp only [fHold]; (first | rw [if_pos (by omega)] | rw [if_neg (by omega)]); rfl) (ih (r + 1) (by omega))
        · simp only [tB0, ne_eq, Bool.not_eq_false, Bool.not_eq_true, decide_eq_true_eq, decide_eq_false_iff_not, Classical.not_not] at h43
          refine E_iload_n dX1_holders_46 rfl ?_
          refine E_iconst dX1_holders_47 (by decide) ?_
          refine E_aload_n dX1_holders_48 rfl ?_
          refine g_X1_36 rfl dX1_holders_49 hC.o hC.rightOwners ?_
          refine E_iload dX1_holders_52 rfl ?_
          refine E_iald dX1_holders_54 hC.s_rightOwners (by omega) (by omega) (hD.rightOwners (by omega) (by omega)) ?_
          refine E_ishl dX1_holders_55 ?_
          refine E_ior dX1_holders_56 ?_
          refine E_istore_n dX1_holders_57 rfl (by decide) ?_
          try dsimp only [List.set]
          refine E_iinc dX1_holders_58 rfl (by omega) (by omega) (by decide) rfl (by decide) ?_
          try dsimp only [List.set]
          refine E_goto (tgt := 5) dX1_holders_61 (by decide) ?_
          exact EV.lq (by simp only [fHold]; (first | rw [if_pos (by omega)] | rw [if_neg (by omega)]); rfl) (ih (r + 1) (by omega))
set_option maxRecDepth 20000 in
set_option maxHeartbeats 8000000 in
theorem c_takesStains {G : Ctx} {M : Mem} {a : Nat} {cd : CD} (hC : CA M a) (hD : CC (mI M) a cd) (hW : WFc cd) {p : Int} (p0 : 0 ≤ p) (p1 : p < cd 2) : CT G m_X1_takesStains 0 0 0 [vR a, vI p] M (rI M (tB (fTak cd p))) := by
  refine CT.of k_X1_takesStains 0 (ls := [some (vR a), some (vI p)]) rfl (Nat.le_of_ble_eq_true rfl) ?_
  have hpn := hW.pn
  refine E_aload_n dX1_takesStains_0 rfl ?_
  refine g_X1_39 rfl dX1_takesStains_1 hC.o hC.kinds ?_
  refine E_iload_n dX1_takesStains_4 rfl ?_
  refine E_iald dX1_takesStains_5 hC.s_kinds (by omega) (by omega) (hD.kinds (by omega) (by omega)) ?_
  refine E_iconst dX1_takesStains_6 (by decide) ?_
  refine E_icmp_eq (tgt := 24) dX1_takesStains_7 (by decide) (fun h7 => ?_) (fun h7 => ?_)
  · refine E_iconst dX1_takesStains_24 (by decide) ?_
    refine E_zret dX1_takesStains_25 rfl (by decide) ?_
    refine ⟨?_, rfl⟩
    congr 2; unfold fTak; first | (rw [decide_eq_true (by omega)]; rfl) | (rw [decide_eq_false (by omega)]; rfl)
  · refine E_aload_n dX1_takesStains_10 rfl ?_
    refine g_X1_39 rfl dX1_takesStains_11 hC.o hC.kinds ?_
    refine E_iload_n dX1_takesStains_14 rfl ?_
    refine E_iald dX1_takesStains_15 hC.s_kinds (by omega) (by omega) (hD.kinds (by omega) (by omega)) ?_
    refine E_iconst dX1_takesStains_16 (by decide) ?_
    refine E_icmp_eq (tgt := 24) dX1_takesStains_17 (by decide) (fun h17 => ?_) (fun h17 => ?_)
    · refine E_iconst dX1_takesStains_24 (by decide) ?_
      refine E_zret dX1_takesStains_25 rfl (by decide) ?_
      refine ⟨?_, rfl⟩
      congr 2; unfold fTak; first | (rw [decide_eq_true (by omega)]; rfl) | (rw [decide_eq_false (by omega)]; rfl)
    · refine E_iconst dX1_takesStains_20 (by decide) ?_
      refine E_goto (tgt := 25) dX1_takesStains_21 (by decide) ?_
      refine E_zret dX1_takesStains_25 rfl (by decide) ?_
      refine ⟨?_, rfl⟩
      congr 2; unfold fTak; first | (rw [decide_eq_true (by omega)]; rfl) | (rw [decide_eq_false (by omega)]; rfl)
set_option maxRecDepth 20000 in
set_option maxHeartbeats 8000000 in
theorem c_mmax {G : Ctx} {M : Mem} {x y : Int} : CT G m_J9_max_7cf53 0 0 0 [vI x, vI y] M (rI M (max x y)) := by
  refine CT.of k_J9_max_7cf53 0 (ls := [some (vI x), some (vI y)]) rfl (Nat.le_of_ble_eq_true rfl) ?_
  refine E_iload_n dJ9_max_7cf53_0 rfl ?_
  refine E_iload_n dJ9_max_7cf53_1 rfl ?_
  refine E_icmp_lt (tgt := 9) dJ9_max_7cf53_2 (by decide) (fun h2 => ?_) (fun h2 => ?_)
  · refine E_iload_n dJ9_max_7cf53_9 rfl ?_
    refine E_iret dJ9_max_7cf53_10 rfl ?_
    refine ⟨?_, rfl⟩
    congr 2; omega
  · refine E_iload_n dJ9_max_7cf53_5 rfl ?_
    refine E_goto (tgt := 10) dJ9_max_7cf53_6 (by decide) ?_
    refine E_iret dJ9_max_7cf53_10 rfl ?_
    refine ⟨?_, rfl⟩
    congr 2; omega
set_option maxRecDepth 20000 in
set_option maxHeartbeats 8000000 in
theorem c_mmin {G : Ctx} {M : Mem} {x y : Int} : CT G m_J9_min_7cf53 0 0 0 [vI x, vI y] M (rI M (min x y)) := by
  refine CT.of k_J9_min_7cf53 0 (ls := [some (vI x), some (vI y)]) rfl (Nat.le_of_ble_eq_true rfl) ?_
  refine E_iload_n dJ9_min_7cf53_0 rfl ?_
  refine E_iload_n dJ9_min_7cf53_1 rfl ?_
  refine E_icmp_gt (tgt := 9) dJ9_min_7cf53_2 (by decide) (fun h2 => ?_) (fun h2 => ?_)
  · refine E_iload_n dJ9_min_7cf53_9 rfl ?_
    refine E_iret dJ9_min_7cf53_10 rfl ?_
    refine ⟨?_, rfl⟩
    congr 2; omega
  · refine E_iload_n dJ9_min_7cf53_5 rfl ?_
    refine E_goto (tgt := 10) dJ9_min_7cf53_6 (by decide) ?_
    refine E_iret dJ9_min_7cf53_10 rfl ?_
    refine ⟨?_, rfl⟩
    congr 2; omega
set_option maxRecDepth 20000 in
set_option maxHeartbeats 8000000 in
theorem c_drying {G : Ctx} {M : Mem} {a : Nat} {cd : CD} (hC : CA M a) (hD : CC (mI M) a cd) (hW : WFc cd) {p l q : Int} (p0 : 0 ≤ p) (p1 : p < cd 2) (l0 : 0 ≤ l) (l1 : l < cd 0) (q0 : 0 ≤ q) (q1 : q < 24) : CT G m_X1_drying 1 0 0 [vR a, vI p, vI l, vI q] M (rI M (fDry cd p l q)) := by
  refine CT.of k_X1_drying 3 (ls := [some (vR a), some (vI p), some (vI l), some (vI q), none, none, none]) rfl (Nat.le_of_ble_eq_true rfl) ?_
  have hpn := hW.pn
  have hdy := hW.day q0 q1
  have ht := tmod10 hdy.1 hdy.2
  have htd := tdiv10 hdy.1 hdy.2
  refine E_aload_n dX1_drying_0 rfl ?_
  refine g_X1_9 rfl dX1_drying_1 hC.o hC.day ?_
  refine E_iload_n dX1_drying_4 rfl ?_
  refine E_iald dX1_drying_5 hC.s_day (by omega) (by omega) (hD.day (by omega) (by omega)) ?_
  refine E_bipush dX1_drying_6 (by decide) ?_
  refine E_irem dX1_drying_8 (by omega) (by omega) (by omega) ?_
  refine E_istore dX1_drying_9 rfl (by decide) ?_
  try dsimp only [List.set]
  refine E_aload_n dX1_drying_11 rfl ?_
  refine E_iload_n dX1_drying_12 rfl ?_
  refine E_iload_n dX1_drying_13 rfl ?_
  refine E_iconst dX1_drying_14 (by decide) ?_
  refine i_X1_65 rfl dX1_drying_15 hC.o (c_hasSun hC hD hW l0 l1 q0 q1 (by omega) (by omega)) (by omega) (Nat.le_of_ble_eq_true rfl) rfl rfl ?_
  rintro _ _ ⟨rfl, rfl⟩
  try dsimp only [pu]
  refine E_if_eq (tgt := 28) dX1_drying_18 (by decide) (fun h18 => ?_) (fun h18 => ?_)
  · simp only [tB0, ne_eq, Bool.not_eq_false, Bool.not_eq_true, decide_eq_true_eq, decide_eq_false_iff_not, Classical.not_not] at h18
    refine E_iload dX1_drying_28 rfl ?_
    refine E_istore dX1_drying_30 rfl (by decide) ?_
    try dsimp only [List.set]
    refine E_aload_n dX1_drying_32 rfl ?_
    refine g_X1_39 rfl dX1_drying_33 hC.o hC.kinds ?_
    refine E_iload_n dX1_drying_36 rfl ?_
    refine E_iald dX1_drying_37 hC.s_kinds (by omega) (by omega) (hD.kinds (by omega) (by omega)) ?_
    refine E_iconst dX1_drying_38 (by decide) ?_
    refine E_icmp_eq (tgt := 52) dX1_drying_39 (by decide) (fun h39 => ?_) (fun h39 => ?_)
    · refine E_iconst dX1_drying_52 (by decide) ?_
      refine E_goto (tgt := 57) dX1_drying_53 (by decide) ?_
      refine E_istore dX1_drying_57 rfl (by decide) ?_
      try dsimp only [List.set]
      refine E_iload dX1_drying_59 rfl ?_
      refine E_if_eq (tgt := 75) dX1_drying_61 (by decide) (fun h61 => ?_) (fun h61 => ?_)
      · refine E_iload dX1_drying_75 rfl ?_
        refine E_iret dX1_drying_77 rfl ?_
        refine ⟨?_, rfl⟩
        congr 2; simp only [fDry, h18, if_true, Bool.false_eq_true, if_false]; omega
      · refine E_iconst dX1_drying_64 (by decide) ?_
        refine E_iload dX1_drying_65 rfl ?_
        refine E_iconst dX1_drying_67 (by decide) ?_
        refine E_isub dX1_drying_68 (by omega) (by omega) ?_
        refine i_X1_69 rfl dX1_drying_69 c_mmax (by omega) (Nat.le_of_ble_eq_true rfl) rfl rfl ?_
        rintro _ _ ⟨rfl, rfl⟩
        try dsimp only [pu]
        refine E_goto (tgt := 77) dX1_drying_72 (by decide) ?_
        refine E_iret dX1_drying_77 rfl ?_
        refine ⟨?_, rfl⟩
        congr 2; simp only [fDry, h18, if_true, Bool.false_eq_true, if_false]; omega
    · refine E_aload_n dX1_drying_42 rfl ?_
      refine g_X1_39 rfl dX1_drying_43 hC.o hC.kinds ?_
      refine E_iload_n dX1_drying_46 rfl ?_
      refine E_iald dX1_drying_47 hC.s_kinds (by omega) (by omega) (hD.kinds (by omega) (by omega)) ?_
      refine E_iconst dX1_drying_48 (by decide) ?_
      refine E_icmp_ne (tgt := 56) dX1_drying_49 (by decide) (fun h49 => ?_) (fun h49 => ?_)
      · refine E_iconst dX1_drying_56 (by decide) ?_
        refine E_istore dX1_drying_57 rfl (by decide) ?_
        try dsimp only [List.set]
        refine E_iload dX1_drying_59 rfl ?_
        refine E_if_eq (tgt := 75) dX1_drying_61 (by decide) (fun h61 => ?_) (fun h61 => ?_)
        · refine E_iload dX1_drying_75 rfl ?_
          refine E_iret dX1_drying_77 rfl ?_
          refine ⟨?_, rfl⟩
          congr 2; simp only [fDry, h18, if_true, Bool.false_eq_true, if_false]; omega
        · refine E_iconst dX1_drying_64 (by decide) ?_
          refine E_iload dX1_drying_65 rfl ?_
          refine E_iconst dX1_drying_67 (by decide) ?_
          refine E_isub dX1_drying_68 (by omega) (by omega) ?_
          refine i_X1_69 rfl dX1_drying_69 c_mmax (by omega) (Nat.le_of_ble_eq_true rfl) rfl rfl ?_
          rintro _ _ ⟨rfl, rfl⟩
          try dsimp only [pu]
          refine E_goto (tgt := 77) dX1_drying_72 (by decide) ?_
          refine E_iret dX1_drying_77 rfl ?_
          refine ⟨?_, rfl⟩
          congr 2; simp only [fDry, h18, if_true, Bool.false_eq_true, if_false]; omega
      · refine E_iconst dX1_drying_52 (by decide) ?_
        refine E_goto (tgt := 57) dX1_drying_53 (by decide) ?_
        refine E_istore dX1_drying_57 rfl (by decide) ?_
        try dsimp only [List.set]
        refine E_iload dX1_drying_59 rfl ?_
        refine E_if_eq (tgt := 75) dX1_drying_61 (by decide) (fun h61 => ?_) (fun h61 => ?_)
        · refine E_iload dX1_drying_75 rfl ?_
          refine E_iret dX1_drying_77 rfl ?_
          refine ⟨?_, rfl⟩
          congr 2; simp only [fDry, h18, if_true, Bool.false_eq_true, if_false]; omega
        · refine E_iconst dX1_drying_64 (by decide) ?_
          refine E_iload dX1_drying_65 rfl ?_
          refine E_iconst dX1_drying_67 (by decide) ?_
          refine E_isub dX1_drying_68 (by omega) (by omega) ?_
          refine i_X1_69 rfl dX1_drying_69 c_mmax (by omega) (Nat.le_of_ble_eq_true rfl) rfl rfl ?_
          rintro _ _ ⟨rfl, rfl⟩
          try dsimp only [pu]
          refine E_goto (tgt := 77) dX1_drying_72 (by decide) ?_
          refine E_iret dX1_drying_77 rfl ?_
          refine ⟨?_, rfl⟩
          congr 2; simp only [fDry, h18, if_true, Bool.false_eq_true, if_false]; omega
  · simp only [tB0, ne_eq, Bool.not_eq_false, Bool.not_eq_true, decide_eq_true_eq, decide_eq_false_iff_not, Classical.not_not] at h18
    refine E_iload dX1_drying_21 rfl ?_
    refine E_iconst dX1_drying_23 (by decide) ?_
    refine E_iadd dX1_drying_24 (by omega) (by omega) ?_
    refine E_goto (tgt := 30) dX1_drying_25 (by decide) ?_
    refine E_istore dX1_drying_30 rfl (by decide) ?_
    try dsimp only [List.set]
    refine E_aload_n dX1_drying_32 rfl ?_
    refine g_X1_39 rfl dX1_drying_33 hC.o hC.kinds ?_
    refine E_iload_n dX1_drying_36 rfl ?_
    refine E_iald dX1_drying_37 hC.s_kinds (by omega) (by omega) (hD.kinds (by omega) (by omega)) ?_
    refine E_iconst dX1_drying_38 (by decide) ?_
    refine E_icmp_eq (tgt := 52) dX1_drying_39 (by decide) (fun h39 => ?_) (fun h39 => ?_)
    · refine E_iconst dX1_drying_52 (by decide) ?_
      refine E_goto (tgt := 57) dX1_drying_53 (by decide) ?_
      refine E_istore dX1_drying_57 rfl (by decide) ?_
      try dsimp only [List.set]
      refine E_iload dX1_drying_59 rfl ?_
      refine E_if_eq (tgt := 75) dX1_drying_61 (by decide) (fun h61 => ?_) (fun h61 => ?_)
      · refine E_iload dX1_drying_75 rfl ?_
        refine E_iret dX1_drying_77 rfl ?_
        refine ⟨?_, rfl⟩
        congr 2; simp only [fDry, h18, if_true, Bool.false_eq_true, if_false]; omega
      · refine E_iconst dX1_drying_64 (by decide) ?_
        refine E_iload dX1_drying_65 rfl ?_
        refine E_iconst dX1_drying_67 (by decide) ?_
        refine E_isub dX1_drying_68 (by omega) (by omega) ?_
        refine i_X1_69 rfl dX1_drying_69 c_mmax (by omega) (Nat.le_of_ble_eq_true rfl) rfl rfl ?_
        rintro _ _ ⟨rfl, rfl⟩
        try dsimp only [pu]
        refine E_goto (tgt := 77) dX1_drying_72 (by decide) ?_
        refine E_iret dX1_drying_77 rfl ?_
        refine ⟨?_, rfl⟩
        congr 2; simp only [fDry, h18, if_true, Bool.false_eq_true, if_false]; omega
    · refine E_aload_n dX1_drying_42 rfl ?_
      refine g_X1_39 rfl dX1_drying_43 hC.o hC.kinds ?_
      refine E_iload_n dX1_drying_46 rfl ?_
      refine E_iald dX1_drying_47 hC.s_kinds (by omega) (by omega) (hD.kinds (by omega) (by omega)) ?_
      refine E_iconst dX1_drying_48 (by decide) ?_
      refine E_icmp_ne (tgt := 56) dX1_drying_49 (by decide) (fun h49 => ?_) (fun h49 => ?_)
      · refine E_iconst dX1_drying_56 (by decide) ?_
        refine E_istore dX1_drying_57 rfl (by decide) ?_
        try dsimp only [List.set]
        refine E_iload dX1_drying_59 rfl ?_
        refine E_if_eq (tgt := 75) dX1_drying_61 (by decide) (fun h61 => ?_) (fun h61 => ?_)
        · refine E_iload dX1_drying_75 rfl ?_
          refine E_iret dX1_drying_77 rfl ?_
          refine ⟨?_, rfl⟩
          congr 2; simp only [fDry, h18, if_true, Bool.false_eq_true, if_false]; omega
        · refine E_iconst dX1_drying_64 (by decide) ?_
          refine E_iload dX1_drying_65 rfl ?_
          refine E_iconst dX1_drying_67 (by decide) ?_
          refine E_isub dX1_drying_68 (by omega) (by omega) ?_
          refine i_X1_69 rfl dX1_drying_69 c_mmax (by omega) (Nat.le_of_ble_eq_true rfl) rfl rfl ?_
          rintro _ _ ⟨rfl, rfl⟩
          try dsimp only [pu]
          refine E_goto (tgt := 77) dX1_drying_72 (by decide) ?_
          refine E_iret dX1_drying_77 rfl ?_
          refine ⟨?_, rfl⟩
          congr 2; simp only [fDry, h18, if_true, Bool.false_eq_true, if_false]; omega
      · refine E_iconst dX1_drying_52 (by decide) ?_
        refine E_goto (tgt := 57) dX1_drying_53 (by decide) ?_
        refine E_istore dX1_drying_57 rfl (by decide) ?_
        try dsimp only [List.set]
        refine E_iload dX1_drying_59 rfl ?_
        refine E_if_eq (tgt := 75) dX1_drying_61 (by decide) (fun h61 => ?_) (fun h61 => ?_)
        · refine E_iload dX1_drying_75 rfl ?_
          refine E_iret dX1_drying_77 rfl ?_
          refine ⟨?_, rfl⟩
          congr 2; simp only [fDry, h18, if_true, Bool.false_eq_true, if_false]; omega
        · refine E_iconst dX1_drying_64 (by decide) ?_
          refine E_iload dX1_drying_65 rfl ?_
          refine E_iconst dX1_drying_67 (by decide) ?_
          refine E_isub dX1_drying_68 (by omega) (by omega) ?_
          refine i_X1_69 rfl dX1_drying_69 c_mmax (by omega) (Nat.le_of_ble_eq_true rfl) rfl rfl ?_
          rintro _ _ ⟨rfl, rfl⟩
          try dsimp only [pu]
          refine E_goto (tgt := 77) dX1_drying_72 (by decide) ?_
          refine E_iret dX1_drying_77 rfl ?_
          refine ⟨?_, rfl⟩
          congr 2; simp only [fDry, h18, if_true, Bool.false_eq_true, if_false]; omega
