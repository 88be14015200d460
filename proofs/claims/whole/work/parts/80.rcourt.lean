/-! ===== 80: court of the reference ===== -/
/-- the reference begins to read -/
def KH (M M' : Mem) (m : Nat) : Prop := M' = mJ M (mI M') ∧ ∀ b (j : Int), ¬ (b = m ∧ (j = 9 ∨ (11 ≤ j ∧ j ≤ 17))) → b ≠ m + 5 → mI M' b j = mI M b j
theorem KG.h {M M' : Mem} {m : Nat} (h : KG M M' m) : KH M M' m := ⟨h.1, fun b j h1 h2 => h.2 b j (by omega) h2⟩
theorem KF.h {M M' : Mem} {m : Nat} (h : KF M M' m) : KH M M' m := ⟨h.1, fun b j h1 h2 => h.2 b j (by omega)⟩
theorem KH.tr {M M1 M2 : Mem} {m : Nat} (h : KH M M1 m) (g : KH M1 M2 m) : KH M M2 m := by
  refine ⟨?_, fun b j h1 h2 => (g.2 b j h1 h2).trans (h.2 b j h1 h2)⟩
  rw [g.1, h.1]; rfl
theorem KH.rf {M0 M M' : Mem} {m : Nat} (h : KH M M' m) (hF : RF M0 m M) : RF M0 m M' := hF.tr ⟨h.1, fun b j hb => h.2 b j (by omega) (by omega)⟩
set_option maxRecDepth 20000 in
set_option maxHeartbeats 3000000 in
theorem c_rBegin {G : Ctx} {M : Mem} {m : Nat} (hO : MO M m) {T : Int → Int} {N : Nat} (h9 : mI M m 9 = N) (hN : N ≤ 500) (hx : ∀ k : Nat, k < N → mI M (m + 6) (k : Int) = T (k : Int) ∧ (0 ≤ T (k : Int) ∧ T (k : Int) ≤ 255)) : CT G m_X12_begin 2 0 0 [vR m] M (fun r M' => r = none ∧ SR M' m T N (pN T N (0, 0, 0, 0, 0)) ∧ KH M M' m ∧ mI M' m 9 = 0) := by
  refine CT.of k_X12_begin 0 (ls := [some (vR m)]) rfl (Nat.le_of_ble_eq_true rfl) ?_
  refine E_aload_n dX12_begin_0 rfl ?_
  refine E_aload_n dX12_begin_1 rfl ?_
  refine g_X12_80 rfl dX12_begin_2 (by exact hO.o) h9 ?_
  refine p_X12_86 rfl dX12_begin_5 (by exact hO.o) ?_
  refine E_aload_n dX12_begin_8 rfl ?_
  refine E_iconst dX12_begin_9 (by decide) ?_
  refine p_X12_80 rfl dX12_begin_10 (by exact hO.o) ?_
  refine E_aload_n dX12_begin_13 rfl ?_
  refine E_iconst dX12_begin_14 (by decide) ?_
  refine p_X12_90 rfl dX12_begin_15 (by exact hO.o) ?_
  refine E_aload_n dX12_begin_18 rfl ?_
  refine E_iconst dX12_begin_19 (by decide) ?_
  refine p_X12_111 rfl dX12_begin_20 (by exact hO.o) ?_
  refine E_aload_n dX12_begin_23 rfl ?_
  refine i_X12_114 rfl dX12_begin_24 (by exact (by exact hO.o)) (c_next (M := (mWI (mWI (mWI (mWI M m 11 (N : Int)) m 9 0) m 12 0) m 16 0)) (p := (0, 0, 0, 0, 0)) (by exact hO) ⟨(mI_ne (by omega)).trans ((mI_ne (by omega)).trans ((mI_ne (by omega)).trans mI_eq)), hN, fun k hk => ⟨(mI_ne (by omega)).trans ((mI_ne (by omega)).trans ((mI_ne (by omega)).trans ((mI_ne (by omega)).trans (hx k hk).1))), (hx k hk).2⟩⟩ rfl ((mI_ne (by omega)).trans mI_eq) (Nat.zero_le _) mI_eq) (by omega) (Nat.le_of_ble_eq_true rfl) rfl rfl ?_
  rintro _ M1 ⟨rfl, h1, k1⟩
  try dsimp only [pu]
  refine E_vret dX12_begin_27 rfl ?_
  refine ⟨rfl, h1, ⟨by rw [k1.1]; rfl, fun b j hb h5 => (k1.2 b j (by omega)).trans ((mI_ne (by omega)).trans ((mI_ne (by omega)).trans ((mI_ne (by omega)).trans (mI_ne (by omega)))))⟩, ?_⟩
  rw [k1.2 _ _ (by omega)]; exact (mI_ne (by omega)).trans ((mI_ne (by omega)).trans mI_eq)
set_option maxRecDepth 20000 in
set_option maxHeartbeats 3000000 in
theorem l_crt0 {G : Ctx} {M : Mem} {m : Nat} (hO : MO M m) {Q : Option MV → Mem → Prop} (K : EV G m_X12_court 5 0 0 Q 31 [some (vR m), some (vI 144)] [] (mJ M (fil (mI M) (m + 5) 0 144 0))) : ∀ (k r : Nat) , r + k = 144 → EV G m_X12_court 5 0 0 (Q) 11 [some (vR m), some (vI (r : Int))] [] (mJ M (fil (mI M) (m + 5) 0 (r : Int) 0)) := by
  intro k
  induction k with
  | zero =>
    intro r  hr
    obtain rfl : r = 144 := by omega
    refine E_iload_n dX12_court_11 rfl ?_
    refine E_sipush dX12_court_12 (by decide) ?_
    refine E_icmp_ge (tgt := 31) dX12_court_15 (by decide) (fun h15 => ?_) (fun h15 => ?_)
    · exact K
    · exfalso; omega
  | succ k ih =>
    intro r  hr
    refine E_iload_n dX12_court_11 rfl ?_
    refine E_sipush dX12_court_12 (by decide) ?_
    refine E_icmp_ge (tgt := 31) dX12_court_15 (by decide) (fun h15 => ?_) (fun h15 => ?_)
    · exfalso; omega
    · refine E_aload_n dX12_court_18 rfl ?_
      refine g_X12_22 rfl dX12_court_19 (by exact hO.o) (by exact hO.fresh) ?_
      refine E_iload_n dX12_court_22 rfl ?_
      refine E_iconst dX12_court_23 (by decide) ?_
      refine E_iast dX12_court_24 (by exact hO.s_fresh) (by omega) (by omega) ?_
      refine E_iinc dX12_court_25 rfl (by omega) (by omega) (by decide) rfl (by decide) ?_
      try dsimp only [List.set]
      refine E_goto (tgt := 11) dX12_court_28 (by decide) ?_
      exact EV.mq rfl (by rw [show ((r + 1 : Nat) : Int) = (r : Int) + 1 by omega, ← fil_step _ _ _ _ _ (by omega)]; rfl) (ih (r + 1) (by omega))
set_option maxRecDepth 20000 in
set_option maxHeartbeats 3000000 in
theorem l_crt4 {G : Ctx} {M : Mem} {m : Nat} (hO : MO M m) {Q : Option MV → Mem → Prop} (K : EV G m_X12_court 5 0 0 Q 180 [some (vR m), some (vI 144)] [] (mJ M (mov (mI M) (m + 4) (m + 5) 0 0 144))) : ∀ (k r : Nat) , r + k = 144 → EV G m_X12_court 5 0 0 (Q) 155 [some (vR m), some (vI (r : Int))] [] (mJ M (mov (mI M) (m + 4) (m + 5) 0 0 (r : Int))) := by
  intro k
  induction k with
  | zero =>
    intro r  hr
    obtain rfl : r = 144 := by omega
    refine E_iload_n dX12_court_155 rfl ?_
    refine E_sipush dX12_court_156 (by decide) ?_
    refine E_icmp_ge (tgt := 180) dX12_court_159 (by decide) (fun h159 => ?_) (fun h159 => ?_)
    · exact K
    · exfalso; omega
  | succ k ih =>
    intro r  hr
    refine E_iload_n dX12_court_155 rfl ?_
    refine E_sipush dX12_court_156 (by decide) ?_
    refine E_icmp_ge (tgt := 180) dX12_court_159 (by decide) (fun h159 => ?_) (fun h159 => ?_)
    · exfalso; omega
    · refine E_aload_n dX12_court_162 rfl ?_
      refine g_X12_19 rfl dX12_court_163 (by exact hO.o) (by exact hO.court) ?_
      refine E_iload_n dX12_court_166 rfl ?_
      refine E_aload_n dX12_court_167 rfl ?_
      refine g_X12_22 rfl dX12_court_168 (by exact hO.o) (by exact hO.fresh) ?_
      refine E_iload_n dX12_court_171 rfl ?_
      refine E_iald dX12_court_172 (by exact hO.s_fresh) (by omega) (by omega) ((mov_ne (mI M) (by omega)).trans (congrArg (mI M (m + 5)) (Int.zero_add _).symm)) ?_
      refine E_iast dX12_court_173 (by exact hO.s_court) (by omega) (by omega) ?_
      refine E_iinc dX12_court_174 rfl (by omega) (by omega) (by decide) rfl (by decide) ?_
      try dsimp only [List.set]
      refine E_goto (tgt := 155) dX12_court_177 (by decide) ?_
      exact EV.mq rfl (by rw [show ((r + 1 : Nat) : Int) = (r : Int) + 1 by omega, ← mov_up _ _ _ _ _ _ (by omega), Int.zero_add]; rfl) (ih (r + 1) (by omega))
set_option maxRecDepth 20000 in
set_option maxHeartbeats 3000000 in
theorem l_crt1 {G : Ctx} {M : Mem} {m : Nat} {T : Int → Int} {N : Nat} (Z : PT × CD) {Q : Option MV → Mem → Prop} (K : ∀ M1, SF M1 m T N Z.2 Z.1 → WP Z.2 → KG M M1 m → EV G m_X12_court 5 0 0 Q 69 [some (vR m), some (vI 144)] [] M1) : ∀ (k r : Nat) (M1 : Mem) (x : PT × CD), r + k = 9 → (SF M1 m T N x.2 x.1 ∧ WP x.2 ∧ KG M M1 m ∧ itQ T (rdL T N) 1 k x = Z ∧ (pE x.1 ≠ 0 ∨ 9 ≤ x.2 0 + (k : Int))) → EV G m_X12_court 5 0 0 (Q) 51 [some (vR m), some (vI 144)] [] M1 := by
  intro k
  induction k with
  | zero =>
    intro r M1 x hr hi
    obtain rfl : r = 9 := by omega
    obtain ⟨w0, w1, w2, w3, w4, w5, w6, w7, w8⟩ := wV_is
    have hb0 := hi.2.1.1.1
    have hb1 := hi.2.1.1.2.1
    have hb2 := hi.2.1.1.2.2
    refine E_aload_n dX12_court_51 rfl ?_
    refine i_X12_142 rfl dX12_court_52 (by exact hi.1.1.1.o) (c_name hi.1.1) (by omega) (Nat.le_of_ble_eq_true rfl) rfl rfl ?_
    rintro _ _ ⟨rfl, rfl⟩
    try dsimp only [pu]
    refine c_X12_173 rfl dX12_court_55 ?_
    refine E_lcne (tgt := 69) dX12_court_58 dX12_court_59 (by decide) (fun h59 => ?_) (fun h59 => ?_)
    · have e : x = Z := hi.2.2.2.1
      rw [← e] at K; exact K M1 hi.1 hi.2.1 hi.2.2.1
    · exact absurd (h59.trans w1.symm) (nmV_f (hi.2.2.2.2.resolve_right (by omega)) (by omega))
  | succ k ih =>
    intro r M1 x hr hi
    obtain ⟨w0, w1, w2, w3, w4, w5, w6, w7, w8⟩ := wV_is
    have hb0 := hi.2.1.1.1
    have hb1 := hi.2.1.1.2.1
    have hb2 := hi.2.1.1.2.2
    refine E_aload_n dX12_court_51 rfl ?_
    refine i_X12_142 rfl dX12_court_52 (by exact hi.1.1.1.o) (c_name hi.1.1) (by omega) (Nat.le_of_ble_eq_true rfl) rfl rfl ?_
    rintro _ _ ⟨rfl, rfl⟩
    try dsimp only [pu]
    refine c_X12_173 rfl dX12_court_55 ?_
    refine E_lcne (tgt := 69) dX12_court_58 dX12_court_59 (by decide) (fun h59 => ?_) (fun h59 => ?_)
    · have e : itQ T (rdL T N) 1 (k + 1) x = x := by simp only [itQ]; rw [if_neg (by rw [w1]; exact h59)]
      rw [← hi.2.2.2.1, e] at K; exact K M1 hi.1 hi.2.1 hi.2.2.1
    · refine E_aload_n dX12_court_62 rfl ?_
      refine i_X12_175 rfl dX12_court_63 (by exact hi.1.1.1.o) (c_rLine hi.1 hi.2.1) (by omega) (Nat.le_of_ble_eq_true rfl) rfl rfl ?_
      rintro _ M2 ⟨rfl, h2, k2⟩
      have h2 : SF M2 m T N (rdL T N x).2 (rdL T N x).1 := h2
      try dsimp only [pu]
      refine E_goto (tgt := 51) dX12_court_66 (by decide) ?_
      have e : itQ T (rdL T N) 1 (k + 1) x = itQ T (rdL T N) 1 k (rdL T N x) := by simp only [itQ]; rw [if_pos (by rw [w1]; exact h59)]
      refine EV.mq rfl rfl (ih (r + 1) M2 (rdL T N x) (by omega) ⟨h2, rdL_w hi.2.1, hi.2.2.1.tr k2, by rw [← e]; exact hi.2.2.2.1, ?_⟩)
      rcases rdL_c (T := T) (N := N) (x := x) with z | z
      · exact Or.inl z
      · rcases hi.2.2.2.2 with y | y
        · exact absurd (nmV_e (by omega) (h59.trans w1.symm)) y
        · exact Or.inr (by omega)
set_option maxRecDepth 20000 in
set_option maxHeartbeats 3000000 in
theorem l_crt2 {G : Ctx} {M : Mem} {m : Nat} {T : Int → Int} {N : Nat} (Z : PT × CD) {Q : Option MV → Mem → Prop} (K : ∀ M1, SF M1 m T N Z.2 Z.1 → WP Z.2 → KG M M1 m → EV G m_X12_court 5 0 0 Q 87 [some (vR m), some (vI 144)] [] M1) : ∀ (k r : Nat) (M1 : Mem) (x : PT × CD), r + k = 9 → (SF M1 m T N x.2 x.1 ∧ WP x.2 ∧ KG M M1 m ∧ itQ T (rdR T N) 2 k x = Z ∧ (pE x.1 ≠ 0 ∨ 9 ≤ x.2 1 + (k : Int))) → EV G m_X12_court 5 0 0 (Q) 69 [some (vR m), some (vI 144)] [] M1 := by
  intro k
  induction k with
  | zero =>
    intro r M1 x hr hi
    obtain rfl : r = 9 := by omega
    obtain ⟨w0, w1, w2, w3, w4, w5, w6, w7, w8⟩ := wV_is
    have hb0 := hi.2.1.1.1
    have hb1 := hi.2.1.1.2.1
    have hb2 := hi.2.1.1.2.2
    refine E_aload_n dX12_court_69 rfl ?_
    refine i_X12_142 rfl dX12_court_70 (by exact hi.1.1.1.o) (c_name hi.1.1) (by omega) (Nat.le_of_ble_eq_true rfl) rfl rfl ?_
    rintro _ _ ⟨rfl, rfl⟩
    try dsimp only [pu]
    refine c_X12_178 rfl dX12_court_73 ?_
    refine E_lcne (tgt := 87) dX12_court_76 dX12_court_77 (by decide) (fun h77 => ?_) (fun h77 => ?_)
    · have e : x = Z := hi.2.2.2.1
      rw [← e] at K; exact K M1 hi.1 hi.2.1 hi.2.2.1
    · exact absurd (h77.trans w2.symm) (nmV_f (hi.2.2.2.2.resolve_right (by omega)) (by omega))
  | succ k ih =>
    intro r M1 x hr hi
    obtain ⟨w0, w1, w2, w3, w4, w5, w6, w7, w8⟩ := wV_is
    have hb0 := hi.2.1.1.1
    have hb1 := hi.2.1.1.2.1
    have hb2 := hi.2.1.1.2.2
    refine E_aload_n dX12_court_69 rfl ?_
    refine i_X12_142 rfl dX12_court_70 (by exact hi.1.1.1.o) (c_name hi.1.1) (by omega) (Nat.le_of_ble_eq_true rfl) rfl rfl ?_
    rintro _ _ ⟨rfl, rfl⟩
    try dsimp only [pu]
    refine c_X12_178 rfl dX12_court_73 ?_
    refine E_lcne (tgt := 87) dX12_court_76 dX12_court_77 (by decide) (fun h77 => ?_) (fun h77 => ?_)
    · have e : itQ T (rdR T N) 2 (k + 1) x = x := by simp only [itQ]; rw [if_neg (by rw [w2]; exact h77)]
      rw [← hi.2.2.2.1, e] at K; exact K M1 hi.1 hi.2.1 hi.2.2.1
    · refine E_aload_n dX12_court_80 rfl ?_
      refine i_X12_180 rfl dX12_court_81 (by exact hi.1.1.1.o) (c_rRight hi.1 hi.2.1) (by omega) (Nat.le_of_ble_eq_true rfl) rfl rfl ?_
      rintro _ M2 ⟨rfl, h2, k2⟩
      have h2 : SF M2 m T N (rdR T N x).2 (rdR T N x).1 := h2
      try dsimp only [pu]
      refine E_goto (tgt := 69) dX12_court_84 (by decide) ?_
      have e : itQ T (rdR T N) 2 (k + 1) x = itQ T (rdR T N) 2 k (rdR T N x) := by simp only [itQ]; rw [if_pos (by rw [w2]; exact h77)]
      refine EV.mq rfl rfl (ih (r + 1) M2 (rdR T N x) (by omega) ⟨h2, rdR_w hi.2.1, hi.2.2.1.tr k2, by rw [← e]; exact hi.2.2.2.1, ?_⟩)
      rcases rdR_c (T := T) (N := N) (x := x) with z | z
      · exact Or.inl z
      · rcases hi.2.2.2.2 with y | y
        · exact absurd (nmV_e (by omega) (h77.trans w2.symm)) y
        · exact Or.inr (by omega)
set_option maxRecDepth 20000 in
set_option maxHeartbeats 3000000 in
theorem l_crt3 {G : Ctx} {M : Mem} {m : Nat} {T : Int → Int} {N : Nat} (Z : PT × CD) {Q : Option MV → Mem → Prop} (K : ∀ M1, SF M1 m T N Z.2 Z.1 → WP Z.2 → KG M M1 m → EV G m_X12_court 5 0 0 Q 105 [some (vR m), some (vI 144)] [] M1) : ∀ (k r : Nat) (M1 : Mem) (x : PT × CD), r + k = 11 → (SF M1 m T N x.2 x.1 ∧ WP x.2 ∧ KG M M1 m ∧ itQ T (rdP T N) 3 k x = Z ∧ (pE x.1 ≠ 0 ∨ 11 ≤ x.2 2 + (k : Int))) → EV G m_X12_court 5 0 0 (Q) 87 [some (vR m), some (vI 144)] [] M1 := by
  intro k
  induction k with
  | zero =>
    intro r M1 x hr hi
    obtain rfl : r = 11 := by omega
    obtain ⟨w0, w1, w2, w3, w4, w5, w6, w7, w8⟩ := wV_is
    have hb0 := hi.2.1.1.1
    have hb1 := hi.2.1.1.2.1
    have hb2 := hi.2.1.1.2.2
    refine E_aload_n dX12_court_87 rfl ?_
    refine i_X12_142 rfl dX12_court_88 (by exact hi.1.1.1.o) (c_name hi.1.1) (by omega) (Nat.le_of_ble_eq_true rfl) rfl rfl ?_
    rintro _ _ ⟨rfl, rfl⟩
    try dsimp only [pu]
    refine c_X12_183 rfl dX12_court_91 ?_
    refine E_lcne (tgt := 105) dX12_court_94 dX12_court_95 (by decide) (fun h95 => ?_) (fun h95 => ?_)
    · have e : x = Z := hi.2.2.2.1
      rw [← e] at K; exact K M1 hi.1 hi.2.1 hi.2.2.1
    · exact absurd (h95.trans w3.symm) (nmV_f (hi.2.2.2.2.resolve_right (by omega)) (by omega))
  | succ k ih =>
    intro r M1 x hr hi
    obtain ⟨w0, w1, w2, w3, w4, w5, w6, w7, w8⟩ := wV_is
    have hb0 := hi.2.1.1.1
    have hb1 := hi.2.1.1.2.1
    have hb2 := hi.2.1.1.2.2
    refine E_aload_n dX12_court_87 rfl ?_
    refine i_X12_142 rfl dX12_court_88 (by exact hi.1.1.1.o) (c_name hi.1.1) (by omega) (Nat.le_of_ble_eq_true rfl) rfl rfl ?_
    rintro _ _ ⟨rfl, rfl⟩
    try dsimp only [pu]
    refine c_X12_183 rfl dX12_court_91 ?_
    refine E_lcne (tgt := 105) dX12_court_94 dX12_court_95 (by decide) (fun h95 => ?_) (fun h95 => ?_)
    · have e : itQ T (rdP T N) 3 (k + 1) x = x := by simp only [itQ]; rw [if_neg (by rw [w3]; exact h95)]
      rw [← hi.2.2.2.1, e] at K; exact K M1 hi.1 hi.2.1 hi.2.2.1
    · refine E_aload_n dX12_court_98 rfl ?_
      refine i_X12_185 rfl dX12_court_99 (by exact hi.1.1.1.o) (c_rPiece hi.1 hi.2.1) (by omega) (Nat.le_of_ble_eq_true rfl) rfl rfl ?_
      rintro _ M2 ⟨rfl, h2, k2⟩
      have h2 : SF M2 m T N (rdP T N x).2 (rdP T N x).1 := h2
      try dsimp only [pu]
      refine E_goto (tgt := 87) dX12_court_102 (by decide) ?_
      have e : itQ T (rdP T N) 3 (k + 1) x = itQ T (rdP T N) 3 k (rdP T N x) := by simp only [itQ]; rw [if_pos (by rw [w3]; exact h95)]
      refine EV.mq rfl rfl (ih (r + 1) M2 (rdP T N x) (by omega) ⟨h2, rdP_w hi.2.1, hi.2.2.1.tr k2, by rw [← e]; exact hi.2.2.2.1, ?_⟩)
      rcases rdP_c (T := T) (N := N) (x := x) with z | z
      · exact Or.inl z
      · rcases hi.2.2.2.2 with y | y
        · exact absurd (nmV_e (by omega) (h95.trans w3.symm)) y
        · exact Or.inr (by omega)
theorem MA.crF {I A : AS} {m : Nat} {I0 : AS} (h : MA I0 m A) (x : Int) (e9 : I m 9 = 0) (e10 : I m 10 = x) (eo : ∀ b (j : Int), ¬ (b = m ∧ (j = 9 ∨ j = 10 ∨ (11 ≤ j ∧ j ≤ 17))) → b ≠ m + 5 → I b j = I0 b j) : MA I m (up2 (up2 A 0 9 0) 0 10 x) := by
  refine ⟨fun k j hs => ?_, fun j hs => ?_⟩
  · rw [up2_ne _ _ (by unfold SA at hs; omega), up2_ne _ _ (by unfold SA at hs; omega), eo _ _ (by unfold SA at hs; omega) (by unfold SA at hs; omega)]; exact h.1 k j hs
  · by_cases q : j = 10
    · rw [q, up2_self]; exact e10
    · rw [up2_ne _ _ (by omega)]
      by_cases q9 : j = 9
      · rw [q9, up2_self]; exact e9
      · rw [up2_ne _ _ (by omega), eo _ _ (by unfold SJ at hs; omega) (by omega)]; exact h.2 j hs
theorem MA.crS {I A : AS} {m : Nat} {I0 : AS} {fr : CD} (h : MA I0 m A) (e9 : I m 9 = 0) (e7 : I m 7 = 1) (e4 : ∀ j : Int, 0 ≤ j → j < 144 → I (m + 4) j = fr j) (eo : ∀ b (j : Int), ¬ (b = m ∧ (j = 7 ∨ j = 9 ∨ (11 ≤ j ∧ j ≤ 17))) → b ≠ m + 5 → b ≠ m + 4 → I b j = I0 b j) : MA I m (up2 (pg4 (up2 A 0 9 0) fr) 0 7 1) := by
  refine ⟨fun k j hs => ?_, fun j hs => ?_⟩
  · rw [up2_ne _ _ (by unfold SA at hs; omega)]
    by_cases q : k = 4
    · subst q; rw [pg4_4]; exact e4 j (by unfold SA at hs; omega) (by unfold SA at hs; omega)
    · rw [pg4_ne _ _ q, up2_ne _ _ (by unfold SA at hs; omega), eo _ _ (by unfold SA at hs; omega) (by unfold SA at hs; omega) (by omega)]; exact h.1 k j hs
  · by_cases q : j = 7
    · rw [q, up2_self]; exact e7
    · rw [up2_ne _ _ (by omega), pg4_ne _ _ (by omega)]
      by_cases q9 : j = 9
      · rw [q9, up2_self]; exact e9
      · rw [up2_ne _ _ (by omega), eo _ _ (by unfold SJ at hs; omega) (by omega) (by omega)]; exact h.2 j hs
set_option maxRecDepth 20000 in
set_option maxHeartbeats 3000000 in
theorem r_court {G : Ctx} {M : Mem} {m : Nat} {A : AS} {B : Int} (hO : MO M m) (hV : MA (mI M) m A) (hG : GA A B) (hB : B ≤ 900000) : CT G m_X12_court 5 0 0 [vR m] M (rM M m (s_court A) (t_court A)) := by
  refine CT.of k_X12_court 1 (ls := [some (vR m), none]) rfl (Nat.le_of_ble_eq_true rfl) ?_
  refine E_aload_n dX12_court_0 rfl ?_
  refine E_iconst dX12_court_1 (by decide) ?_
  refine p_X12_53 rfl dX12_court_2 hO.o ?_
  obtain ⟨M1, e1, hO, hV, hF⟩ := thr hO hV
  refine EV.mq rfl e1.symm ?_
  clear e1
  have hQ := hV.mc
  have hW := hG.w.c
  have hpn := hW.pn
  have hl8 := hW.ln
  have hr8 := hW.rn
  have hgg := hG.w.g
  have hth := hG.th
  have htn := hG.tn
  have hN9 : ((nT A : Nat) : Int) = A 0 9 := by unfold nT; omega
  obtain ⟨w0, w1, w2, w3, w4, w5w, w6w, w7, w8⟩ := wV_is
  have hF2 := hF
  refine E_aload_n dX12_court_5 rfl ?_
  refine i_X12_167 rfl dX12_court_6 (by exact hO.o) (c_rBegin (T := A 6) (N := nT A) hO (hV.2 9 (by unfold SJ; omega) |>.trans hN9.symm) (by omega) (fun k hk => ⟨hV.1 6 _ (by unfold SA; omega), hG.tp (by omega) (by omega)⟩)) (by omega) (Nat.le_of_ble_eq_true rfl) rfl rfl ?_
  rintro _ M2 ⟨rfl, h2, k2, e9⟩
  try dsimp only [pu]
  refine E_iconst dX12_court_9 (by decide) ?_
  refine E_istore_n dX12_court_10 rfl (by decide) ?_
  try dsimp only [List.set]
  refine EV.mq rfl (by rw [show ((0 : Nat) : Int) = 0 from rfl, fil_nil]; rfl) (l_crt0 (M := M2) h2.1 ?_ 144 0 (by omega))
  have h2f : SF (mJ M2 (fil (mI M2) (m + 5) 0 144 0)) m (A 6) (nT A) (fun _ => 0) (pN (A 6) (nT A) (0, 0, 0, 0, 0)) := by
    obtain ⟨hO2, hT2, e12, e13, e14, e15, e16, e17, hPY⟩ := h2
    refine ⟨⟨hO2, ⟨(fil_ne _ (by omega)).trans hT2.1, hT2.2.1, fun k hk => ⟨(fil_ne _ (by omega)).trans (hT2.2.2 k hk).1, (hT2.2.2 k hk).2⟩⟩, (fil_ne _ (by omega)).trans e12, (fil_ne _ (by omega)).trans e13, (fil_ne _ (by omega)).trans e14, (fil_ne _ (by omega)).trans e15, (fil_ne _ (by omega)).trans e16, fun z => (fil_ne _ (by omega)).trans (e17 z), hPY⟩, fun j j0 j1 => fil_at _ ⟨j0, by omega⟩⟩
  have K2 : KH M1 (mJ M2 (fil (mI M2) (m + 5) 0 144 0)) m := k2.tr ⟨rfl, fun b j h1 h2 => fil_ne _ (by omega)⟩
  have e92 : mI (mJ M2 (fil (mI M2) (m + 5) 0 144 0)) m 9 = 0 := (fil_ne _ (by omega)).trans e9
  clear h2
  generalize mJ M2 (fil (mI M2) (m + 5) 0 144 0) = M2f at *
  refine E_aload_n dX12_court_31 rfl ?_
  refine i_X12_170 rfl dX12_court_32 (by exact (by exact h2f.1.1.o)) (c_rDay h2f) (by omega) (Nat.le_of_ble_eq_true rfl) rfl rfl ?_
  rintro _ M3 ⟨rfl, h3, k3⟩
  have h3 : SF M3 m (A 6) (nT A) (rd1 (A 6) (nT A)).2 (rd1 (A 6) (nT A)).1 := by simp only [rd1]; exact h3
  have K3 : KH M1 M3 m := K2.tr k3.h
  have e93 : mI M3 m 9 = 0 := by rw [k3.2 _ _ (by omega) (by omega)]; exact e92
  try dsimp only [pu]
  refine E_aload_n dX12_court_35 rfl ?_
  refine i_X12_142 rfl dX12_court_36 (by exact h3.1.1.o) (c_name h3.1) (by omega) (Nat.le_of_ble_eq_true rfl) rfl rfl ?_
  rintro _ _ ⟨rfl, rfl⟩
  try dsimp only [pu]
  refine c_X12_173 rfl dX12_court_39 ?_
  refine E_lceq (tgt := 51) dX12_court_42 dX12_court_43 (by decide) (fun h43 => ?_) (fun h43 => ?_)
  · have h3 : SF M3 m (A 6) (nT A) (rd2 (A 6) (nT A)).2 (rd2 (A 6) (nT A)).1 := by
      simp only [rd2]; rw [if_pos (h43.trans w1.symm)]; exact h3
    refine l_crt1 (T := A 6) (N := nT A) (rd3 (A 6) (nT A)) ?_ 9 0 M3 (rd2 (A 6) (nT A)) (by omega) ⟨h3, WP.nil, KG.rfl' _ _, by simp only [rd3], Or.inr (by have z : WP (rd2 (A 6) (nT A)).2 := WP.nil; have := z.1.1; omega)⟩
    intro M4 h4 w4 k4
    have K4 : KH M1 M4 m := K3.tr k4.h
    have e94 : mI M4 m 9 = 0 := by rw [k4.2 _ _ (by omega) (by omega)]; exact e93
    refine l_crt2 (T := A 6) (N := nT A) (rd4 (A 6) (nT A)) ?_ 9 0 M4 (rd3 (A 6) (nT A)) (by omega) ⟨h4, w4, KG.rfl' _ _, by simp only [rd4], Or.inr (by have := w4.1.2.1; omega)⟩
    intro M5 h5 w5 k5
    have K5 : KH M1 M5 m := K4.tr k5.h
    have e95 : mI M5 m 9 = 0 := by rw [k5.2 _ _ (by omega) (by omega)]; exact e94
    refine l_crt3 (T := A 6) (N := nT A) (rd5 (A 6) (nT A)) ?_ 11 0 M5 (rd4 (A 6) (nT A)) (by omega) ⟨h5, w5, KG.rfl' _ _, by simp only [rd5], Or.inr (by have := w5.1.2.2; omega)⟩
    intro M6 h6 w6 k6
    have K6 : KH M1 M6 m := K5.tr k6.h
    have e96 : mI M6 m 9 = 0 := by rw [k6.2 _ _ (by omega) (by omega)]; exact e95
    refine E_aload_n dX12_court_105 rfl ?_
    refine g_X12_111 rfl dX12_court_106 h6.1.1.o h6.1.2.2.2.2.2.2.1 ?_
    refine E_if_ne (tgt := 125) dX12_court_109 (by decide) (fun h109 => ?_) (fun h109 => ?_)
    · have h7 : SF M6 m (A 6) (nT A) (rd5 (A 6) (nT A)).2 (rdE (A 6) (nT A)) := h6.q rfl (rdE_0 (fun z => absurd z h109))
      have K7 := K6
      have hpy := h7.y
      have hp0 := hpy.2.1
      have n9 : mI M6 m 9 = 0 := by
        exact e96
      refine E_aload_n dX12_court_125 rfl ?_
      refine g_X12_111 rfl dX12_court_126 (by exact h7.1.1.o) h7.1.2.2.2.2.2.2.1 ?_
      refine E_if_le (tgt := 148) dX12_court_129 (by decide) (fun h129 => ?_) (fun h129 => ?_)
      · refine E_aload_n dX12_court_148 rfl ?_
        refine E_iconst dX12_court_149 (by decide) ?_
        refine p_X12_192 rfl dX12_court_150 (by exact h7.1.1.o) (Or.inr rfl) ?_
        refine E_iconst dX12_court_153 (by decide) ?_
        refine E_istore_n dX12_court_154 rfl (by decide) ?_
        try dsimp only [List.set]
        have he : (pE (rdE (A 6) (nT A))) = 0 := by omega
        have c4 : ∀ j : Int, 0 ≤ j → j < 144 → mov (mI (mWI M6 m 7 1)) (m + 4) (m + 5) 0 0 144 (m + 4) j = (rd5 (A 6) (nT A)).2 j := fun j j0 j1 => by
          unfold mov; rw [if_pos ⟨rfl, by omega, by omega⟩, show j - 0 + 0 = j by omega]; exact (mI_ne (by omega)).trans (h7.2 j j0 j1)
        refine EV.mq rfl (by rw [show ((0 : Nat) : Int) = 0 from rfl, mov_nil]; rfl) (l_crt4 (M := (mWI M6 m 7 1)) (by exact h7.1.1) ?_ 144 0 (by omega))
        refine E_aload_n dX12_court_180 rfl ?_
        refine g_X12_19 rfl dX12_court_181 (by exact h7.1.1.o) (by exact h7.1.1.court) ?_
        refine E_iconst dX12_court_184 (by decide) ?_
        refine E_iald dX12_court_185 (by exact h7.1.1.s_court) (by omega) (by omega) (c4 0 (by omega) (by omega)) ?_
        refine E_iret dX12_court_186 rfl ?_
        refine ⟨?_, ((K7.rf hF2).w (b := m) (by omega) 7 1).j (fun b j hb => mov_ne _ (by omega)), ?_⟩
        · congr 2; unfold s_court; rw [if_pos he]
        · unfold t_court; rw [if_pos he]
          exact hV.crS ((mov_ne _ (by omega)).trans ((mI_ne (by omega)).trans n9)) ((mov_ne _ (by omega)).trans mI_eq) c4 (fun b j hb h5 h4 => (mov_ne _ (by omega)).trans ((mI_ne (by omega)).trans (K7.2 b j (by omega) h5)))
      · have hw6 := hpy.2.2 (by omega)
        have htn := hG.tn
        have hN9 : ((nT A : Nat) : Int) = A 0 9 := by unfold nT; omega
        refine E_aload_n dX12_court_132 rfl ?_
        refine E_aload_n dX12_court_133 rfl ?_
        refine g_X12_111 rfl dX12_court_134 (by exact h7.1.1.o) h7.1.2.2.2.2.2.2.1 ?_
        refine p_X12_188 rfl dX12_court_137 (by exact h7.1.1.o) ?_
        refine c_X12_191 rfl dX12_court_140 ?_
        refine E_aload_n dX12_court_142 rfl ?_
        refine g_X12_117 rfl dX12_court_143 (by exact h7.1.1.o) ((mI_ne (by omega)).trans (h7.1.2.2.2.2.2.2.2.1 (by omega))) ?_
        refine E_isub dX12_court_146 (by omega) (by omega) ?_
        refine E_iret dX12_court_147 rfl ?_
        refine ⟨?_, (K7.rf hF2).w (by omega) _ _, ?_⟩
        · congr 2; unfold s_court; rw [if_neg (by omega)]
        · unfold t_court; rw [if_neg (by omega)]
          exact hV.crF _ ((mI_ne (by omega)).trans n9) mI_eq (fun b j hb h5 => (mI_ne (by omega)).trans (K7.2 b j (by omega) h5))
    · have hn1 : rsS (pS (rd5 (A 6) (nT A)).1) = 1 → pS (rd5 (A 6) (nT A)).1 = 0 := fun z => by unfold rsS at z; split at z <;> omega
      refine E_aload_n dX12_court_112 rfl ?_
      refine g_X12_99 rfl dX12_court_113 h6.1.1.o h6.1.2.2.2.1 ?_
      refine E_iconst dX12_court_116 (by decide) ?_
      refine E_icmp_eq (tgt := 125) dX12_court_117 (by decide) (fun h117 => ?_) (fun h117 => ?_)
      · have h7 : SF M6 m (A 6) (nT A) (rd5 (A 6) (nT A)).2 (rdE (A 6) (nT A)) := h6.q rfl (rdE_0 (fun _ => hn1 (by omega)))
        have K7 := K6
        have hpy := h7.y
        have hp0 := hpy.2.1
        have n9 : mI M6 m 9 = 0 := by
          exact e96
        refine E_aload_n dX12_court_125 rfl ?_
        refine g_X12_111 rfl dX12_court_126 (by exact h7.1.1.o) h7.1.2.2.2.2.2.2.1 ?_
        refine E_if_le (tgt := 148) dX12_court_129 (by decide) (fun h129 => ?_) (fun h129 => ?_)
        · refine E_aload_n dX12_court_148 rfl ?_
          refine E_iconst dX12_court_149 (by decide) ?_
          refine p_X12_192 rfl dX12_court_150 (by exact h7.1.1.o) (Or.inr rfl) ?_
          refine E_iconst dX12_court_153 (by decide) ?_
          refine E_istore_n dX12_court_154 rfl (by decide) ?_
          try dsimp only [List.set]
          have he : (pE (rdE (A 6) (nT A))) = 0 := by omega
          have c4 : ∀ j : Int, 0 ≤ j → j < 144 → mov (mI (mWI M6 m 7 1)) (m + 4) (m + 5) 0 0 144 (m + 4) j = (rd5 (A 6) (nT A)).2 j := fun j j0 j1 => by
            unfold mov; rw [if_pos ⟨rfl, by omega, by omega⟩, show j - 0 + 0 = j by omega]; exact (mI_ne (by omega)).trans (h7.2 j j0 j1)
          refine EV.mq rfl (by rw [show ((0 : Nat) : Int) = 0 from rfl, mov_nil]; rfl) (l_crt4 (M := (mWI M6 m 7 1)) (by exact h7.1.1) ?_ 144 0 (by omega))
          refine E_aload_n dX12_court_180 rfl ?_
          refine g_X12_19 rfl dX12_court_181 (by exact h7.1.1.o) (by exact h7.1.1.court) ?_
          refine E_iconst dX12_court_184 (by decide) ?_
          refine E_iald dX12_court_185 (by exact h7.1.1.s_court) (by omega) (by omega) (c4 0 (by omega) (by omega)) ?_
          refine E_iret dX12_court_186 rfl ?_
          refine ⟨?_, ((K7.rf hF2).w (b := m) (by omega) 7 1).j (fun b j hb => mov_ne _ (by omega)), ?_⟩
          · congr 2; unfold s_court; rw [if_pos he]
          · unfold t_court; rw [if_pos he]
            exact hV.crS ((mov_ne _ (by omega)).trans ((mI_ne (by omega)).trans n9)) ((mov_ne _ (by omega)).trans mI_eq) c4 (fun b j hb h5 h4 => (mov_ne _ (by omega)).trans ((mI_ne (by omega)).trans (K7.2 b j (by omega) h5)))
        · have hw6 := hpy.2.2 (by omega)
          have htn := hG.tn
          have hN9 : ((nT A : Nat) : Int) = A 0 9 := by unfold nT; omega
          refine E_aload_n dX12_court_132 rfl ?_
          refine E_aload_n dX12_court_133 rfl ?_
          refine g_X12_111 rfl dX12_court_134 (by exact h7.1.1.o) h7.1.2.2.2.2.2.2.1 ?_
          refine p_X12_188 rfl dX12_court_137 (by exact h7.1.1.o) ?_
          refine c_X12_191 rfl dX12_court_140 ?_
          refine E_aload_n dX12_court_142 rfl ?_
          refine g_X12_117 rfl dX12_court_143 (by exact h7.1.1.o) ((mI_ne (by omega)).trans (h7.1.2.2.2.2.2.2.2.1 (by omega))) ?_
          refine E_isub dX12_court_146 (by omega) (by omega) ?_
          refine E_iret dX12_court_147 rfl ?_
          refine ⟨?_, (K7.rf hF2).w (by omega) _ _, ?_⟩
          · congr 2; unfold s_court; rw [if_neg (by omega)]
          · unfold t_court; rw [if_neg (by omega)]
            exact hV.crF _ ((mI_ne (by omega)).trans n9) mI_eq (fun b j hb h5 => (mI_ne (by omega)).trans (K7.2 b j (by omega) h5))
      · refine E_aload_n dX12_court_120 rfl ?_
        refine E_iconst dX12_court_121 (by decide) ?_
        refine i_X12_120 rfl dX12_court_122 (by exact h6.1.1.o) (c_bad h6.1 (k0 := 1) (by omega)) (by omega) (Nat.le_of_ble_eq_true rfl) rfl rfl ?_
        rintro _ M7 ⟨rfl, g7, f7⟩
        obtain ⟨h7, k7⟩ := h6.st g7 f7
        try dsimp only [pu]
        have h7 : SF M7 m (A 6) (nT A) (rd5 (A 6) (nT A)).2 (rdE (A 6) (nT A)) := h7.q rfl (rdE_1 (fun _ z => h117 (by rw [z]; rfl)))
        have K7 := K6.tr k7.h
        have hpy := h7.y
        have hp0 := hpy.2.1
        have n9 : mI M7 m 9 = 0 := by
          rw [k7.2 _ _ (by omega) (by omega)]; exact e96
        refine E_aload_n dX12_court_125 rfl ?_
        refine g_X12_111 rfl dX12_court_126 (by exact h7.1.1.o) h7.1.2.2.2.2.2.2.1 ?_
        refine E_if_le (tgt := 148) dX12_court_129 (by decide) (fun h129 => ?_) (fun h129 => ?_)
        · refine E_aload_n dX12_court_148 rfl ?_
          refine E_iconst dX12_court_149 (by decide) ?_
          refine p_X12_192 rfl dX12_court_150 (by exact h7.1.1.o) (Or.inr rfl) ?_
          refine E_iconst dX12_court_153 (by decide) ?_
          refine E_istore_n dX12_court_154 rfl (by decide) ?_
          try dsimp only [List.set]
          have he : (pE (rdE (A 6) (nT A))) = 0 := by omega
          have c4 : ∀ j : Int, 0 ≤ j → j < 144 → mov (mI (mWI M7 m 7 1)) (m + 4) (m + 5) 0 0 144 (m + 4) j = (rd5 (A 6) (nT A)).2 j := fun j j0 j1 => by
            unfold mov; rw [if_pos ⟨rfl, by omega, by omega⟩, show j - 0 + 0 = j by omega]; exact (mI_ne (by omega)).trans (h7.2 j j0 j1)
          refine EV.mq rfl (by rw [show ((0 : Nat) : Int) = 0 from rfl, mov_nil]; rfl) (l_crt4 (M := (mWI M7 m 7 1)) (by exact h7.1.1) ?_ 144 0 (by omega))
          refine E_aload_n dX12_court_180 rfl ?_
          refine g_X12_19 rfl dX12_court_181 (by exact h7.1.1.o) (by exact h7.1.1.court) ?_
          refine E_iconst dX12_court_184 (by decide) ?_
          refine E_iald dX12_court_185 (by exact h7.1.1.s_court) (by omega) (by omega) (c4 0 (by omega) (by omega)) ?_
          refine E_iret dX12_court_186 rfl ?_
          refine ⟨?_, ((K7.rf hF2).w (b := m) (by omega) 7 1).j (fun b j hb => mov_ne _ (by omega)), ?_⟩
          · congr 2; unfold s_court; rw [if_pos he]
          · unfold t_court; rw [if_pos he]
            exact hV.crS ((mov_ne _ (by omega)).trans ((mI_ne (by omega)).trans n9)) ((mov_ne _ (by omega)).trans mI_eq) c4 (fun b j hb h5 h4 => (mov_ne _ (by omega)).trans ((mI_ne (by omega)).trans (K7.2 b j (by omega) h5)))
        · have hw6 := hpy.2.2 (by omega)
          have htn := hG.tn
          have hN9 : ((nT A : Nat) : Int) = A 0 9 := by unfold nT; omega
          refine E_aload_n dX12_court_132 rfl ?_
          refine E_aload_n dX12_court_133 rfl ?_
          refine g_X12_111 rfl dX12_court_134 (by exact h7.1.1.o) h7.1.2.2.2.2.2.2.1 ?_
          refine p_X12_188 rfl dX12_court_137 (by exact h7.1.1.o) ?_
          refine c_X12_191 rfl dX12_court_140 ?_
          refine E_aload_n dX12_court_142 rfl ?_
          refine g_X12_117 rfl dX12_court_143 (by exact h7.1.1.o) ((mI_ne (by omega)).trans (h7.1.2.2.2.2.2.2.2.1 (by omega))) ?_
          refine E_isub dX12_court_146 (by omega) (by omega) ?_
          refine E_iret dX12_court_147 rfl ?_
          refine ⟨?_, (K7.rf hF2).w (by omega) _ _, ?_⟩
          · congr 2; unfold s_court; rw [if_neg (by omega)]
          · unfold t_court; rw [if_neg (by omega)]
            exact hV.crF _ ((mI_ne (by omega)).trans n9) mI_eq (fun b j hb h5 => (mI_ne (by omega)).trans (K7.2 b j (by omega) h5))
  · refine E_aload_n dX12_court_46 rfl ?_
    refine E_iconst dX12_court_47 (by decide) ?_
    refine i_X12_120 rfl dX12_court_48 (by exact h3.1.1.o) (c_bad h3.1 (k0 := 1) (by omega)) (by omega) (Nat.le_of_ble_eq_true rfl) rfl rfl ?_
    rintro _ M3b ⟨rfl, g3b, f3b⟩
    obtain ⟨h3b, k3b⟩ := h3.st g3b f3b
    try dsimp only [pu]
    have h3 : SF M3b m (A 6) (nT A) (rd2 (A 6) (nT A)).2 (rd2 (A 6) (nT A)).1 := by
      simp only [rd2]; rw [if_neg (fun z => h43 (z.trans w1))]; exact h3b
    have K3 := K3.tr k3b.h
    have e93 : mI M3b m 9 = 0 := by rw [k3b.2 _ _ (by omega) (by omega)]; exact e93
    refine l_crt1 (T := A 6) (N := nT A) (rd3 (A 6) (nT A)) ?_ 9 0 M3b (rd2 (A 6) (nT A)) (by omega) ⟨h3, WP.nil, KG.rfl' _ _, by simp only [rd3], Or.inr (by have z : WP (rd2 (A 6) (nT A)).2 := WP.nil; have := z.1.1; omega)⟩
    intro M4 h4 w4 k4
    have K4 : KH M1 M4 m := K3.tr k4.h
    have e94 : mI M4 m 9 = 0 := by rw [k4.2 _ _ (by omega) (by omega)]; exact e93
    refine l_crt2 (T := A 6) (N := nT A) (rd4 (A 6) (nT A)) ?_ 9 0 M4 (rd3 (A 6) (nT A)) (by omega) ⟨h4, w4, KG.rfl' _ _, by simp only [rd4], Or.inr (by have := w4.1.2.1; omega)⟩
    intro M5 h5 w5 k5
    have K5 : KH M1 M5 m := K4.tr k5.h
    have e95 : mI M5 m 9 = 0 := by rw [k5.2 _ _ (by omega) (by omega)]; exact e94
    refine l_crt3 (T := A 6) (N := nT A) (rd5 (A 6) (nT A)) ?_ 11 0 M5 (rd4 (A 6) (nT A)) (by omega) ⟨h5, w5, KG.rfl' _ _, by simp only [rd5], Or.inr (by have := w5.1.2.2; omega)⟩
    intro M6 h6 w6 k6
    have K6 : KH M1 M6 m := K5.tr k6.h
    have e96 : mI M6 m 9 = 0 := by rw [k6.2 _ _ (by omega) (by omega)]; exact e95
    refine E_aload_n dX12_court_105 rfl ?_
    refine g_X12_111 rfl dX12_court_106 h6.1.1.o h6.1.2.2.2.2.2.2.1 ?_
    refine E_if_ne (tgt := 125) dX12_court_109 (by decide) (fun h109 => ?_) (fun h109 => ?_)
    · have h7 : SF M6 m (A 6) (nT A) (rd5 (A 6) (nT A)).2 (rdE (A 6) (nT A)) := h6.q rfl (rdE_0 (fun z => absurd z h109))
      have K7 := K6
      have hpy := h7.y
      have hp0 := hpy.2.1
      have n9 : mI M6 m 9 = 0 := by
        exact e96
      refine E_aload_n dX12_court_125 rfl ?_
      refine g_X12_111 rfl dX12_court_126 (by exact h7.1.1.o) h7.1.2.2.2.2.2.2.1 ?_
      refine E_if_le (tgt := 148) dX12_court_129 (by decide) (fun h129 => ?_) (fun h129 => ?_)
      · refine E_aload_n dX12_court_148 rfl ?_
        refine E_iconst dX12_court_149 (by decide) ?_
        refine p_X12_192 rfl dX12_court_150 (by exact h7.1.1.o) (Or.inr rfl) ?_
        refine E_iconst dX12_court_153 (by decide) ?_
        refine E_istore_n dX12_court_154 rfl (by decide) ?_
        try dsimp only [List.set]
        have he : (pE (rdE (A 6) (nT A))) = 0 := by omega
        have c4 : ∀ j : Int, 0 ≤ j → j < 144 → mov (mI (mWI M6 m 7 1)) (m + 4) (m + 5) 0 0 144 (m + 4) j = (rd5 (A 6) (nT A)).2 j := fun j j0 j1 => by
          unfold mov; rw [if_pos ⟨rfl, by omega, by omega⟩, show j - 0 + 0 = j by omega]; exact (mI_ne (by omega)).trans (h7.2 j j0 j1)
        refine EV.mq rfl (by rw [show ((0 : Nat) : Int) = 0 from rfl, mov_nil]; rfl) (l_crt4 (M := (mWI M6 m 7 1)) (by exact h7.1.1) ?_ 144 0 (by omega))
        refine E_aload_n dX12_court_180 rfl ?_
        refine g_X12_19 rfl dX12_court_181 (by exact h7.1.1.o) (by exact h7.1.1.court) ?_
        refine E_iconst dX12_court_184 (by decide) ?_
        refine E_iald dX12_court_185 (by exact h7.1.1.s_court) (by omega) (by omega) (c4 0 (by omega) (by omega)) ?_
        refine E_iret dX12_court_186 rfl ?_
        refine ⟨?_, ((K7.rf hF2).w (b := m) (by omega) 7 1).j (fun b j hb => mov_ne _ (by omega)), ?_⟩
        · congr 2; unfold s_court; rw [if_pos he]
        · unfold t_court; rw [if_pos he]
          exact hV.crS ((mov_ne _ (by omega)).trans ((mI_ne (by omega)).trans n9)) ((mov_ne _ (by omega)).trans mI_eq) c4 (fun b j hb h5 h4 => (mov_ne _ (by omega)).trans ((mI_ne (by omega)).trans (K7.2 b j (by omega) h5)))
      · have hw6 := hpy.2.2 (by omega)
        have htn := hG.tn
        have hN9 : ((nT A : Nat) : Int) = A 0 9 := by unfold nT; omega
        refine E_aload_n dX12_court_132 rfl ?_
        refine E_aload_n dX12_court_133 rfl ?_
        refine g_X12_111 rfl dX12_court_134 (by exact h7.1.1.o) h7.1.2.2.2.2.2.2.1 ?_
        refine p_X12_188 rfl dX12_court_137 (by exact h7.1.1.o) ?_
        refine c_X12_191 rfl dX12_court_140 ?_
        refine E_aload_n dX12_court_142 rfl ?_
        refine g_X12_117 rfl dX12_court_143 (by exact h7.1.1.o) ((mI_ne (by omega)).trans (h7.1.2.2.2.2.2.2.2.1 (by omega))) ?_
        refine E_isub dX12_court_146 (by omega) (by omega) ?_
        refine E_iret dX12_court_147 rfl ?_
        refine ⟨?_, (K7.rf hF2).w (by omega) _ _, ?_⟩
        · congr 2; unfold s_court; rw [if_neg (by omega)]
        · unfold t_court; rw [if_neg (by omega)]
          exact hV.crF _ ((mI_ne (by omega)).trans n9) mI_eq (fun b j hb h5 => (mI_ne (by omega)).trans (K7.2 b j (by omega) h5))
    · have hn1 : rsS (pS (rd5 (A 6) (nT A)).1) = 1 → pS (rd5 (A 6) (nT A)).1 = 0 := fun z => by unfold rsS at z; split at z <;> omega
      refine E_aload_n dX12_court_112 rfl ?_
      refine g_X12_99 rfl dX12_court_113 h6.1.1.o h6.1.2.2.2.1 ?_
      refine E_iconst dX12_court_116 (by decide) ?_
      refine E_icmp_eq (tgt := 125) dX12_court_117 (by decide) (fun h117 => ?_) (fun h117 => ?_)
      · have h7 : SF M6 m (A 6) (nT A) (rd5 (A 6) (nT A)).2 (rdE (A 6) (nT A)) := h6.q rfl (rdE_0 (fun _ => hn1 (by omega)))
        have K7 := K6
        have hpy := h7.y
        have hp0 := hpy.2.1
        have n9 : mI M6 m 9 = 0 := by
          exact e96
        refine E_aload_n dX12_court_125 rfl ?_
        refine g_X12_111 rfl dX12_court_126 (by exact h7.1.1.o) h7.1.2.2.2.2.2.2.1 ?_
        refine E_if_le (tgt := 148) dX12_court_129 (by decide) (fun h129 => ?_) (fun h129 => ?_)
        · refine E_aload_n dX12_court_148 rfl ?_
          refine E_iconst dX12_court_149 (by decide) ?_
          refine p_X12_192 rfl dX12_court_150 (by exact h7.1.1.o) (Or.inr rfl) ?_
          refine E_iconst dX12_court_153 (by decide) ?_
          refine E_istore_n dX12_court_154 rfl (by decide) ?_
          try dsimp only [List.set]
          have he : (pE (rdE (A 6) (nT A))) = 0 := by omega
          have c4 : ∀ j : Int, 0 ≤ j → j < 144 → mov (mI (mWI M6 m 7 1)) (m + 4) (m + 5) 0 0 144 (m + 4) j = (rd5 (A 6) (nT A)).2 j := fun j j0 j1 => by
            unfold mov; rw [if_pos ⟨rfl, by omega, by omega⟩, show j - 0 + 0 = j by omega]; exact (mI_ne (by omega)).trans (h7.2 j j0 j1)
          refine EV.mq rfl (by rw [show ((0 : Nat) : Int) = 0 from rfl, mov_nil]; rfl) (l_crt4 (M := (mWI M6 m 7 1)) (by exact h7.1.1) ?_ 144 0 (by omega))
          refine E_aload_n dX12_court_180 rfl ?_
          refine g_X12_19 rfl dX12_court_181 (by exact h7.1.1.o) (by exact h7.1.1.court) ?_
          refine E_iconst dX12_court_184 (by decide) ?_
          refine E_iald dX12_court_185 (by exact h7.1.1.s_court) (by omega) (by omega) (c4 0 (by omega) (by omega)) ?_
          refine E_iret dX12_court_186 rfl ?_
          refine ⟨?_, ((K7.rf hF2).w (b := m) (by omega) 7 1).j (fun b j hb => mov_ne _ (by omega)), ?_⟩
          · congr 2; unfold s_court; rw [if_pos he]
          · unfold t_court; rw [if_pos he]
            exact hV.crS ((mov_ne _ (by omega)).trans ((mI_ne (by omega)).trans n9)) ((mov_ne _ (by omega)).trans mI_eq) c4 (fun b j hb h5 h4 => (mov_ne _ (by omega)).trans ((mI_ne (by omega)).trans (K7.2 b j (by omega) h5)))
        · have hw6 := hpy.2.2 (by omega)
          have htn := hG.tn
          have hN9 : ((nT A : Nat) : Int) = A 0 9 := by unfold nT; omega
          refine E_aload_n dX12_court_132 rfl ?_
          refine E_aload_n dX12_court_133 rfl ?_
          refine g_X12_111 rfl dX12_court_134 (by exact h7.1.1.o) h7.1.2.2.2.2.2.2.1 ?_
          refine p_X12_188 rfl dX12_court_137 (by exact h7.1.1.o) ?_
          refine c_X12_191 rfl dX12_court_140 ?_
          refine E_aload_n dX12_court_142 rfl ?_
          refine g_X12_117 rfl dX12_court_143 (by exact h7.1.1.o) ((mI_ne (by omega)).trans (h7.1.2.2.2.2.2.2.2.1 (by omega))) ?_
          refine E_isub dX12_court_146 (by omega) (by omega) ?_
          refine E_iret dX12_court_147 rfl ?_
          refine ⟨?_, (K7.rf hF2).w (by omega) _ _, ?_⟩
          · congr 2; unfold s_court; rw [if_neg (by omega)]
          · unfold t_court; rw [if_neg (by omega)]
            exact hV.crF _ ((mI_ne (by omega)).trans n9) mI_eq (fun b j hb h5 => (mI_ne (by omega)).trans (K7.2 b j (by omega) h5))
      · refine E_aload_n dX12_court_120 rfl ?_
        refine E_iconst dX12_court_121 (by decide) ?_
        refine i_X12_120 rfl dX12_court_122 (by exact h6.1.1.o) (c_bad h6.1 (k0 := 1) (by omega)) (by omega) (Nat.le_of_ble_eq_true rfl) rfl rfl ?_
        rintro _ M7 ⟨rfl, g7, f7⟩
        obtain ⟨h7, k7⟩ := h6.st g7 f7
        try dsimp only [pu]
        have h7 : SF M7 m (A 6) (nT A) (rd5 (A 6) (nT A)).2 (rdE (A 6) (nT A)) := h7.q rfl (rdE_1 (fun _ z => h117 (by rw [z]; rfl)))
        have K7 := K6.tr k7.h
        have hpy := h7.y
        have hp0 := hpy.2.1
        have n9 : mI M7 m 9 = 0 := by
          rw [k7.2 _ _ (by omega) (by omega)]; exact e96
        refine E_aload_n dX12_court_125 rfl ?_
        refine g_X12_111 rfl dX12_court_126 (by exact h7.1.1.o) h7.1.2.2.2.2.2.2.1 ?_
        refine E_if_le (tgt := 148) dX12_court_129 (by decide) (fun h129 => ?_) (fun h129 => ?_)
        · refine E_aload_n dX12_court_148 rfl ?_
          refine E_iconst dX12_court_149 (by decide) ?_
          refine p_X12_192 rfl dX12_court_150 (by exact h7.1.1.o) (Or.inr rfl) ?_
          refine E_iconst dX12_court_153 (by decide) ?_
          refine E_istore_n dX12_court_154 rfl (by decide) ?_
          try dsimp only [List.set]
          have he : (pE (rdE (A 6) (nT A))) = 0 := by omega
          have c4 : ∀ j : Int, 0 ≤ j → j < 144 → mov (mI (mWI M7 m 7 1)) (m + 4) (m + 5) 0 0 144 (m + 4) j = (rd5 (A 6) (nT A)).2 j := fun j j0 j1 => by
            unfold mov; rw [if_pos ⟨rfl, by omega, by omega⟩, show j - 0 + 0 = j by omega]; exact (mI_ne (by omega)).trans (h7.2 j j0 j1)
          refine EV.mq rfl (by rw [show ((0 : Nat) : Int) = 0 from rfl, mov_nil]; rfl) (l_crt4 (M := (mWI M7 m 7 1)) (by exact h7.1.1) ?_ 144 0 (by omega))
          refine E_aload_n dX12_court_180 rfl ?_
          refine g_X12_19 rfl dX12_court_181 (by exact h7.1.1.o) (by exact h7.1.1.court) ?_
          refine E_iconst dX12_court_184 (by decide) ?_
          refine E_iald dX12_court_185 (by exact h7.1.1.s_court) (by omega) (by omega) (c4 0 (by omega) (by omega)) ?_
          refine E_iret dX12_court_186 rfl ?_
          refine ⟨?_, ((K7.rf hF2).w (b := m) (by omega) 7 1).j (fun b j hb => mov_ne _ (by omega)), ?_⟩
          · congr 2; unfold s_court; rw [if_pos he]
          · unfold t_court; rw [if_pos he]
            exact hV.crS ((mov_ne _ (by omega)).trans ((mI_ne (by omega)).trans n9)) ((mov_ne _ (by omega)).trans mI_eq) c4 (fun b j hb h5 h4 => (mov_ne _ (by omega)).trans ((mI_ne (by omega)).trans (K7.2 b j (by omega) h5)))
        · have hw6 := hpy.2.2 (by omega)
          have htn := hG.tn
          have hN9 : ((nT A : Nat) : Int) = A 0 9 := by unfold nT; omega
          refine E_aload_n dX12_court_132 rfl ?_
          refine E_aload_n dX12_court_133 rfl ?_
          refine g_X12_111 rfl dX12_court_134 (by exact h7.1.1.o) h7.1.2.2.2.2.2.2.1 ?_
          refine p_X12_188 rfl dX12_court_137 (by exact h7.1.1.o) ?_
          refine c_X12_191 rfl dX12_court_140 ?_
          refine E_aload_n dX12_court_142 rfl ?_
          refine g_X12_117 rfl dX12_court_143 (by exact h7.1.1.o) ((mI_ne (by omega)).trans (h7.1.2.2.2.2.2.2.2.1 (by omega))) ?_
          refine E_isub dX12_court_146 (by omega) (by omega) ?_
          refine E_iret dX12_court_147 rfl ?_
          refine ⟨?_, (K7.rf hF2).w (by omega) _ _, ?_⟩
          · congr 2; unfold s_court; rw [if_neg (by omega)]
          · unfold t_court; rw [if_neg (by omega)]
            exact hV.crF _ ((mI_ne (by omega)).trans n9) mI_eq (fun b j hb h5 => (mI_ne (by omega)).trans (K7.2 b j (by omega) h5))
