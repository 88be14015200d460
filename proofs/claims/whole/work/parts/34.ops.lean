/-! ===== 34: the reference: its simple operations ===== -/
set_option maxRecDepth 20000 in
set_option maxHeartbeats 3000000 in
theorem r_status {G : Ctx} {M : Mem} {m : Nat} {A : AS} {B : Int} (hO : MO M m) (hV : MA (mI M) m A) (hG : GA A B) (hB : B ≤ 900000) : CT G m_X12_status 0 0 0 [vR m] M (rM M m (A 0 1) (A)) := by
  refine CT.of k_X12_status 0 (ls := [some (vR m)]) rfl (Nat.le_of_ble_eq_true rfl) ?_
  refine E_aload_n dX12_status_0 rfl ?_
  refine E_iconst dX12_status_1 (by decide) ?_
  refine p_X12_53 rfl dX12_status_2 hO.o ?_
  obtain ⟨M1, e1, hO, hV, hF⟩ := thr hO hV
  refine EV.mq rfl e1.symm ?_
  clear e1
  have hQ := hV.mc
  have hW := hG.w.c
  have hpn := hW.pn
  have hl8 := hW.ln
  have hr8 := hW.rn
  have hgg := hG.w.g
  have hth := hG.th
  refine E_aload_n dX12_status_5 rfl ?_
  refine g_X12_57 rfl dX12_status_6 hO.o (hV.2 1 (by unfold SJ; omega)) ?_
  refine E_iret dX12_status_9 rfl ?_
  exact ⟨rfl, hF, hV⟩
set_option maxRecDepth 20000 in
set_option maxHeartbeats 3000000 in
theorem r_fault {G : Ctx} {M : Mem} {m : Nat} {A : AS} {B : Int} (hO : MO M m) (hV : MA (mI M) m A) (hG : GA A B) (hB : B ≤ 900000) : CT G m_X12_fault 0 0 0 [vR m] M (rM M m (A 0 10) (A)) := by
  refine CT.of k_X12_fault 0 (ls := [some (vR m)]) rfl (Nat.le_of_ble_eq_true rfl) ?_
  refine E_aload_n dX12_fault_0 rfl ?_
  refine E_iconst dX12_fault_1 (by decide) ?_
  refine p_X12_53 rfl dX12_fault_2 hO.o ?_
  obtain ⟨M1, e1, hO, hV, hF⟩ := thr hO hV
  refine EV.mq rfl e1.symm ?_
  clear e1
  have hQ := hV.mc
  have hW := hG.w.c
  have hpn := hW.pn
  have hl8 := hW.ln
  have hr8 := hW.rn
  have hgg := hG.w.g
  have hth := hG.th
  refine E_aload_n dX12_fault_5 rfl ?_
  refine g_X12_188 rfl dX12_fault_6 hO.o (hV.2 10 (by unfold SJ; omega)) ?_
  refine E_iret dX12_fault_9 rfl ?_
  exact ⟨rfl, hF, hV⟩
set_option maxRecDepth 20000 in
set_option maxHeartbeats 3000000 in
theorem r_drop {G : Ctx} {M : Mem} {m : Nat} {A : AS} {B : Int} (hO : MO M m) (hV : MA (mI M) m A) (hG : GA A B) (hB : B ≤ 900000) {a : Int} : CT G m_X12_drop 2 0 0 [vR m, vI a] M (rM M m (s_drop A a) (t_drop A a)) := by
  refine CT.of k_X12_drop 0 (ls := [some (vR m), some (vI a)]) rfl (Nat.le_of_ble_eq_true rfl) ?_
  refine E_aload_n dX12_drop_0 rfl ?_
  refine E_iconst dX12_drop_1 (by decide) ?_
  refine p_X12_53 rfl dX12_drop_2 hO.o ?_
  obtain ⟨M1, e1, hO, hV, hF⟩ := thr hO hV
  refine EV.mq rfl e1.symm ?_
  clear e1
  have hQ := hV.mc
  have hW := hG.w.c
  have hpn := hW.pn
  have hl8 := hW.ln
  have hr8 := hW.rn
  have hgg := hG.w.g
  have hth := hG.th
  refine E_iload_n dX12_drop_5 rfl ?_
  refine i_X12_67 rfl dX12_drop_6 c_isRow (by omega) (Nat.le_of_ble_eq_true rfl) rfl rfl ?_
  rintro _ _ ⟨rfl, rfl⟩
  try dsimp only [pu]
  refine E_if_ne (tgt := 15) dX12_drop_9 (by decide) (fun h9 => ?_) (fun h9 => ?_)
  · simp only [tB0, ne_eq, Bool.not_eq_false, Bool.not_eq_true, decide_eq_true_eq, decide_eq_false_iff_not, Classical.not_not] at h9
    refine E_aload_n dX12_drop_15 rfl ?_
    refine E_iconst dX12_drop_16 (by decide) ?_
    refine p_X12_57 rfl dX12_drop_17 hO.o ?_
    obtain ⟨M2, e2, hO, hV, hF, hR⟩ := stz hO hV hF
    refine EV.mq rfl e2.symm ?_
    clear e2
    refine E_aload_n dX12_drop_20 rfl ?_
    refine g_X12_7 rfl dX12_drop_21 hO.o hO.lane ?_
    refine E_iload_n dX12_drop_24 rfl ?_
    refine E_iald dX12_drop_25 hO.s_lane (by omega) (by omega) (hR 1 _ (by unfold SA; omega)) ?_
    refine E_if_ge (tgt := 35) dX12_drop_26 (by decide) (fun h26 => ?_) (fun h26 => ?_)
    · refine E_aload_n dX12_drop_35 rfl ?_
      refine g_X12_7 rfl dX12_drop_36 hO.o hO.lane ?_
      refine E_iload_n dX12_drop_39 rfl ?_
      refine E_iconst dX12_drop_40 (by decide) ?_
      refine E_iast dX12_drop_41 hO.s_lane (by omega) (by omega) ?_
      refine E_aload_n dX12_drop_42 rfl ?_
      refine g_X12_13 rfl dX12_drop_43 hO.o hO.many ?_
      refine E_iload_n dX12_drop_46 rfl ?_
      refine E_iald dX12_drop_47 hO.s_many (by omega) (by omega) ((mI_ne (by omega)).trans (hR 2 _ (by unfold SA; omega))) ?_
      refine E_iret dX12_drop_48 rfl ?_
      refine ⟨?_, (hF.w (by omega) a (-1)), ?_⟩
      · congr 2; unfold s_drop; rw [if_pos (by omega), if_neg (by omega)]; try rfl
      · unfold t_drop; rw [if_pos (by omega), if_neg (by omega)]; exact (hV.up (k := 1) (by omega) a (-1))
    · refine E_aload_n dX12_drop_29 rfl ?_
      refine E_iconst dX12_drop_30 (by decide) ?_
      refine i_X12_74 rfl dX12_drop_31 (by exact hO.o) (c_finding hO.o (by omega) (by omega)) (by omega) (Nat.le_of_ble_eq_true rfl) rfl rfl ?_
      rintro _ _ ⟨rfl, rfl⟩
      try dsimp only [pu]
      refine E_iret dX12_drop_34 rfl ?_
      refine ⟨?_, (hF.w (b := m) (by omega) 1 1), ?_⟩
      · congr 2; unfold s_drop; rw [if_pos (by omega), if_pos (by omega)]; try rfl
      · unfold t_drop; rw [if_pos (by omega), if_pos (by omega)]; exact (hV.up0 1 1)
  · simp only [tB0, ne_eq, Bool.not_eq_false, Bool.not_eq_true, decide_eq_true_eq, decide_eq_false_iff_not, Classical.not_not] at h9
    refine c_X12_73 rfl dX12_drop_12 ?_
    refine E_iret dX12_drop_14 rfl ?_
    refine ⟨?_, hF, ?_⟩
    · congr 2; unfold s_drop; rw [if_neg (by omega)]; try rfl
    · unfold t_drop; rw [if_neg (by omega)]; exact hV
set_option maxRecDepth 20000 in
set_option maxHeartbeats 3000000 in
theorem r_set {G : Ctx} {M : Mem} {m : Nat} {A : AS} {B : Int} (hO : MO M m) (hV : MA (mI M) m A) (hG : GA A B) (hB : B ≤ 900000) {a i v : Int} (i0 : -2147483648 ≤ i ∧ i ≤ 2147483647) : CT G m_X12_set 2 0 0 [vR m, vI a, vI i, vI v] M (rM M m (s_set A a i v) (t_sett A a i v)) := by
  refine CT.of k_X12_set 0 (ls := [some (vR m), some (vI a), some (vI i), some (vI v)]) rfl (Nat.le_of_ble_eq_true rfl) ?_
  refine E_aload_n dX12_set_0 rfl ?_
  refine E_iconst dX12_set_1 (by decide) ?_
  refine p_X12_53 rfl dX12_set_2 hO.o ?_
  obtain ⟨M1, e1, hO, hV, hF⟩ := thr hO hV
  refine EV.mq rfl e1.symm ?_
  clear e1
  have hQ := hV.mc
  have hW := hG.w.c
  have hpn := hW.pn
  have hl8 := hW.ln
  have hr8 := hW.rn
  have hgg := hG.w.g
  have hth := hG.th
  refine E_iload_n dX12_set_5 rfl ?_
  refine i_X12_67 rfl dX12_set_6 c_isRow (by omega) (Nat.le_of_ble_eq_true rfl) rfl rfl ?_
  rintro _ _ ⟨rfl, rfl⟩
  try dsimp only [pu]
  refine E_if_ne (tgt := 15) dX12_set_9 (by decide) (fun h9 => ?_) (fun h9 => ?_)
  · simp only [tB0, ne_eq, Bool.not_eq_false, Bool.not_eq_true, decide_eq_true_eq, decide_eq_false_iff_not, Classical.not_not] at h9
    refine E_aload_n dX12_set_15 rfl ?_
    refine E_iconst dX12_set_16 (by decide) ?_
    refine p_X12_57 rfl dX12_set_17 hO.o ?_
    obtain ⟨M2, e2, hO, hV, hF, hR⟩ := stz hO hV hF
    refine EV.mq rfl e2.symm ?_
    clear e2
    have hsz := hG.sz (r := a) (by omega) (by omega)
    refine E_aload_n dX12_set_20 rfl ?_
    refine g_X12_7 rfl dX12_set_21 hO.o hO.lane ?_
    refine E_iload_n dX12_set_24 rfl ?_
    refine E_iald dX12_set_25 hO.s_lane (by omega) (by omega) (hR 1 _ (by unfold SA; omega)) ?_
    refine E_if_ge (tgt := 35) dX12_set_26 (by decide) (fun h26 => ?_) (fun h26 => ?_)
    · refine E_iload_n dX12_set_35 rfl ?_
      refine E_i2l dX12_set_36 ?_
      refine E_lconst (x := 0) dX12_set_37 (by decide) ?_
      refine E_aload_n dX12_set_38 rfl ?_
      refine g_X12_13 rfl dX12_set_39 hO.o hO.many ?_
      refine E_iload_n dX12_set_42 rfl ?_
      refine E_iald dX12_set_43 hO.s_many (by omega) (by omega) (hR 2 _ (by unfold SA; omega)) ?_
      refine E_iconst dX12_set_44 (by decide) ?_
      refine E_isub dX12_set_45 (by omega) (by omega) ?_
      refine E_i2l dX12_set_46 ?_
      refine i_X12_63 rfl dX12_set_47 c_in (by omega) (Nat.le_of_ble_eq_true rfl) rfl rfl ?_
      rintro _ _ ⟨rfl, rfl⟩
      try dsimp only [pu]
      refine E_if_ne (tgt := 59) dX12_set_50 (by decide) (fun h50 => ?_) (fun h50 => ?_)
      · simp only [tB0, ne_eq, Bool.not_eq_false, Bool.not_eq_true, decide_eq_true_eq, decide_eq_false_iff_not, Classical.not_not] at h50
        refine E_aload_n dX12_set_59 rfl ?_
        refine g_X12_16 rfl dX12_set_60 hO.o hO.item ?_
        refine E_bipush dX12_set_63 (by decide) ?_
        refine E_iload_n dX12_set_65 rfl ?_
        refine E_imul dX12_set_66 (by omega) (by omega) ?_
        refine E_iload_n dX12_set_67 rfl ?_
        refine E_iadd dX12_set_68 (by omega) (by omega) ?_
        refine E_aload_n dX12_set_69 rfl ?_
        refine g_X12_7 rfl dX12_set_70 hO.o hO.lane ?_
        refine E_iload_n dX12_set_73 rfl ?_
        refine E_iald dX12_set_74 hO.s_lane (by omega) (by omega) (hR 1 _ (by unfold SA; omega)) ?_
        refine E_if_ne (tgt := 83) dX12_set_75 (by decide) (fun h75 => ?_) (fun h75 => ?_)
        · refine E_aload_n dX12_set_83 rfl ?_
          refine g_X12_7 rfl dX12_set_84 hO.o hO.lane ?_
          refine E_iload_n dX12_set_87 rfl ?_
          refine E_iald dX12_set_88 hO.s_lane (by omega) (by omega) (hR 1 _ (by unfold SA; omega)) ?_
          refine E_iconst dX12_set_89 (by decide) ?_
          refine E_icmp_ne (tgt := 98) dX12_set_90 (by decide) (fun h90 => ?_) (fun h90 => ?_)
          · refine E_iload_n dX12_set_98 rfl ?_
            refine E_iast dX12_set_99 hO.s_item (by omega) (by omega) ?_
            refine E_aload_n dX12_set_100 rfl ?_
            refine g_X12_16 rfl dX12_set_101 hO.o hO.item ?_
            refine E_bipush dX12_set_104 (by decide) ?_
            refine E_iload_n dX12_set_106 rfl ?_
            refine E_imul dX12_set_107 (by omega) (by omega) ?_
            refine E_iload_n dX12_set_108 rfl ?_
            refine E_iadd dX12_set_109 (by omega) (by omega) ?_
            refine E_iald dX12_set_110 hO.s_item (by omega) (by omega) mI_eq ?_
            refine E_iret dX12_set_111 rfl ?_
            have hc : v = cut (A 1 a) v := by unfold cut; rw [if_neg (by omega), if_neg (by omega)]
            refine ⟨?_, hF.w (by omega) _ _, ?_⟩
            · congr 2; unfold s_set; rw [if_pos (by omega), if_neg (by omega), if_pos (by omega)]; exact hc
            · unfold t_sett; rw [if_pos (by omega), if_neg (by omega), if_pos (by omega), ← hc]; exact hV.up (k := 3) (by omega) _ _
          · refine E_iload_n dX12_set_93 rfl ?_
            refine E_i2s dX12_set_94 ?_
            refine E_goto (tgt := 99) dX12_set_95 (by decide) ?_
            refine E_iast dX12_set_99 hO.s_item (by omega) (by omega) ?_
            refine E_aload_n dX12_set_100 rfl ?_
            refine g_X12_16 rfl dX12_set_101 hO.o hO.item ?_
            refine E_bipush dX12_set_104 (by decide) ?_
            refine E_iload_n dX12_set_106 rfl ?_
            refine E_imul dX12_set_107 (by omega) (by omega) ?_
            refine E_iload_n dX12_set_108 rfl ?_
            refine E_iadd dX12_set_109 (by omega) (by omega) ?_
            refine E_iald dX12_set_110 hO.s_item (by omega) (by omega) mI_eq ?_
            refine E_iret dX12_set_111 rfl ?_
            have hc : bI2s v = cut (A 1 a) v := by unfold cut; rw [if_neg (by omega), if_pos (by omega)]
            refine ⟨?_, hF.w (by omega) _ _, ?_⟩
            · congr 2; unfold s_set; rw [if_pos (by omega), if_neg (by omega), if_pos (by omega)]; exact hc
            · unfold t_sett; rw [if_pos (by omega), if_neg (by omega), if_pos (by omega), ← hc]; exact hV.up (k := 3) (by omega) _ _
        · refine E_iload_n dX12_set_78 rfl ?_
          refine E_i2b dX12_set_79 ?_
          refine E_goto (tgt := 99) dX12_set_80 (by decide) ?_
          refine E_iast dX12_set_99 hO.s_item (by omega) (by omega) ?_
          refine E_aload_n dX12_set_100 rfl ?_
          refine g_X12_16 rfl dX12_set_101 hO.o hO.item ?_
          refine E_bipush dX12_set_104 (by decide) ?_
          refine E_iload_n dX12_set_106 rfl ?_
          refine E_imul dX12_set_107 (by omega) (by omega) ?_
          refine E_iload_n dX12_set_108 rfl ?_
          refine E_iadd dX12_set_109 (by omega) (by omega) ?_
          refine E_iald dX12_set_110 hO.s_item (by omega) (by omega) mI_eq ?_
          refine E_iret dX12_set_111 rfl ?_
          have hc : bI2b v = cut (A 1 a) v := by unfold cut; rw [if_pos (by omega)]
          refine ⟨?_, hF.w (by omega) _ _, ?_⟩
          · congr 2; unfold s_set; rw [if_pos (by omega), if_neg (by omega), if_pos (by omega)]; exact hc
          · unfold t_sett; rw [if_pos (by omega), if_neg (by omega), if_pos (by omega), ← hc]; exact hV.up (k := 3) (by omega) _ _
      · simp only [tB0, ne_eq, Bool.not_eq_false, Bool.not_eq_true, decide_eq_true_eq, decide_eq_false_iff_not, Classical.not_not] at h50
        refine E_aload_n dX12_set_53 rfl ?_
        refine E_iconst dX12_set_54 (by decide) ?_
        refine i_X12_74 rfl dX12_set_55 (by exact hO.o) (c_finding hO.o (by omega) (by omega)) (by omega) (Nat.le_of_ble_eq_true rfl) rfl rfl ?_
        rintro _ _ ⟨rfl, rfl⟩
        try dsimp only [pu]
        refine E_iret dX12_set_58 rfl ?_
        refine ⟨?_, (hF.w (b := m) (by omega) 1 2), ?_⟩
        · congr 2; unfold s_set; rw [if_pos (by omega), if_neg (by omega), if_neg (by omega)]; try rfl
        · unfold t_sett; rw [if_pos (by omega), if_neg (by omega), if_neg (by omega)]; exact (hV.up0 1 2)
    · refine E_aload_n dX12_set_29 rfl ?_
      refine E_iconst dX12_set_30 (by decide) ?_
      refine i_X12_74 rfl dX12_set_31 (by exact hO.o) (c_finding hO.o (by omega) (by omega)) (by omega) (Nat.le_of_ble_eq_true rfl) rfl rfl ?_
      rintro _ _ ⟨rfl, rfl⟩
      try dsimp only [pu]
      refine E_iret dX12_set_34 rfl ?_
      refine ⟨?_, (hF.w (b := m) (by omega) 1 1), ?_⟩
      · congr 2; unfold s_set; rw [if_pos (by omega), if_pos (by omega)]; try rfl
      · unfold t_sett; rw [if_pos (by omega), if_pos (by omega)]; exact (hV.up0 1 1)
  · simp only [tB0, ne_eq, Bool.not_eq_false, Bool.not_eq_true, decide_eq_true_eq, decide_eq_false_iff_not, Classical.not_not] at h9
    refine c_X12_73 rfl dX12_set_12 ?_
    refine E_iret dX12_set_14 rfl ?_
    refine ⟨?_, hF, ?_⟩
    · congr 2; unfold s_set; rw [if_neg (by omega)]; try rfl
    · unfold t_sett; rw [if_neg (by omega)]; exact hV
set_option maxRecDepth 20000 in
set_option maxHeartbeats 3000000 in
theorem l_row {G : Ctx} {M : Mem} {m : Nat} (hO : MO M m) {a l c : Int} (a0 : 0 ≤ a) (a1 : a ≤ 7) : ∀ (k r : Nat) , r + k = 40 → EV G m_X12_row 0 0 0 (fun x M' => x = some (vI c) ∧ M' = mJ M (fil (mI M) (m + 3) (40 * a) (40 * a + 40) 0)) 65 [some (vR m), some (vI a), some (vI l), some (vI c), some (vI (r : Int))] [] (mJ M (fil (mI M) (m + 3) (40 * a) (40 * a + r) 0)) := by
  intro k
  induction k with
  | zero =>
    intro r  hr
    obtain rfl : r = 40 := by omega
    refine E_iload dX12_row_65 rfl ?_
    refine E_bipush dX12_row_67 (by decide) ?_
    refine E_icmp_ge (tgt := 91) dX12_row_69 (by decide) (fun h69 => ?_) (fun h69 => ?_)
    · refine E_iload_n dX12_row_91 rfl ?_
      refine E_iret dX12_row_92 rfl ?_
      exact ⟨rfl, rfl⟩
    · exfalso; omega
  | succ k ih =>
    intro r  hr
    refine E_iload dX12_row_65 rfl ?_
    refine E_bipush dX12_row_67 (by decide) ?_
    refine E_icmp_ge (tgt := 91) dX12_row_69 (by decide) (fun h69 => ?_) (fun h69 => ?_)
    · exfalso; omega
    · refine E_aload_n dX12_row_72 rfl ?_
      refine g_X12_16 rfl dX12_row_73 hO.o hO.item ?_
      refine E_bipush dX12_row_76 (by decide) ?_
      refine E_iload_n dX12_row_78 rfl ?_
      refine E_imul dX12_row_79 (by omega) (by omega) ?_
      refine E_iload dX12_row_80 rfl ?_
      refine E_iadd dX12_row_82 (by omega) (by omega) ?_
      refine E_iconst dX12_row_83 (by decide) ?_
      refine E_iast dX12_row_84 hO.s_item (by omega) (by omega) ?_
      refine E_iinc dX12_row_85 rfl (by omega) (by omega) (by decide) rfl (by decide) ?_
      try dsimp only [List.set]
      refine E_goto (tgt := 65) dX12_row_88 (by decide) ?_
      exact EV.mq rfl (by rw [show (40 * a + ((r + 1 : Nat) : Int)) = 40 * a + r + 1 by omega, ← fil_step _ _ _ _ _ (by omega)]; rfl) (ih (r + 1) (by omega))
set_option maxRecDepth 20000 in
set_option maxHeartbeats 3000000 in
theorem r_row {G : Ctx} {M : Mem} {m : Nat} {A : AS} {B : Int} (hO : MO M m) (hV : MA (mI M) m A) (hG : GA A B) (hB : B ≤ 900000) {a l c : Int} : CT G m_X12_row 2 0 0 [vR m, vI a, vI l, vI c] M (rM M m (s_row a l c) (t_row A a l c)) := by
  refine CT.of k_X12_row 1 (ls := [some (vR m), some (vI a), some (vI l), some (vI c), none]) rfl (Nat.le_of_ble_eq_true rfl) ?_
  refine E_aload_n dX12_row_0 rfl ?_
  refine E_iconst dX12_row_1 (by decide) ?_
  refine p_X12_53 rfl dX12_row_2 hO.o ?_
  obtain ⟨M1, e1, hO, hV, hF⟩ := thr hO hV
  refine EV.mq rfl e1.symm ?_
  clear e1
  have hQ := hV.mc
  have hW := hG.w.c
  have hpn := hW.pn
  have hl8 := hW.ln
  have hr8 := hW.rn
  have hgg := hG.w.g
  have hth := hG.th
  refine E_iload_n dX12_row_5 rfl ?_
  refine i_X12_67 rfl dX12_row_6 c_isRow (by omega) (Nat.le_of_ble_eq_true rfl) rfl rfl ?_
  rintro _ _ ⟨rfl, rfl⟩
  try dsimp only [pu]
  refine E_if_eq (tgt := 30) dX12_row_9 (by decide) (fun h9 => ?_) (fun h9 => ?_)
  · simp only [tB0, ne_eq, Bool.not_eq_false, Bool.not_eq_true, decide_eq_true_eq, decide_eq_false_iff_not, Classical.not_not] at h9
    refine c_X12_73 rfl dX12_row_30 ?_
    refine E_iret dX12_row_32 rfl ?_
    refine ⟨?_, hF, ?_⟩
    · congr 2; unfold s_row; rw [if_neg (by omega)]; try rfl
    · unfold t_row; rw [if_neg (by omega)]; exact hV
  · simp only [tB0, ne_eq, Bool.not_eq_false, Bool.not_eq_true, decide_eq_true_eq, decide_eq_false_iff_not, Classical.not_not] at h9
    refine E_iload_n dX12_row_12 rfl ?_
    refine E_i2l dX12_row_13 ?_
    refine E_lconst (x := 0) dX12_row_14 (by decide) ?_
    refine c_X12_71 rfl dX12_row_15 ?_
    refine i_X12_63 rfl dX12_row_18 c_in (by omega) (Nat.le_of_ble_eq_true rfl) rfl rfl ?_
    rintro _ _ ⟨rfl, rfl⟩
    try dsimp only [pu]
    refine E_if_eq (tgt := 30) dX12_row_21 (by decide) (fun h21 => ?_) (fun h21 => ?_)
    · simp only [tB0, ne_eq, Bool.not_eq_false, Bool.not_eq_true, decide_eq_true_eq, decide_eq_false_iff_not, Classical.not_not] at h21
      refine c_X12_73 rfl dX12_row_30 ?_
      refine E_iret dX12_row_32 rfl ?_
      refine ⟨?_, hF, ?_⟩
      · congr 2; unfold s_row; rw [if_neg (by omega)]; try rfl
      · unfold t_row; rw [if_neg (by omega)]; exact hV
    · simp only [tB0, ne_eq, Bool.not_eq_false, Bool.not_eq_true, decide_eq_true_eq, decide_eq_false_iff_not, Classical.not_not] at h21
      refine E_iload_n dX12_row_24 rfl ?_
      refine E_bipush dX12_row_25 (by decide) ?_
      refine E_icmp_le (tgt := 33) dX12_row_27 (by decide) (fun h27 => ?_) (fun h27 => ?_)
      · refine E_aload_n dX12_row_33 rfl ?_
        refine E_iconst dX12_row_34 (by decide) ?_
        refine p_X12_57 rfl dX12_row_35 hO.o ?_
        obtain ⟨M2, e2, hO, hV, hF, hR⟩ := stz hO hV hF
        refine EV.mq rfl e2.symm ?_
        clear e2
        refine E_iload_n dX12_row_38 rfl ?_
        refine E_if_ge (tgt := 48) dX12_row_39 (by decide) (fun h39 => ?_) (fun h39 => ?_)
        · refine E_aload_n dX12_row_48 rfl ?_
          refine g_X12_7 rfl dX12_row_49 hO.o hO.lane ?_
          refine E_iload_n dX12_row_52 rfl ?_
          refine E_iload_n dX12_row_53 rfl ?_
          refine E_iast dX12_row_54 hO.s_lane (by omega) (by omega) ?_
          refine E_aload_n dX12_row_55 rfl ?_
          refine g_X12_13 rfl dX12_row_56 hO.o hO.many ?_
          refine E_iload_n dX12_row_59 rfl ?_
          refine E_iload_n dX12_row_60 rfl ?_
          refine E_iast dX12_row_61 hO.s_many (by omega) (by omega) ?_
          obtain ⟨M3, e3, hO, hV, hF⟩ := gen (M1 := mWI (mWI M2 (m + 1) a l) (m + 2) a c) hO.w.w ((hV.up (k := 1) (by omega) a l).up (k := 2) (by omega) a c) ((hF.w (b := m + 1) (by omega) a l).w (b := m + 2) (by omega) a c)
          refine EV.mq rfl e3.symm ?_
          clear e3
          refine E_iconst dX12_row_62 (by decide) ?_
          refine E_istore dX12_row_63 rfl (by decide) ?_
          try dsimp only [List.set]
          refine EV.post (fun x M' hq => ?_) (EV.deep (d := 0) (by omega) (EV.mq rfl (by rw [show (40 * a + ((0 : Nat) : Int)) = 40 * a by omega, fil_nil]; rfl) (l_row hO (l := l) (c := c) (by omega) (by omega) 40 0 (by omega))))
          obtain ⟨rfl, rfl⟩ := hq
          refine ⟨?_, hF.j (fun b j hb => fil_ne _ (by omega)), ?_⟩
          · congr 2; unfold s_row; rw [if_pos (by omega), if_neg (by omega)]
          · unfold t_row; rw [if_pos (by omega), if_neg (by omega)]; exact hV.fl (k := 3) (by omega) _ _ _
        · refine E_aload_n dX12_row_42 rfl ?_
          refine E_iconst dX12_row_43 (by decide) ?_
          refine i_X12_74 rfl dX12_row_44 (by exact hO.o) (c_finding hO.o (by omega) (by omega)) (by omega) (Nat.le_of_ble_eq_true rfl) rfl rfl ?_
          rintro _ _ ⟨rfl, rfl⟩
          try dsimp only [pu]
          refine E_iret dX12_row_47 rfl ?_
          refine ⟨?_, (hF.w (b := m) (by omega) 1 4), ?_⟩
          · congr 2; unfold s_row; rw [if_pos (by omega), if_pos (by omega)]; try rfl
          · unfold t_row; rw [if_pos (by omega), if_pos (by omega)]; exact (hV.up0 1 4)
      · refine c_X12_73 rfl dX12_row_30 ?_
        refine E_iret dX12_row_32 rfl ?_
        refine ⟨?_, hF, ?_⟩
        · congr 2; unfold s_row; rw [if_neg (by omega)]; try rfl
        · unfold t_row; rw [if_neg (by omega)]; exact hV
set_option maxRecDepth 20000 in
set_option maxHeartbeats 3000000 in
theorem l_copyU {G : Ctx} {M : Mem} {m : Nat} (hO : MO M m) {a i b j : Int} (n : Nat) (a0 : 0 ≤ a ∧ a ≤ 7) (b0 : 0 ≤ b ∧ b ≤ 7) (i0 : 0 ≤ i ∧ i + n ≤ 40) (j0 : 0 ≤ j ∧ j + n ≤ 40) (hov : 40 * b + j ≤ 40 * a + i ∨ 40 * a + i + n ≤ 40 * b + j) : ∀ (k r : Nat) (z : Option MV), r + k = n → EV G m_X12_copy 0 0 0 (fun x M' => x = some (vI (n : Int)) ∧ M' = mJ M (mov (mI M) (m + 3) (m + 3) (40 * a + i) (40 * b + j) n)) 143 [some (vR m), some (vI a), some (vI i), some (vI b), some (vI j), some (vI (n : Int)), some (vI 1), some (vI (r : Int)), z] [] (mJ M (mov (mI M) (m + 3) (m + 3) (40 * a + i) (40 * b + j) r)) := by
  intro k
  induction k with
  | zero =>
    intro r z hr
    obtain rfl : r = n := by omega
    refine E_iload dX12_copy_143 rfl ?_
    refine E_iload dX12_copy_145 rfl ?_
    refine E_icmp_ge (tgt := 204) dX12_copy_147 (by decide) (fun h147 => ?_) (fun h147 => ?_)
    · refine E_iload dX12_copy_204 rfl ?_
      refine E_iret dX12_copy_206 rfl ?_
      exact ⟨rfl, rfl⟩
    · exfalso; omega
  | succ k ih =>
    intro r z hr
    refine E_iload dX12_copy_143 rfl ?_
    refine E_iload dX12_copy_145 rfl ?_
    refine E_icmp_ge (tgt := 204) dX12_copy_147 (by decide) (fun h147 => ?_) (fun h147 => ?_)
    · exfalso; omega
    · refine E_iload dX12_copy_150 rfl ?_
      refine E_if_eq (tgt := 160) dX12_copy_152 (by decide) (fun h152 => ?_) (fun h152 => ?_)
      · exfalso; omega
      · refine E_iload dX12_copy_155 rfl ?_
        refine E_goto (tgt := 167) dX12_copy_157 (by decide) ?_
        refine E_istore dX12_copy_167 rfl (by decide) ?_
        try dsimp only [List.set]
        refine E_aload_n dX12_copy_169 rfl ?_
        refine g_X12_16 rfl dX12_copy_170 hO.o hO.item ?_
        refine E_bipush dX12_copy_173 (by decide) ?_
        refine E_iload_n dX12_copy_175 rfl ?_
        refine E_imul dX12_copy_176 (by omega) (by omega) ?_
        refine E_iload dX12_copy_177 rfl ?_
        refine E_iadd dX12_copy_179 (by omega) (by omega) ?_
        refine E_iload dX12_copy_180 rfl ?_
        refine E_iadd dX12_copy_182 (by omega) (by omega) ?_
        refine E_aload_n dX12_copy_183 rfl ?_
        refine g_X12_16 rfl dX12_copy_184 hO.o hO.item ?_
        refine E_bipush dX12_copy_187 (by decide) ?_
        refine E_iload_n dX12_copy_189 rfl ?_
        refine E_imul dX12_copy_190 (by omega) (by omega) ?_
        refine E_iload_n dX12_copy_191 rfl ?_
        refine E_iadd dX12_copy_192 (by omega) (by omega) ?_
        refine E_iload dX12_copy_193 rfl ?_
        refine E_iadd dX12_copy_195 (by omega) (by omega) ?_
        refine E_iald dX12_copy_196 hO.s_item (by omega) (by omega) (mov_ne (mI M) (by omega)) ?_
        refine E_iast dX12_copy_197 hO.s_item (by omega) (by omega) ?_
        refine E_iinc dX12_copy_198 rfl (by omega) (by omega) (by decide) rfl (by decide) ?_
        try dsimp only [List.set]
        refine E_goto (tgt := 143) dX12_copy_201 (by decide) ?_
        exact EV.mq rfl (by rw [show ((r + 1 : Nat) : Int) = (r : Int) + 1 by omega, ← mov_up _ _ _ _ _ _ (by omega)]; rfl) (ih (r + 1) _ (by omega))
set_option maxRecDepth 20000 in
set_option maxHeartbeats 3000000 in
theorem l_copyD {G : Ctx} {M : Mem} {m : Nat} (hO : MO M m) {a i b j : Int} (n : Nat) (a0 : 0 ≤ a ∧ a ≤ 7) (b0 : 0 ≤ b ∧ b ≤ 7) (i0 : 0 ≤ i ∧ i + n ≤ 40) (j0 : 0 ≤ j ∧ j + n ≤ 40) (hov : 40 * a + i ≤ 40 * b + j ∨ 40 * b + j + n ≤ 40 * a + i) : ∀ (k r : Nat) (z : Option MV), r + k = n → EV G m_X12_copy 0 0 0 (fun x M' => x = some (vI (n : Int)) ∧ M' = mJ M (mov (mI M) (m + 3) (m + 3) (40 * a + i) (40 * b + j) n)) 143 [some (vR m), some (vI a), some (vI i), some (vI b), some (vI j), some (vI (n : Int)), some (vI 0), some (vI (r : Int)), z] [] (mJ M (mov (mI M) (m + 3) (m + 3) (40 * a + i + n - r) (40 * b + j + n - r) r)) := by
  intro k
  induction k with
  | zero =>
    intro r z hr
    obtain rfl : r = n := by omega
    refine E_iload dX12_copy_143 rfl ?_
    refine E_iload dX12_copy_145 rfl ?_
    refine E_icmp_ge (tgt := 204) dX12_copy_147 (by decide) (fun h147 => ?_) (fun h147 => ?_)
    · refine E_iload dX12_copy_204 rfl ?_
      refine E_iret dX12_copy_206 rfl ?_
      exact ⟨rfl, by rw [show 40 * a + i + (r : Int) - r = 40 * a + i by omega, show 40 * b + j + (r : Int) - r = 40 * b + j by omega]⟩
    · exfalso; omega
  | succ k ih =>
    intro r z hr
    refine E_iload dX12_copy_143 rfl ?_
    refine E_iload dX12_copy_145 rfl ?_
    refine E_icmp_ge (tgt := 204) dX12_copy_147 (by decide) (fun h147 => ?_) (fun h147 => ?_)
    · exfalso; omega
    · refine E_iload dX12_copy_150 rfl ?_
      refine E_if_eq (tgt := 160) dX12_copy_152 (by decide) (fun h152 => ?_) (fun h152 => ?_)
      · refine E_iload dX12_copy_160 rfl ?_
        refine E_iconst dX12_copy_162 (by decide) ?_
        refine E_isub dX12_copy_163 (by omega) (by omega) ?_
        refine E_iload dX12_copy_164 rfl ?_
        refine E_isub dX12_copy_166 (by omega) (by omega) ?_
        refine E_istore dX12_copy_167 rfl (by decide) ?_
        try dsimp only [List.set]
        refine E_aload_n dX12_copy_169 rfl ?_
        refine g_X12_16 rfl dX12_copy_170 hO.o hO.item ?_
        refine E_bipush dX12_copy_173 (by decide) ?_
        refine E_iload_n dX12_copy_175 rfl ?_
        refine E_imul dX12_copy_176 (by omega) (by omega) ?_
        refine E_iload dX12_copy_177 rfl ?_
        refine E_iadd dX12_copy_179 (by omega) (by omega) ?_
        refine E_iload dX12_copy_180 rfl ?_
        refine E_iadd dX12_copy_182 (by omega) (by omega) ?_
        refine E_aload_n dX12_copy_183 rfl ?_
        refine g_X12_16 rfl dX12_copy_184 hO.o hO.item ?_
        refine E_bipush dX12_copy_187 (by decide) ?_
        refine E_iload_n dX12_copy_189 rfl ?_
        refine E_imul dX12_copy_190 (by omega) (by omega) ?_
        refine E_iload_n dX12_copy_191 rfl ?_
        refine E_iadd dX12_copy_192 (by omega) (by omega) ?_
        refine E_iload dX12_copy_193 rfl ?_
        refine E_iadd dX12_copy_195 (by omega) (by omega) ?_
        refine E_iald dX12_copy_196 hO.s_item (by omega) (by omega) (mov_ne (mI M) (by omega)) ?_
        refine E_iast dX12_copy_197 hO.s_item (by omega) (by omega) ?_
        refine E_iinc dX12_copy_198 rfl (by omega) (by omega) (by decide) rfl (by decide) ?_
        try dsimp only [List.set]
        refine E_goto (tgt := 143) dX12_copy_201 (by decide) ?_
        exact EV.mq rfl (by rw [show ((r + 1 : Nat) : Int) = (r : Int) + 1 by omega, show 40 * a + i + n - ((r : Int) + 1) = 40 * a + i + n - r - 1 by omega, show 40 * b + j + n - ((r : Int) + 1) = 40 * b + j + n - r - 1 by omega, ← mov_dn _ _ _ _ _ _ (by omega), show 40 * a + i + n - (r : Int) - 1 = 40 * a + i + (n - 1 - r) by omega, show 40 * b + j + n - (r : Int) - 1 = 40 * b + j + (n - 1 - r) by omega]; rfl) (ih (r + 1) _ (by omega))
      · exfalso; omega
set_option maxRecDepth 20000 in
set_option maxHeartbeats 3000000 in
theorem r_copy {G : Ctx} {M : Mem} {m : Nat} {A : AS} {B : Int} (hO : MO M m) (hV : MA (mI M) m A) (hG : GA A B) (hB : B ≤ 900000) {a i b j c : Int} (i0 : -2147483648 ≤ i ∧ i ≤ 2147483647) (j0 : -2147483648 ≤ j ∧ j ≤ 2147483647) (c0 : -2147483648 ≤ c ∧ c ≤ 2147483647) : CT G m_X12_copy 2 0 0 [vR m, vI a, vI i, vI b, vI j, vI c] M (rM M m (s_copy A a i b j c) (t_copy A a i b j c)) := by
  refine CT.of k_X12_copy 3 (ls := [some (vR m), some (vI a), some (vI i), some (vI b), some (vI j), some (vI c), none, none, none]) rfl (Nat.le_of_ble_eq_true rfl) ?_
  refine E_aload_n dX12_copy_0 rfl ?_
  refine E_iconst dX12_copy_1 (by decide) ?_
  refine p_X12_53 rfl dX12_copy_2 hO.o ?_
  obtain ⟨M1, e1, hO, hV, hF⟩ := thr hO hV
  refine EV.mq rfl e1.symm ?_
  clear e1
  have hQ := hV.mc
  have hW := hG.w.c
  have hpn := hW.pn
  have hl8 := hW.ln
  have hr8 := hW.rn
  have hgg := hG.w.g
  have hth := hG.th
  refine E_iload_n dX12_copy_5 rfl ?_
  refine i_X12_67 rfl dX12_copy_6 c_isRow (by omega) (Nat.le_of_ble_eq_true rfl) rfl rfl ?_
  rintro _ _ ⟨rfl, rfl⟩
  try dsimp only [pu]
  refine E_if_eq (tgt := 19) dX12_copy_9 (by decide) (fun h9 => ?_) (fun h9 => ?_)
  · simp only [tB0, ne_eq, Bool.not_eq_false, Bool.not_eq_true, decide_eq_true_eq, decide_eq_false_iff_not, Classical.not_not] at h9
    refine c_X12_73 rfl dX12_copy_19 ?_
    refine E_iret dX12_copy_21 rfl ?_
    refine ⟨?_, hF, ?_⟩
    · congr 2; unfold s_copy; rw [if_neg (by omega)]; try rfl
    · unfold t_copy; rw [if_neg (by omega)]; exact hV
  · simp only [tB0, ne_eq, Bool.not_eq_false, Bool.not_eq_true, decide_eq_true_eq, decide_eq_false_iff_not, Classical.not_not] at h9
    refine E_iload_n dX12_copy_12 rfl ?_
    refine i_X12_67 rfl dX12_copy_13 c_isRow (by omega) (Nat.le_of_ble_eq_true rfl) rfl rfl ?_
    rintro _ _ ⟨rfl, rfl⟩
    try dsimp only [pu]
    refine E_if_ne (tgt := 22) dX12_copy_16 (by decide) (fun h16 => ?_) (fun h16 => ?_)
    · simp only [tB0, ne_eq, Bool.not_eq_false, Bool.not_eq_true, decide_eq_true_eq, decide_eq_false_iff_not, Classical.not_not] at h16
      refine E_aload_n dX12_copy_22 rfl ?_
      refine E_iconst dX12_copy_23 (by decide) ?_
      refine p_X12_57 rfl dX12_copy_24 hO.o ?_
      obtain ⟨M2, e2, hO, hV, hF, hR⟩ := stz hO hV hF
      refine EV.mq rfl e2.symm ?_
      clear e2
      have hsa := hG.sz (r := a) (by omega) (by omega)
      have hsb := hG.sz (r := b) (by omega) (by omega)
      refine E_aload_n dX12_copy_27 rfl ?_
      refine g_X12_7 rfl dX12_copy_28 hO.o hO.lane ?_
      refine E_iload_n dX12_copy_31 rfl ?_
      refine E_iald dX12_copy_32 hO.s_lane (by omega) (by omega) (hR 1 _ (by unfold SA; omega)) ?_
      refine E_if_lt (tgt := 45) dX12_copy_33 (by decide) (fun h33 => ?_) (fun h33 => ?_)
      · refine E_aload_n dX12_copy_45 rfl ?_
        refine E_iconst dX12_copy_46 (by decide) ?_
        refine i_X12_74 rfl dX12_copy_47 (by exact hO.o) (c_finding hO.o (by omega) (by omega)) (by omega) (Nat.le_of_ble_eq_true rfl) rfl rfl ?_
        rintro _ _ ⟨rfl, rfl⟩
        try dsimp only [pu]
        refine E_iret dX12_copy_50 rfl ?_
        refine ⟨?_, (hF.w (b := m) (by omega) 1 1), ?_⟩
        · congr 2; unfold s_copy; rw [if_pos (by omega), if_pos (by omega)]; try rfl
        · unfold t_copy; rw [if_pos (by omega), if_pos (by omega)]; exact (hV.up0 1 1)
      · refine E_aload_n dX12_copy_36 rfl ?_
        refine g_X12_7 rfl dX12_copy_37 hO.o hO.lane ?_
        refine E_iload_n dX12_copy_40 rfl ?_
        refine E_iald dX12_copy_41 hO.s_lane (by omega) (by omega) (hR 1 _ (by unfold SA; omega)) ?_
        refine E_if_ge (tgt := 51) dX12_copy_42 (by decide) (fun h42 => ?_) (fun h42 => ?_)
        · refine E_aload_n dX12_copy_51 rfl ?_
          refine g_X12_7 rfl dX12_copy_52 hO.o hO.lane ?_
          refine E_iload_n dX12_copy_55 rfl ?_
          refine E_iald dX12_copy_56 hO.s_lane (by omega) (by omega) (hR 1 _ (by unfold SA; omega)) ?_
          refine E_aload_n dX12_copy_57 rfl ?_
          refine g_X12_7 rfl dX12_copy_58 hO.o hO.lane ?_
          refine E_iload_n dX12_copy_61 rfl ?_
          refine E_iald dX12_copy_62 hO.s_lane (by omega) (by omega) (hR 1 _ (by unfold SA; omega)) ?_
          refine E_icmp_eq (tgt := 72) dX12_copy_63 (by decide) (fun h63 => ?_) (fun h63 => ?_)
          · refine E_iload_n dX12_copy_72 rfl ?_
            refine E_if_lt (tgt := 121) dX12_copy_73 (by decide) (fun h73 => ?_) (fun h73 => ?_)
            · refine E_aload_n dX12_copy_121 rfl ?_
              refine E_iconst dX12_copy_122 (by decide) ?_
              refine i_X12_74 rfl dX12_copy_123 (by exact hO.o) (c_finding hO.o (by omega) (by omega)) (by omega) (Nat.le_of_ble_eq_true rfl) rfl rfl ?_
              rintro _ _ ⟨rfl, rfl⟩
              try dsimp only [pu]
              refine E_iret dX12_copy_126 rfl ?_
              refine ⟨?_, (hF.w (b := m) (by omega) 1 2), ?_⟩
              · congr 2; unfold s_copy; rw [if_pos (by omega), if_neg (by omega), if_neg (by omega), if_neg (by omega)]; try rfl
              · unfold t_copy; rw [if_pos (by omega), if_neg (by omega), if_neg (by omega), if_neg (by omega)]; exact (hV.up0 1 2)
            · refine E_iload dX12_copy_76 rfl ?_
              refine E_if_lt (tgt := 121) dX12_copy_78 (by decide) (fun h78 => ?_) (fun h78 => ?_)
              · refine E_aload_n dX12_copy_121 rfl ?_
                refine E_iconst dX12_copy_122 (by decide) ?_
                refine i_X12_74 rfl dX12_copy_123 (by exact hO.o) (c_finding hO.o (by omega) (by omega)) (by omega) (Nat.le_of_ble_eq_true rfl) rfl rfl ?_
                rintro _ _ ⟨rfl, rfl⟩
                try dsimp only [pu]
                refine E_iret dX12_copy_126 rfl ?_
                refine ⟨?_, (hF.w (b := m) (by omega) 1 2), ?_⟩
                · congr 2; unfold s_copy; rw [if_pos (by omega), if_neg (by omega), if_neg (by omega), if_neg (by omega)]; try rfl
                · unfold t_copy; rw [if_pos (by omega), if_neg (by omega), if_neg (by omega), if_neg (by omega)]; exact (hV.up0 1 2)
              · refine E_iload dX12_copy_81 rfl ?_
                refine E_if_lt (tgt := 121) dX12_copy_83 (by decide) (fun h83 => ?_) (fun h83 => ?_)
                · refine E_aload_n dX12_copy_121 rfl ?_
                  refine E_iconst dX12_copy_122 (by decide) ?_
                  refine i_X12_74 rfl dX12_copy_123 (by exact hO.o) (c_finding hO.o (by omega) (by omega)) (by omega) (Nat.le_of_ble_eq_true rfl) rfl rfl ?_
                  rintro _ _ ⟨rfl, rfl⟩
                  try dsimp only [pu]
                  refine E_iret dX12_copy_126 rfl ?_
                  refine ⟨?_, (hF.w (b := m) (by omega) 1 2), ?_⟩
                  · congr 2; unfold s_copy; rw [if_pos (by omega), if_neg (by omega), if_neg (by omega), if_neg (by omega)]; try rfl
                  · unfold t_copy; rw [if_pos (by omega), if_neg (by omega), if_neg (by omega), if_neg (by omega)]; exact (hV.up0 1 2)
                · refine E_iload_n dX12_copy_86 rfl ?_
                  refine E_i2l dX12_copy_87 ?_
                  refine E_iload dX12_copy_88 rfl ?_
                  refine E_i2l dX12_copy_90 ?_
                  refine E_ladd dX12_copy_91 (by omega) (by omega) ?_
                  refine E_aload_n dX12_copy_92 rfl ?_
                  refine g_X12_13 rfl dX12_copy_93 hO.o hO.many ?_
                  refine E_iload_n dX12_copy_96 rfl ?_
                  refine E_iald dX12_copy_97 hO.s_many (by omega) (by omega) (hR 2 _ (by unfold SA; omega)) ?_
                  refine E_i2l dX12_copy_98 ?_
                  refine E_lcmp dX12_copy_99 (fun h99 => ?_) (fun h99 => ?_) (fun h99 => ?_)
                  · refine E_if_gt (tgt := 121) dX12_copy_100 (by decide) (fun h100 => ?_) (fun h100 => ?_)
                    · exfalso; omega
                    · refine E_iload dX12_copy_103 rfl ?_
                      refine E_i2l dX12_copy_105 ?_
                      refine E_iload dX12_copy_106 rfl ?_
                      refine E_i2l dX12_copy_108 ?_
                      refine E_ladd dX12_copy_109 (by omega) (by omega) ?_
                      refine E_aload_n dX12_copy_110 rfl ?_
                      refine g_X12_13 rfl dX12_copy_111 hO.o hO.many ?_
                      refine E_iload_n dX12_copy_114 rfl ?_
                      refine E_iald dX12_copy_115 hO.s_many (by omega) (by omega) (hR 2 _ (by unfold SA; omega)) ?_
                      refine E_i2l dX12_copy_116 ?_
                      refine E_lcmp dX12_copy_117 (fun h117 => ?_) (fun h117 => ?_) (fun h117 => ?_)
                      · refine E_if_le (tgt := 127) dX12_copy_118 (by decide) (fun h118 => ?_) (fun h118 => ?_)
                        · refine E_iload_n dX12_copy_127 rfl ?_
                          refine E_iload dX12_copy_128 rfl ?_
                          refine E_icmp_lt (tgt := 137) dX12_copy_130 (by decide) (fun h130 => ?_) (fun h130 => ?_)
                          · refine E_iconst dX12_copy_137 (by decide) ?_
                            refine E_istore dX12_copy_138 rfl (by decide) ?_
                            try dsimp only [List.set]
                            refine E_iconst dX12_copy_140 (by decide) ?_
                            refine E_istore dX12_copy_141 rfl (by decide) ?_
                            try dsimp only [List.set]
                            obtain ⟨n, rfl⟩ := Int.eq_ofNat_of_zero_le (show 0 ≤ c by omega)
                            refine EV.post (fun x M' hq => ?_) (EV.deep (d := 0) (by omega) (EV.mq rfl (by rw [show ((0 : Nat) : Int) = 0 from rfl, mov_nil]; rfl) (l_copyD hO (a := a) (i := i) (b := b) (j := j) n (by omega) (by omega) (by omega) (by omega) (by omega) n 0 _ (by omega))))
                            obtain ⟨rfl, rfl⟩ := hq
                            refine ⟨?_, hF.j (fun b j hb => mov_ne _ (by omega)), ?_⟩
                            · congr 2; unfold s_copy; rw [if_pos (by omega), if_neg (by omega), if_neg (by omega), if_pos (by omega)]; try rfl
                            · unfold t_copy; rw [if_pos (by omega), if_neg (by omega), if_neg (by omega), if_pos (by omega)]; exact hV.mv (k := 3) (l := 3) (by omega) _ _ _ (fun _ _ _ _ => by unfold SA; omega)
                          · refine E_iconst dX12_copy_133 (by decide) ?_
                            refine E_goto (tgt := 138) dX12_copy_134 (by decide) ?_
                            refine E_istore dX12_copy_138 rfl (by decide) ?_
                            try dsimp only [List.set]
                            refine E_iconst dX12_copy_140 (by decide) ?_
                            refine E_istore dX12_copy_141 rfl (by decide) ?_
                            try dsimp only [List.set]
                            obtain ⟨n, rfl⟩ := Int.eq_ofNat_of_zero_le (show 0 ≤ c by omega)
                            refine EV.post (fun x M' hq => ?_) (EV.deep (d := 0) (by omega) (EV.mq rfl (by rw [show ((0 : Nat) : Int) = 0 from rfl, mov_nil]; rfl) (l_copyU hO (a := a) (i := i) (b := b) (j := j) n (by omega) (by omega) (by omega) (by omega) (by omega) n 0 _ (by omega))))
                            obtain ⟨rfl, rfl⟩ := hq
                            refine ⟨?_, hF.j (fun b j hb => mov_ne _ (by omega)), ?_⟩
                            · congr 2; unfold s_copy; rw [if_pos (by omega), if_neg (by omega), if_neg (by omega), if_pos (by omega)]; try rfl
                            · unfold t_copy; rw [if_pos (by omega), if_neg (by omega), if_neg (by omega), if_pos (by omega)]; exact hV.mv (k := 3) (l := 3) (by omega) _ _ _ (fun _ _ _ _ => by unfold SA; omega)
                        · exfalso; omega
                      · refine E_if_le (tgt := 127) dX12_copy_118 (by decide) (fun h118 => ?_) (fun h118 => ?_)
                        · refine E_iload_n dX12_copy_127 rfl ?_
                          refine E_iload dX12_copy_128 rfl ?_
                          refine E_icmp_lt (tgt := 137) dX12_copy_130 (by decide) (fun h130 => ?_) (fun h130 => ?_)
                          · refine E_iconst dX12_copy_137 (by decide) ?_
                            refine E_istore dX12_copy_138 rfl (by decide) ?_
                            try dsimp only [List.set]
                            refine E_iconst dX12_copy_140 (by decide) ?_
                            refine E_istore dX12_copy_141 rfl (by decide) ?_
                            try dsimp only [List.set]
                            obtain ⟨n, rfl⟩ := Int.eq_ofNat_of_zero_le (show 0 ≤ c by omega)
                            refine EV.post (fun x M' hq => ?_) (EV.deep (d := 0) (by omega) (EV.mq rfl (by rw [show ((0 : Nat) : Int) = 0 from rfl, mov_nil]; rfl) (l_copyD hO (a := a) (i := i) (b := b) (j := j) n (by omega) (by omega) (by omega) (by omega) (by omega) n 0 _ (by omega))))
                            obtain ⟨rfl, rfl⟩ := hq
                            refine ⟨?_, hF.j (fun b j hb => mov_ne _ (by omega)), ?_⟩
                            · congr 2; unfold s_copy; rw [if_pos (by omega), if_neg (by omega), if_neg (by omega), if_pos (by omega)]; try rfl
                            · unfold t_copy; rw [if_pos (by omega), if_neg (by omega), if_neg (by omega), if_pos (by omega)]; exact hV.mv (k := 3) (l := 3) (by omega) _ _ _ (fun _ _ _ _ => by unfold SA; omega)
                          · refine E_iconst dX12_copy_133 (by decide) ?_
                            refine E_goto (tgt := 138) dX12_copy_134 (by decide) ?_
                            refine E_istore dX12_copy_138 rfl (by decide) ?_
                            try dsimp only [List.set]
                            refine E_iconst dX12_copy_140 (by decide) ?_
                            refine E_istore dX12_copy_141 rfl (by decide) ?_
                            try dsimp only [List.set]
                            obtain ⟨n, rfl⟩ := Int.eq_ofNat_of_zero_le (show 0 ≤ c by omega)
                            refine EV.post (fun x M' hq => ?_) (EV.deep (d := 0) (by omega) (EV.mq rfl (by rw [show ((0 : Nat) : Int) = 0 from rfl, mov_nil]; rfl) (l_copyU hO (a := a) (i := i) (b := b) (j := j) n (by omega) (by omega) (by omega) (by omega) (by omega) n 0 _ (by omega))))
                            obtain ⟨rfl, rfl⟩ := hq
                            refine ⟨?_, hF.j (fun b j hb => mov_ne _ (by omega)), ?_⟩
                            · congr 2; unfold s_copy; rw [if_pos (by omega), if_neg (by omega), if_neg (by omega), if_pos (by omega)]; try rfl
                            · unfold t_copy; rw [if_pos (by omega), if_neg (by omega), if_neg (by omega), if_pos (by omega)]; exact hV.mv (k := 3) (l := 3) (by omega) _ _ _ (fun _ _ _ _ => by unfold SA; omega)
                        · exfalso; omega
                      · refine E_if_le (tgt := 127) dX12_copy_118 (by decide) (fun h118 => ?_) (fun h118 => ?_)
                        · exfalso; omega
                        · refine E_aload_n dX12_copy_121 rfl ?_
                          refine E_iconst dX12_copy_122 (by decide) ?_
                          refine i_X12_74 rfl dX12_copy_123 (by exact hO.o) (c_finding hO.o (by omega) (by omega)) (by omega) (Nat.le_of_ble_eq_true rfl) rfl rfl ?_
                          rintro _ _ ⟨rfl, rfl⟩
                          try dsimp only [pu]
                          refine E_iret dX12_copy_126 rfl ?_
                          refine ⟨?_, (hF.w (b := m) (by omega) 1 2), ?_⟩
                          · congr 2; unfold s_copy; rw [if_pos (by omega), if_neg (by omega), if_neg (by omega), if_neg (by omega)]; try rfl
                          · unfold t_copy; rw [if_pos (by omega), if_neg (by omega), if_neg (by omega), if_neg (by omega)]; exact (hV.up0 1 2)
                  · refine E_if_gt (tgt := 121) dX12_copy_100 (by decide) (fun h100 => ?_) (fun h100 => ?_)
                    · exfalso; omega
                    · refine E_iload dX12_copy_103 rfl ?_
                      refine E_i2l dX12_copy_105 ?_
                      refine E_iload dX12_copy_106 rfl ?_
                      refine E_i2l dX12_copy_108 ?_
                      refine E_ladd dX12_copy_109 (by omega) (by omega) ?_
                      refine E_aload_n dX12_copy_110 rfl ?_
                      refine g_X12_13 rfl dX12_copy_111 hO.o hO.many ?_
                      refine E_iload_n dX12_copy_114 rfl ?_
                      refine E_iald dX12_copy_115 hO.s_many (by omega) (by omega) (hR 2 _ (by unfold SA; omega)) ?_
                      refine E_i2l dX12_copy_116 ?_
                      refine E_lcmp dX12_copy_117 (fun h117 => ?_) (fun h117 => ?_) (fun h117 => ?_)
                      · refine E_if_le (tgt := 127) dX12_copy_118 (by decide) (fun h118 => ?_) (fun h118 => ?_)
                        · refine E_iload_n dX12_copy_127 rfl ?_
                          refine E_iload dX12_copy_128 rfl ?_
                          refine E_icmp_lt (tgt := 137) dX12_copy_130 (by decide) (fun h130 => ?_) (fun h130 => ?_)
                          · refine E_iconst dX12_copy_137 (by decide) ?_
                            refine E_istore dX12_copy_138 rfl (by decide) ?_
                            try dsimp only [List.set]
                            refine E_iconst dX12_copy_140 (by decide) ?_
                            refine E_istore dX12_copy_141 rfl (by decide) ?_
                            try dsimp only [List.set]
                            obtain ⟨n, rfl⟩ := Int.eq_ofNat_of_zero_le (show 0 ≤ c by omega)
                            refine EV.post (fun x M' hq => ?_) (EV.deep (d := 0) (by omega) (EV.mq rfl (by rw [show ((0 : Nat) : Int) = 0 from rfl, mov_nil]; rfl) (l_copyD hO (a := a) (i := i) (b := b) (j := j) n (by omega) (by omega) (by omega) (by omega) (by omega) n 0 _ (by omega))))
                            obtain ⟨rfl, rfl⟩ := hq
                            refine ⟨?_, hF.j (fun b j hb => mov_ne _ (by omega)), ?_⟩
                            · congr 2; unfold s_copy; rw [if_pos (by omega), if_neg (by omega), if_neg (by omega), if_pos (by omega)]; try rfl
                            · unfold t_copy; rw [if_pos (by omega), if_neg (by omega), if_neg (by omega), if_pos (by omega)]; exact hV.mv (k := 3) (l := 3) (by omega) _ _ _ (fun _ _ _ _ => by unfold SA; omega)
                          · refine E_iconst dX12_copy_133 (by decide) ?_
                            refine E_goto (tgt := 138) dX12_copy_134 (by decide) ?_
                            refine E_istore dX12_copy_138 rfl (by decide) ?_
                            try dsimp only [List.set]
                            refine E_iconst dX12_copy_140 (by decide) ?_
                            refine E_istore dX12_copy_141 rfl (by decide) ?_
                            try dsimp only [List.set]
                            obtain ⟨n, rfl⟩ := Int.eq_ofNat_of_zero_le (show 0 ≤ c by omega)
                            refine EV.post (fun x M' hq => ?_) (EV.deep (d := 0) (by omega) (EV.mq rfl (by rw [show ((0 : Nat) : Int) = 0 from rfl, mov_nil]; rfl) (l_copyU hO (a := a) (i := i) (b := b) (j := j) n (by omega) (by omega) (by omega) (by omega) (by omega) n 0 _ (by omega))))
                            obtain ⟨rfl, rfl⟩ := hq
                            refine ⟨?_, hF.j (fun b j hb => mov_ne _ (by omega)), ?_⟩
                            · congr 2; unfold s_copy; rw [if_pos (by omega), if_neg (by omega), if_neg (by omega), if_pos (by omega)]; try rfl
                            · unfold t_copy; rw [if_pos (by omega), if_neg (by omega), if_neg (by omega), if_pos (by omega)]; exact hV.mv (k := 3) (l := 3) (by omega) _ _ _ (fun _ _ _ _ => by unfold SA; omega)
                        · exfalso; omega
                      · refine E_if_le (tgt := 127) dX12_copy_118 (by decide) (fun h118 => ?_) (fun h118 => ?_)
                        · refine E_iload_n dX12_copy_127 rfl ?_
                          refine E_iload dX12_copy_128 rfl ?_
                          refine E_icmp_lt (tgt := 137) dX12_copy_130 (by decide) (fun h130 => ?_) (fun h130 => ?_)
                          · refine E_iconst dX12_copy_137 (by decide) ?_
                            refine E_istore dX12_copy_138 rfl (by decide) ?_
                            try dsimp only [List.set]
                            refine E_iconst dX12_copy_140 (by decide) ?_
                            refine E_istore dX12_copy_141 rfl (by decide) ?_
                            try dsimp only [List.set]
                            obtain ⟨n, rfl⟩ := Int.eq_ofNat_of_zero_le (show 0 ≤ c by omega)
                            refine EV.post (fun x M' hq => ?_) (EV.deep (d := 0) (by omega) (EV.mq rfl (by rw [show ((0 : Nat) : Int) = 0 from rfl, mov_nil]; rfl) (l_copyD hO (a := a) (i := i) (b := b) (j := j) n (by omega) (by omega) (by omega) (by omega) (by omega) n 0 _ (by omega))))
                            obtain ⟨rfl, rfl⟩ := hq
                            refine ⟨?_, hF.j (fun b j hb => mov_ne _ (by omega)), ?_⟩
                            · congr 2; unfold s_copy; rw [if_pos (by omega), if_neg (by omega), if_neg (by omega), if_pos (by omega)]; try rfl
                            · unfold t_copy; rw [if_pos (by omega), if_neg (by omega), if_neg (by omega), if_pos (by omega)]; exact hV.mv (k := 3) (l := 3) (by omega) _ _ _ (fun _ _ _ _ => by unfold SA; omega)
                          · refine E_iconst dX12_copy_133 (by decide) ?_
                            refine E_goto (tgt := 138) dX12_copy_134 (by decide) ?_
                            refine E_istore dX12_copy_138 rfl (by decide) ?_
                            try dsimp only [List.set]
                            refine E_iconst dX12_copy_140 (by decide) ?_
                            refine E_istore dX12_copy_141 rfl (by decide) ?_
                            try dsimp only [List.set]
                            obtain ⟨n, rfl⟩ := Int.eq_ofNat_of_zero_le (show 0 ≤ c by omega)
                            refine EV.post (fun x M' hq => ?_) (EV.deep (d := 0) (by omega) (EV.mq rfl (by rw [show ((0 : Nat) : Int) = 0 from rfl, mov_nil]; rfl) (l_copyU hO (a := a) (i := i) (b := b) (j := j) n (by omega) (by omega) (by omega) (by omega) (by omega) n 0 _ (by omega))))
                            obtain ⟨rfl, rfl⟩ := hq
                            refine ⟨?_, hF.j (fun b j hb => mov_ne _ (by omega)), ?_⟩
                            · congr 2; unfold s_copy; rw [if_pos (by omega), if_neg (by omega), if_neg (by omega), if_pos (by omega)]; try rfl
                            · unfold t_copy; rw [if_pos (by omega), if_neg (by omega), if_neg (by omega), if_pos (by omega)]; exact hV.mv (k := 3) (l := 3) (by omega) _ _ _ (fun _ _ _ _ => by unfold SA; omega)
                        · exfalso; omega
                      · refine E_if_le (tgt := 127) dX12_copy_118 (by decide) (fun h118 => ?_) (fun h118 => ?_)
                        · exfalso; omega
                        · refine E_aload_n dX12_copy_121 rfl ?_
                          refine E_iconst dX12_copy_122 (by decide) ?_
                          refine i_X12_74 rfl dX12_copy_123 (by exact hO.o) (c_finding hO.o (by omega) (by omega)) (by omega) (Nat.le_of_ble_eq_true rfl) rfl rfl ?_
                          rintro _ _ ⟨rfl, rfl⟩
                          try dsimp only [pu]
                          refine E_iret dX12_copy_126 rfl ?_
                          refine ⟨?_, (hF.w (b := m) (by omega) 1 2), ?_⟩
                          · congr 2; unfold s_copy; rw [if_pos (by omega), if_neg (by omega), if_neg (by omega), if_neg (by omega)]; try rfl
                          · unfold t_copy; rw [if_pos (by omega), if_neg (by omega), if_neg (by omega), if_neg (by omega)]; exact (hV.up0 1 2)
                  · refine E_if_gt (tgt := 121) dX12_copy_100 (by decide) (fun h100 => ?_) (fun h100 => ?_)
                    · refine E_aload_n dX12_copy_121 rfl ?_
                      refine E_iconst dX12_copy_122 (by decide) ?_
                      refine i_X12_74 rfl dX12_copy_123 (by exact hO.o) (c_finding hO.o (by omega) (by omega)) (by omega) (Nat.le_of_ble_eq_true rfl) rfl rfl ?_
                      rintro _ _ ⟨rfl, rfl⟩
                      try dsimp only [pu]
                      refine E_iret dX12_copy_126 rfl ?_
                      refine ⟨?_, (hF.w (b := m) (by omega) 1 2), ?_⟩
                      · congr 2; unfold s_copy; rw [if_pos (by omega), if_neg (by omega), if_neg (by omega), if_neg (by omega)]; try rfl
                      · unfold t_copy; rw [if_pos (by omega), if_neg (by omega), if_neg (by omega), if_neg (by omega)]; exact (hV.up0 1 2)
                    · exfalso; omega
          · refine E_aload_n dX12_copy_66 rfl ?_
            refine E_iconst dX12_copy_67 (by decide) ?_
            refine i_X12_74 rfl dX12_copy_68 (by exact hO.o) (c_finding hO.o (by omega) (by omega)) (by omega) (Nat.le_of_ble_eq_true rfl) rfl rfl ?_
            rintro _ _ ⟨rfl, rfl⟩
            try dsimp only [pu]
            refine E_iret dX12_copy_71 rfl ?_
            refine ⟨?_, (hF.w (b := m) (by omega) 1 5), ?_⟩
            · congr 2; unfold s_copy; rw [if_pos (by omega), if_neg (by omega), if_pos (by omega)]; try rfl
            · unfold t_copy; rw [if_pos (by omega), if_neg (by omega), if_pos (by omega)]; exact (hV.up0 1 5)
        · refine E_aload_n dX12_copy_45 rfl ?_
          refine E_iconst dX12_copy_46 (by decide) ?_
          refine i_X12_74 rfl dX12_copy_47 (by exact hO.o) (c_finding hO.o (by omega) (by omega)) (by omega) (Nat.le_of_ble_eq_true rfl) rfl rfl ?_
          rintro _ _ ⟨rfl, rfl⟩
          try dsimp only [pu]
          refine E_iret dX12_copy_50 rfl ?_
          refine ⟨?_, (hF.w (b := m) (by omega) 1 1), ?_⟩
          · congr 2; unfold s_copy; rw [if_pos (by omega), if_pos (by omega)]; try rfl
          · unfold t_copy; rw [if_pos (by omega), if_pos (by omega)]; exact (hV.up0 1 1)
    · simp only [tB0, ne_eq, Bool.not_eq_false, Bool.not_eq_true, decide_eq_true_eq, decide_eq_false_iff_not, Classical.not_not] at h16
      refine c_X12_73 rfl dX12_copy_19 ?_
      refine E_iret dX12_copy_21 rfl ?_
      refine ⟨?_, hF, ?_⟩
      · congr 2; unfold s_copy; rw [if_neg (by omega)]; try rfl
      · unfold t_copy; rw [if_neg (by omega)]; exact hV
set_option maxRecDepth 20000 in
set_option maxHeartbeats 3000000 in
theorem r_take {G : Ctx} {M : Mem} {m : Nat} {A : AS} {B : Int} (hO : MO M m) (hV : MA (mI M) m A) (hG : GA A B) (hB : B ≤ 900000) {p : Int} : CT G m_X12_take 2 0 0 [vR m, vI p] M (rM M m (s_take A p) (t_take A p)) := by
  refine CT.of k_X12_take 1 (ls := [some (vR m), some (vI p), none]) rfl (Nat.le_of_ble_eq_true rfl) ?_
  refine E_aload_n dX12_take_0 rfl ?_
  refine E_iconst dX12_take_1 (by decide) ?_
  refine p_X12_53 rfl dX12_take_2 hO.o ?_
  obtain ⟨M1, e1, hO, hV, hF⟩ := thr hO hV
  refine EV.mq rfl e1.symm ?_
  clear e1
  have hQ := hV.mc
  have hW := hG.w.c
  have hpn := hW.pn
  have hl8 := hW.ln
  have hr8 := hW.rn
  have hgg := hG.w.g
  have hth := hG.th
  refine E_aload_n dX12_take_5 rfl ?_
  refine E_iload_n dX12_take_6 rfl ?_
  refine i_X12_215 rfl dX12_take_7 (by exact hO.o) (c_mIsPiece hO hQ hW) (by omega) (Nat.le_of_ble_eq_true rfl) rfl rfl ?_
  rintro _ _ ⟨rfl, rfl⟩
  try dsimp only [pu]
  refine E_if_ne (tgt := 16) dX12_take_10 (by decide) (fun h10 => ?_) (fun h10 => ?_)
  · simp only [tB0, ne_eq, Bool.not_eq_false, Bool.not_eq_true, decide_eq_true_eq, decide_eq_false_iff_not, Classical.not_not] at h10
    refine E_aload_n dX12_take_16 rfl ?_
    refine E_iload_n dX12_take_17 rfl ?_
    refine E_iconst dX12_take_18 (by decide) ?_
    refine i_X12_202 rfl dX12_take_19 (by exact hO.o) (c_of hO hQ (j := 88 + 6 * p) (by omega) (by omega) (by omega)) (by omega) (Nat.le_of_ble_eq_true rfl) rfl rfl ?_
    rintro _ _ ⟨rfl, rfl⟩
    try dsimp only [pu]
    refine E_istore_n dX12_take_22 rfl (by decide) ?_
    try dsimp only [List.set]
    refine E_iload_n dX12_take_23 rfl ?_
    refine c_X12_89 rfl dX12_take_24 ?_
    refine E_icmp_ne (tgt := 32) dX12_take_26 (by decide) (fun h26 => ?_) (fun h26 => ?_)
    · refine E_aload_n dX12_take_32 rfl ?_
      refine g_X12_19 rfl dX12_take_33 hO.o hO.court ?_
      refine E_bipush dX12_take_36 (by decide) ?_
      refine E_bipush dX12_take_38 (by decide) ?_
      refine E_iload_n dX12_take_40 rfl ?_
      refine E_imul dX12_take_41 (by omega) (by omega) ?_
      refine E_iadd dX12_take_42 (by omega) (by omega) ?_
      refine E_iconst dX12_take_43 (by decide) ?_
      refine E_iadd dX12_take_44 (by omega) (by omega) ?_
      refine c_X12_89 rfl dX12_take_45 ?_
      refine E_iast dX12_take_47 hO.s_court (by omega) (by omega) ?_
      refine E_iload_n dX12_take_48 rfl ?_
      refine E_iret dX12_take_49 rfl ?_
      refine ⟨?_, hF.w (by omega) _ _, ?_⟩
      · congr 2; unfold s_take cHu; rw [if_pos (by omega), if_neg (by omega)]
      · unfold t_take cHu; rw [if_pos (by omega), if_neg (by omega), show 88 + 6 * p = 84 + 6 * p + 4 by omega]; exact hV.up (k := 4) (by omega) _ _
    · refine c_X12_208 rfl dX12_take_29 ?_
      refine E_iret dX12_take_31 rfl ?_
      refine ⟨?_, hF, ?_⟩
      · congr 2; unfold s_take cHu; rw [if_pos (by omega), if_pos (by omega)]
      · unfold t_take cHu; rw [if_pos (by omega), if_pos (by omega)]; exact hV
  · simp only [tB0, ne_eq, Bool.not_eq_false, Bool.not_eq_true, decide_eq_true_eq, decide_eq_false_iff_not, Classical.not_not] at h10
    refine c_X12_73 rfl dX12_take_13 ?_
    refine E_iret dX12_take_15 rfl ?_
    refine ⟨?_, hF, ?_⟩
    · congr 2; unfold s_take; rw [if_neg (by omega)]; try rfl
    · unfold t_take; rw [if_neg (by omega)]; exact hV
set_option maxRecDepth 20000 in
set_option maxHeartbeats 3000000 in
theorem r_piece {G : Ctx} {M : Mem} {m : Nat} {A : AS} {B : Int} (hO : MO M m) (hV : MA (mI M) m A) (hG : GA A B) (hB : B ≤ 900000) {p w : Int} : CT G m_X12_piece 2 0 0 [vR m, vI p, vI w] M (rM M m (s_piece A p w) A) := by
  refine CT.of k_X12_piece 0 (ls := [some (vR m), some (vI p), some (vI w)]) rfl (Nat.le_of_ble_eq_true rfl) ?_
  refine E_aload_n dX12_piece_0 rfl ?_
  refine E_iconst dX12_piece_1 (by decide) ?_
  refine p_X12_53 rfl dX12_piece_2 hO.o ?_
  obtain ⟨M1, e1, hO, hV, hF⟩ := thr hO hV
  refine EV.mq rfl e1.symm ?_
  clear e1
  have hQ := hV.mc
  have hW := hG.w.c
  have hpn := hW.pn
  have hl8 := hW.ln
  have hr8 := hW.rn
  have hgg := hG.w.g
  have hth := hG.th
  refine E_aload_n dX12_piece_5 rfl ?_
  refine E_iload_n dX12_piece_6 rfl ?_
  refine i_X12_215 rfl dX12_piece_7 (by exact hO.o) (c_mIsPiece hO hQ hW) (by omega) (Nat.le_of_ble_eq_true rfl) rfl rfl ?_
  rintro _ _ ⟨rfl, rfl⟩
  try dsimp only [pu]
  refine E_if_eq (tgt := 25) dX12_piece_10 (by decide) (fun h10 => ?_) (fun h10 => ?_)
  · simp only [tB0, ne_eq, Bool.not_eq_false, Bool.not_eq_true, decide_eq_true_eq, decide_eq_false_iff_not, Classical.not_not] at h10
    refine c_X12_73 rfl dX12_piece_25 ?_
    refine E_iret dX12_piece_27 rfl ?_
    refine ⟨?_, hF, hV⟩
    congr 2; unfold s_piece; rw [if_neg (by omega)]
  · simp only [tB0, ne_eq, Bool.not_eq_false, Bool.not_eq_true, decide_eq_true_eq, decide_eq_false_iff_not, Classical.not_not] at h10
    refine E_iload_n dX12_piece_13 rfl ?_
    refine E_i2l dX12_piece_14 ?_
    refine E_lconst (x := 0) dX12_piece_15 (by decide) ?_
    refine c_X12_250 rfl dX12_piece_16 ?_
    refine i_X12_63 rfl dX12_piece_19 c_in (by omega) (Nat.le_of_ble_eq_true rfl) rfl rfl ?_
    rintro _ _ ⟨rfl, rfl⟩
    try dsimp only [pu]
    refine E_if_ne (tgt := 28) dX12_piece_22 (by decide) (fun h22 => ?_) (fun h22 => ?_)
    · simp only [tB0, ne_eq, Bool.not_eq_false, Bool.not_eq_true, decide_eq_true_eq, decide_eq_false_iff_not, Classical.not_not] at h22
      refine E_aload_n dX12_piece_28 rfl ?_
      refine E_iload_n dX12_piece_29 rfl ?_
      refine E_iload_n dX12_piece_30 rfl ?_
      refine E_if_ne (tgt := 38) dX12_piece_31 (by decide) (fun h31 => ?_) (fun h31 => ?_)
      · refine E_iload_n dX12_piece_38 rfl ?_
        refine E_iconst dX12_piece_39 (by decide) ?_
        refine E_icmp_ne (tgt := 47) dX12_piece_40 (by decide) (fun h40 => ?_) (fun h40 => ?_)
        · refine E_iload_n dX12_piece_47 rfl ?_
          refine E_iconst dX12_piece_48 (by decide) ?_
          refine E_icmp_ne (tgt := 56) dX12_piece_49 (by decide) (fun h49 => ?_) (fun h49 => ?_)
          · refine E_iload_n dX12_piece_56 rfl ?_
            refine E_iconst dX12_piece_57 (by decide) ?_
            refine E_icmp_ne (tgt := 65) dX12_piece_58 (by decide) (fun h58 => ?_) (fun h58 => ?_)
            · refine E_iconst dX12_piece_65 (by decide) ?_
              refine i_X12_202 rfl dX12_piece_66 (by exact hO.o) (c_of hO hQ rfl (by omega) (by omega)) (by omega) (Nat.le_of_ble_eq_true rfl) rfl rfl ?_
              rintro _ _ ⟨rfl, rfl⟩
              try dsimp only [pu]
              refine E_iret dX12_piece_69 rfl ?_
              refine ⟨?_, hF, hV⟩
              congr 2; unfold s_piece cWe cHu cSn; rw [if_pos (by omega), if_neg (by omega), if_neg (by omega), if_neg (by omega), if_neg (by omega)]; congr 1; omega
            · refine E_iconst dX12_piece_61 (by decide) ?_
              refine E_goto (tgt := 66) dX12_piece_62 (by decide) ?_
              refine i_X12_202 rfl dX12_piece_66 (by exact hO.o) (c_of hO hQ rfl (by omega) (by omega)) (by omega) (Nat.le_of_ble_eq_true rfl) rfl rfl ?_
              rintro _ _ ⟨rfl, rfl⟩
              try dsimp only [pu]
              refine E_iret dX12_piece_69 rfl ?_
              refine ⟨?_, hF, hV⟩
              congr 2; unfold s_piece cWe cHu cSn; rw [if_pos (by omega), if_neg (by omega), if_neg (by omega), if_neg (by omega), if_pos (by omega)]; congr 1; omega
          · refine E_iconst dX12_piece_52 (by decide) ?_
            refine E_goto (tgt := 66) dX12_piece_53 (by decide) ?_
            refine i_X12_202 rfl dX12_piece_66 (by exact hO.o) (c_of hO hQ rfl (by omega) (by omega)) (by omega) (Nat.le_of_ble_eq_true rfl) rfl rfl ?_
            rintro _ _ ⟨rfl, rfl⟩
            try dsimp only [pu]
            refine E_iret dX12_piece_69 rfl ?_
            refine ⟨?_, hF, hV⟩
            congr 2; unfold s_piece cWe cHu cSn; rw [if_pos (by omega), if_neg (by omega), if_neg (by omega), if_pos (by omega)]; congr 1; omega
        · refine E_iconst dX12_piece_43 (by decide) ?_
          refine E_goto (tgt := 66) dX12_piece_44 (by decide) ?_
          refine i_X12_202 rfl dX12_piece_66 (by exact hO.o) (c_of hO hQ rfl (by omega) (by omega)) (by omega) (Nat.le_of_ble_eq_true rfl) rfl rfl ?_
          rintro _ _ ⟨rfl, rfl⟩
          try dsimp only [pu]
          refine E_iret dX12_piece_69 rfl ?_
          refine ⟨?_, hF, hV⟩
          congr 2; unfold s_piece cWe cHu cSn; rw [if_pos (by omega), if_neg (by omega), if_pos (by omega)]; congr 1; omega
      · refine E_iconst dX12_piece_34 (by decide) ?_
        refine E_goto (tgt := 66) dX12_piece_35 (by decide) ?_
        refine i_X12_202 rfl dX12_piece_66 (by exact hO.o) (c_of hO hQ rfl (by omega) (by omega)) (by omega) (Nat.le_of_ble_eq_true rfl) rfl rfl ?_
        rintro _ _ ⟨rfl, rfl⟩
        try dsimp only [pu]
        refine E_iret dX12_piece_69 rfl ?_
        refine ⟨?_, hF, hV⟩
        congr 2; unfold s_piece cWe cHu cSn; rw [if_pos (by omega), if_pos (by omega)]; congr 1; omega
    · simp only [tB0, ne_eq, Bool.not_eq_false, Bool.not_eq_true, decide_eq_true_eq, decide_eq_false_iff_not, Classical.not_not] at h22
      refine c_X12_73 rfl dX12_piece_25 ?_
      refine E_iret dX12_piece_27 rfl ?_
      refine ⟨?_, hF, hV⟩
      congr 2; unfold s_piece; rw [if_neg (by omega)]
set_option maxRecDepth 20000 in
set_option maxHeartbeats 3000000 in
theorem r_kind {G : Ctx} {M : Mem} {m : Nat} {A : AS} {B : Int} (hO : MO M m) (hV : MA (mI M) m A) (hG : GA A B) (hB : B ≤ 900000) {p : Int} : CT G m_X12_kind 2 0 0 [vR m, vI p] M (rM M m (s_kind A p) (A)) := by
  refine CT.of k_X12_kind 0 (ls := [some (vR m), some (vI p)]) rfl (Nat.le_of_ble_eq_true rfl) ?_
  refine E_aload_n dX12_kind_0 rfl ?_
  refine E_iconst dX12_kind_1 (by decide) ?_
  refine p_X12_53 rfl dX12_kind_2 hO.o ?_
  obtain ⟨M1, e1, hO, hV, hF⟩ := thr hO hV
  refine EV.mq rfl e1.symm ?_
  clear e1
  have hQ := hV.mc
  have hW := hG.w.c
  have hpn := hW.pn
  have hl8 := hW.ln
  have hr8 := hW.rn
  have hgg := hG.w.g
  have hth := hG.th
  refine E_aload_n dX12_kind_5 rfl ?_
  refine E_iload_n dX12_kind_6 rfl ?_
  refine i_X12_215 rfl dX12_kind_7 (by exact hO.o) (c_mIsPiece hO hQ hW) (by omega) (Nat.le_of_ble_eq_true rfl) rfl rfl ?_
  rintro _ _ ⟨rfl, rfl⟩
  try dsimp only [pu]
  refine E_if_eq (tgt := 22) dX12_kind_10 (by decide) (fun h10 => ?_) (fun h10 => ?_)
  · simp only [tB0, ne_eq, Bool.not_eq_false, Bool.not_eq_true, decide_eq_true_eq, decide_eq_false_iff_not, Classical.not_not] at h10
    refine c_X12_73 rfl dX12_kind_22 ?_
    refine E_iret dX12_kind_24 rfl ?_
    refine ⟨?_, hF, hV⟩
    congr 2; unfold s_kind; rw [if_neg (by omega)]
  · simp only [tB0, ne_eq, Bool.not_eq_false, Bool.not_eq_true, decide_eq_true_eq, decide_eq_false_iff_not, Classical.not_not] at h10
    refine E_aload_n dX12_kind_13 rfl ?_
    refine E_iload_n dX12_kind_14 rfl ?_
    refine E_iconst dX12_kind_15 (by decide) ?_
    refine i_X12_202 rfl dX12_kind_16 (by exact hO.o) (c_of hO hQ (j := 84 + 6 * p) (by omega) (by omega) (by omega)) (by omega) (Nat.le_of_ble_eq_true rfl) rfl rfl ?_
    rintro _ _ ⟨rfl, rfl⟩
    try dsimp only [pu]
    refine E_goto (tgt := 24) dX12_kind_19 (by decide) ?_
    refine E_iret dX12_kind_24 rfl ?_
    refine ⟨?_, hF, hV⟩
    congr 2; unfold s_kind; rw [if_pos (by omega)]
set_option maxRecDepth 20000 in
set_option maxHeartbeats 3000000 in
theorem r_sun {G : Ctx} {M : Mem} {m : Nat} {A : AS} {B : Int} (hO : MO M m) (hV : MA (mI M) m A) (hG : GA A B) (hB : B ≤ 900000) {l h : Int} : CT G m_X12_sun 3 0 0 [vR m, vI l, vI h] M (rM M m (s_sun A l h) (A)) := by
  refine CT.of k_X12_sun 0 (ls := [some (vR m), some (vI l), some (vI h)]) rfl (Nat.le_of_ble_eq_true rfl) ?_
  refine E_aload_n dX12_sun_0 rfl ?_
  refine E_iconst dX12_sun_1 (by decide) ?_
  refine p_X12_53 rfl dX12_sun_2 hO.o ?_
  obtain ⟨M1, e1, hO, hV, hF⟩ := thr hO hV
  refine EV.mq rfl e1.symm ?_
  clear e1
  have hQ := hV.mc
  have hW := hG.w.c
  have hpn := hW.pn
  have hl8 := hW.ln
  have hr8 := hW.rn
  have hgg := hG.w.g
  have hth := hG.th
  refine E_aload_n dX12_sun_5 rfl ?_
  refine E_iload_n dX12_sun_6 rfl ?_
  refine i_X12_218 rfl dX12_sun_7 (by exact hO.o) (c_mIsLine hO hQ hW) (by omega) (Nat.le_of_ble_eq_true rfl) rfl rfl ?_
  rintro _ _ ⟨rfl, rfl⟩
  try dsimp only [pu]
  refine E_if_eq (tgt := 37) dX12_sun_10 (by decide) (fun h10 => ?_) (fun h10 => ?_)
  · simp only [tB0, ne_eq, Bool.not_eq_false, Bool.not_eq_true, decide_eq_true_eq, decide_eq_false_iff_not, Classical.not_not] at h10
    refine c_X12_73 rfl dX12_sun_37 ?_
    refine E_iret dX12_sun_39 rfl ?_
    refine ⟨?_, hF, hV⟩
    congr 2; unfold s_sun; rw [if_neg (by omega)]
  · simp only [tB0, ne_eq, Bool.not_eq_false, Bool.not_eq_true, decide_eq_true_eq, decide_eq_false_iff_not, Classical.not_not] at h10
    refine E_iload_n dX12_sun_13 rfl ?_
    refine E_i2l dX12_sun_14 ?_
    refine E_lconst (x := 0) dX12_sun_15 (by decide) ?_
    refine c_X12_263 rfl dX12_sun_16 ?_
    refine i_X12_63 rfl dX12_sun_19 c_in (by omega) (Nat.le_of_ble_eq_true rfl) rfl rfl ?_
    rintro _ _ ⟨rfl, rfl⟩
    try dsimp only [pu]
    refine E_if_eq (tgt := 37) dX12_sun_22 (by decide) (fun h22 => ?_) (fun h22 => ?_)
    · simp only [tB0, ne_eq, Bool.not_eq_false, Bool.not_eq_true, decide_eq_true_eq, decide_eq_false_iff_not, Classical.not_not] at h22
      refine c_X12_73 rfl dX12_sun_37 ?_
      refine E_iret dX12_sun_39 rfl ?_
      refine ⟨?_, hF, hV⟩
      congr 2; unfold s_sun; rw [if_neg (by omega)]
    · simp only [tB0, ne_eq, Bool.not_eq_false, Bool.not_eq_true, decide_eq_true_eq, decide_eq_false_iff_not, Classical.not_not] at h22
      refine E_aload_n dX12_sun_25 rfl ?_
      refine E_iload_n dX12_sun_26 rfl ?_
      refine E_iconst dX12_sun_27 (by decide) ?_
      refine E_bipush dX12_sun_28 (by decide) ?_
      refine E_iload_n dX12_sun_30 rfl ?_
      refine i_X12_267 rfl dX12_sun_31 (by exact hO.o) (c_sunsOf hO hQ hW (by omega) (by omega) (by omega) 24 (by omega) (by omega) (by omega) (by omega)) (by omega) (Nat.le_of_ble_eq_true rfl) rfl rfl ?_
      rintro _ _ ⟨rfl, rfl⟩
      try dsimp only [pu]
      refine E_goto (tgt := 39) dX12_sun_34 (by decide) ?_
      refine E_iret dX12_sun_39 rfl ?_
      refine ⟨?_, hF, hV⟩
      congr 2; unfold s_sun; rw [if_pos (by omega)]
set_option maxRecDepth 20000 in
set_option maxHeartbeats 3000000 in
theorem r_trace {G : Ctx} {M : Mem} {m : Nat} {A : AS} {B : Int} (hO : MO M m) (hV : MA (mI M) m A) (hG : GA A B) (hB : B ≤ 900000) {i : Int} : CT G m_X12_trace 1 0 0 [vR m, vI i] M (rM M m (s_trace A i) (A)) := by
  refine CT.of k_X12_trace 0 (ls := [some (vR m), some (vI i)]) rfl (Nat.le_of_ble_eq_true rfl) ?_
  refine E_aload_n dX12_trace_0 rfl ?_
  refine E_iconst dX12_trace_1 (by decide) ?_
  refine p_X12_53 rfl dX12_trace_2 hO.o ?_
  obtain ⟨M1, e1, hO, hV, hF⟩ := thr hO hV
  refine EV.mq rfl e1.symm ?_
  clear e1
  have hQ := hV.mc
  have hW := hG.w.c
  have hpn := hW.pn
  have hl8 := hW.ln
  have hr8 := hW.rn
  have hgg := hG.w.g
  have hth := hG.th
  have htr := hG.tr
  refine E_iload_n dX12_trace_5 rfl ?_
  refine E_i2l dX12_trace_6 ?_
  refine E_lconst (x := 0) dX12_trace_7 (by decide) ?_
  refine E_aload_n dX12_trace_8 rfl ?_
  refine g_X12_291 rfl dX12_trace_9 hO.o (hV.2 27 (by unfold SJ; omega)) ?_
  refine E_iconst dX12_trace_12 (by decide) ?_
  refine E_isub dX12_trace_13 (by omega) (by omega) ?_
  refine E_i2l dX12_trace_14 ?_
  refine i_X12_63 rfl dX12_trace_15 c_in (by omega) (Nat.le_of_ble_eq_true rfl) rfl rfl ?_
  rintro _ _ ⟨rfl, rfl⟩
  try dsimp only [pu]
  refine E_if_eq (tgt := 30) dX12_trace_18 (by decide) (fun h18 => ?_) (fun h18 => ?_)
  · simp only [tB0, ne_eq, Bool.not_eq_false, Bool.not_eq_true, decide_eq_true_eq, decide_eq_false_iff_not, Classical.not_not] at h18
    refine c_X12_89 rfl dX12_trace_30 ?_
    refine E_iret dX12_trace_32 rfl ?_
    refine ⟨?_, hF, hV⟩
    congr 2; unfold s_trace; rw [if_neg (by omega)]
  · simp only [tB0, ne_eq, Bool.not_eq_false, Bool.not_eq_true, decide_eq_true_eq, decide_eq_false_iff_not, Classical.not_not] at h18
    refine E_aload_n dX12_trace_21 rfl ?_
    refine g_X12_50 rfl dX12_trace_22 hO.o hO.trace ?_
    refine E_iload_n dX12_trace_25 rfl ?_
    refine E_iald dX12_trace_26 hO.s_trace (by omega) (by omega) (hV.1 14 _ (by unfold SA; omega)) ?_
    refine E_goto (tgt := 32) dX12_trace_27 (by decide) ?_
    refine E_iret dX12_trace_32 rfl ?_
    refine ⟨?_, hF, hV⟩
    congr 2; unfold s_trace; rw [if_pos (by omega)]
set_option maxRecDepth 20000 in
set_option maxHeartbeats 3000000 in
theorem r_line {G : Ctx} {M : Mem} {m : Nat} {A : AS} {B : Int} (hO : MO M m) (hV : MA (mI M) m A) (hG : GA A B) (hB : B ≤ 900000) {l w : Int} (n : Nat) (hn : A 4 2 = n) (rn : Nat) (hrn : A 4 1 = rn) : CT G m_X12_line 2 0 0 [vR m, vI l, vI w] M (rM M m (s_line A l w n rn) (A)) := by
  refine CT.of k_X12_line 0 (ls := [some (vR m), some (vI l), some (vI w)]) rfl (Nat.le_of_ble_eq_true rfl) ?_
  refine E_aload_n dX12_line_0 rfl ?_
  refine E_iconst dX12_line_1 (by decide) ?_
  refine p_X12_53 rfl dX12_line_2 hO.o ?_
  obtain ⟨M1, e1, hO, hV, hF⟩ := thr hO hV
  refine EV.mq rfl e1.symm ?_
  clear e1
  have hQ := hV.mc
  have hW := hG.w.c
  have hpn := hW.pn
  have hl8 := hW.ln
  have hr8 := hW.rn
  have hgg := hG.w.g
  have hth := hG.th
  refine E_aload_n dX12_line_5 rfl ?_
  refine E_iload_n dX12_line_6 rfl ?_
  refine i_X12_218 rfl dX12_line_7 (by exact hO.o) (c_mIsLine hO hQ hW) (by omega) (Nat.le_of_ble_eq_true rfl) rfl rfl ?_
  rintro _ _ ⟨rfl, rfl⟩
  try dsimp only [pu]
  refine E_if_eq (tgt := 25) dX12_line_10 (by decide) (fun h10 => ?_) (fun h10 => ?_)
  · simp only [tB0, ne_eq, Bool.not_eq_false, Bool.not_eq_true, decide_eq_true_eq, decide_eq_false_iff_not, Classical.not_not] at h10
    refine c_X12_73 rfl dX12_line_25 ?_
    refine E_iret dX12_line_27 rfl ?_
    refine ⟨?_, hF, hV⟩
    congr 2; unfold s_line; rw [if_neg (by omega)]
  · simp only [tB0, ne_eq, Bool.not_eq_false, Bool.not_eq_true, decide_eq_true_eq, decide_eq_false_iff_not, Classical.not_not] at h10
    refine E_iload_n dX12_line_13 rfl ?_
    refine E_i2l dX12_line_14 ?_
    refine E_lconst (x := 0) dX12_line_15 (by decide) ?_
    refine c_X12_252 rfl dX12_line_16 ?_
    refine i_X12_63 rfl dX12_line_19 c_in (by omega) (Nat.le_of_ble_eq_true rfl) rfl rfl ?_
    rintro _ _ ⟨rfl, rfl⟩
    try dsimp only [pu]
    refine E_if_ne (tgt := 28) dX12_line_22 (by decide) (fun h22 => ?_) (fun h22 => ?_)
    · simp only [tB0, ne_eq, Bool.not_eq_false, Bool.not_eq_true, decide_eq_true_eq, decide_eq_false_iff_not, Classical.not_not] at h22
      refine E_iload_n dX12_line_28 rfl ?_
      refine E_iconst dX12_line_29 (by decide) ?_
      refine E_icmp_ge (tgt := 49) dX12_line_30 (by decide) (fun h30 => ?_) (fun h30 => ?_)
      · refine E_iload_n dX12_line_49 rfl ?_
        refine E_iconst dX12_line_50 (by decide) ?_
        refine E_icmp_ne (tgt := 62) dX12_line_51 (by decide) (fun h51 => ?_) (fun h51 => ?_)
        · refine E_iload_n dX12_line_62 rfl ?_
          refine E_iconst dX12_line_63 (by decide) ?_
          refine E_icmp_ne (tgt := 75) dX12_line_64 (by decide) (fun h64 => ?_) (fun h64 => ?_)
          · refine E_aload_n dX12_line_75 rfl ?_
            refine E_iload_n dX12_line_76 rfl ?_
            refine i_X12_237 rfl dX12_line_77 (by exact hO.o) (c_below hO hQ hW (by omega) (by omega)) (by omega) (Nat.le_of_ble_eq_true rfl) rfl rfl ?_
            rintro _ _ ⟨rfl, rfl⟩
            try dsimp only [pu]
            refine E_iret dX12_line_80 rfl ?_
            refine ⟨?_, hF, hV⟩
            congr 2; unfold s_line; rw [if_pos (by omega), if_neg (by omega), if_neg (by omega), if_neg (by omega)]
          · refine E_aload_n dX12_line_67 rfl ?_
            refine E_iload_n dX12_line_68 rfl ?_
            refine i_X12_205 rfl dX12_line_69 (by exact hO.o) (c_rightsTo hO hQ hW (by omega) (by omega) rn hrn) (by omega) (Nat.le_of_ble_eq_true rfl) rfl rfl ?_
            rintro _ _ ⟨rfl, rfl⟩
            try dsimp only [pu]
            refine E_goto (tgt := 80) dX12_line_72 (by decide) ?_
            refine E_iret dX12_line_80 rfl ?_
            refine ⟨?_, hF, hV⟩
            congr 2; unfold s_line; rw [if_pos (by omega), if_neg (by omega), if_neg (by omega), if_pos (by omega)]
        · refine E_aload_n dX12_line_54 rfl ?_
          refine E_iload_n dX12_line_55 rfl ?_
          refine i_X12_254 rfl dX12_line_56 (by exact hO.o) (c_hangOn hO hQ hW n hn) (by omega) (Nat.le_of_ble_eq_true rfl) rfl rfl ?_
          rintro _ _ ⟨rfl, rfl⟩
          try dsimp only [pu]
          refine E_goto (tgt := 80) dX12_line_59 (by decide) ?_
          refine E_iret dX12_line_80 rfl ?_
          refine ⟨?_, hF, hV⟩
          congr 2; unfold s_line; rw [if_pos (by omega), if_neg (by omega), if_pos (by omega)]
      · refine E_aload_n dX12_line_33 rfl ?_
        refine g_X12_19 rfl dX12_line_34 hO.o hO.court ?_
        refine E_bipush dX12_line_37 (by decide) ?_
        refine E_iconst dX12_line_39 (by decide) ?_
        refine E_iload_n dX12_line_40 rfl ?_
        refine E_imul dX12_line_41 (by omega) (by omega) ?_
        refine E_iadd dX12_line_42 (by omega) (by omega) ?_
        refine E_iload_n dX12_line_43 rfl ?_
        refine E_iadd dX12_line_44 (by omega) (by omega) ?_
        refine E_iald dX12_line_45 hO.s_court (by omega) (by omega) (hQ.at (j := 28 + 3 * l + w) (by omega) (by omega) (by omega)) ?_
        refine E_goto (tgt := 80) dX12_line_46 (by decide) ?_
        refine E_iret dX12_line_80 rfl ?_
        refine ⟨?_, hF, hV⟩
        congr 2; unfold s_line; rw [if_pos (by omega), if_pos (by omega)]
    · simp only [tB0, ne_eq, Bool.not_eq_false, Bool.not_eq_true, decide_eq_true_eq, decide_eq_false_iff_not, Classical.not_not] at h22
      refine c_X12_73 rfl dX12_line_25 ?_
      refine E_iret dX12_line_27 rfl ?_
      refine ⟨?_, hF, hV⟩
      congr 2; unfold s_line; rw [if_neg (by omega)]
