set_option maxRecDepth 20000 in
set_option maxHeartbeats 3000000 in
theorem l_rc0 {G : Ctx} {M : Mem} {m : Nat} (hO : MO M m) {w : Int} {f : Int → Int} (hf : ∀ j, mI M (m + 1) j = f j) : ∀ (k r : Nat) , r + k = 8 → EV G m_X12_count 1 0 0 (rI M (cnt (fun r => decide (0 ≤ f r)) 8)) 58 [some (vR m), some (vI w), some (vI (cnt (fun r => decide (0 ≤ f r)) r)), some (vI (r : Int))] [] M := by
  intro k
  induction k with
  | zero =>
    intro r  hr
    obtain rfl : r = 8 := by omega
    refine E_iload_n dX12_count_58 rfl ?_
    refine E_bipush dX12_count_59 (by decide) ?_
    refine E_icmp_ge (tgt := 87) dX12_count_61 (by decide) (fun h61 => ?_) (fun h61 => ?_)
    · refine E_iload_n dX12_count_87 rfl ?_
      refine E_iret dX12_count_88 rfl ?_
      exact ⟨rfl, rfl⟩
    · exfalso; omega
  | succ k ih =>
    intro r  hr
    have hc := cnt_b (fun r => decide (0 ≤ f r)) r
    refine E_iload_n dX12_count_58 rfl ?_
    refine E_bipush dX12_count_59 (by decide) ?_
    refine E_icmp_ge (tgt := 87) dX12_count_61 (by decide) (fun h61 => ?_) (fun h61 => ?_)
    · exfalso; omega
    · refine E_iload_n dX12_count_64 rfl ?_
      refine E_aload_n dX12_count_65 rfl ?_
      refine g_X12_7 rfl dX12_count_66 hO.o hO.lane ?_
      refine E_iload_n dX12_count_69 rfl ?_
      refine E_iald dX12_count_70 hO.s_lane (by omega) (by omega) (hf _) ?_
      refine E_if_lt (tgt := 78) dX12_count_71 (by decide) (fun h71 => ?_) (fun h71 => ?_)
      · refine E_iconst dX12_count_78 (by decide) ?_
        refine E_iadd dX12_count_79 (by omega) (by omega) ?_
        refine E_istore_n dX12_count_80 rfl (by decide) ?_
        try dsimp only [List.set]
        refine E_iinc dX12_count_81 rfl (by omega) (by omega) (by decide) rfl (by decide) ?_
        try dsimp only [List.set]
        refine E_goto (tgt := 58) dX12_count_84 (by decide) ?_
        exact EV.lq (by simp only [cnt]; rw [decide_eq_false (by omega)]; rfl) (ih (r + 1) (by omega))
      · refine E_iconst dX12_count_74 (by decide) ?_
        refine E_goto (tgt := 79) dX12_count_75 (by decide) ?_
        refine E_iadd dX12_count_79 (by omega) (by omega) ?_
        refine E_istore_n dX12_count_80 rfl (by decide) ?_
        try dsimp only [List.set]
        refine E_iinc dX12_count_81 rfl (by omega) (by omega) (by decide) rfl (by decide) ?_
        try dsimp only [List.set]
        refine E_goto (tgt := 58) dX12_count_84 (by decide) ?_
        exact EV.lq (by simp only [cnt]; rw [decide_eq_true (by omega)]; rfl) (ih (r + 1) (by omega))
set_option maxRecDepth 20000 in
set_option maxHeartbeats 3000000 in
theorem l_rc4 {G : Ctx} {M : Mem} {m : Nat} {cd : CD} (hO : MO M m) (hQ : MC (mI M) m cd) (hW : WFc cd) {w : Int} (n : Nat) (hn : cd 2 = n) : ∀ (k r : Nat) , r + k = n → EV G m_X12_count 1 0 0 (rI M (cnt (fun p => decide (cHu cd p ≠ -1000000)) n)) 100 [some (vR m), some (vI w), some (vI (cnt (fun p => decide (cHu cd p ≠ -1000000)) r)), some (vI (r : Int))] [] M := by
  intro k
  induction k with
  | zero =>
    intro r  hr
    obtain rfl : r = n := by omega
    have hpn := hW.pn
    refine E_iload_n dX12_count_100 rfl ?_
    refine E_aload_n dX12_count_101 rfl ?_
    refine g_X12_19 rfl dX12_count_102 hO.o hO.court ?_
    refine E_iconst dX12_count_105 (by decide) ?_
    refine E_iald dX12_count_106 hO.s_court (by omega) (by omega) (hQ.at (j := 2) (by omega) (by omega) (by omega)) ?_
    refine E_icmp_ge (tgt := 135) dX12_count_107 (by decide) (fun h107 => ?_) (fun h107 => ?_)
    · refine E_iload_n dX12_count_135 rfl ?_
      refine E_iret dX12_count_136 rfl ?_
      exact ⟨rfl, rfl⟩
    · exfalso; omega
  | succ k ih =>
    intro r  hr
    have hpn := hW.pn
    have hc := cnt_b (fun p => decide (cHu cd p ≠ -1000000)) r
    refine E_iload_n dX12_count_100 rfl ?_
    refine E_aload_n dX12_count_101 rfl ?_
    refine g_X12_19 rfl dX12_count_102 hO.o hO.court ?_
    refine E_iconst dX12_count_105 (by decide) ?_
    refine E_iald dX12_count_106 hO.s_court (by omega) (by omega) (hQ.at (j := 2) (by omega) (by omega) (by omega)) ?_
    refine E_icmp_ge (tgt := 135) dX12_count_107 (by decide) (fun h107 => ?_) (fun h107 => ?_)
    · exfalso; omega
    · refine E_iload_n dX12_count_110 rfl ?_
      refine E_aload_n dX12_count_111 rfl ?_
      refine E_iload_n dX12_count_112 rfl ?_
      refine E_iconst dX12_count_113 (by decide) ?_
      refine i_X12_202 rfl dX12_count_114 (by exact hO.o) (c_of hO hQ (j := 88 + 6 * ↑r) (by omega) (by omega) (by omega)) (by omega) (Nat.le_of_ble_eq_true rfl) rfl rfl ?_
      rintro _ _ ⟨rfl, rfl⟩
      try dsimp only [pu]
      refine c_X12_89 rfl dX12_count_117 ?_
      refine E_icmp_eq (tgt := 126) dX12_count_119 (by decide) (fun h119 => ?_) (fun h119 => ?_)
      · refine E_iconst dX12_count_126 (by decide) ?_
        refine E_iadd dX12_count_127 (by omega) (by omega) ?_
        refine E_istore_n dX12_count_128 rfl (by decide) ?_
        try dsimp only [List.set]
        refine E_iinc dX12_count_129 rfl (by omega) (by omega) (by decide) rfl (by decide) ?_
        try dsimp only [List.set]
        refine E_goto (tgt := 100) dX12_count_132 (by decide) ?_
        exact EV.lq (by simp only [cnt]; rw [decide_eq_false (by unfold cHu; omega)]; rfl) (ih (r + 1) (by omega))
      · refine E_iconst dX12_count_122 (by decide) ?_
        refine E_goto (tgt := 127) dX12_count_123 (by decide) ?_
        refine E_iadd dX12_count_127 (by omega) (by omega) ?_
        refine E_istore_n dX12_count_128 rfl (by decide) ?_
        try dsimp only [List.set]
        refine E_iinc dX12_count_129 rfl (by omega) (by omega) (by decide) rfl (by decide) ?_
        try dsimp only [List.set]
        refine E_goto (tgt := 100) dX12_count_132 (by decide) ?_
        exact EV.lq (by simp only [cnt]; rw [decide_eq_true (by unfold cHu; omega)]; rfl) (ih (r + 1) (by omega))
theorem sSt_b {sn : Int → Int} : ∀ n : Nat, (∀ p : Int, 0 ≤ p → p < n → sn p = 0 ∨ sn p = 1) → 0 ≤ sSt sn n ∧ sSt sn n ≤ n
  | 0, _ => by simp [sSt]
  | n + 1, h => by
    have ih := sSt_b n (fun p p0 p1 => h p p0 (by omega))
    have h0 := h n (by omega) (by omega)
    simp only [sSt]; omega
theorem sSt_f {sn : Int → Int} : ∀ n : Nat, (∀ p : Int, 0 ≤ p → p < n → sn p = 0 ∨ sn p = 1) → fSt sn n = sSt sn n
  | 0, _ => rfl
  | n + 1, h => by
    have ih := sSt_f n (fun p p0 p1 => h p p0 (by omega))
    have h0 := h n (by omega) (by omega)
    simp only [sSt, fSt, ih]; split <;> omega
set_option maxRecDepth 20000 in
set_option maxHeartbeats 3000000 in
theorem l_rc5 {G : Ctx} {M : Mem} {m : Nat} {cd : CD} (hO : MO M m) (hQ : MC (mI M) m cd) (hW : WFc cd) {w : Int} (n : Nat) (hn : cd 2 = n) (hs : ∀ p : Int, 0 ≤ p → p < n → cSn cd p = 0 ∨ cSn cd p = 1) : ∀ (k r : Nat) , r + k = n → EV G m_X12_count 1 0 0 (rI M (sSt (cSn cd) n)) 139 [some (vR m), some (vI w), some (vI (sSt (cSn cd) r)), some (vI (r : Int))] [] M := by
  intro k
  induction k with
  | zero =>
    intro r  hr
    obtain rfl : r = n := by omega
    have hpn := hW.pn
    refine E_iload_n dX12_count_139 rfl ?_
    refine E_aload_n dX12_count_140 rfl ?_
    refine g_X12_19 rfl dX12_count_141 hO.o hO.court ?_
    refine E_iconst dX12_count_144 (by decide) ?_
    refine E_iald dX12_count_145 hO.s_court (by omega) (by omega) (hQ.at (j := 2) (by omega) (by omega) (by omega)) ?_
    refine E_icmp_ge (tgt := 164) dX12_count_146 (by decide) (fun h146 => ?_) (fun h146 => ?_)
    · refine E_iload_n dX12_count_164 rfl ?_
      refine E_iret dX12_count_165 rfl ?_
      exact ⟨rfl, rfl⟩
    · exfalso; omega
  | succ k ih =>
    intro r  hr
    have hpn := hW.pn
    have hc := sSt_b (sn := cSn cd) r (fun p p0 p1 => hs p p0 (by omega))
    have hz : cd (89 + 6 * r) = 0 ∨ cd (89 + 6 * r) = 1 := hs r (by omega) (by omega)
    refine E_iload_n dX12_count_139 rfl ?_
    refine E_aload_n dX12_count_140 rfl ?_
    refine g_X12_19 rfl dX12_count_141 hO.o hO.court ?_
    refine E_iconst dX12_count_144 (by decide) ?_
    refine E_iald dX12_count_145 hO.s_court (by omega) (by omega) (hQ.at (j := 2) (by omega) (by omega) (by omega)) ?_
    refine E_icmp_ge (tgt := 164) dX12_count_146 (by decide) (fun h146 => ?_) (fun h146 => ?_)
    · exfalso; omega
    · refine E_iload_n dX12_count_149 rfl ?_
      refine E_aload_n dX12_count_150 rfl ?_
      refine E_iload_n dX12_count_151 rfl ?_
      refine E_iconst dX12_count_152 (by decide) ?_
      refine i_X12_202 rfl dX12_count_153 (by exact hO.o) (c_of hO hQ (j := 89 + 6 * ↑r) (by omega) (by omega) (by omega)) (by omega) (Nat.le_of_ble_eq_true rfl) rfl rfl ?_
      rintro _ _ ⟨rfl, rfl⟩
      try dsimp only [pu]
      refine E_iadd dX12_count_156 (by omega) (by omega) ?_
      refine E_istore_n dX12_count_157 rfl (by decide) ?_
      try dsimp only [List.set]
      refine E_iinc dX12_count_158 rfl (by omega) (by omega) (by decide) rfl (by decide) ?_
      try dsimp only [List.set]
      refine E_goto (tgt := 139) dX12_count_161 (by decide) ?_
      exact EV.lq rfl (ih (r + 1) (by omega))
set_option maxRecDepth 20000 in
set_option maxHeartbeats 3000000 in
theorem r_count {G : Ctx} {M : Mem} {m : Nat} {A : AS} {B : Int} (hO : MO M m) (hV : MA (mI M) m A) (hG : GA A B) (hB : B ≤ 900000) {w : Int} (n : Nat) (hn : A 4 2 = n) : CT G m_X12_count 1 0 0 [vR m, vI w] M (rM M m (s_count A w n) A) := by
  refine CT.of k_X12_count 2 (ls := [some (vR m), some (vI w), none, none]) rfl (Nat.le_of_ble_eq_true rfl) ?_
  refine E_aload_n dX12_count_0 rfl ?_
  refine E_iconst dX12_count_1 (by decide) ?_
  refine p_X12_53 rfl dX12_count_2 hO.o ?_
  obtain ⟨M1, e1, hO, hV, hF⟩ := thr hO hV
  refine EV.mq rfl e1.symm ?_
  clear e1
  have hQ := hV.mc
  have hW := hG.w.c
  have hpn := hW.pn
  have hl8 := hW.ln
  have hr8 := hW.rn
  have hgg := hG.w.g
  have hth := hG.th
  refine E_iconst dX12_count_5 (by decide) ?_
  refine E_istore_n dX12_count_6 rfl (by decide) ?_
  try dsimp only [List.set]
  refine E_iload_n dX12_count_7 rfl ?_
  by_cases q8_0 : w = 0
  · refine E_tabIn (off := 48) (tgt := 56) dX12_count_8 (by omega) (by omega) (by rw [q8_0]; rfl) (by decide) ?_
    refine E_iconst dX12_count_56 (by decide) ?_
    refine E_istore_n dX12_count_57 rfl (by decide) ?_
    try dsimp only [List.set]
    refine EV.post (fun x M' hq => ?_) (l_rc0 hO (fun j => hV.1 1 j (by unfold SA; omega)) 8 0 (by omega))
    obtain ⟨rfl, rfl⟩ := hq
    refine ⟨?_, hF, hV⟩
    congr 2; unfold s_count; rw [if_pos (by omega), if_pos (by omega)]
  by_cases q8_1 : w = 1
  · refine E_tabIn (off := 81) (tgt := 89) dX12_count_8 (by omega) (by omega) (by rw [q8_1]; rfl) (by decide) ?_
    refine E_aload_n dX12_count_89 rfl ?_
    refine g_X12_19 rfl dX12_count_90 hO.o hO.court ?_
    refine E_iload_n dX12_count_93 rfl ?_
    refine E_iconst dX12_count_94 (by decide) ?_
    refine E_isub dX12_count_95 (by omega) (by omega) ?_
    refine E_iald dX12_count_96 hO.s_court (by omega) (by omega) (hQ.at (j := w - 1) (by omega) (by omega) (by omega)) ?_
    refine E_iret dX12_count_97 rfl ?_
    refine ⟨?_, hF, hV⟩
    congr 2; unfold s_count; rw [if_pos (by omega), if_neg (by omega), if_pos (by omega)]
  by_cases q8_2 : w = 2
  · refine E_tabIn (off := 81) (tgt := 89) dX12_count_8 (by omega) (by omega) (by rw [q8_2]; rfl) (by decide) ?_
    refine E_aload_n dX12_count_89 rfl ?_
    refine g_X12_19 rfl dX12_count_90 hO.o hO.court ?_
    refine E_iload_n dX12_count_93 rfl ?_
    refine E_iconst dX12_count_94 (by decide) ?_
    refine E_isub dX12_count_95 (by omega) (by omega) ?_
    refine E_iald dX12_count_96 hO.s_court (by omega) (by omega) (hQ.at (j := w - 1) (by omega) (by omega) (by omega)) ?_
    refine E_iret dX12_count_97 rfl ?_
    refine ⟨?_, hF, hV⟩
    congr 2; unfold s_count; rw [if_pos (by omega), if_neg (by omega), if_pos (by omega)]
  by_cases q8_3 : w = 3
  · refine E_tabIn (off := 81) (tgt := 89) dX12_count_8 (by omega) (by omega) (by rw [q8_3]; rfl) (by decide) ?_
    refine E_aload_n dX12_count_89 rfl ?_
    refine g_X12_19 rfl dX12_count_90 hO.o hO.court ?_
    refine E_iload_n dX12_count_93 rfl ?_
    refine E_iconst dX12_count_94 (by decide) ?_
    refine E_isub dX12_count_95 (by omega) (by omega) ?_
    refine E_iald dX12_count_96 hO.s_court (by omega) (by omega) (hQ.at (j := w - 1) (by omega) (by omega) (by omega)) ?_
    refine E_iret dX12_count_97 rfl ?_
    refine ⟨?_, hF, hV⟩
    congr 2; unfold s_count; rw [if_pos (by omega), if_neg (by omega), if_pos (by omega)]
  by_cases q8_4 : w = 4
  · refine E_tabIn (off := 90) (tgt := 98) dX12_count_8 (by omega) (by omega) (by rw [q8_4]; rfl) (by decide) ?_
    refine E_iconst dX12_count_98 (by decide) ?_
    refine E_istore_n dX12_count_99 rfl (by decide) ?_
    try dsimp only [List.set]
    refine EV.post (fun x M' hq => ?_) (l_rc4 hO hQ hW n hn n 0 (by omega))
    obtain ⟨rfl, rfl⟩ := hq
    refine ⟨?_, hF, hV⟩
    congr 2; unfold s_count; rw [if_pos (by omega), if_neg (by omega), if_neg (by omega), if_pos (by omega)]
  by_cases q8_5 : w = 5
  · refine E_tabIn (off := 129) (tgt := 137) dX12_count_8 (by omega) (by omega) (by rw [q8_5]; rfl) (by decide) ?_
    refine E_iconst dX12_count_137 (by decide) ?_
    refine E_istore_n dX12_count_138 rfl (by decide) ?_
    try dsimp only [List.set]
    refine EV.post (fun x M' hq => ?_) (l_rc5 hO hQ hW n hn (fun p p0 p1 => hG.w.sn p p0 (by omega)) n 0 (by omega))
    obtain ⟨rfl, rfl⟩ := hq
    refine ⟨?_, hF, hV⟩
    congr 2; unfold s_count; rw [if_pos (by omega), if_neg (by omega), if_neg (by omega), if_neg (by omega), if_pos (by omega)]
  by_cases q8_6 : w = 6
  · refine E_tabIn (off := 158) (tgt := 166) dX12_count_8 (by omega) (by omega) (by rw [q8_6]; rfl) (by decide) ?_
    refine E_aload_n dX12_count_166 rfl ?_
    refine g_X12_19 rfl dX12_count_167 hO.o hO.court ?_
    refine E_iconst dX12_count_170 (by decide) ?_
    refine E_iald dX12_count_171 hO.s_court (by omega) (by omega) (hQ.at (j := 3) (by omega) (by omega) (by omega)) ?_
    refine E_iret dX12_count_172 rfl ?_
    refine ⟨?_, hF, hV⟩
    congr 2; unfold s_count; rw [if_pos (by omega), if_neg (by omega), if_neg (by omega), if_neg (by omega), if_neg (by omega), if_pos (by omega)]
  by_cases q8_7 : w = 7
  · refine E_tabIn (off := 165) (tgt := 173) dX12_count_8 (by omega) (by omega) (by rw [q8_7]; rfl) (by decide) ?_
    refine E_aload_n dX12_count_173 rfl ?_
    refine g_X12_80 rfl dX12_count_174 hO.o (hV.2 9 (by unfold SJ; omega)) ?_
    refine E_iret dX12_count_177 rfl ?_
    refine ⟨?_, hF, hV⟩
    congr 2; unfold s_count; rw [if_pos (by omega), if_neg (by omega), if_neg (by omega), if_neg (by omega), if_neg (by omega), if_neg (by omega)]
  refine E_tabOut (tgt := 178) dX12_count_8 (by omega) (by decide) ?_
  refine c_X12_73 rfl dX12_count_178 ?_
  refine E_iret dX12_count_180 rfl ?_
  refine ⟨?_, hF, hV⟩
  congr 2; unfold s_count; rw [if_neg (by omega)]
