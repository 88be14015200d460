/-! ===== 24: the reference: a quarter ===== -/
set_option maxRecDepth 20000 in
set_option maxHeartbeats 1600000 in
theorem c_dries {G : Ctx} {M : Mem} {m : Nat} {cd : CD} (hO : MO M m) (hQ : MC (mI M) m cd) (hW : WFc cd) {q p l w : Int} (q0 : 0 ≤ q) (q1 : q ≤ 1000000) (p0 : 0 ≤ p) (p1 : p < cd 2) (hl : mI M (m + 7) p = l) (l0 : 0 ≤ l) (l1 : l < cd 0) (hw : mI M (m + 8) p = w) (w0 : 0 ≤ w) (w1 : w ≤ 99) : CT G m_X12_dries 2 0 0 [vR m, vI p, vI q] M (rJ M (fun I => I = up2 (mI M) (m + 8) p (max 0 (w - fDry cd p l (Int.tmod q 24))))) := by
  refine CT.of k_X12_dries 3 (ls := [some (vR m), some (vI p), some (vI q), none, none, none]) rfl (Nat.le_of_ble_eq_true rfl) ?_
  have hpn := hW.pn
  have hl8 := hW.ln
  have hr8 := hW.rn
  have hq := tmod24 q0
  have hqd : 0 ≤ Int.tdiv q 24 ∧ Int.tdiv q 24 ≤ 1000000 := by rw [Int.tdiv_eq_ediv_of_nonneg q0]; omega
  have hdy := hW.day hq.1 hq.2
  have htd := tdiv10 hdy.1 hdy.2
  have htm := tmod10 hdy.1 hdy.2
  refine E_aload_n dX12_dries_0 rfl ?_
  refine E_iload_n dX12_dries_1 rfl ?_
  refine E_iconst dX12_dries_2 (by decide) ?_
  refine i_X12_202 rfl dX12_dries_3 (by exact hO.o) (c_of hO hQ (j := 84 + 6 * p) (by omega) (by omega) (by omega)) (by omega) (Nat.le_of_ble_eq_true rfl) rfl rfl ?_
  rintro _ _ ⟨rfl, rfl⟩
  try dsimp only [pu]
  refine E_istore_n dX12_dries_6 rfl (by decide) ?_
  try dsimp only [List.set]
  refine E_aload_n dX12_dries_7 rfl ?_
  refine g_X12_19 rfl dX12_dries_8 hO.o hO.court ?_
  refine E_iconst dX12_dries_11 (by decide) ?_
  refine E_iload_n dX12_dries_12 rfl ?_
  refine E_bipush dX12_dries_13 (by decide) ?_
  refine E_irem dX12_dries_15 (by omega) (by omega) (by omega) ?_
  refine E_iadd dX12_dries_16 (by omega) (by omega) ?_
  refine E_iald dX12_dries_17 hO.s_court (by omega) (by omega) (hQ.at (j := 4 + (Int.tmod q 24)) (by omega) (by omega) (by omega)) ?_
  refine E_bipush dX12_dries_18 (by decide) ?_
  refine E_irem dX12_dries_20 (by omega) (by omega) (by omega) ?_
  refine E_aload_n dX12_dries_21 rfl ?_
  refine E_aload_n dX12_dries_22 rfl ?_
  refine g_X12_28 rfl dX12_dries_23 hO.o hO.hung ?_
  refine E_iload_n dX12_dries_26 rfl ?_
  refine E_iald dX12_dries_27 hO.s_hung (by omega) (by omega) hl ?_
  refine E_iload_n dX12_dries_28 rfl ?_
  refine E_iconst dX12_dries_29 (by decide) ?_
  refine i_X12_230 rfl dX12_dries_30 (by exact hO.o) (c_mHasSun hO hQ hW l0 l1 (by omega) (by omega) q0 q1) (by omega) (Nat.le_of_ble_eq_true rfl) rfl rfl ?_
  rintro _ _ ⟨rfl, rfl⟩
  try dsimp only [pu]
  refine E_if_eq (tgt := 40) dX12_dries_33 (by decide) (fun h33 => ?_) (fun h33 => ?_)
  · simp only [tB0, ne_eq, Bool.not_eq_false, Bool.not_eq_true, decide_eq_true_eq, decide_eq_false_iff_not, Classical.not_not] at h33
    refine E_iconst dX12_dries_40 (by decide) ?_
    refine E_iadd dX12_dries_41 (by omega) (by omega) ?_
    refine E_iload_n dX12_dries_42 rfl ?_
    refine E_iconst dX12_dries_43 (by decide) ?_
    refine E_icmp_eq (tgt := 52) dX12_dries_44 (by decide) (fun h44 => ?_) (fun h44 => ?_)
    · refine E_iconst dX12_dries_52 (by decide) ?_
      refine E_goto (tgt := 57) dX12_dries_53 (by decide) ?_
      refine E_isub dX12_dries_57 (by omega) (by omega) ?_
      refine E_istore dX12_dries_58 rfl (by decide) ?_
      try dsimp only [List.set]
      refine E_aload_n dX12_dries_60 rfl ?_
      refine g_X12_31 rfl dX12_dries_61 hO.o hO.wet ?_
      refine E_iload_n dX12_dries_64 rfl ?_
      refine E_iald dX12_dries_65 hO.s_wet (by omega) (by omega) hw ?_
      refine E_iload dX12_dries_66 rfl ?_
      refine E_if_ge (tgt := 75) dX12_dries_68 (by decide) (fun h68 => ?_) (fun h68 => ?_)
      · refine E_iload dX12_dries_75 rfl ?_
        refine E_isub dX12_dries_77 (by omega) (by omega) ?_
        refine E_istore dX12_dries_78 rfl (by decide) ?_
        try dsimp only [List.set]
        refine E_aload_n dX12_dries_80 rfl ?_
        refine g_X12_31 rfl dX12_dries_81 hO.o hO.wet ?_
        refine E_iload_n dX12_dries_84 rfl ?_
        refine E_iload dX12_dries_85 rfl ?_
        refine E_if_ge (tgt := 94) dX12_dries_87 (by decide) (fun h87 => ?_) (fun h87 => ?_)
        · refine E_iload dX12_dries_94 rfl ?_
          refine E_iast dX12_dries_96 hO.s_wet (by omega) (by omega) ?_
          refine E_vret dX12_dries_97 rfl ?_
          refine ⟨rfl, _, rfl, ?_⟩
          show up2 (mI M) (m + 8) p _ = _
          congr 1; simp only [fDry, h33, if_true, Bool.false_eq_true, if_false]; omega
        · refine E_iconst dX12_dries_90 (by decide) ?_
          refine E_goto (tgt := 96) dX12_dries_91 (by decide) ?_
          refine E_iast dX12_dries_96 hO.s_wet (by omega) (by omega) ?_
          refine E_vret dX12_dries_97 rfl ?_
          refine ⟨rfl, _, rfl, ?_⟩
          show up2 (mI M) (m + 8) p _ = _
          congr 1; simp only [fDry, h33, if_true, Bool.false_eq_true, if_false]; omega
      · refine E_iconst dX12_dries_71 (by decide) ?_
        refine E_goto (tgt := 77) dX12_dries_72 (by decide) ?_
        refine E_isub dX12_dries_77 (by omega) (by omega) ?_
        refine E_istore dX12_dries_78 rfl (by decide) ?_
        try dsimp only [List.set]
        refine E_aload_n dX12_dries_80 rfl ?_
        refine g_X12_31 rfl dX12_dries_81 hO.o hO.wet ?_
        refine E_iload_n dX12_dries_84 rfl ?_
        refine E_iload dX12_dries_85 rfl ?_
        refine E_if_ge (tgt := 94) dX12_dries_87 (by decide) (fun h87 => ?_) (fun h87 => ?_)
        · refine E_iload dX12_dries_94 rfl ?_
          refine E_iast dX12_dries_96 hO.s_wet (by omega) (by omega) ?_
          refine E_vret dX12_dries_97 rfl ?_
          refine ⟨rfl, _, rfl, ?_⟩
          show up2 (mI M) (m + 8) p _ = _
          congr 1; simp only [fDry, h33, if_true, Bool.false_eq_true, if_false]; omega
        · refine E_iconst dX12_dries_90 (by decide) ?_
          refine E_goto (tgt := 96) dX12_dries_91 (by decide) ?_
          refine E_iast dX12_dries_96 hO.s_wet (by omega) (by omega) ?_
          refine E_vret dX12_dries_97 rfl ?_
          refine ⟨rfl, _, rfl, ?_⟩
          show up2 (mI M) (m + 8) p _ = _
          congr 1; simp only [fDry, h33, if_true, Bool.false_eq_true, if_false]; omega
    · refine E_iload_n dX12_dries_47 rfl ?_
      refine E_iconst dX12_dries_48 (by decide) ?_
      refine E_icmp_ne (tgt := 56) dX12_dries_49 (by decide) (fun h49 => ?_) (fun h49 => ?_)
      · refine E_iconst dX12_dries_56 (by decide) ?_
        refine E_isub dX12_dries_57 (by omega) (by omega) ?_
        refine E_istore dX12_dries_58 rfl (by decide) ?_
        try dsimp only [List.set]
        refine E_aload_n dX12_dries_60 rfl ?_
        refine g_X12_31 rfl dX12_dries_61 hO.o hO.wet ?_
        refine E_iload_n dX12_dries_64 rfl ?_
        refine E_iald dX12_dries_65 hO.s_wet (by omega) (by omega) hw ?_
        refine E_iload dX12_dries_66 rfl ?_
        refine E_if_ge (tgt := 75) dX12_dries_68 (by decide) (fun h68 => ?_) (fun h68 => ?_)
        · refine E_iload dX12_dries_75 rfl ?_
          refine E_isub dX12_dries_77 (by omega) (by omega) ?_
          refine E_istore dX12_dries_78 rfl (by decide) ?_
          try dsimp only [List.set]
          refine E_aload_n dX12_dries_80 rfl ?_
          refine g_X12_31 rfl dX12_dries_81 hO.o hO.wet ?_
          refine E_iload_n dX12_dries_84 rfl ?_
          refine E_iload dX12_dries_85 rfl ?_
          refine E_if_ge (tgt := 94) dX12_dries_87 (by decide) (fun h87 => ?_) (fun h87 => ?_)
          · refine E_iload dX12_dries_94 rfl ?_
            refine E_iast dX12_dries_96 hO.s_wet (by omega) (by omega) ?_
            refine E_vret dX12_dries_97 rfl ?_
            refine ⟨rfl, _, rfl, ?_⟩
            show up2 (mI M) (m + 8) p _ = _
            congr 1; simp only [fDry, h33, if_true, Bool.false_eq_true, if_false]; omega
          · refine E_iconst dX12_dries_90 (by decide) ?_
            refine E_goto (tgt := 96) dX12_dries_91 (by decide) ?_
            refine E_iast dX12_dries_96 hO.s_wet (by omega) (by omega) ?_
            refine E_vret dX12_dries_97 rfl ?_
            refine ⟨rfl, _, rfl, ?_⟩
            show up2 (mI M) (m + 8) p _ = _
            congr 1; simp only [fDry, h33, if_true, Bool.false_eq_true, if_false]; omega
        · refine E_iconst dX12_dries_71 (by decide) ?_
          refine E_goto (tgt := 77) dX12_dries_72 (by decide) ?_
          refine E_isub dX12_dries_77 (by omega) (by omega) ?_
          refine E_istore dX12_dries_78 rfl (by decide) ?_
          try dsimp only [List.set]
          refine E_aload_n dX12_dries_80 rfl ?_
          refine g_X12_31 rfl dX12_dries_81 hO.o hO.wet ?_
          refine E_iload_n dX12_dries_84 rfl ?_
          refine E_iload dX12_dries_85 rfl ?_
          refine E_if_ge (tgt := 94) dX12_dries_87 (by decide) (fun h87 => ?_) (fun h87 => ?_)
          · refine E_iload dX12_dries_94 rfl ?_
            refine E_iast dX12_dries_96 hO.s_wet (by omega) (by omega) ?_
            refine E_vret dX12_dries_97 rfl ?_
            refine ⟨rfl, _, rfl, ?_⟩
            show up2 (mI M) (m + 8) p _ = _
            congr 1; simp only [fDry, h33, if_true, Bool.false_eq_true, if_false]; omega
          · refine E_iconst dX12_dries_90 (by decide) ?_
            refine E_goto (tgt := 96) dX12_dries_91 (by decide) ?_
            refine E_iast dX12_dries_96 hO.s_wet (by omega) (by omega) ?_
            refine E_vret dX12_dries_97 rfl ?_
            refine ⟨rfl, _, rfl, ?_⟩
            show up2 (mI M) (m + 8) p _ = _
            congr 1; simp only [fDry, h33, if_true, Bool.false_eq_true, if_false]; omega
      · refine E_iconst dX12_dries_52 (by decide) ?_
        refine E_goto (tgt := 57) dX12_dries_53 (by decide) ?_
        refine E_isub dX12_dries_57 (by omega) (by omega) ?_
        refine E_istore dX12_dries_58 rfl (by decide) ?_
        try dsimp only [List.set]
        refine E_aload_n dX12_dries_60 rfl ?_
        refine g_X12_31 rfl dX12_dries_61 hO.o hO.wet ?_
        refine E_iload_n dX12_dries_64 rfl ?_
        refine E_iald dX12_dries_65 hO.s_wet (by omega) (by omega) hw ?_
        refine E_iload dX12_dries_66 rfl ?_
        refine E_if_ge (tgt := 75) dX12_dries_68 (by decide) (fun h68 => ?_) (fun h68 => ?_)
        · refine E_iload dX12_dries_75 rfl ?_
          refine E_isub dX12_dries_77 (by omega) (by omega) ?_
          refine E_istore dX12_dries_78 rfl (by decide) ?_
          try dsimp only [List.set]
          refine E_aload_n dX12_dries_80 rfl ?_
          refine g_X12_31 rfl dX12_dries_81 hO.o hO.wet ?_
          refine E_iload_n dX12_dries_84 rfl ?_
          refine E_iload dX12_dries_85 rfl ?_
          refine E_if_ge (tgt := 94) dX12_dries_87 (by decide) (fun h87 => ?_) (fun h87 => ?_)
          · refine E_iload dX12_dries_94 rfl ?_
            refine E_iast dX12_dries_96 hO.s_wet (by omega) (by omega) ?_
            refine E_vret dX12_dries_97 rfl ?_
            refine ⟨rfl, _, rfl, ?_⟩
            show up2 (mI M) (m + 8) p _ = _
            congr 1; simp only [fDry, h33, if_true, Bool.false_eq_true, if_false]; omega
          · refine E_iconst dX12_dries_90 (by decide) ?_
            refine E_goto (tgt := 96) dX12_dries_91 (by decide) ?_
            refine E_iast dX12_dries_96 hO.s_wet (by omega) (by omega) ?_
            refine E_vret dX12_dries_97 rfl ?_
            refine ⟨rfl, _, rfl, ?_⟩
            show up2 (mI M) (m + 8) p _ = _
            congr 1; simp only [fDry, h33, if_true, Bool.false_eq_true, if_false]; omega
        · refine E_iconst dX12_dries_71 (by decide) ?_
          refine E_goto (tgt := 77) dX12_dries_72 (by decide) ?_
          refine E_isub dX12_dries_77 (by omega) (by omega) ?_
          refine E_istore dX12_dries_78 rfl (by decide) ?_
          try dsimp only [List.set]
          refine E_aload_n dX12_dries_80 rfl ?_
          refine g_X12_31 rfl dX12_dries_81 hO.o hO.wet ?_
          refine E_iload_n dX12_dries_84 rfl ?_
          refine E_iload dX12_dries_85 rfl ?_
          refine E_if_ge (tgt := 94) dX12_dries_87 (by decide) (fun h87 => ?_) (fun h87 => ?_)
          · refine E_iload dX12_dries_94 rfl ?_
            refine E_iast dX12_dries_96 hO.s_wet (by omega) (by omega) ?_
            refine E_vret dX12_dries_97 rfl ?_
            refine ⟨rfl, _, rfl, ?_⟩
            show up2 (mI M) (m + 8) p _ = _
            congr 1; simp only [fDry, h33, if_true, Bool.false_eq_true, if_false]; omega
          · refine E_iconst dX12_dries_90 (by decide) ?_
            refine E_goto (tgt := 96) dX12_dries_91 (by decide) ?_
            refine E_iast dX12_dries_96 hO.s_wet (by omega) (by omega) ?_
            refine E_vret dX12_dries_97 rfl ?_
            refine ⟨rfl, _, rfl, ?_⟩
            show up2 (mI M) (m + 8) p _ = _
            congr 1; simp only [fDry, h33, if_true, Bool.false_eq_true, if_false]; omega
  · simp only [tB0, ne_eq, Bool.not_eq_false, Bool.not_eq_true, decide_eq_true_eq, decide_eq_false_iff_not, Classical.not_not] at h33
    refine E_iconst dX12_dries_36 (by decide) ?_
    refine E_goto (tgt := 41) dX12_dries_37 (by decide) ?_
    refine E_iadd dX12_dries_41 (by omega) (by omega) ?_
    refine E_iload_n dX12_dries_42 rfl ?_
    refine E_iconst dX12_dries_43 (by decide) ?_
    refine E_icmp_eq (tgt := 52) dX12_dries_44 (by decide) (fun h44 => ?_) (fun h44 => ?_)
    · refine E_iconst dX12_dries_52 (by decide) ?_
      refine E_goto (tgt := 57) dX12_dries_53 (by decide) ?_
      refine E_isub dX12_dries_57 (by omega) (by omega) ?_
      refine E_istore dX12_dries_58 rfl (by decide) ?_
      try dsimp only [List.set]
      refine E_aload_n dX12_dries_60 rfl ?_
      refine g_X12_31 rfl dX12_dries_61 hO.o hO.wet ?_
      refine E_iload_n dX12_dries_64 rfl ?_
      refine E_iald dX12_dries_65 hO.s_wet (by omega) (by omega) hw ?_
      refine E_iload dX12_dries_66 rfl ?_
      refine E_if_ge (tgt := 75) dX12_dries_68 (by decide) (fun h68 => ?_) (fun h68 => ?_)
      · refine E_iload dX12_dries_75 rfl ?_
        refine E_isub dX12_dries_77 (by omega) (by omega) ?_
        refine E_istore dX12_dries_78 rfl (by decide) ?_
        try dsimp only [List.set]
        refine E_aload_n dX12_dries_80 rfl ?_
        refine g_X12_31 rfl dX12_dries_81 hO.o hO.wet ?_
        refine E_iload_n dX12_dries_84 rfl ?_
        refine E_iload dX12_dries_85 rfl ?_
        refine E_if_ge (tgt := 94) dX12_dries_87 (by decide) (fun h87 => ?_) (fun h87 => ?_)
        · refine E_iload dX12_dries_94 rfl ?_
          refine E_iast dX12_dries_96 hO.s_wet (by omega) (by omega) ?_
          refine E_vret dX12_dries_97 rfl ?_
          refine ⟨rfl, _, rfl, ?_⟩
          show up2 (mI M) (m + 8) p _ = _
          congr 1; simp only [fDry, h33, if_true, Bool.false_eq_true, if_false]; omega
        · refine E_iconst dX12_dries_90 (by decide) ?_
          refine E_goto (tgt := 96) dX12_dries_91 (by decide) ?_
          refine E_iast dX12_dries_96 hO.s_wet (by omega) (by omega) ?_
          refine E_vret dX12_dries_97 rfl ?_
          refine ⟨rfl, _, rfl, ?_⟩
          show up2 (mI M) (m + 8) p _ = _
          congr 1; simp only [fDry, h33, if_true, Bool.false_eq_true, if_false]; omega
      · refine E_iconst dX12_dries_71 (by decide) ?_
        refine E_goto (tgt := 77) dX12_dries_72 (by decide) ?_
        refine E_isub dX12_dries_77 (by omega) (by omega) ?_
        refine E_istore dX12_dries_78 rfl (by decide) ?_
        try dsimp only [List.set]
        refine E_aload_n dX12_dries_80 rfl ?_
        refine g_X12_31 rfl dX12_dries_81 hO.o hO.wet ?_
        refine E_iload_n dX12_dries_84 rfl ?_
        refine E_iload dX12_dries_85 rfl ?_
        refine E_if_ge (tgt := 94) dX12_dries_87 (by decide) (fun h87 => ?_) (fun h87 => ?_)
        · refine E_iload dX12_dries_94 rfl ?_
          refine E_iast dX12_dries_96 hO.s_wet (by omega) (by omega) ?_
          refine E_vret dX12_dries_97 rfl ?_
          refine ⟨rfl, _, rfl, ?_⟩
          show up2 (mI M) (m + 8) p _ = _
          congr 1; simp only [fDry, h33, if_true, Bool.false_eq_true, if_false]; omega
        · refine E_iconst dX12_dries_90 (by decide) ?_
          refine E_goto (tgt := 96) dX12_dries_91 (by decide) ?_
          refine E_iast dX12_dries_96 hO.s_wet (by omega) (by omega) ?_
          refine E_vret dX12_dries_97 rfl ?_
          refine ⟨rfl, _, rfl, ?_⟩
          show up2 (mI M) (m + 8) p _ = _
          congr 1; simp only [fDry, h33, if_true, Bool.false_eq_true, if_false]; omega
    · refine E_iload_n dX12_dries_47 rfl ?_
      refine E_iconst dX12_dries_48 (by decide) ?_
      refine E_icmp_ne (tgt := 56) dX12_dries_49 (by decide) (fun h49 => ?_) (fun h49 => ?_)
      · refine E_iconst dX12_dries_56 (by decide) ?_
        refine E_isub dX12_dries_57 (by omega) (by omega) ?_
        refine E_istore dX12_dries_58 rfl (by decide) ?_
        try dsimp only [List.set]
        refine E_aload_n dX12_dries_60 rfl ?_
        refine g_X12_31 rfl dX12_dries_61 hO.o hO.wet ?_
        refine E_iload_n dX12_dries_64 rfl ?_
        refine E_iald dX12_dries_65 hO.s_wet (by omega) (by omega) hw ?_
        refine E_iload dX12_dries_66 rfl ?_
        refine E_if_ge (tgt := 75) dX12_dries_68 (by decide) (fun h68 => ?_) (fun h68 => ?_)
        · refine E_iload dX12_dries_75 rfl ?_
          refine E_isub dX12_dries_77 (by omega) (by omega) ?_
          refine E_istore dX12_dries_78 rfl (by decide) ?_
          try dsimp only [List.set]
          refine E_aload_n dX12_dries_80 rfl ?_
          refine g_X12_31 rfl dX12_dries_81 hO.o hO.wet ?_
          refine E_iload_n dX12_dries_84 rfl ?_
          refine E_iload dX12_dries_85 rfl ?_
          refine E_if_ge (tgt := 94) dX12_dries_87 (by decide) (fun h87 => ?_) (fun h87 => ?_)
          · refine E_iload dX12_dries_94 rfl ?_
            refine E_iast dX12_dries_96 hO.s_wet (by omega) (by omega) ?_
            refine E_vret dX12_dries_97 rfl ?_
            refine ⟨rfl, _, rfl, ?_⟩
            show up2 (mI M) (m + 8) p _ = _
            congr 1; simp only [fDry, h33, if_true, Bool.false_eq_true, if_false]; omega
          · refine E_iconst dX12_dries_90 (by decide) ?_
            refine E_goto (tgt := 96) dX12_dries_91 (by decide) ?_
            refine E_iast dX12_dries_96 hO.s_wet (by omega) (by omega) ?_
            refine E_vret dX12_dries_97 rfl ?_
            refine ⟨rfl, _, rfl, ?_⟩
            show up2 (mI M) (m + 8) p _ = _
            congr 1; simp only [fDry, h33, if_true, Bool.false_eq_true, if_false]; omega
        · refine E_iconst dX12_dries_71 (by decide) ?_
          refine E_goto (tgt := 77) dX12_dries_72 (by decide) ?_
          refine E_isub dX12_dries_77 (by omega) (by omega) ?_
          refine E_istore dX12_dries_78 rfl (by decide) ?_
          try dsimp only [List.set]
          refine E_aload_n dX12_dries_80 rfl ?_
          refine g_X12_31 rfl dX12_dries_81 hO.o hO.wet ?_
          refine E_iload_n dX12_dries_84 rfl ?_
          refine E_iload dX12_dries_85 rfl ?_
          refine E_if_ge (tgt := 94) dX12_dries_87 (by decide) (fun h87 => ?_) (fun h87 => ?_)
          · refine E_iload dX12_dries_94 rfl ?_
            refine E_iast dX12_dries_96 hO.s_wet (by omega) (by omega) ?_
            refine E_vret dX12_dries_97 rfl ?_
            refine ⟨rfl, _, rfl, ?_⟩
            show up2 (mI M) (m + 8) p _ = _
            congr 1; simp only [fDry, h33, if_true, Bool.false_eq_true, if_false]; omega
          · refine E_iconst dX12_dries_90 (by decide) ?_
            refine E_goto (tgt := 96) dX12_dries_91 (by decide) ?_
            refine E_iast dX12_dries_96 hO.s_wet (by omega) (by omega) ?_
            refine E_vret dX12_dries_97 rfl ?_
            refine ⟨rfl, _, rfl, ?_⟩
            show up2 (mI M) (m + 8) p _ = _
            congr 1; simp only [fDry, h33, if_true, Bool.false_eq_true, if_false]; omega
      · refine E_iconst dX12_dries_52 (by decide) ?_
        refine E_goto (tgt := 57) dX12_dries_53 (by decide) ?_
        refine E_isub dX12_dries_57 (by omega) (by omega) ?_
        refine E_istore dX12_dries_58 rfl (by decide) ?_
        try dsimp only [List.set]
        refine E_aload_n dX12_dries_60 rfl ?_
        refine g_X12_31 rfl dX12_dries_61 hO.o hO.wet ?_
        refine E_iload_n dX12_dries_64 rfl ?_
        refine E_iald dX12_dries_65 hO.s_wet (by omega) (by omega) hw ?_
        refine E_iload dX12_dries_66 rfl ?_
        refine E_if_ge (tgt := 75) dX12_dries_68 (by decide) (fun h68 => ?_) (fun h68 => ?_)
        · refine E_iload dX12_dries_75 rfl ?_
          refine E_isub dX12_dries_77 (by omega) (by omega) ?_
          refine E_istore dX12_dries_78 rfl (by decide) ?_
          try dsimp only [List.set]
          refine E_aload_n dX12_dries_80 rfl ?_
          refine g_X12_31 rfl dX12_dries_81 hO.o hO.wet ?_
          refine E_iload_n dX12_dries_84 rfl ?_
          refine E_iload dX12_dries_85 rfl ?_
          refine E_if_ge (tgt := 94) dX12_dries_87 (by decide) (fun h87 => ?_) (fun h87 => ?_)
          · refine E_iload dX12_dries_94 rfl ?_
            refine E_iast dX12_dries_96 hO.s_wet (by omega) (by omega) ?_
            refine E_vret dX12_dries_97 rfl ?_
            refine ⟨rfl, _, rfl, ?_⟩
            show up2 (mI M) (m + 8) p _ = _
            congr 1; simp only [fDry, h33, if_true, Bool.false_eq_true, if_false]; omega
          · refine E_iconst dX12_dries_90 (by decide) ?_
            refine E_goto (tgt := 96) dX12_dries_91 (by decide) ?_
            refine E_iast dX12_dries_96 hO.s_wet (by omega) (by omega) ?_
            refine E_vret dX12_dries_97 rfl ?_
            refine ⟨rfl, _, rfl, ?_⟩
            show up2 (mI M) (m + 8) p _ = _
            congr 1; simp only [fDry, h33, if_true, Bool.false_eq_true, if_false]; omega
        · refine E_iconst dX12_dries_71 (by decide) ?_
          refine E_goto (tgt := 77) dX12_dries_72 (by decide) ?_
          refine E_isub dX12_dries_77 (by omega) (by omega) ?_
          refine E_istore dX12_dries_78 rfl (by decide) ?_
          try dsimp only [List.set]
          refine E_aload_n dX12_dries_80 rfl ?_
          refine g_X12_31 rfl dX12_dries_81 hO.o hO.wet ?_
          refine E_iload_n dX12_dries_84 rfl ?_
          refine E_iload dX12_dries_85 rfl ?_
          refine E_if_ge (tgt := 94) dX12_dries_87 (by decide) (fun h87 => ?_) (fun h87 => ?_)
          · refine E_iload dX12_dries_94 rfl ?_
            refine E_iast dX12_dries_96 hO.s_wet (by omega) (by omega) ?_
            refine E_vret dX12_dries_97 rfl ?_
            refine ⟨rfl, _, rfl, ?_⟩
            show up2 (mI M) (m + 8) p _ = _
            congr 1; simp only [fDry, h33, if_true, Bool.false_eq_true, if_false]; omega
          · refine E_iconst dX12_dries_90 (by decide) ?_
            refine E_goto (tgt := 96) dX12_dries_91 (by decide) ?_
            refine E_iast dX12_dries_96 hO.s_wet (by omega) (by omega) ?_
            refine E_vret dX12_dries_97 rfl ?_
            refine ⟨rfl, _, rfl, ?_⟩
            show up2 (mI M) (m + 8) p _ = _
            congr 1; simp only [fDry, h33, if_true, Bool.false_eq_true, if_false]; omega
def gI1 (M : Mem) (m : Nat) (cd : CD) (hu we : Int → Int) (q : Int) (n r : Nat) (I : Nat → Int → Int) : Prop := (∀ b j, b ≠ m + 8 → I b j = mI M b j) ∧ (∀ p : Int, 0 ≤ p → p < n → I (m + 8) p = if p < r then qW1 cd hu we q p else we p)
theorem gI1_step {M : Mem} {m : Nat} {cd : CD} {hu we : Int → Int} {q : Int} {n r : Nat} {I : Nat → Int → Int} {X : Int} (hi : gI1 M m cd hu we q n r I) (hX : X = qW1 cd hu we q r) : gI1 M m cd hu we q n (r + 1) (up2 I (m + 8) r X) := by
  obtain ⟨h1, h2⟩ := hi
  refine ⟨fun b j q1 => ?_, fun p p0 p1 => ?_⟩
  · rw [up2_ne _ _ (fun h => q1 h.1)]; exact h1 b j q1
  · by_cases hp : p = r
    · subst hp
      rw [up2_self, if_pos (by omega), hX]
    · rw [up2_ne _ _ (fun h => hp h.2), h2 p p0 p1]
      by_cases hq : p < r
      · rw [if_pos hq, if_pos (by omega)]
      · rw [if_neg hq, if_neg (by omega)]
theorem gI1_skip {M : Mem} {m : Nat} {cd : CD} {hu we : Int → Int} {q : Int} {n r : Nat} {I : Nat → Int → Int} (hi : gI1 M m cd hu we q n r I) (h : hu r = -1000000) : gI1 M m cd hu we q n (r + 1) I := by
  obtain ⟨h1, h2⟩ := hi
  refine ⟨h1, fun p p0 p1 => ?_⟩
  rw [h2 p p0 p1]
  by_cases hp : p = r
  · subst hp
    rw [if_neg (by omega), if_pos (by omega), qW1, if_pos h]
  · by_cases hq : p < r
    · rw [if_pos hq, if_pos (by omega)]
    · rw [if_neg hq, if_neg (by omega)]
/-- who drips -/
def gDr (hu v : Int → Int) : Nat → Bool := fun p => decide (hu p ≠ -1000000 ∧ 30 < v p)
