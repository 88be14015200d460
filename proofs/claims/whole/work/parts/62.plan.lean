/-! ===== 62: plan of the class ===== -/
/-- the best row of lines for the first n pieces: how soon, which -/
def bP (A : AS) (np rn L n : Nat) : Int × Nat := bR (dL (A 4) np rn n L n 0 (cHu (A 4))) (L ^ n)
def s_plan (A : AS) (n k : Int) (np rn L : Nat) : Int := if A 0 7 = 0 then -1000002 else if (1 ≤ n ∧ n ≤ 4) ∧ n ≤ A 4 2 ∧ (-1 ≤ k ∧ k ≤ n - 1) then (if (bP A np rn L n.toNat).1 = 49 then -1000000 else if k < 0 then (bP A np rn L n.toNat).1 else (((bP A np rn L n.toNat).2 / L ^ (n.toNat - 1 - k.toNat) % L : Nat) : Int)) else -1000001
set_option maxRecDepth 20000 in
set_option maxHeartbeats 3000000 in
theorem x_plan {G : Ctx} {M : Mem} {A : AS} {B : Int} (hI : CI M A) (hG : GA A B) (hB : B ≤ 900000) {n k : Int} (np : Nat) (hn : A 4 2 = np) (rn : Nat) (hrn : A 4 1 = rn) (L : Nat) (hL : A 4 0 = L) : CT G m_X11_plan 12 0 0 [vR 21, vI n, vI k] M (xM M (s_plan A n k np rn L) A) := by
  refine CT.of k_X11_plan 0 (ls := [some (vR 21), some (vI n), some (vI k)]) rfl (Nat.le_of_ble_eq_true rfl) ?_
  obtain ⟨hX, hN, hR, hT, hK, hS, hW0, hW1, hW2⟩ := id hI
  obtain ⟨a, hRc, hC, ha, haN, hD, hH, hE, hSn, hg, hZ⟩ := hW0
  have hW := hG.w.c
  have hpn := hW.pn
  have hl8 := hW.ln
  have hr8 := hW.rn
  have hgg := hG.w.g
  have hth := hG.th
  have hV := hG.w.hv
  refine E_aload_n dX11_plan_0 rfl ?_
  refine i_X11_158 rfl dX11_plan_1 (by exact hX.o) (c_noCourt hX hRc hC hD) (by omega) (Nat.le_of_ble_eq_true rfl) rfl rfl ?_
  rintro _ _ ⟨rfl, rfl⟩
  try dsimp only [pu]
  refine E_if_eq (tgt := 10) dX11_plan_4 (by decide) (fun h4 => ?_) (fun h4 => ?_)
  · simp only [tB0, ne_eq, Bool.not_eq_false, Bool.not_eq_true, decide_eq_true_eq, decide_eq_false_iff_not, Classical.not_not] at h4
    refine E_iload_n dX11_plan_10 rfl ?_
    refine E_iconst dX11_plan_11 (by decide) ?_
    refine E_iconst dX11_plan_12 (by decide) ?_
    refine i_X11_68 rfl dX11_plan_13 c_isIn (by omega) (Nat.le_of_ble_eq_true rfl) rfl rfl ?_
    rintro _ _ ⟨rfl, rfl⟩
    try dsimp only [pu]
    refine E_if_eq (tgt := 44) dX11_plan_16 (by decide) (fun h16 => ?_) (fun h16 => ?_)
    · simp only [tB0, ne_eq, Bool.not_eq_false, Bool.not_eq_true, decide_eq_true_eq, decide_eq_false_iff_not, Classical.not_not] at h16
      refine c_X11_72 rfl dX11_plan_44 ?_
      refine E_iret dX11_plan_46 rfl ?_
      refine ⟨?_, ?_, (FX.rfl' M)⟩
      · congr 2; unfold s_plan; rw [if_neg (by omega), if_neg (by omega)]; try rfl
      · exact hI
    · simp only [tB0, ne_eq, Bool.not_eq_false, Bool.not_eq_true, decide_eq_true_eq, decide_eq_false_iff_not, Classical.not_not] at h16
      refine E_iload_n dX11_plan_19 rfl ?_
      refine E_aload_n dX11_plan_20 rfl ?_
      refine g_X11_48 rfl dX11_plan_21 hX.o hX.wash ?_
      refine g_X11_168 rfl dX11_plan_24 hX.w0.o hRc ?_
      refine g_X11_172 rfl dX11_plan_27 hC.o hD.pnc ?_
      refine E_icmp_gt (tgt := 44) dX11_plan_30 (by decide) (fun h30 => ?_) (fun h30 => ?_)
      · refine c_X11_72 rfl dX11_plan_44 ?_
        refine E_iret dX11_plan_46 rfl ?_
        refine ⟨?_, ?_, (FX.rfl' M)⟩
        · congr 2; unfold s_plan; rw [if_neg (by omega), if_neg (by omega)]; try rfl
        · exact hI
      · refine E_iload_n dX11_plan_33 rfl ?_
        refine E_iconst dX11_plan_34 (by decide) ?_
        refine E_iload_n dX11_plan_35 rfl ?_
        refine E_iconst dX11_plan_36 (by decide) ?_
        refine E_isub dX11_plan_37 (by omega) (by omega) ?_
        refine i_X11_68 rfl dX11_plan_38 c_isIn (by omega) (Nat.le_of_ble_eq_true rfl) rfl rfl ?_
        rintro _ _ ⟨rfl, rfl⟩
        try dsimp only [pu]
        refine E_if_ne (tgt := 47) dX11_plan_41 (by decide) (fun h41 => ?_) (fun h41 => ?_)
        · simp only [tB0, ne_eq, Bool.not_eq_false, Bool.not_eq_true, decide_eq_true_eq, decide_eq_false_iff_not, Classical.not_not] at h41
          obtain ⟨N, rfl⟩ := Int.eq_ofNat_of_zero_le (show 0 ≤ n by omega)
          refine E_aload_n dX11_plan_47 rfl ?_
          refine E_iload_n dX11_plan_48 rfl ?_
          refine i_X11_236 rfl dX11_plan_49 (by exact hX.o) (c_fp hI hG hB hRc np hn rn hrn L hL N (by omega) (by omega) (by omega)) (by omega) (Nat.le_of_ble_eq_true rfl) rfl rfl ?_
          rintro _ M2 ⟨rfl, hP2, hB2⟩
          have hX := hP2.1.1
          have hu := hB2.1.one (bR_b (dL (A 4) np rn N L N 0 (cHu (A 4))) L N (L ^ N))
          try dsimp only [pu]
          refine E_aload_n dX11_plan_52 rfl ?_
          refine g_X11_240 rfl dX11_plan_53 hX.o rfl ?_
          refine E_bipush dX11_plan_56 (by decide) ?_
          refine E_icmp_ne (tgt := 64) dX11_plan_58 (by decide) (fun h58 => ?_) (fun h58 => ?_)
          · refine E_iload_n dX11_plan_64 rfl ?_
            refine E_if_ge (tgt := 75) dX11_plan_65 (by decide) (fun h65 => ?_) (fun h65 => ?_)
            · refine E_aload_n dX11_plan_75 rfl ?_
              refine g_X11_34 rfl dX11_plan_76 hX.o hX.bestLines ?_
              refine E_iload_n dX11_plan_79 rfl ?_
              refine E_iald dX11_plan_80 hX.s9 (by omega) (by omega) rfl ?_
              refine E_iret dX11_plan_81 rfl ?_
              obtain ⟨kn, rfl⟩ := Int.eq_ofNat_of_zero_le (show 0 ≤ k by omega)
              refine ⟨?_, hP2.1, hP2.2.1⟩
              have hb9 := hB2.1.1
              congr 2; unfold s_plan bP; simp only [Int.toNat_natCast]; rw [if_neg (by omega), if_pos (by omega), if_neg (by rw [← hu.1]; omega), if_neg (by omega)]
              exact hu.2 (by omega) kn (by omega)
            · refine E_aload_n dX11_plan_68 rfl ?_
              refine g_X11_240 rfl dX11_plan_69 hX.o rfl ?_
              refine E_goto (tgt := 81) dX11_plan_72 (by decide) ?_
              refine E_iret dX11_plan_81 rfl ?_
              refine ⟨?_, hP2.1, hP2.2.1⟩
              congr 2; unfold s_plan bP; simp only [Int.toNat_natCast]; rw [if_neg (by omega), if_pos (by omega), if_neg (by rw [← hu.1]; omega), if_pos (by omega)]; exact hu.1
          · refine c_X11_201 rfl dX11_plan_61 ?_
            refine E_iret dX11_plan_63 rfl ?_
            refine ⟨?_, hP2.1, hP2.2.1⟩
            congr 2; unfold s_plan bP; simp only [Int.toNat_natCast]; rw [if_neg (by omega), if_pos (by omega), if_pos (by rw [← hu.1]; omega)]
        · simp only [tB0, ne_eq, Bool.not_eq_false, Bool.not_eq_true, decide_eq_true_eq, decide_eq_false_iff_not, Classical.not_not] at h41
          refine c_X11_72 rfl dX11_plan_44 ?_
          refine E_iret dX11_plan_46 rfl ?_
          refine ⟨?_, ?_, (FX.rfl' M)⟩
          · congr 2; unfold s_plan; rw [if_neg (by omega), if_neg (by omega)]; try rfl
          · exact hI
  · simp only [tB0, ne_eq, Bool.not_eq_false, Bool.not_eq_true, decide_eq_true_eq, decide_eq_false_iff_not, Classical.not_not] at h4
    refine c_X11_154 rfl dX11_plan_7 ?_
    refine E_iret dX11_plan_9 rfl ?_
    refine ⟨?_, ?_, (FX.rfl' M)⟩
    · congr 2; unfold s_plan; rw [if_pos (by omega)]; try rfl
    · exact hI
