/-! ===== 12b: Wash: drips, a quarter ===== -/
def TI (M : Mem) (w : Nat) (cd : CD) (hu v sn : Int → Int) (n r : Nat) (I : Nat → Int → Int) : Prop := (∀ b j, b ≠ w + 1 → b ≠ w + 3 → I b j = mI M b j) ∧ (∀ p : Int, 0 ≤ p → p < n → I (w + 1) p = if p < r then qW2 cd hu v n p else v p) ∧ (∀ p : Int, 0 ≤ p → p < n → I (w + 3) p = if p < r then qS2 cd hu v sn n p else sn p) ∧ (∀ p : Int, n ≤ p → I (w + 3) p = mI M (w + 3) p)
theorem tak_step {M : Mem} {w : Nat} {cd : CD} {hu v sn : Int → Int} {n r : Nat} {I : Nat → Int → Int} {X Y : Int} (hi : TI M w cd hu v sn n r I) (hX : X = qW2 cd hu v n r) (hY : Y = qS2 cd hu v sn n r) (hr : r < n) : TI M w cd hu v sn n (r + 1) (up2 (up2 I (w + 1) r X) (w + 3) r Y) := by
  obtain ⟨h1, h2, h3, h4⟩ := hi
  refine ⟨fun b j q1 q2 => ?_, fun p p0 p1 => ?_, fun p p0 p1 => ?_, fun p p0 => ?_⟩
  · rw [up2_ne _ _ (fun h => q2 h.1), up2_ne _ _ (fun h => q1 h.1)]; exact h1 b j q1 q2
  · rw [up2_ne _ _ (fun h => by omega)]
    by_cases hp : p = r
    · subst hp
      rw [up2_self, if_pos (by omega), hX]
    · rw [up2_ne _ _ (fun h => hp h.2), h2 p p0 p1]
      by_cases hq : p < r
      · rw [if_pos hq, if_pos (by omega)]
      · rw [if_neg hq, if_neg (by omega)]
  · by_cases hp : p = r
    · subst hp
      rw [up2_self, if_pos (by omega), hY]
    · rw [up2_ne _ _ (fun h => hp h.2), up2_ne _ _ (fun h => by omega), h3 p p0 p1]
      by_cases hq : p < r
      · rw [if_pos hq, if_pos (by omega)]
      · rw [if_neg hq, if_neg (by omega)]
  · rw [up2_ne _ _ (fun h => by omega), up2_ne _ _ (fun h => by omega)]; exact h4 p p0
theorem tak_skip {M : Mem} {w : Nat} {cd : CD} {hu v sn : Int → Int} {n r : Nat} {I : Nat → Int → Int} (hi : TI M w cd hu v sn n r I) (h : hu r = -1000000) (hr : r < n) : TI M w cd hu v sn n (r + 1) I := by
  obtain ⟨h1, h2, h3, h4⟩ := hi
  refine ⟨h1, fun p p0 p1 => ?_, fun p p0 p1 => ?_, h4⟩
  · rw [h2 p p0 p1]
    by_cases hp : p = r
    · subst hp
      rw [if_neg (by omega), if_pos (by omega), qW2, if_pos h]
    · by_cases hq : p < r
      · rw [if_pos hq, if_pos (by omega)]
      · rw [if_neg hq, if_neg (by omega)]
  · rw [h3 p p0 p1]
    by_cases hp : p = r
    · subst hp
      rw [if_neg (by omega), if_pos (by omega), qS2, if_neg (by omega)]
    · by_cases hq : p < r
      · rw [if_pos hq, if_pos (by omega)]
      · rw [if_neg hq, if_neg (by omega)]
set_option maxRecDepth 20000 in
set_option maxHeartbeats 400000 in
theorem l_takeDrips {G : Ctx} {M : Mem} {w a : Nat} {cd : CD} (hA : WA M w) (hRc : mR M w 0 = a) (hC : CA M a) (hD : CC (mI M) a cd) (hW : WFc cd) {hu : Int → Int} (hV : HV cd hu) (hH : HC (mI M) w cd hu) {v sn : Int → Int} (hE : EC (mI M) w cd v) (hS : SC (mI M) w cd sn) (hZ : ∀ p, 0 ≤ p → p < cd 2 → sn p = 0 ∨ sn p = 1) (hv9 : ∀ p, 0 ≤ p → p < cd 2 → 0 ≤ v p ∧ v p ≤ 99) (n : Nat) (hn : cd 2 = n) (hap : a + 13 < w ∨ w + 5 < a) (h4 : ∀ l, 0 ≤ l → l < cd 0 → mI M (w + 4) l = gCnt cd hu v l n) (h5 : ∀ l, 0 ≤ l → l < cd 0 → mI M (w + 5) l = tB (gRed cd hu v l n)) : ∀ (k r : Nat) (I : Nat → Int → Int), r + k = n → TI M w cd hu v sn n r I → EV G m_X9_takeDrips 1 0 0 (rJ M (fun I => (∀ b j, b ≠ w + 1 → b ≠ w + 3 → I b j = mI M b j) ∧ EC I w cd (qW2 cd hu v n) ∧ SC I w cd (qS2 cd hu v sn n) ∧ ∀ p : Int, n ≤ p → I (w + 3) p = mI M (w + 3) p)) 2 [some (vR w), some (vI (r : Int))] [] (mJ M I) := by
  intro k
  induction k with
  | zero =>
    intro r I hr hi
    obtain rfl : r = n := by omega
    have hpn := hW.pn
    have hl8 := hW.ln
    have hDI : CC I a cd := hD.off (fun b j h1 h2 => hi.1 b j (by omega) (by omega))
    have hHI : HC I w cd hu := fun p h0 h1 => (hi.1 _ _ (by omega) (by omega)).trans (hH p h0 h1)
    refine E_iload_n dX9_takeDrips_2 rfl ?_
    refine E_aload_n dX9_takeDrips_3 rfl ?_
    refine g_X9_30 rfl dX9_takeDrips_4 hA.o hRc ?_
    refine g_X9_47 rfl dX9_takeDrips_7 hC.o (hDI.pnc.trans hn) ?_
    refine E_icmp_ge (tgt := 103) dX9_takeDrips_10 (by decide) (fun h10 => ?_) (fun h10 => ?_)
    · refine E_vret dX9_takeDrips_103 rfl ?_
      refine ⟨rfl, I, rfl, hi.1, fun p p0 p1 => ?_, fun p p0 p1 => ?_, hi.2.2.2⟩
      · rw [hi.2.1 p p0 (by omega), if_pos (by omega)]
      · rw [hi.2.2.1 p p0 (by omega), if_pos (by omega)]
    · exfalso; omega
  | succ k ih =>
    intro r I hr hi
    have hpn := hW.pn
    have hl8 := hW.ln
    have hDI : CC I a cd := hD.off (fun b j h1 h2 => hi.1 b j (by omega) (by omega))
    have hHI : HC I w cd hu := fun p h0 h1 => (hi.1 _ _ (by omega) (by omega)).trans (hH p h0 h1)
    have hv := hV r (by omega) (by omega)
    have hcb := gCnt_b cd hu v (hu r) n
    have hvr := hv9 r (by omega) (by omega)
    have hzr := hZ r (by omega) (by omega)
    have hnu : nm1 (hu r) = if hu r = -1000000 then -1 else hu r := rfl
    have hwr : I (w + 1) (r : Int) = v r := by have q := hi.2.1 r (by omega) (by omega); rw [if_neg (by omega)] at q; exact q
    have hsr : I (w + 3) (r : Int) = sn r := by have q := hi.2.2.1 r (by omega) (by omega); rw [if_neg (by omega)] at q; exact q
    refine E_iload_n dX9_takeDrips_2 rfl ?_
    refine E_aload_n dX9_takeDrips_3 rfl ?_
    refine g_X9_30 rfl dX9_takeDrips_4 hA.o hRc ?_
    refine g_X9_47 rfl dX9_takeDrips_7 hC.o (hDI.pnc.trans hn) ?_
    refine E_icmp_ge (tgt := 103) dX9_takeDrips_10 (by decide) (fun h10 => ?_) (fun h10 => ?_)
    · exfalso; omega
    · refine E_aload_n dX9_takeDrips_13 rfl ?_
      refine E_iload_n dX9_takeDrips_14 rfl ?_
      refine i_X9_54 rfl dX9_takeDrips_15 (by exact hA.o) (c_isHung (hA.j I) hW hV hHI (by omega) (by omega)) (by omega) (Nat.le_of_ble_eq_true rfl) rfl rfl ?_
      rintro _ _ ⟨rfl, rfl⟩
      try dsimp only [pu]
      refine E_if_eq (tgt := 97) dX9_takeDrips_18 (by decide) (fun h18 => ?_) (fun h18 => ?_)
      · simp only [tB0, ne_eq, Bool.not_eq_false, Bool.not_eq_true, decide_eq_true_eq, decide_eq_false_iff_not, Classical.not_not] at h18
        refine E_iinc dX9_takeDrips_97 rfl (by omega) (by omega) (by decide) rfl (by decide) ?_
        try dsimp only [List.set]
        refine E_goto (tgt := 2) dX9_takeDrips_100 (by decide) ?_
        exact EV.mq rfl rfl (ih (r + 1) I (by omega) (tak_skip hi h18 (by omega)))
      · simp only [tB0, ne_eq, Bool.not_eq_false, Bool.not_eq_true, decide_eq_true_eq, decide_eq_false_iff_not, Classical.not_not] at h18
        have hnn : nm1 (hu ↑r) = hu ↑r := by omega
        refine E_aload_n dX9_takeDrips_21 rfl ?_
        refine g_X9_11 rfl dX9_takeDrips_22 hA.o hA.wet ?_
        refine E_iload_n dX9_takeDrips_25 rfl ?_
        refine E_bipush dX9_takeDrips_26 (by decide) ?_
        refine E_aload_n dX9_takeDrips_28 rfl ?_
        refine g_X9_11 rfl dX9_takeDrips_29 hA.o hA.wet ?_
        refine E_iload_n dX9_takeDrips_32 rfl ?_
        refine E_iald dX9_takeDrips_33 hA.s_wet (by omega) (by omega) hwr ?_
        refine E_iconst dX9_takeDrips_34 (by decide) ?_
        refine E_aload_n dX9_takeDrips_35 rfl ?_
        refine g_X9_24 rfl dX9_takeDrips_36 hA.o hA.dripsOn ?_
        refine E_aload_n dX9_takeDrips_39 rfl ?_
        refine g_X9_17 rfl dX9_takeDrips_40 hA.o hA.where ?_
        refine E_iload_n dX9_takeDrips_43 rfl ?_
        refine E_iald dX9_takeDrips_44 hA.s_where (by omega) (by omega) ((hHI _ (by omega) (by omega)).trans hnn) ?_
        refine E_iald dX9_takeDrips_45 hA.s_dripsOn (by omega) (by omega) ((hi.1 _ _ (by omega) (by omega)).trans (h4 _ (by omega) (by omega))) ?_
        refine E_imul dX9_takeDrips_46 (by omega) (by omega) ?_
        refine E_iadd dX9_takeDrips_47 (by omega) (by omega) ?_
        refine i_X9_105 rfl dX9_takeDrips_48 c_mmin (by omega) (Nat.le_of_ble_eq_true rfl) rfl rfl ?_
        rintro _ _ ⟨rfl, rfl⟩
        try dsimp only [pu]
        refine E_iast dX9_takeDrips_51 hA.s_wet (by omega) (by omega) ?_
        refine EV.mq rfl (show mJ M (up2 I (w + 1) ↑r (min 99 (v ↑r + 3 * gCnt cd hu v (hu ↑r) n))) = _ from rfl) ?_
        generalize hJ : up2 I (w + 1) ↑r (min 99 (v ↑r + 3 * gCnt cd hu v (hu ↑r) n)) = J
        have hJo : ∀ b j, b ≠ w + 1 → J b j = I b j := fun b j hb => by rw [← hJ]; exact up2_ne _ _ (fun h => hb h.1)
        have hDJ : CC J a cd := hDI.off (fun b j h1 h2 => hJo b j (by omega))
        refine E_aload_n dX9_takeDrips_52 rfl ?_
        refine g_X9_20 rfl dX9_takeDrips_53 hA.o hA.stained ?_
        refine E_iload_n dX9_takeDrips_56 rfl ?_
        refine E_aload_n dX9_takeDrips_57 rfl ?_
        refine g_X9_20 rfl dX9_takeDrips_58 hA.o hA.stained ?_
        refine E_iload_n dX9_takeDrips_61 rfl ?_
        refine E_zald dX9_takeDrips_62 hA.s_stained (by omega) (by omega) ((hJo _ _ (by omega)).trans hsr) ?_
        refine E_if_ne (tgt := 91) dX9_takeDrips_63 (by decide) (fun h63 => ?_) (fun h63 => ?_)
        · refine E_iconst dX9_takeDrips_91 (by decide) ?_
          refine E_goto (tgt := 96) dX9_takeDrips_92 (by decide) ?_
          refine E_zast dX9_takeDrips_96 hA.s_stained (by omega) (by omega) (nar01 (by omega)) ?_
          refine E_iinc dX9_takeDrips_97 rfl (by omega) (by omega) (by decide) rfl (by decide) ?_
          try dsimp only [List.set]
          refine E_goto (tgt := 2) dX9_takeDrips_100 (by decide) ?_
          subst hJ
          exact EV.mq rfl rfl (ih (r + 1) _ (by omega) (tak_step (X := (min 99 (v ↑r + 3 * gCnt cd hu v (hu ↑r) n))) (Y := 1) hi (by rw [qW2, if_neg h18]) (by unfold qS2; split <;> omega) (by omega)))
        · refine E_aload_n dX9_takeDrips_66 rfl ?_
          refine g_X9_27 rfl dX9_takeDrips_67 hA.o hA.redOn ?_
          refine E_aload_n dX9_takeDrips_70 rfl ?_
          refine g_X9_17 rfl dX9_takeDrips_71 hA.o hA.where ?_
          refine E_iload_n dX9_takeDrips_74 rfl ?_
          refine E_iald dX9_takeDrips_75 hA.s_where (by omega) (by omega) ((hJo _ _ (by omega)).trans ((hHI _ (by omega) (by omega)).trans hnn)) ?_
          refine E_zald dX9_takeDrips_76 hA.s_redOn (by omega) (by omega) ((hJo _ _ (by omega)).trans ((hi.1 _ _ (by omega) (by omega)).trans (h5 _ (by omega) (by omega)))) ?_
          refine E_if_eq (tgt := 95) dX9_takeDrips_77 (by decide) (fun h77 => ?_) (fun h77 => ?_)
          · simp only [tB0, ne_eq, Bool.not_eq_false, Bool.not_eq_true, decide_eq_true_eq, decide_eq_false_iff_not, Classical.not_not] at h77
            refine E_iconst dX9_takeDrips_95 (by decide) ?_
            refine E_zast dX9_takeDrips_96 hA.s_stained (by omega) (by omega) (nar01 (by omega)) ?_
            refine E_iinc dX9_takeDrips_97 rfl (by omega) (by omega) (by decide) rfl (by decide) ?_
            try dsimp only [List.set]
            refine E_goto (tgt := 2) dX9_takeDrips_100 (by decide) ?_
            subst hJ
            exact EV.mq rfl rfl (ih (r + 1) _ (by omega) (tak_step (X := (min 99 (v ↑r + 3 * gCnt cd hu v (hu ↑r) n))) (Y := 0) hi (by rw [qW2, if_neg h18]) (by unfold qS2; rw [if_neg (by rw [h77]; simp)]; omega) (by omega)))
          · simp only [tB0, ne_eq, Bool.not_eq_false, Bool.not_eq_true, decide_eq_true_eq, decide_eq_false_iff_not, Classical.not_not] at h77
            refine E_aload_n dX9_takeDrips_80 rfl ?_
            refine g_X9_30 rfl dX9_takeDrips_81 hA.o hRc ?_
            refine E_iload_n dX9_takeDrips_84 rfl ?_
            refine i_X9_108 rfl dX9_takeDrips_85 (by exact hC.o) (c_takesStains (hC.j J) hDJ hW (by omega) (by omega)) (by omega) (Nat.le_of_ble_eq_true rfl) rfl rfl ?_
            rintro _ _ ⟨rfl, rfl⟩
            try dsimp only [pu]
            refine E_if_eq (tgt := 95) dX9_takeDrips_88 (by decide) (fun h88 => ?_) (fun h88 => ?_)
            · simp only [tB0, ne_eq, Bool.not_eq_false, Bool.not_eq_true, decide_eq_true_eq, decide_eq_false_iff_not, Classical.not_not] at h88
              refine E_iconst dX9_takeDrips_95 (by decide) ?_
              refine E_zast dX9_takeDrips_96 hA.s_stained (by omega) (by omega) (nar01 (by omega)) ?_
              refine E_iinc dX9_takeDrips_97 rfl (by omega) (by omega) (by decide) rfl (by decide) ?_
              try dsimp only [List.set]
              refine E_goto (tgt := 2) dX9_takeDrips_100 (by decide) ?_
              subst hJ
              exact EV.mq rfl rfl (ih (r + 1) _ (by omega) (tak_step (X := (min 99 (v ↑r + 3 * gCnt cd hu v (hu ↑r) n))) (Y := 0) hi (by rw [qW2, if_neg h18]) (by unfold qS2; rw [if_neg (by rw [h88]; simp)]; omega) (by omega)))
            · simp only [tB0, ne_eq, Bool.not_eq_false, Bool.not_eq_true, decide_eq_true_eq, decide_eq_false_iff_not, Classical.not_not] at h88
              refine E_iconst dX9_takeDrips_91 (by decide) ?_
              refine E_goto (tgt := 96) dX9_takeDrips_92 (by decide) ?_
              refine E_zast dX9_takeDrips_96 hA.s_stained (by omega) (by omega) (nar01 (by omega)) ?_
              refine E_iinc dX9_takeDrips_97 rfl (by omega) (by omega) (by decide) rfl (by decide) ?_
              try dsimp only [List.set]
              refine E_goto (tgt := 2) dX9_takeDrips_100 (by decide) ?_
              subst hJ
              exact EV.mq rfl rfl (ih (r + 1) _ (by omega) (tak_step (X := (min 99 (v ↑r + 3 * gCnt cd hu v (hu ↑r) n))) (Y := 1) hi (by rw [qW2, if_neg h18]) (by unfold qS2; rw [if_pos ⟨h18, h77, h88⟩]) (by omega)))
set_option maxRecDepth 20000 in
set_option maxHeartbeats 400000 in
theorem c_takeDrips {G : Ctx} {M : Mem} {w a : Nat} {cd : CD} (hA : WA M w) (hRc : mR M w 0 = a) (hC : CA M a) (hD : CC (mI M) a cd) (hW : WFc cd) {hu : Int → Int} (hV : HV cd hu) (hH : HC (mI M) w cd hu) {v sn : Int → Int} (hE : EC (mI M) w cd v) (hS : SC (mI M) w cd sn) (hZ : ∀ p, 0 ≤ p → p < cd 2 → sn p = 0 ∨ sn p = 1) (hv9 : ∀ p, 0 ≤ p → p < cd 2 → 0 ≤ v p ∧ v p ≤ 99) (n : Nat) (hn : cd 2 = n) (hap : a + 13 < w ∨ w + 5 < a) (h4 : ∀ l, 0 ≤ l → l < cd 0 → mI M (w + 4) l = gCnt cd hu v l n) (h5 : ∀ l, 0 ≤ l → l < cd 0 → mI M (w + 5) l = tB (gRed cd hu v l n)) : CT G m_X9_takeDrips 1 0 0 [vR w] M (rJ M (fun I => (∀ b j, b ≠ w + 1 → b ≠ w + 3 → I b j = mI M b j) ∧ EC I w cd (qW2 cd hu v n) ∧ SC I w cd (qS2 cd hu v sn n) ∧ ∀ p : Int, n ≤ p → I (w + 3) p = mI M (w + 3) p)) := by
  refine CT.of k_X9_takeDrips 1 (ls := [some (vR w), none]) rfl (Nat.le_of_ble_eq_true rfl) ?_
  refine E_iconst dX9_takeDrips_0 (by decide) ?_
  refine E_istore_n dX9_takeDrips_1 rfl (by decide) ?_
  try dsimp only [List.set]
  exact l_takeDrips hA hRc hC hD hW hV hH hE hS hZ hv9 n hn hap h4 h5 n 0 (mI M) (by omega) ⟨fun _ _ _ _ => rfl, fun p p0 p1 => by rw [if_neg (by omega)]; exact hE p p0 (by omega), fun p p0 p1 => by rw [if_neg (by omega)]; exact hS p p0 (by omega), fun _ _ => rfl⟩
