set_option maxRecDepth 20000 in
set_option maxHeartbeats 3000000 in
theorem l_takenNext {G : Ctx} {M : Mem} (hX : XO M) {a : Nat} {cd : CD} (hRc : mR M 47 0 = a) (hC : CA M a) (hD : CC (mI M) a cd) (hW : WFc cd) (n : Nat) (hn : cd 2 = n) {s : Int} {b : Nat → Bool} (hB : BS s n b) : ∀ (k r : Nat) , r + k = n → EV G m_X11_takenNext 0 0 0 (rI M (nm1 (nx cd b n))) 7 [some (vR 21), some (vI s), some (vI (nm1 (nx cd b r))), some (vI (nxM cd b r)), some (vI (r : Int))] [] M := by
  intro k
  induction k with
  | zero =>
    intro r  hr
    obtain rfl : r = n := by omega
    have hpn := hW.pn
    refine E_iload dX11_takenNext_7 rfl ?_
    refine E_aload_n dX11_takenNext_9 rfl ?_
    refine g_X11_48 rfl dX11_takenNext_10 hX.o hX.wash ?_
    refine g_X11_168 rfl dX11_takenNext_13 hX.w0.o hRc ?_
    refine g_X11_172 rfl dX11_takenNext_16 hC.o (hD.pnc.trans hn) ?_
    refine E_icmp_ge (tgt := 71) dX11_takenNext_19 (by decide) (fun h19 => ?_) (fun h19 => ?_)
    · refine E_iload_n dX11_takenNext_71 rfl ?_
      refine E_iret dX11_takenNext_72 rfl ?_
      exact ⟨rfl, rfl⟩
    · exfalso; omega
  | succ k ih =>
    intro r  hr
    have hpn := hW.pn
    have hbt := hB.bit (p := r) (by omega) (by omega)
    have hy := hW.ya (p := r) (by omega) (by omega)
    have hm : nxM cd b r = if nx cd b r = -1000000 then 0 else cd (87 + 6 * nx cd b r) := rfl
    refine E_iload dX11_takenNext_7 rfl ?_
    refine E_aload_n dX11_takenNext_9 rfl ?_
    refine g_X11_48 rfl dX11_takenNext_10 hX.o hX.wash ?_
    refine g_X11_168 rfl dX11_takenNext_13 hX.w0.o hRc ?_
    refine g_X11_172 rfl dX11_takenNext_16 hC.o (hD.pnc.trans hn) ?_
    refine E_icmp_ge (tgt := 71) dX11_takenNext_19 (by decide) (fun h19 => ?_) (fun h19 => ?_)
    · exfalso; omega
    · refine E_iload_n dX11_takenNext_22 rfl ?_
      refine E_iload dX11_takenNext_23 rfl ?_
      refine E_ishr dX11_takenNext_25 ?_
      refine E_iconst dX11_takenNext_26 (by decide) ?_
      refine E_iand dX11_takenNext_27 ?_
      rw [hbt]
      refine E_if_eq (tgt := 65) dX11_takenNext_28 (by decide) (fun h28 => ?_) (fun h28 => ?_)
      · simp only [tB0, ne_eq, Bool.not_eq_false, Bool.not_eq_true, decide_eq_true_eq, decide_eq_false_iff_not, Classical.not_not] at h28
        refine E_iinc dX11_takenNext_65 rfl (by omega) (by omega) (by decide) rfl (by decide) ?_
        try dsimp only [List.set]
        refine E_goto (tgt := 7) dX11_takenNext_68 (by decide) ?_
        have e : nx cd b (r + 1) = nx cd b r := by simp only [nx]; rw [if_neg (by rw [h28]; simp)]
        exact EV.lq (by unfold nxM; rw [e]; rfl) (ih (r + 1) (by omega))
      · simp only [tB0, ne_eq, Bool.not_eq_false, Bool.not_eq_true, decide_eq_true_eq, decide_eq_false_iff_not, Classical.not_not] at h28
        refine E_aload_n dX11_takenNext_31 rfl ?_
        refine g_X11_48 rfl dX11_takenNext_32 hX.o hX.wash ?_
        refine g_X11_168 rfl dX11_takenNext_35 hX.w0.o hRc ?_
        refine g_X11_209 rfl dX11_takenNext_38 hC.o hC.yards ?_
        refine E_iload dX11_takenNext_41 rfl ?_
        refine E_iald dX11_takenNext_43 hC.s_yards (by omega) (by omega) (hD.yards (by omega) (by omega)) ?_
        refine E_iload_n dX11_takenNext_44 rfl ?_
        refine E_icmp_le (tgt := 65) dX11_takenNext_45 (by decide) (fun h45 => ?_) (fun h45 => ?_)
        · refine E_iinc dX11_takenNext_65 rfl (by omega) (by omega) (by decide) rfl (by decide) ?_
          try dsimp only [List.set]
          refine E_goto (tgt := 7) dX11_takenNext_68 (by decide) ?_
          have e : nx cd b (r + 1) = nx cd b r := by simp only [nx]; rw [if_neg (fun z => by rcases z.2 with z | z; (· rw [if_pos z] at hm; omega); (· by_cases q : nx cd b r = -1000000; (· rw [if_pos q] at hm; omega); (· rw [if_neg q] at hm; omega)))]
          exact EV.lq (by unfold nxM; rw [e]; rfl) (ih (r + 1) (by omega))
        · refine E_iload dX11_takenNext_48 rfl ?_
          refine E_istore_n dX11_takenNext_50 rfl (by decide) ?_
          try dsimp only [List.set]
          refine E_aload_n dX11_takenNext_51 rfl ?_
          refine g_X11_48 rfl dX11_takenNext_52 hX.o hX.wash ?_
          refine g_X11_168 rfl dX11_takenNext_55 hX.w0.o hRc ?_
          refine g_X11_209 rfl dX11_takenNext_58 hC.o hC.yards ?_
          refine E_iload dX11_takenNext_61 rfl ?_
          refine E_iald dX11_takenNext_63 hC.s_yards (by omega) (by omega) (hD.yards (by omega) (by omega)) ?_
          refine E_istore_n dX11_takenNext_64 rfl (by decide) ?_
          try dsimp only [List.set]
          refine E_iinc dX11_takenNext_65 rfl (by omega) (by omega) (by decide) rfl (by decide) ?_
          try dsimp only [List.set]
          refine E_goto (tgt := 7) dX11_takenNext_68 (by decide) ?_
          have e : nx cd b (r + 1) = r := by simp only [nx]; rw [if_pos ⟨h28, by by_cases q : nx cd b r = -1000000; (· exact Or.inl q); (· rw [if_neg q] at hm; exact Or.inr (by omega))⟩]
          exact EV.lq (by unfold nxM; rw [e, if_neg (by omega)]; unfold nm1; rw [if_neg (by omega)]; rfl) (ih (r + 1) (by omega))
set_option maxRecDepth 20000 in
set_option maxHeartbeats 3000000 in
theorem c_takenNext {G : Ctx} {M : Mem} (hX : XO M) {a : Nat} {cd : CD} (hRc : mR M 47 0 = a) (hC : CA M a) (hD : CC (mI M) a cd) (hW : WFc cd) (n : Nat) (hn : cd 2 = n) {s : Int} {b : Nat → Bool} (hB : BS s n b) : CT G m_X11_takenNext 0 0 0 [vR 21, vI s] M (rI M (nm1 (nx cd b n))) := by
  refine CT.of k_X11_takenNext 3 (ls := [some (vR 21), some (vI s), none, none, none]) rfl (Nat.le_of_ble_eq_true rfl) ?_
  refine E_iconst dX11_takenNext_0 (by decide) ?_
  refine E_istore_n dX11_takenNext_1 rfl (by decide) ?_
  try dsimp only [List.set]
  refine E_iconst dX11_takenNext_2 (by decide) ?_
  refine E_istore_n dX11_takenNext_3 rfl (by decide) ?_
  try dsimp only [List.set]
  refine E_iconst dX11_takenNext_4 (by decide) ?_
  refine E_istore dX11_takenNext_5 rfl (by decide) ?_
  try dsimp only [List.set]
  exact l_takenNext hX hRc hC hD hW n hn hB n 0 (by omega)
