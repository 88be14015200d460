/-! ===== 76: court of the class ===== -/
def nT (A : AS) : Nat := (A 0 9).toNat
def s_court (A : AS) : Int := if pE (rdE (A 6) (nT A)) = 0 then (rd5 (A 6) (nT A)).2 0 else -1000100 - pW (rdE (A 6) (nT A))
def t_court (A : AS) : AS := if pE (rdE (A 6) (nT A)) = 0 then up2 (pg4 (up2 A 0 9 0) (rd5 (A 6) (nT A)).2) 0 7 1 else up2 (up2 A 0 9 0) 0 10 (pE (rdE (A 6) (nT A)))
theorem CI.wn {M : Mem} {A : AS} {fr : CD} {c : Nat} {I : AS} (hI : CI M A) (hw : WR (mK M 47 c I) 47 fr) (hb : ∀ b j, (b < 47 ∨ 47 + 3 < b) → I b j = mI M b j) : CI (mK M 47 c I) (pg4 A fr) := by
  obtain ⟨y1, y2, y3, y4, y5, y6⟩ := hI.kq (c := c) (w := 47) (by omega) hb
  obtain ⟨x1, x2, x3, x4, x5, x6, x7, x8, x9⟩ := hI
  have e : ∀ q j, q ≠ 4 → pg4 A fr q j = A q j := fun q j q1 => pg4_ne _ _ q1
  refine ⟨y1, y2, y3.cg (fun _ => rfl) (fun _ => rfl) (fun _ => rfl) (fun j => e _ _ (by omega)) (fun j => e _ _ (by omega)) (fun j => e _ _ (by omega)), y4.cg rfl (fun _ => rfl) (e _ _ (by omega)) (fun j => e _ _ (by omega)), y5.cg rfl (fun _ => rfl) (e _ _ (by omega)) (fun j => e _ _ (by omega)), y6.cg rfl rfl (e _ _ (by omega)) (e _ _ (by omega)), ?_, ?_, ?_⟩
  · rw [pg4_4]; exact hw
  · rw [show img (pg4 A fr) 0 = img A 0 from funext fun j => e _ _ (by omega)]; exact x8.k (by omega) (by omega) hb
  · rw [show img (pg4 A fr) 1 = img A 1 from funext fun j => e _ _ (by omega)]; exact x9.k (by omega) (by omega) hb
/-- a field of the reference's that the class hasn't -/
theorem CI.no {M : Mem} {A : AS} (h : CI M A) {j : Int} (hj : j ≠ 1 ∧ j ≠ 9 ∧ j ≠ 10 ∧ j ≠ 27) (x : Int) : CI M (up2 A 0 j x) :=
  h.j (I := mI M) (fun _ _ _ => rfl) (h.2.2.1.cg (fun _ => rfl) (fun _ => rfl) (fun _ => rfl) (fun i => up2_ne _ _ (by omega)) (fun i => up2_ne _ _ (by omega)) (fun i => up2_ne _ _ (by omega))) (h.2.2.2.1.cg rfl (fun _ => rfl) (up2_ne _ _ (by omega)) (fun i => up2_ne _ _ (by omega))) (h.2.2.2.2.1.cg rfl (fun _ => rfl) (up2_ne _ _ (by omega)) (fun i => up2_ne _ _ (by omega))) (h.2.2.2.2.2.1.cg rfl rfl (up2_ne _ _ (by omega)) (up2_ne _ _ (by omega))) (fun i => up2_ne _ _ (by omega)) (fun i => up2_ne _ _ (by omega))
/-- the tape is read -/
theorem CI.tape {M : Mem} {A I : AS} (h : CI M A) (hI : ∀ b (j : Int), ¬ (b = 26 ∧ 1 ≤ j ∧ j ≤ 6) → I b j = mI M b j) (h1 : I 26 1 = 0) : CI (mJ M I) (up2 A 0 9 0) :=
  h.j (fun b j hb => hI b j (by omega)) (h.2.2.1.cg (fun j => hI _ _ (by omega)) (fun j => hI _ _ (by omega)) (fun j => hI _ _ (by omega)) (fun i => up2_ne _ _ (by omega)) (fun i => up2_ne _ _ (by omega)) (fun i => up2_ne _ _ (by omega))) ⟨by rw [h1, up2_self], fun j j0 j1 => by rw [up2_self] at j1; omega⟩ (h.2.2.2.2.1.cg (hI _ _ (by omega)) (fun j => hI _ _ (by omega)) (up2_ne _ _ (by omega)) (fun i => up2_ne _ _ (by omega))) (h.2.2.2.2.2.1.cg (hI _ _ (by omega)) (hI _ _ (by omega)) (up2_ne _ _ (by omega)) (up2_ne _ _ (by omega))) (fun i => up2_ne _ _ (by omega)) (fun i => up2_ne _ _ (by omega))
theorem CI.lf {M : Mem} {A : AS} (h : CI M A) (x : Int) : CI (mWI M 21 13 x) (up2 A 0 10 x) :=
  h.j (I := up2 (mI M) 21 13 x) (fun b j hb => up2_ne _ _ (by omega)) (h.2.2.1.cg (fun j => up2_ne _ _ (by omega)) (fun j => up2_ne _ _ (by omega)) (fun j => up2_ne _ _ (by omega)) (fun j => up2_ne _ _ (by omega)) (fun j => up2_ne _ _ (by omega)) (fun j => up2_ne _ _ (by omega))) (h.2.2.2.1.cg (up2_ne _ _ (by omega)) (fun j => up2_ne _ _ (by omega)) (up2_ne _ _ (by omega)) (fun j => up2_ne _ _ (by omega))) (h.2.2.2.2.1.cg (up2_ne _ _ (by omega)) (fun j => up2_ne _ _ (by omega)) (up2_ne _ _ (by omega)) (fun j => up2_ne _ _ (by omega))) ⟨(up2_self _ _ _ _).trans (up2_self _ _ _ _).symm, (up2_ne _ _ (by omega)).trans (h.2.2.2.2.2.1.2.trans (up2_ne _ _ (by omega)).symm)⟩ (fun j => up2_ne _ _ (by omega)) (fun j => up2_ne _ _ (by omega))
/-- a wash begins with a court that was read -/
theorem WR.new {M : Mem} {c : Nat} {fr : CD} {I : AS} (hA : CA M c) (hc : 92 ≤ c) (hn : c + 13 < mN M) (hC : CC (mI M) c fr) (hf : ∀ q : Int, 0 ≤ q → q < fr 2 → mI M (c + 12) q = fr (86 + 6 * q)) (hw : WP fr) (hb : NI M 47 c 10 I) : WR (mK M 47 c I) 47 fr := by
  obtain ⟨b1, b2, b3⟩ := hb
  have hp := hw.1.2.2
  refine ⟨c, mR_wr0, hA.k _ _ _ (by omega), Or.inr hc, hn, hC.off (fun b j q0 q1 => b3 b j (by omega)), fun p p0 p1 => ?_, fun p p0 p1 => ?_, fun p p0 p1 => ?_, b1.trans hw.2.1.symm, fun p p0 p1 => ?_⟩
  · rw [show cHu fr p = -1000000 from (hw.2.2.2.2.1 p p0 p1).2.2.2.2]; exact (b2 p p0 (by omega)).2.1
  · exact (b2 p p0 (by omega)).1.trans (hf p p0 p1)
  · exact (b2 p p0 (by omega)).2.2.trans (hw.2.2.2.2.2 p p0 (by omega)).symm
  · exact Or.inl (b2 p p0 p1).2.2
theorem GA.court {A : AS} {B : Int} (h : GA A B) (hB : 0 ≤ B) : GA (t_court A) B := by
  obtain ⟨h1, h2, h3, h4, h5, h6, h7, h8⟩ := h
  unfold t_court
  by_cases e : pE (rdE (A 6) (nT A)) = 0
  · rw [if_pos e]
    have w := rd_wf e
    have n : ∀ k j, k ≠ 0 → k ≠ 4 → up2 (pg4 (up2 A 0 9 0) (rd5 (A 6) (nT A)).2) 0 7 1 k j = A k j := fun k j k0 k4 => by rw [up2_ne _ _ (by omega), pg4_ne _ _ k4, up2_ne _ _ (by omega)]
    have n4 : up2 (pg4 (up2 A 0 9 0) (rd5 (A 6) (nT A)).2) 0 7 1 4 = (rd5 (A 6) (nT A)).2 := funext fun j => by rw [up2_ne _ _ (by omega), pg4_4]
    have n7 : up2 (pg4 (up2 A 0 9 0) (rd5 (A 6) (nT A)).2) 0 7 1 0 7 = 1 := up2_self _ _ _ _
    have n9 : up2 (pg4 (up2 A 0 9 0) (rd5 (A 6) (nT A)).2) 0 7 1 0 9 = 0 := by rw [up2_ne _ _ (by omega), pg4_ne _ _ (by omega), up2_self]
    have n27 : up2 (pg4 (up2 A 0 9 0) (rd5 (A 6) (nT A)).2) 0 7 1 0 27 = A 0 27 := by rw [up2_ne _ _ (by omega), pg4_ne _ _ (by omega), up2_ne _ _ (by omega)]
    refine ⟨fun r r0 r1 => by rw [n _ _ (by omega) (by omega)]; exact h1 r r0 r1, fun r r0 r1 => by rw [n _ _ (by omega) (by omega)]; exact h2 r r0 r1, by rw [n4]; exact w.1.le hB, Or.inr ⟨n7, by rw [n4]; exact w.2⟩, by rw [n9]; omega, fun j j0 j1 => by rw [n9] at j1; omega, by rw [n27]; exact h7, fun k hk => ?_⟩
    have ei : img (up2 (pg4 (up2 A 0 9 0) (rd5 (A 6) (nT A)).2) 0 7 1) k = img A k := funext fun j => n _ _ (by omega) (by omega)
    rw [ei, n _ _ (by omega) (by omega), n7]
    refine ⟨(h8 k hk).1, ?_⟩
    rcases (h8 k hk).2 with q | q
    · exact Or.inl q
    · exact Or.inr ⟨q.1, q.2.1, rfl⟩
  · rw [if_neg e]
    have n : ∀ k j, (k ≠ 0 ∨ (j ≠ 9 ∧ j ≠ 10)) → up2 (up2 A 0 9 0) 0 10 (pE (rdE (A 6) (nT A))) k j = A k j := fun k j hk => by rw [up2_ne _ _ (by omega), up2_ne _ _ (by omega)]
    have n4 : up2 (up2 A 0 9 0) 0 10 (pE (rdE (A 6) (nT A))) 4 = A 4 := funext fun j => n _ _ (by omega)
    have n9 : up2 (up2 A 0 9 0) 0 10 (pE (rdE (A 6) (nT A))) 0 9 = 0 := by rw [up2_ne _ _ (by omega), up2_self]
    refine ⟨fun r r0 r1 => by rw [n _ _ (by omega)]; exact h1 r r0 r1, fun r r0 r1 => by rw [n _ _ (by omega)]; exact h2 r r0 r1, by rw [n4]; exact h3, by rw [n _ _ (by omega), n4]; exact h4, by rw [n9]; omega, fun j j0 j1 => by rw [n9] at j1; omega, by rw [n _ _ (by omega)]; exact h7, fun k hk => ?_⟩
    have ei : img (up2 (up2 A 0 9 0) 0 10 (pE (rdE (A 6) (nT A)))) k = img A k := funext fun j => n _ _ (by omega)
    rw [ei, n _ _ (by omega), n _ _ (by omega)]
    exact h8 k hk
set_option maxRecDepth 20000 in
set_option maxHeartbeats 3000000 in
theorem x_court {G : Ctx} {M : Mem} {A : AS} {B : Int} (hI : CI M A) (hG : GA A B) : CT G m_X11_court 9 14 144 [vR 21] M (xM M (s_court A) (t_court A)) := by
  refine CT.of k_X11_court 1 (ls := [some (vR 21), none]) rfl (Nat.le_of_ble_eq_true rfl) ?_
  have hN := hI.2.1
  have hX := hI.1
  have htn := hG.tn
  have hN9 : ((nT A : Nat) : Int) = A 0 9 := by unfold nT; omega
  have hTP : TP (mI M) 26 (A 6) (nT A) := ⟨hI.2.2.2.1.1.trans hN9.symm, by omega, fun k hk => ⟨hI.2.2.2.1.2 _ (by omega) (by omega), hG.tp (by omega) (by omega)⟩⟩
  refine E_aload_n dX11_court_0 rfl ?_
  refine g_X11_19 rfl dX11_court_1 hX.o hX.reader ?_
  refine i_X11_113 rfl dX11_court_4 (by exact hX.rq.o) (c_readCourt (T := A 6) (N := nT A) hX.rq hTP (by omega)) (by omega) (Nat.le_of_ble_eq_true rfl) rfl rfl ?_
  rintro _ M1 ⟨rfl, Ir, hr1, hE, hCA, hn1, ir1, ir5, ir6, hlc, hcc⟩
  have hI1 : CI M1 (up2 A 0 9 0) := (hI.tape hr1 ir1).ex hE
  have hF1 : FX M M1 := ((FX.rfl' M).j (J := Ir) (fun b j b0 b1 => hr1 b j (by omega))).tr (FX.ex (by exact hN) hE)
  have hX1 := hI1.1
  have g5 : mI M1 26 5 = (pE (rdE (A 6) (nT A))) := (congrFun (hE.2 26 (by show 26 < mN M; omega)).2.1 5).trans ir5
  have hpy := PY.rE (T := A 6) (N := nT A)
  try dsimp only [pu]
  refine E_astore_n dX11_court_7 rfl (by decide) ?_
  try dsimp only [List.set]
  refine E_aload_n dX11_court_8 rfl ?_
  refine g_X11_19 rfl dX11_court_9 hX1.o hX1.reader ?_
  refine g_X11_117 rfl dX11_court_12 hX1.rq.o g5 ?_
  refine E_if_eq (tgt := 40) dX11_court_15 (by decide) (fun h15 => ?_) (fun h15 => ?_)
  · refine E_aload_n dX11_court_40 rfl ?_
    refine g_X11_48 rfl dX11_court_41 hX1.o hX1.wash ?_
    refine E_aload_n dX11_court_44 rfl ?_
    refine i_X11_128 rfl dX11_court_45 (by exact hX1.w0.o) (c_begin hX1.w0 hCA (Or.inr (by omega))) (by omega) (Nat.le_of_ble_eq_true rfl) rfl rfl ?_
    rintro _ _ ⟨rfl, I2, rfl, hNI⟩
    try dsimp only [pu]
    refine E_aload_n dX11_court_48 rfl ?_
    refine g_X11_131 rfl dX11_court_49 (by exact hCA.o) ((hNI.2.2 _ _ (by omega)).trans hlc) ?_
    refine E_iret dX11_court_52 rfl ?_
    have hc2 := hcc h15
    have hw := (DYk.all (T := A 6) (N := nT A)).1
    refine ⟨?_, ?_, hF1.tr (FX.k (by omega) hNI.2.2)⟩
    · congr 2; unfold s_court; rw [if_pos h15]
    · unfold t_court; rw [if_pos h15]
      exact CI.no (CI.wn hI1 (WR.new hCA (by omega) (by omega) hc2.1 hc2.2 hw hNI) hNI.2.2) (by omega) 1
  · have hw6 := hpy.2.2 h15
    have g6 : mI M1 26 6 = pW (rdE (A 6) (nT A)) := (congrFun (hE.2 26 (by show 26 < mN M; omega)).2.1 6).trans (ir6 h15)
    refine E_aload_n dX11_court_18 rfl ?_
    refine E_aload_n dX11_court_19 rfl ?_
    refine g_X11_19 rfl dX11_court_20 hX1.o hX1.reader ?_
    refine g_X11_117 rfl dX11_court_23 hX1.rq.o g5 ?_
    refine p_X11_121 rfl dX11_court_26 hX1.o ?_
    refine c_X11_124 rfl dX11_court_29 ?_
    refine E_aload_n dX11_court_31 rfl ?_
    refine g_X11_19 rfl dX11_court_32 (by exact hX1.o) (by exact hX1.reader) ?_
    refine g_X11_125 rfl dX11_court_35 (by exact hX1.rq.o) ((mI_ne (by omega)).trans g6) ?_
    refine E_isub dX11_court_38 (by omega) (by omega) ?_
    refine E_iret dX11_court_39 rfl ?_
    have e : (pE (rdE (A 6) (nT A))) ≠ 0 := h15
    refine ⟨?_, ?_, hF1.w (by omega)⟩
    · congr 2; unfold s_court; rw [if_neg e]
    · unfold t_court; rw [if_neg e]; exact hI1.lf _
