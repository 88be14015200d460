/-! ===== 39: courts at other times; the class: washes that change ===== -/
def KP (cd cd' : CD) : Prop := (∀ j, 0 ≤ j → j < 84 → j ≠ 3 → cd' j = cd j) ∧ ∀ p, 0 ≤ p → p < cd 2 → cd' (84 + 6 * p) = cd (84 + 6 * p) ∧ cd' (85 + 6 * p) = cd (85 + 6 * p) ∧ cd' (87 + 6 * p) = cd (87 + 6 * p)
theorem fBel_kp {cd cd' : CD} (h : KP cd cd') {l : Int} (l0 : 0 ≤ l) (l1 : l < 8) : ∀ k : Nat, k ≤ 8 → fBel cd' l k = fBel cd l k
  | 0, _ => rfl
  | k + 1, hk => by
    have ih := fBel_kp h l0 l1 k (by omega)
    have hb := fBel_r cd l k
    simp only [fBel]
    rw [ih, h.1 (29 + 3 * k) (by omega) (by omega) (by omega), h.1 (29 + 3 * l) (by omega) (by omega) (by omega), h.1 (28 + 3 * k) (by omega) (by omega) (by omega), h.1 (28 + 3 * l) (by omega) (by omega) (by omega)]
    rcases hb with hb | hb
    · simp only [hb, true_or, and_true]
    · rw [h.1 (28 + 3 * fBel cd l k) (by omega) (by omega) (by omega)]
theorem WFc.kp {cd cd' : CD} (hW : WFc cd) (h : KP cd cd') : WFc cd' := by
  have h0 := h.1 0 (by omega) (by omega) (by omega)
  have h1 := h.1 1 (by omega) (by omega) (by omega)
  have h2 := h.1 2 (by omega) (by omega) (by omega)
  have b0 := hW.ln
  have b1 := hW.rn
  have b2 := hW.pn
  refine ⟨by omega, by omega, by omega, fun q q0 q1 => ?_, fun l l0 l1 => ?_, fun l l0 l1 => ?_, fun l l0 l1 => ?_, fun l l0 l1 => ?_, fun p p0 p1 => ?_, fun p p0 p1 => ?_, fun p p0 p1 => ?_⟩
  · rw [h.1 _ (by omega) (by omega) (by omega)]; exact hW.day q0 q1
  · rw [h.1 _ (by omega) (by omega) (by omega)]; exact hW.fl l0 (by omega)
  · rw [h.1 _ (by omega) (by omega) (by omega)]; exact hW.co l0 (by omega)
  · rw [h.1 _ (by omega) (by omega) (by omega)]; exact hW.wi l0 (by omega)
  · rw [h.1 _ (by omega) (by omega) (by omega)]; exact hW.ro l0 (by omega)
  · rw [(h.2 p p0 (by omega)).1]; exact hW.ki p0 (by omega)
  · rw [(h.2 p p0 (by omega)).2.1]; exact hW.ow p0 (by omega)
  · rw [(h.2 p p0 (by omega)).2.2]; exact hW.ya p0 (by omega)
theorem CC.kp {I : AS} {a : Nat} {cd cd' : CD} (hD : CC I a cd) (hW : WFc cd) (h : KP cd cd') : CC I a cd' := by
  have h0 := h.1 0 (by omega) (by omega) (by omega)
  have h1 := h.1 1 (by omega) (by omega) (by omega)
  have h2 := h.1 2 (by omega) (by omega) (by omega)
  have b0 := hW.ln
  have b1 := hW.rn
  have b2 := hW.pn
  refine ⟨by rw [h0]; exact hD.lnc, by rw [h1]; exact hD.rnc, by rw [h2]; exact hD.pnc, fun q q0 q1 => ?_, fun l l0 l1 => ?_, fun l l0 l1 => ?_, fun l l0 l1 => ?_, fun l l0 l1 => ?_, fun l l0 l1 => ?_, fun l l0 l1 => ?_, fun l l0 l1 => ?_, fun l l0 l1 => ?_, fun p p0 p1 => ?_, fun p p0 p1 => ?_, fun p p0 p1 => ?_⟩
  · rw [h.1 _ (by omega) (by omega) (by omega)]; exact hD.day q0 q1
  · rw [h.1 _ (by omega) (by omega) (by omega)]; exact hD.floors l0 (by omega)
  · rw [h.1 _ (by omega) (by omega) (by omega)]; exact hD.columns l0 (by omega)
  · rw [h.1 _ (by omega) (by omega) (by omega)]; exact hD.wides l0 (by omega)
  · rw [h0, fBel_kp h l0 (by omega) _ (by omega)]; exact hD.below l0 (by omega)
  · rw [h.1 _ (by omega) (by omega) (by omega)]; exact hD.rightLines l0 (by omega)
  · rw [h.1 _ (by omega) (by omega) (by omega)]; exact hD.rightFroms l0 (by omega)
  · rw [h.1 _ (by omega) (by omega) (by omega)]; exact hD.rightTos l0 (by omega)
  · rw [h.1 _ (by omega) (by omega) (by omega)]; exact hD.rightOwners l0 (by omega)
  · rw [(h.2 p p0 (by omega)).1]; exact hD.kinds p0 (by omega)
  · rw [(h.2 p p0 (by omega)).2.1]; exact hD.owners p0 (by omega)
  · rw [(h.2 p p0 (by omega)).2.2]; exact hD.yards p0 (by omega)
theorem cKeep_kp (cd : CD) (hu we sn : Int → Int) (n : Nat) : KP cd (cKeep cd hu we sn n) := by
  refine ⟨fun j j0 j1 _ => cKeep_lo cd hu we sn j1 n, fun p p0 p1 => ⟨?_, ?_, ?_⟩⟩
  · have h := cKeep_of cd hu we sn p 0 p0 (by omega) (by omega) n
    rw [show 84 + 6 * p + 0 = 84 + 6 * p by omega] at h
    rw [h]; split <;> rfl
  · have h := cKeep_of cd hu we sn p 1 p0 (by omega) (by omega) n
    rw [show 84 + 6 * p + 1 = 85 + 6 * p by omega] at h
    rw [h]; split <;> rfl
  · have h := cKeep_of cd hu we sn p 3 p0 (by omega) (by omega) n
    rw [show 84 + 6 * p + 3 = 87 + 6 * p by omega] at h
    rw [h]; split <;> rfl
theorem cKeep_hu (cd : CD) (hu we sn : Int → Int) {n : Nat} {p : Int} (p0 : 0 ≤ p) (p1 : p < n) : cHu (cKeep cd hu we sn n) p = hu p := by
  unfold cHu
  have h := cKeep_of cd hu we sn p 4 p0 (by omega) (by omega) n
  rw [show 84 + 6 * p + 4 = 88 + 6 * p by omega] at h
  rw [h, if_pos p1]; rfl
theorem cKeep_we (cd : CD) (hu we sn : Int → Int) {n : Nat} {p : Int} (p0 : 0 ≤ p) (p1 : p < n) : cWe (cKeep cd hu we sn n) p = we p := by
  unfold cWe
  have h := cKeep_of cd hu we sn p 2 p0 (by omega) (by omega) n
  rw [show 84 + 6 * p + 2 = 86 + 6 * p by omega] at h
  rw [h, if_pos p1]; rfl
theorem cKeep_sn (cd : CD) (hu we sn : Int → Int) {n : Nat} {p : Int} (p0 : 0 ≤ p) (p1 : p < n) : cSn (cKeep cd hu we sn n) p = sn p := by
  unfold cSn
  have h := cKeep_of cd hu we sn p 5 p0 (by omega) (by omega) n
  rw [show 84 + 6 * p + 5 = 89 + 6 * p by omega] at h
  rw [h, if_pos p1]; rfl
theorem upC_id (cd : CD) (k : Int) : upC cd k (cd k) = cd := by
  funext j; unfold upC
  by_cases h : j = k
  · rw [if_pos h, h]
  · rw [if_neg h]
theorem cKeep_id (cd : CD) : ∀ n : Nat, cKeep cd (cHu cd) (cWe cd) (cSn cd) n = cd
  | 0 => rfl
  | n + 1 => by
    rw [cKeep, cKeep_id cd n]
    show upC (upC (upC cd (88 + 6 * n) (cd (88 + 6 * n))) (86 + 6 * n) (cd (86 + 6 * n))) (89 + 6 * n) (cd (89 + 6 * n)) = cd
    rw [upC_id, upC_id, upC_id]
theorem pg4_id (A : AS) : pg4 A (A 4) = A := by
  funext k j; unfold pg4
  by_cases h : k = 4
  · rw [if_pos h, h]
  · rw [if_neg h]
theorem KP.tr3 {cd cd' : CD} (h : KP cd cd') (x : Int) : KP cd (upC cd' 3 x) := ⟨fun j j0 j1 j3 => (upC_ne _ _ j3).trans (h.1 j j0 j1 j3), fun p p0 p1 => ⟨(upC_ne _ _ (by omega)).trans (h.2 p p0 p1).1, (upC_ne _ _ (by omega)).trans (h.2 p p0 p1).2.1, (upC_ne _ _ (by omega)).trans (h.2 p p0 p1).2.2⟩⟩
/-- the same numbers as far as they count -/
theorem KP.eq {cd cd' : CD} (hW : WFc cd) (e : ∀ j, 0 ≤ j → j < 144 → cd' j = cd j) : KP cd cd' := by
  have b2 := hW.pn
  exact ⟨fun j j0 j1 _ => e j j0 (by omega), fun p p0 p1 => ⟨e _ (by omega) (by omega), e _ (by omega) (by omega), e _ (by omega) (by omega)⟩⟩
theorem WR.eqv {M : Mem} {w : Nat} {cd cd' : CD} (h : WR M w cd) (hW : WFc cd) (e : ∀ j, 0 ≤ j → j < 144 → cd' j = cd j) : WR M w cd' := by
  obtain ⟨a, h1, h2, h3, h4, h5, h6, h7, h8, h9, h10⟩ := h
  have b2 := hW.pn
  have e2 := e 2 (by omega) (by omega)
  refine ⟨a, h1, h2, h3, h4, h5.kp hW (KP.eq hW e), fun p p0 p1 => ?_, fun p p0 p1 => ?_, fun p p0 p1 => ?_, by rw [e 3 (by omega) (by omega)]; exact h9, h10⟩
  · rw [show cHu cd' p = cHu cd p from e _ (by omega) (by omega)]; exact h6 p p0 (by omega)
  · rw [show cWe cd' p = cWe cd p from e _ (by omega) (by omega)]; exact h7 p p0 (by omega)
  · rw [show cSn cd' p = cSn cd p from e _ (by omega) (by omega)]; exact h8 p p0 (by omega)
theorem WFs.eqv {cd cd' : CD} {B : Int} (h : WFs cd B) (e : ∀ j, 0 ≤ j → j < 144 → cd' j = cd j) : WFs cd' B := by
  have b2 := h.c.pn
  have e2 := e 2 (by omega) (by omega)
  have e0 := e 0 (by omega) (by omega)
  refine ⟨h.c.kp (KP.eq h.c e), fun p p0 p1 => ?_, fun p p0 p1 => ?_, fun p p0 p1 => ?_, by rw [e 3 (by omega) (by omega)]; exact h.g⟩
  · rw [show cHu cd' p = cHu cd p from e _ (by omega) (by omega), e0]; exact h.hv p p0 (by omega)
  · rw [e _ (by omega) (by omega)]; exact h.we p p0 (by omega)
  · rw [e _ (by omega) (by omega)]; exact h.sn p p0 (by omega)
/-- only the wash changes -/
theorem CI.wa {M : Mem} {A C I : AS} (h : CI M A) (hI : ∀ b j, b < 47 ∨ 52 < b → I b j = mI M b j) (hC : ∀ k j, k ≠ 4 → C k j = A k j) (hw : WR (mJ M I) 47 (C 4)) : CI (mJ M I) C := by
  obtain ⟨x1, x2, x3, x4, x5, x6, x7, x8, x9⟩ := h
  exact ⟨x1, x2, x3.cg (fun j => hI _ _ (by omega)) (fun j => hI _ _ (by omega)) (fun j => hI _ _ (by omega)) (fun j => hC _ _ (by omega)) (fun j => hC _ _ (by omega)) (fun j => hC _ _ (by omega)), x4.cg (hI _ _ (by omega)) (fun j => hI _ _ (by omega)) (hC _ _ (by omega)) (fun j => hC _ _ (by omega)), x5.cg (hI _ _ (by omega)) (fun j => hI _ _ (by omega)) (hC _ _ (by omega)) (fun j => hC _ _ (by omega)), x6.cg (hI _ _ (by omega)) (hI _ _ (by omega)) (hC _ _ (by omega)) (hC _ _ (by omega)), hw, x8.cg (fun b j hb => hI b j (by omega)) (fun b j b0 b1 => hI b j (by omega)) (fun j => hC _ _ (by omega)), x9.cg (fun b j hb => hI b j (by omega)) (fun b j b0 b1 => hI b j (by omega)) (fun j => hC _ _ (by omega))⟩
theorem pg4_ne (A : AS) (f : CD) {k : Nat} {j : Int} (h : k ≠ 4) : pg4 A f k j = A k j := by unfold pg4; rw [if_neg h]
theorem pg4_4 (A : AS) (f : CD) : pg4 A f 4 = f := by funext j; unfold pg4; rw [if_pos rfl]
/-- a wash after r quarters -/
def WQ (M : Mem) (w : Nat) (cd : CD) (hu we sn : Int → Int) (g : Int) (n r : Nat) (I : AS) : Prop := (∀ b j, (b < w ∨ w + 5 < b) → I b j = mI M b j) ∧ HC I w cd hu ∧ EC I w cd (itW cd hu n we g r) ∧ SC I w cd (itS cd hu n we sn g r) ∧ I w 1 = g + r ∧ ∀ p, 0 ≤ p → p < 10 → I (w + 3) p = 0 ∨ I (w + 3) p = 1
theorem WQ.step {M : Mem} {w : Nat} {cd : CD} {hu we sn : Int → Int} {g : Int} {n r : Nat} {I J : AS} (hn : cd 2 = n) (hs : ∀ p, 0 ≤ p → p < cd 2 → sn p = 0 ∨ sn p = 1) (hi : WQ M w cd hu we sn g n r I) (hq : J w 1 = g + r + 1 ∧ (∀ b j, (b < w ∨ w + 5 < b) → J b j = mI (mJ M I) b j) ∧ (∀ j, J (w + 2) j = mI (mJ M I) (w + 2) j) ∧ EC J w cd (qW2 cd hu (qW1 cd hu (itW cd hu n we g r) (Int.tmod (g + r) 24)) n) ∧ SC J w cd (qS2 cd hu (qW1 cd hu (itW cd hu n we g r) (Int.tmod (g + r) 24)) (itS cd hu n we sn g r) n) ∧ ∀ p : Int, n ≤ p → J (w + 3) p = mI (mJ M I) (w + 3) p) : WQ M w cd hu we sn g n (r + 1) J := by
  obtain ⟨j1, j2, j3, j4, j5, j6⟩ := hq
  refine ⟨fun b j hb => (j2 b j hb).trans (hi.1 b j hb), fun p p0 p1 => (j3 p).trans (hi.2.1 p p0 p1), j4, j5, by rw [j1]; omega, fun p p0 p1 => ?_⟩
  by_cases hp : p < cd 2
  · rw [j5 p p0 hp]; exact itS_b hs (r + 1) p p0 hp
  · rw [j6 p (by omega)]; exact hi.2.2.2.2.2 p p0 p1
theorem WQ.wr {M : Mem} {w : Nat} {cd : CD} {n r : Nat} {I : AS} (hW : WFc cd) (hn : cd 2 = n) (h : WR M w cd) (hw : 47 ≤ w ∧ w ≤ 71) (hi : WQ M w cd (cHu cd) (cWe cd) (cSn cd) (cd 3) n r I) : WR (mJ M I) w (upC (cKeep cd (cHu cd) (itW cd (cHu cd) n (cWe cd) (cd 3) r) (itS cd (cHu cd) n (cWe cd) (cSn cd) (cd 3) r) n) 3 (cd 3 + r)) := by
  obtain ⟨a, h1, h2, h3, h4, h5, h6, h7, h8, h9, h10⟩ := h
  have k1 := (cKeep_kp cd (cHu cd) (itW cd (cHu cd) n (cWe cd) (cd 3) r) (itS cd (cHu cd) n (cWe cd) (cSn cd) (cd 3) r) n).tr3 (cd 3 + r)
  have e2 := k1.1 2 (by omega) (by omega) (by omega)
  refine ⟨a, h1, h2, h3, h4, (h5.off (fun b j b0 b1 => hi.1 b j (by omega))).kp hW k1, fun p p0 p1 => ?_, fun p p0 p1 => ?_, fun p p0 p1 => ?_, ?_, hi.2.2.2.2.2⟩
  · rw [show cHu (upC (cKeep cd (cHu cd) (itW cd (cHu cd) n (cWe cd) (cd 3) r) (itS cd (cHu cd) n (cWe cd) (cSn cd) (cd 3) r) n) 3 (cd 3 + r)) p = cHu cd p from (upC_ne _ _ (by omega)).trans (cKeep_hu _ _ _ _ p0 (by omega))]; exact hi.2.1 p p0 (by omega)
  · rw [show cWe (upC (cKeep cd (cHu cd) (itW cd (cHu cd) n (cWe cd) (cd 3) r) (itS cd (cHu cd) n (cWe cd) (cSn cd) (cd 3) r) n) 3 (cd 3 + r)) p = itW cd (cHu cd) n (cWe cd) (cd 3) r p from (upC_ne _ _ (by omega)).trans (cKeep_we _ _ _ _ p0 (by omega))]; exact hi.2.2.1 p p0 (by omega)
  · rw [show cSn (upC (cKeep cd (cHu cd) (itW cd (cHu cd) n (cWe cd) (cd 3) r) (itS cd (cHu cd) n (cWe cd) (cSn cd) (cd 3) r) n) 3 (cd 3 + r)) p = itS cd (cHu cd) n (cWe cd) (cSn cd) (cd 3) r p from (upC_ne _ _ (by omega)).trans (cKeep_sn _ _ _ _ p0 (by omega))]; exact hi.2.2.2.1 p p0 (by omega)
  · rw [upC_self]; exact hi.2.2.2.2.1
theorem WR.wq {M : Mem} {w : Nat} {cd : CD} {n : Nat} (h : WR M w cd) : WQ M w cd (cHu cd) (cWe cd) (cSn cd) (cd 3) n 0 (mI M) := by
  obtain ⟨a, h1, h2, h3, h4, h5, h6, h7, h8, h9, h10⟩ := h
  exact ⟨fun _ _ _ => rfl, h6, h7, h8, by rw [h9]; show cd 3 = cd 3 + ((0 : Nat) : Int); omega, h10⟩
/-- one wash becomes as another -/
theorem XO.k {M : Mem} {w c : Nat} {I : AS} (h : XO M) (hw : 47 ≤ w) : XO (mK M w c I) := by
  have e : ∀ b k, b < 47 → mR (mK M w c I) b k = mR M b k := fun b k hb => mR_wr (by omega)
  refine ⟨⟨h.o, (e _ _ (by omega)).trans h.rows, (e _ _ (by omega)).trans h.reader, (e _ _ (by omega)).trans h.wash, (e _ _ (by omega)).trans h.firstImage, (e _ _ (by omega)).trans h.secondImage, (e _ _ (by omega)).trans h.draft, (e _ _ (by omega)).trans h.trial, (e _ _ (by omega)).trans h.trace, (e _ _ (by omega)).trans h.triedLines, (e _ _ (by omega)).trans h.bestLines, (e _ _ (by omega)).trans h.timesAlone⟩, ⟨h.s8, h.s9, h.s10⟩, ?_, ?_, ?_, h.w0.k _ _ _, h.w1.k _ _ _, h.w2.k _ _ _, h.w3.k _ _ _, h.w4.k _ _ _⟩
  · exact ⟨h.rp.o, h.rp.lo, ⟨(e _ _ (by omega)).trans h.rp.lanes, h.rp.s_lanes⟩, ⟨(e _ _ (by omega)).trans h.rp.sizes, h.rp.s_sizes⟩, (e _ _ (by omega)).trans h.rp.items, h.rp.s_items⟩
  · exact ⟨h.rq.o, h.rq.lo, (e _ _ (by omega)).trans h.rq.tape, h.rq.s_tape⟩
  · exact ⟨h.tq.o, h.tq.lo, (e _ _ (by omega)).trans h.tq.numbers, h.tq.s_numbers⟩
theorem WR.k {M : Mem} {v w c : Nat} {cd : CD} {I : AS} (h : WR M v cd) (hw : 47 ≤ w ∧ w ≤ 71) (hap : v + 5 < w ∨ w + 5 < v) (hI : ∀ b j, (b < w ∨ w + 3 < b) → I b j = mI M b j) : WR (mK M w c I) v cd := by
  obtain ⟨a, h1, h2, h3, h4, h5, h6, h7, h8, h9, h10⟩ := h
  refine ⟨a, (mR_wr (by omega)).trans h1, h2.k _ _ _ (by omega), h3, h4, h5.off (fun b j b0 b1 => hI b j (by omega)), fun p p0 p1 => (hI _ _ (by omega)).trans (h6 p p0 p1), fun p p0 p1 => (hI _ _ (by omega)).trans (h7 p p0 p1), fun p p0 p1 => (hI _ _ (by omega)).trans (h8 p p0 p1), (hI _ _ (by omega)).trans h9, fun p p0 p1 => ?_⟩
  show I (v + 3) p = 0 ∨ I (v + 3) p = 1
  rw [hI _ _ (by omega)]; exact h10 p p0 p1
theorem WR.become {M : Mem} {v w c : Nat} {cd : CD} {I : AS} (h : WR M v cd) (hc : mR M v 0 = c) (hpn : cd 2 ≤ 10) (hw : 47 ≤ w ∧ w ≤ 71) (hb : BI M w v 10 I) : WR (mK M w c I) w cd := by
  obtain ⟨a, h1, h2, h3, h4, h5, h6, h7, h8, h9, h10⟩ := h
  obtain rfl : c = a := hc.symm.trans h1
  obtain ⟨b1, b2, b3⟩ := hb
  refine ⟨c, mR_wr0, h2.k _ _ _ (by omega), h3, h4, h5.off (fun b j q0 q1 => b3 b j (by omega)), fun p p0 p1 => (b2 p p0 (by omega)).2.1.trans (h6 p p0 p1), fun p p0 p1 => (b2 p p0 (by omega)).1.trans (h7 p p0 p1), fun p p0 p1 => (b2 p p0 (by omega)).2.2.trans (h8 p p0 p1), b1.trans h9, fun p p0 p1 => ?_⟩
  show I (w + 3) p = 0 ∨ I (w + 3) p = 1
  rw [(b2 p p0 p1).2.2]; exact h10 p p0 p1
theorem FX.k {M : Mem} {w c : Nat} {I : AS} (hw : w ≤ 71) (hI : ∀ b j, (b < w ∨ w + 3 < b) → I b j = mI M b j) : FX M (mK M w c I) := ⟨Nat.le_refl _, fun b b0 b1 => ⟨rfl, funext fun j => hI b j (by omega), funext fun k => mR_wr (by omega)⟩⟩
/-- what stays when a wash becomes as another -/
theorem CI.kq {M : Mem} {A : AS} {w c : Nat} {I : AS} (h : CI M A) (hw : 47 ≤ w ∧ w ≤ 71) (hI : ∀ b j, (b < w ∨ w + 3 < b) → I b j = mI M b j) : XO (mK M w c I) ∧ 92 ≤ mN (mK M w c I) ∧ QR I A ∧ QT I A ∧ QC I A ∧ QS I A := by
  obtain ⟨x1, x2, x3, x4, x5, x6, x7, x8, x9⟩ := h
  exact ⟨x1.k hw.1, x2, x3.cg (fun j => hI _ _ (by omega)) (fun j => hI _ _ (by omega)) (fun j => hI _ _ (by omega)) (fun _ => rfl) (fun _ => rfl) (fun _ => rfl), x4.cg (hI _ _ (by omega)) (fun j => hI _ _ (by omega)) rfl (fun _ => rfl), x5.cg (hI _ _ (by omega)) (fun j => hI _ _ (by omega)) rfl (fun _ => rfl), x6.cg (hI _ _ (by omega)) (hI _ _ (by omega)) rfl rfl⟩
theorem CI.kt {M : Mem} {A : AS} {w c : Nat} {I : AS} (h : CI M A) (hw : w = 65 ∨ w = 71) (hI : ∀ b j, (b < w ∨ w + 3 < b) → I b j = mI M b j) : CI (mK M w c I) A := by
  obtain ⟨y1, y2, y3, y4, y5, y6⟩ := h.kq (c := c) (w := w) (by omega) hI
  exact ⟨y1, y2, y3, y4, y5, y6, h.2.2.2.2.2.2.1.k (by omega) (by omega) hI, h.2.2.2.2.2.2.2.1.k (by omega) (by omega) hI, h.2.2.2.2.2.2.2.2.k (by omega) (by omega) hI⟩
/-- ints of the last two washes, and of rows of its own, don't count -/
theorem CI.dt {M : Mem} {A I : AS} (h : CI M A) (hI : ∀ b j, b < 65 ∨ 92 ≤ b → b ≠ 30 → b ≠ 31 → b ≠ 32 → ¬ (b = 21 ∧ (j = 11 ∨ j = 12)) → I b j = mI M b j) : CI (mJ M I) A := by
  obtain ⟨x1, x2, x3, x4, x5, x6, x7, x8, x9⟩ := h
  have e : ∀ b j, (33 ≤ b ∧ b < 65) ∨ 92 ≤ b → I b j = mI M b j := fun b j hb => hI b j (by omega) (by omega) (by omega) (by omega) (by omega)
  have e' : ∀ b j, 21 < b → b < 30 → I b j = mI M b j := fun b j h1 h2 => hI b j (by omega) (by omega) (by omega) (by omega) (by omega)
  exact ⟨x1, x2, x3.cg (fun j => e' _ _ (by omega) (by omega)) (fun j => e' _ _ (by omega) (by omega)) (fun j => e' _ _ (by omega) (by omega)) (fun _ => rfl) (fun _ => rfl) (fun _ => rfl), x4.cg (e' _ _ (by omega) (by omega)) (fun j => e' _ _ (by omega) (by omega)) rfl (fun _ => rfl), x5.cg (e' _ _ (by omega) (by omega)) (fun j => e' _ _ (by omega) (by omega)) rfl (fun _ => rfl), x6.cg (hI _ _ (by omega) (by omega) (by omega) (by omega) (by omega)) (hI _ _ (by omega) (by omega) (by omega) (by omega) (by omega)) rfl rfl, x7.cg (fun b j hb => e b j (by omega)) (fun b j b0 b1 => e b j (by omega)) (fun _ => rfl), x8.cg (fun b j hb => e b j (by omega)) (fun b j b0 b1 => e b j (by omega)) (fun _ => rfl), x9.cg (fun b j hb => e b j (by omega)) (fun b j b0 b1 => e b j (by omega)) (fun _ => rfl)⟩
theorem dry_wet (hu we : Int → Int) : ∀ n : Nat, (∀ p : Int, 0 ≤ p → p < n → 0 ≤ we p) → fDrB (fun p => decide (hu p ≠ -1000000)) we n = !fWet hu we n
  | 0, _ => rfl
  | n + 1, h => by
    have ih := dry_wet hu we n (fun p p0 p1 => h p p0 (by omega))
    have h0 := h n (by omega) (by omega)
    simp only [fDrB, fWet, ih, Bool.not_or]
    congr 1
    by_cases h1 : hu n = -1000000
    · simp [h1]
    · by_cases h2 : we n = 0
      · simp [h2]
      · have h3 : 0 < we n := by omega
        simp [h1, h2, h3]
set_option maxRecDepth 20000 in
set_option maxHeartbeats 3000000 in
theorem x_take {G : Ctx} {M : Mem} {A : AS} {B : Int} (hI : CI M A) (hG : GA A B) (hB : B ≤ 900000) {p : Int} : CT G m_X11_take 2 0 0 [vR 21, vI p] M (xM M (s_take A p) (t_take A p)) := by
  refine CT.of k_X11_take 0 (ls := [some (vR 21), some (vI p)]) rfl (Nat.le_of_ble_eq_true rfl) ?_
  obtain ⟨hX, hN, hR, hT, hK, hS, hW0, hW1, hW2⟩ := id hI
  obtain ⟨a, hRc, hC, ha, haN, hD, hH, hE, hSn, hg, hZ⟩ := hW0
  have hW := hG.w.c
  have hpn := hW.pn
  have hl8 := hW.ln
  have hr8 := hW.rn
  have hgg := hG.w.g
  have hth := hG.th
  have hV := hG.w.hv
  refine E_aload_n dX11_take_0 rfl ?_
  refine E_iload_n dX11_take_1 rfl ?_
  refine i_X11_134 rfl dX11_take_2 (by exact hX.o) (c_isPiece hX hRc hC hD hW) (by omega) (Nat.le_of_ble_eq_true rfl) rfl rfl ?_
  rintro _ _ ⟨rfl, rfl⟩
  try dsimp only [pu]
  refine E_if_ne (tgt := 11) dX11_take_5 (by decide) (fun h5 => ?_) (fun h5 => ?_)
  · simp only [tB0, ne_eq, Bool.not_eq_false, Bool.not_eq_true, decide_eq_true_eq, decide_eq_false_iff_not, Classical.not_not] at h5
    have hv := hV p (by omega) (by omega)
    have hnm : nm1 (cHu (A 4) p) = if cHu (A 4) p = -1000000 then -1 else cHu (A 4) p := rfl
    refine E_aload_n dX11_take_11 rfl ?_
    refine g_X11_48 rfl dX11_take_12 hX.o hX.wash ?_
    refine E_iload_n dX11_take_15 rfl ?_
    refine i_X11_151 rfl dX11_take_16 (by exact hX.w0.o) (c_isHung (by exact hX.w0) hW hV hH (by omega) (by omega)) (by omega) (Nat.le_of_ble_eq_true rfl) rfl rfl ?_
    rintro _ _ ⟨rfl, rfl⟩
    try dsimp only [pu]
    refine E_if_ne (tgt := 25) dX11_take_19 (by decide) (fun h19 => ?_) (fun h19 => ?_)
    · simp only [tB0, ne_eq, Bool.not_eq_false, Bool.not_eq_true, decide_eq_true_eq, decide_eq_false_iff_not, Classical.not_not] at h19
      refine E_aload_n dX11_take_25 rfl ?_
      refine g_X11_48 rfl dX11_take_26 hX.o hX.wash ?_
      refine E_iload_n dX11_take_29 rfl ?_
      refine i_X11_155 rfl dX11_take_30 (by exact hX.w0.o) (c_takeDown (by exact hX.w0) (by omega) (by omega)) (by omega) (Nat.le_of_ble_eq_true rfl) rfl rfl ?_
      rintro _ _ ⟨rfl, rfl⟩
      try dsimp only [pu]
      refine E_iret dX11_take_33 rfl ?_
      refine ⟨?_, ?_, (FX.rfl' M).w (by omega)⟩
      · congr 2; unfold s_take; rw [if_pos (by omega), if_neg (by omega), hH p (by omega) (by omega)]; omega
      · unfold t_take; rw [if_pos (by omega), if_neg (by omega)]
        refine hI.wa (I := up2 (mI M) 49 p (-1)) (fun b j hb => up2_ne _ _ (by omega)) (fun k j hk => up2_ne _ _ (by omega)) ?_
        have e : (up2 A 4 (88 + 6 * p) (-1000000)) 4 = upC (A 4) (88 + 6 * p) (-1000000) := by funext j; unfold up2 upC; simp
        rw [e]
        have kp : KP (A 4) (upC (A 4) (88 + 6 * p) (-1000000)) := ⟨fun j j0 j1 _ => upC_ne _ _ (by omega), fun q q0 q1 => ⟨upC_ne _ _ (by omega), upC_ne _ _ (by omega), upC_ne _ _ (by omega)⟩⟩
        have e2 : upC (A 4) (88 + 6 * p) (-1000000) 2 = A 4 2 := upC_ne _ _ (by omega)
        refine ⟨a, hRc, hC, ha, haN, (hD.off (fun b j b0 b1 => up2_ne _ _ (by omega))).kp hW kp, fun q q0 q1 => ?_, fun q q0 q1 => ?_, fun q q0 q1 => ?_, ?_, fun q q0 q1 => ?_⟩
        · by_cases hq : q = p
          · subst hq
            rw [show cHu (upC (A 4) (88 + 6 * q) (-1000000)) q = -1000000 from upC_self _ _ _]
            exact up2_self _ _ _ _
          · rw [show cHu (upC (A 4) (88 + 6 * p) (-1000000)) q = cHu (A 4) q from upC_ne _ _ (by omega)]
            exact (up2_ne _ _ (by omega)).trans (hH q q0 (by omega))
        · rw [show cWe (upC (A 4) (88 + 6 * p) (-1000000)) q = cWe (A 4) q from upC_ne _ _ (by omega)]
          show up2 (mI M) 49 p (-1) (47 + 1) q = _; rw [up2_ne _ _ (by omega)]; exact hE q q0 (by omega)
        · rw [show cSn (upC (A 4) (88 + 6 * p) (-1000000)) q = cSn (A 4) q from upC_ne _ _ (by omega)]
          show up2 (mI M) 49 p (-1) (47 + 3) q = _; rw [up2_ne _ _ (by omega)]; exact hSn q q0 (by omega)
        · rw [upC_ne _ _ (by omega)]; show up2 (mI M) 49 p (-1) 47 1 = _; rw [up2_ne _ _ (by omega)]; exact hg
        · show up2 (mI M) 49 p (-1) (47 + 3) q = 0 ∨ up2 (mI M) 49 p (-1) (47 + 3) q = 1
          rw [up2_ne _ _ (by omega)]; exact hZ q q0 q1
    · simp only [tB0, ne_eq, Bool.not_eq_false, Bool.not_eq_true, decide_eq_true_eq, decide_eq_false_iff_not, Classical.not_not] at h19
      refine c_X11_154 rfl dX11_take_22 ?_
      refine E_iret dX11_take_24 rfl ?_
      refine ⟨?_, ?_, (FX.rfl' M)⟩
      · congr 2; unfold s_take; rw [if_pos (by omega), if_pos (by omega)]; try rfl
      · unfold t_take; rw [if_pos (by omega), if_pos (by omega)]; exact hI
  · simp only [tB0, ne_eq, Bool.not_eq_false, Bool.not_eq_true, decide_eq_true_eq, decide_eq_false_iff_not, Classical.not_not] at h5
    refine c_X11_72 rfl dX11_take_8 ?_
    refine E_iret dX11_take_10 rfl ?_
    refine ⟨?_, ?_, (FX.rfl' M)⟩
    · congr 2; unfold s_take; rw [if_neg (by omega)]; try rfl
    · unfold t_take; rw [if_neg (by omega)]; exact hI
theorem fY_up {cd : CD} {hu : Int → Int} {p l : Int} (hp : hu p = -1000000) (l0 : 0 ≤ l) : ∀ {n : Nat}, 0 ≤ p → p < n → fY cd (upH hu p l) l n = fY cd hu l n + cd (87 + 6 * p) := by
  have hlt : ∀ n : Nat, n ≤ p → fY cd (upH hu p l) l n = fY cd hu l n := by
    intro n
    induction n with
    | zero => intro _; rfl
    | succ n ih =>
      intro hn
      simp only [fY]
      rw [ih (by omega)]
      congr 2
      unfold upH
      rw [if_neg (by omega)]
  intro n
  induction n with
  | zero => intro p0 p1; omega
  | succ n ih =>
    intro p0 p1
    simp only [fY]
    by_cases h : p = n
    · rw [hlt n (by omega)]
      have e : upH hu p l n = l := by unfold upH; rw [if_pos h.symm]
      rw [e, if_pos rfl, ← h, if_neg (by omega), Int.add_zero]
    · rw [ih p0 (by omega)]
      have e : upH hu p l n = hu n := by unfold upH; rw [if_neg (by omega)]
      rw [e]; omega
set_option maxRecDepth 20000 in
set_option maxHeartbeats 3000000 in
theorem x_hang {G : Ctx} {M : Mem} {A : AS} {B : Int} (hI : CI M A) (hG : GA A B) (hB : B ≤ 900000) {p l : Int} (n : Nat) (hn : A 4 2 = n) (rn : Nat) (hrn : A 4 1 = rn) : CT G m_X11_hang 4 0 0 [vR 21, vI p, vI l] M (xM M (s_hang A p l n rn) (t_hang A p l n rn)) := by
  refine CT.of k_X11_hang 1 (ls := [some (vR 21), some (vI p), some (vI l), none]) rfl (Nat.le_of_ble_eq_true rfl) ?_
  obtain ⟨hX, hN, hR, hT, hK, hS, hW0, hW1, hW2⟩ := id hI
  obtain ⟨a, hRc, hC, ha, haN, hD, hH, hE, hSn, hg, hZ⟩ := hW0
  have hW := hG.w.c
  have hpn := hW.pn
  have hl8 := hW.ln
  have hr8 := hW.rn
  have hgg := hG.w.g
  have hth := hG.th
  have hV := hG.w.hv
  refine E_aload_n dX11_hang_0 rfl ?_
  refine E_iload_n dX11_hang_1 rfl ?_
  refine i_X11_134 rfl dX11_hang_2 (by exact hX.o) (c_isPiece hX hRc hC hD hW) (by omega) (Nat.le_of_ble_eq_true rfl) rfl rfl ?_
  rintro _ _ ⟨rfl, rfl⟩
  try dsimp only [pu]
  refine E_if_eq (tgt := 16) dX11_hang_5 (by decide) (fun h5 => ?_) (fun h5 => ?_)
  · simp only [tB0, ne_eq, Bool.not_eq_false, Bool.not_eq_true, decide_eq_true_eq, decide_eq_false_iff_not, Classical.not_not] at h5
    refine c_X11_72 rfl dX11_hang_16 ?_
    refine E_iret dX11_hang_18 rfl ?_
    refine ⟨?_, ?_, (FX.rfl' M)⟩
    · congr 2; unfold s_hang; rw [if_neg (by omega)]; try rfl
    · unfold t_hang; rw [if_neg (by omega)]; exact hI
  · simp only [tB0, ne_eq, Bool.not_eq_false, Bool.not_eq_true, decide_eq_true_eq, decide_eq_false_iff_not, Classical.not_not] at h5
    refine E_aload_n dX11_hang_8 rfl ?_
    refine E_iload_n dX11_hang_9 rfl ?_
    refine i_X11_137 rfl dX11_hang_10 (by exact hX.o) (c_isLine hX hRc hC hD hW) (by omega) (Nat.le_of_ble_eq_true rfl) rfl rfl ?_
    rintro _ _ ⟨rfl, rfl⟩
    try dsimp only [pu]
    refine E_if_ne (tgt := 19) dX11_hang_13 (by decide) (fun h13 => ?_) (fun h13 => ?_)
    · simp only [tB0, ne_eq, Bool.not_eq_false, Bool.not_eq_true, decide_eq_true_eq, decide_eq_false_iff_not, Classical.not_not] at h13
      refine E_aload_n dX11_hang_19 rfl ?_
      refine g_X11_48 rfl dX11_hang_20 hX.o hX.wash ?_
      refine E_iload_n dX11_hang_23 rfl ?_
      refine E_iload_n dX11_hang_24 rfl ?_
      refine i_X11_140 rfl dX11_hang_25 (by exact hX.w0.o) (c_refusal (by exact hX.w0) hRc hC hD hW hV hH n hn hg hgg.1 (by omega) rn hrn (by omega) (by omega) (by omega) (by omega)) (by omega) (Nat.le_of_ble_eq_true rfl) rfl rfl ?_
      rintro _ _ ⟨rfl, rfl⟩
      try dsimp only [pu]
      refine E_istore_n dX11_hang_28 rfl (by decide) ?_
      try dsimp only [List.set]
      refine E_iload_n dX11_hang_29 rfl ?_
      refine E_if_eq (tgt := 35) dX11_hang_30 (by decide) (fun h30 => ?_) (fun h30 => ?_)
      · refine E_aload_n dX11_hang_35 rfl ?_
        refine g_X11_48 rfl dX11_hang_36 hX.o hX.wash ?_
        refine E_iload_n dX11_hang_39 rfl ?_
        refine E_iload_n dX11_hang_40 rfl ?_
        refine i_X11_144 rfl dX11_hang_41 (by exact hX.w0.o) (c_putUp (by exact hX.w0) (by omega) (by omega)) (by omega) (Nat.le_of_ble_eq_true rfl) rfl rfl ?_
        rintro _ _ ⟨rfl, J, rfl, rfl⟩
        have hhu : cHu (A 4) p = -1000000 := by
          by_cases hz : cHu (A 4) p = -1000000
          · exact hz
          · exfalso; unfold fRef at h30; rw [if_pos (Or.inl hz)] at h30; omega
        have hVu : HV (A 4) (upH (cHu (A 4)) p l) := fun q q0 q1 => by
          unfold upH; by_cases hq : q = p
          · rw [if_pos hq]; exact Or.inr ⟨by omega, by omega⟩
          · rw [if_neg hq]; exact hV q q0 q1
        have hHu : HC (up2 (mI M) (47 + 2) p l) 47 (A 4) (upH (cHu (A 4)) p l) := fun q q0 q1 => by
          unfold upH; by_cases hq : q = p
          · rw [if_pos hq, hq, up2_self]; unfold nm1; rw [if_neg (by omega)]
          · rw [if_neg hq, up2_ne _ _ (by omega)]; exact hH q q0 q1
        try dsimp only [pu]
        refine E_aload_n dX11_hang_44 rfl ?_
        refine g_X11_48 rfl dX11_hang_45 hX.o hX.wash ?_
        refine E_iload_n dX11_hang_48 rfl ?_
        refine E_iload_n dX11_hang_49 rfl ?_
        refine i_X11_148 rfl dX11_hang_50 (by exact hX.w0.o) (c_yardsLeft (by exact hX.w0) (by exact hRc) (by exact hC) (by exact hD.off (fun b j b0 b1 => up2_ne _ _ (by omega))) hW hVu (by exact hHu) n hn (by omega) (by omega) (by omega) (by omega)) (by omega) (Nat.le_of_ble_eq_true rfl) rfl rfl ?_
        rintro _ _ ⟨rfl, rfl⟩
        try dsimp only [pu]
        refine E_iret dX11_hang_53 rfl ?_
        refine ⟨?_, ?_, (FX.rfl' M).j (fun b j b0 b1 => up2_ne _ _ (by omega))⟩
        · unfold s_hang; rw [if_pos (show (0 ≤ p ∧ p ≤ A 4 2 - 1) ∧ (0 ≤ l ∧ l ≤ A 4 0 - 1) by omega), if_pos (show (fRef (A 4) (cHu (A 4)) (A 4 3) p l n rn) = 0 by omega)]
          congr 2; unfold fLeft
          by_cases h4 : A 4 (84 + 6 * p) = 4
          · rw [if_pos h4, if_pos h4]
          · rw [if_neg h4, if_neg h4, fY_up hhu (by omega) (by omega) (by omega)]; omega
        · unfold t_hang; rw [if_pos (by omega), if_pos (show (fRef (A 4) (cHu (A 4)) (A 4 3) p l n rn) = 0 by omega)]
          refine hI.wa (fun b j hb => up2_ne _ _ (by omega)) (fun k j hk => pg4_ne _ _ hk) ?_
          rw [pg4_4]
          have kp := cKeep_kp (A 4) (upH (cHu (A 4)) p l) (cWe (A 4)) (cSn (A 4)) n
          have e2 := kp.1 2 (by omega) (by omega) (by omega)
          refine ⟨a, hRc, hC, ha, haN, (hD.off (fun b j b0 b1 => up2_ne _ _ (by omega))).kp hW kp, fun q q0 q1 => ?_, fun q q0 q1 => ?_, fun q q0 q1 => ?_, ?_, fun q q0 q1 => ?_⟩
          · rw [cKeep_hu _ _ _ _ q0 (by omega)]; exact hHu q q0 (by omega)
          · rw [cKeep_we _ _ _ _ q0 (by omega)]; show up2 (mI M) (47 + 2) p l (47 + 1) q = _; rw [up2_ne _ _ (by omega)]; exact hE q q0 (by omega)
          · rw [cKeep_sn _ _ _ _ q0 (by omega)]; show up2 (mI M) (47 + 2) p l (47 + 3) q = _; rw [up2_ne _ _ (by omega)]; exact hSn q q0 (by omega)
          · rw [cKeep_lo _ _ _ _ (by omega)]; show up2 (mI M) (47 + 2) p l 47 1 = _; rw [up2_ne _ _ (by omega)]; exact hg
          · show up2 (mI M) (47 + 2) p l (47 + 3) q = 0 ∨ up2 (mI M) (47 + 2) p l (47 + 3) q = 1
            rw [up2_ne _ _ (by omega)]; exact hZ q q0 q1
      · refine E_iload_n dX11_hang_33 rfl ?_
        refine E_iret dX11_hang_34 rfl ?_
        refine ⟨?_, ?_, FX.rfl' M⟩
        · unfold s_hang; rw [if_pos (show (0 ≤ p ∧ p ≤ A 4 2 - 1) ∧ (0 ≤ l ∧ l ≤ A 4 0 - 1) by omega), if_neg h30]
        · unfold t_hang; rw [if_pos (by omega), if_neg h30, cKeep_id, pg4_id]; exact hI
    · simp only [tB0, ne_eq, Bool.not_eq_false, Bool.not_eq_true, decide_eq_true_eq, decide_eq_false_iff_not, Classical.not_not] at h13
      refine c_X11_72 rfl dX11_hang_16 ?_
      refine E_iret dX11_hang_18 rfl ?_
      refine ⟨?_, ?_, (FX.rfl' M)⟩
      · congr 2; unfold s_hang; rw [if_neg (by omega)]; try rfl
      · unfold t_hang; rw [if_neg (by omega)]; exact hI
set_option maxRecDepth 20000 in
set_option maxHeartbeats 3000000 in
theorem l_xq {G : Ctx} {M : Mem} (hX : XO M) {a : Nat} {cd : CD} (hA : WA M 47) (hRc : mR M 47 0 = a) (hC : CA M a) (hD : CC (mI M) a cd) (hW : WFc cd) {hu we sn : Int → Int} (hV : HV cd hu) (hw9 : ∀ p, 0 ≤ p → p < cd 2 → 0 ≤ we p ∧ we p ≤ 99) (hs1 : ∀ p, 0 ≤ p → p < cd 2 → sn p = 0 ∨ sn p = 1) (n : Nat) (hn : cd 2 = n) (hap : a + 13 < 47 ∨ 47 + 5 < a) {g : Int} (g0 : 0 ≤ g) (g1 : g ≤ 900000) {c : Int} (nc : Nat) (hc : c = nc) (c9 : nc ≤ 96) : ∀ (k r : Nat) (I : Nat → Int → Int), r + k = nc → WQ M 47 cd hu we sn g n r I → EV G m_X11_quarters 3 0 0 (fun x M' => x = some (vI (g + c)) ∧ ∃ I, M' = mJ M I ∧ WQ M 47 cd hu we sn g n nc I) 25 [some (vR 21), some (vI c), some (vI (r : Int))] [] (mJ M I) := by
  intro k
  induction k with
  | zero =>
    intro r I hr hi
    obtain rfl : r = nc := by omega
    refine E_iload_n dX11_quarters_25 rfl ?_
    refine E_iload_n dX11_quarters_26 rfl ?_
    refine E_icmp_ge (tgt := 43) dX11_quarters_27 (by decide) (fun h27 => ?_) (fun h27 => ?_)
    · refine E_aload_n dX11_quarters_43 rfl ?_
      refine g_X11_48 rfl dX11_quarters_44 hX.o hX.wash ?_
      refine g_X11_165 rfl dX11_quarters_47 hA.o hi.2.2.2.2.1 ?_
      refine E_iret dX11_quarters_50 rfl ?_
      exact ⟨by rw [hc], I, rfl, hi⟩
    · exfalso; omega
  | succ k ih =>
    intro r I hr hi
    refine E_iload_n dX11_quarters_25 rfl ?_
    refine E_iload_n dX11_quarters_26 rfl ?_
    refine E_icmp_ge (tgt := 43) dX11_quarters_27 (by decide) (fun h27 => ?_) (fun h27 => ?_)
    · exfalso; omega
    · refine E_aload_n dX11_quarters_30 rfl ?_
      refine g_X11_48 rfl dX11_quarters_31 hX.o hX.wash ?_
      refine i_X11_162 rfl dX11_quarters_34 (by exact hA.o) (c_passQuarter (hA.j I) hRc (hC.j I) (hD.off (fun b j b0 b1 => hi.1 b j (by omega))) hW hV hi.2.1 hi.2.2.1 hi.2.2.2.1 (itS_b hs1 r) (itW_b hw9 r) n hn hap hi.2.2.2.2.1 (by omega) (by omega)) (by omega) (Nat.le_of_ble_eq_true rfl) rfl rfl ?_
      rintro _ _ ⟨rfl, J, rfl, hJ⟩
      have hJ := hi.step hn hs1 hJ
      try dsimp only [pu]
      refine E_iinc dX11_quarters_37 rfl (by omega) (by omega) (by decide) rfl (by decide) ?_
      try dsimp only [List.set]
      refine E_goto (tgt := 25) dX11_quarters_40 (by decide) ?_
      exact EV.mq rfl rfl (ih (r + 1) J (by omega) hJ)
set_option maxRecDepth 20000 in
set_option maxHeartbeats 3000000 in
theorem x_quarters {G : Ctx} {M : Mem} {A : AS} {B : Int} (hI : CI M A) (hG : GA A B) (hB : B ≤ 900000) {c : Int} (n : Nat) (hn : A 4 2 = n) : CT G m_X11_quarters 3 0 0 [vR 21, vI c] M (xM M (s_quarters A c) (t_quarters A c n)) := by
  refine CT.of k_X11_quarters 1 (ls := [some (vR 21), some (vI c), none]) rfl (Nat.le_of_ble_eq_true rfl) ?_
  obtain ⟨hX, hN, hR, hT, hK, hS, hW0, hW1, hW2⟩ := id hI
  obtain ⟨a, hRc, hC, ha, haN, hD, hH, hE, hSn, hg, hZ⟩ := hW0
  have hW := hG.w.c
  have hpn := hW.pn
  have hl8 := hW.ln
  have hr8 := hW.rn
  have hgg := hG.w.g
  have hth := hG.th
  have hV := hG.w.hv
  refine E_aload_n dX11_quarters_0 rfl ?_
  refine i_X11_158 rfl dX11_quarters_1 (by exact hX.o) (c_noCourt hX hRc hC hD) (by omega) (Nat.le_of_ble_eq_true rfl) rfl rfl ?_
  rintro _ _ ⟨rfl, rfl⟩
  try dsimp only [pu]
  refine E_if_eq (tgt := 10) dX11_quarters_4 (by decide) (fun h4 => ?_) (fun h4 => ?_)
  · simp only [tB0, ne_eq, Bool.not_eq_false, Bool.not_eq_true, decide_eq_true_eq, decide_eq_false_iff_not, Classical.not_not] at h4
    refine E_iload_n dX11_quarters_10 rfl ?_
    refine E_iconst dX11_quarters_11 (by decide) ?_
    refine E_bipush dX11_quarters_12 (by decide) ?_
    refine i_X11_68 rfl dX11_quarters_14 c_isIn (by omega) (Nat.le_of_ble_eq_true rfl) rfl rfl ?_
    rintro _ _ ⟨rfl, rfl⟩
    try dsimp only [pu]
    refine E_if_ne (tgt := 23) dX11_quarters_17 (by decide) (fun h17 => ?_) (fun h17 => ?_)
    · simp only [tB0, ne_eq, Bool.not_eq_false, Bool.not_eq_true, decide_eq_true_eq, decide_eq_false_iff_not, Classical.not_not] at h17
      refine E_iconst dX11_quarters_23 (by decide) ?_
      refine E_istore_n dX11_quarters_24 rfl (by decide) ?_
      try dsimp only [List.set]
      obtain ⟨nc, rfl⟩ := Int.eq_ofNat_of_zero_le (show 0 ≤ c by omega)
      refine EV.post (fun x M' hq => ?_) (l_xq hX (by exact hX.w0) hRc hC hD hW hV hG.w.we (by exact hG.w.sn) n hn (by omega) hgg.1 (by omega) nc rfl (by omega) nc 0 (mI M) (by omega) (WR.wq hI.2.2.2.2.2.2.1))
      obtain ⟨rfl, I, rfl, hi⟩ := hq
      refine ⟨?_, ?_, (FX.rfl' M).j (fun b j b0 b1 => hi.1 b j (by omega))⟩
      · congr 2; unfold s_quarters; rw [if_neg (by omega), if_pos (by omega)]
      · unfold t_quarters; rw [if_neg (by omega), if_pos (by omega)]
        refine hI.wa (fun b j hb => hi.1 b j (by omega)) (fun k j hk => pg4_ne _ _ hk) ?_
        rw [pg4_4]; exact hi.wr hW hn hI.2.2.2.2.2.2.1 (by omega)
    · simp only [tB0, ne_eq, Bool.not_eq_false, Bool.not_eq_true, decide_eq_true_eq, decide_eq_false_iff_not, Classical.not_not] at h17
      refine c_X11_72 rfl dX11_quarters_20 ?_
      refine E_iret dX11_quarters_22 rfl ?_
      refine ⟨?_, ?_, (FX.rfl' M)⟩
      · congr 2; unfold s_quarters; rw [if_neg (by omega), if_neg (by omega)]; try rfl
      · unfold t_quarters; rw [if_neg (by omega), if_neg (by omega)]; exact hI
  · simp only [tB0, ne_eq, Bool.not_eq_false, Bool.not_eq_true, decide_eq_true_eq, decide_eq_false_iff_not, Classical.not_not] at h4
    refine c_X11_154 rfl dX11_quarters_7 ?_
    refine E_iret dX11_quarters_9 rfl ?_
    refine ⟨?_, ?_, (FX.rfl' M)⟩
    · congr 2; unfold s_quarters; rw [if_pos (by omega)]; try rfl
    · unfold t_quarters; rw [if_pos (by omega)]; exact hI
set_option maxRecDepth 20000 in
set_option maxHeartbeats 3000000 in
theorem l_xdry {G : Ctx} {M : Mem} (hX : XO M) {a : Nat} {cd : CD} (hA : WA M 71) (hRc : mR M 71 0 = a) (hC : CA M a) (hD : CC (mI M) a cd) (hW : WFc cd) {hu we sn : Int → Int} (hV : HV cd hu) (hw9 : ∀ p, 0 ≤ p → p < cd 2 → 0 ≤ we p ∧ we p ≤ 99) (hs1 : ∀ p, 0 ≤ p → p < cd 2 → sn p = 0 ∨ sn p = 1) (n : Nat) (hn : cd 2 = n) (hap : a + 13 < 71 ∨ 71 + 5 < a) {g : Int} (g0 : 0 ≤ g) (g1 : g ≤ 900000) : ∀ (k r : Nat) (I : Nat → Int → Int), r + k = 97 → WQ M 71 cd hu we sn g n r I → EV G m_X11_dry 3 0 0 (fun x M' => x = some (vI (firstT (fun t => fDrB (fun p => decide (hu p ≠ -1000000)) (itW cd hu n we g t) n) k r)) ∧ ∃ I, M' = mJ M I ∧ ∀ b j, (b < 71 ∨ 71 + 5 < b) → I b j = mI M b j) 23 [some (vR 21), some (vI (r : Int))] [] (mJ M I) := by
  intro k
  induction k with
  | zero =>
    intro r I hr hi
    obtain rfl : r = 97 := by omega
    refine E_iload_n dX11_dry_23 rfl ?_
    refine E_bipush dX11_dry_24 (by decide) ?_
    refine E_icmp_gt (tgt := 54) dX11_dry_26 (by decide) (fun h26 => ?_) (fun h26 => ?_)
    · refine c_X11_201 rfl dX11_dry_54 ?_
      refine E_iret dX11_dry_56 rfl ?_
      exact ⟨rfl, I, rfl, hi.1⟩
    · exfalso; omega
  | succ k ih =>
    intro r I hr hi
    have hdw : fDrB (fun p => decide (hu p ≠ -1000000)) (itW cd hu n we g r) n = !fWet hu (itW cd hu n we g r) n := dry_wet _ _ n (fun p p0 p1 => (itW_b hw9 r p p0 (by omega)).1)
    refine E_iload_n dX11_dry_23 rfl ?_
    refine E_bipush dX11_dry_24 (by decide) ?_
    refine E_icmp_gt (tgt := 54) dX11_dry_26 (by decide) (fun h26 => ?_) (fun h26 => ?_)
    · exfalso; omega
    · refine E_aload_n dX11_dry_29 rfl ?_
      refine g_X11_61 rfl dX11_dry_30 hX.o hX.trial ?_
      refine i_X11_233 rfl dX11_dry_33 (by exact hA.o) (c_allHungAreDry (hA.j I) hRc (hC.j I) (hD.off (fun b j b0 b1 => hi.1 b j (by omega))) hW hV hi.2.1 hi.2.2.1 n hn) (by omega) (Nat.le_of_ble_eq_true rfl) rfl rfl ?_
      rintro _ _ ⟨rfl, rfl⟩
      try dsimp only [pu]
      refine E_if_eq (tgt := 41) dX11_dry_36 (by decide) (fun h36 => ?_) (fun h36 => ?_)
      · simp only [tB0, ne_eq, Bool.not_eq_false, Bool.not_eq_true, decide_eq_true_eq, decide_eq_false_iff_not, Classical.not_not] at h36
        refine E_aload_n dX11_dry_41 rfl ?_
        refine g_X11_61 rfl dX11_dry_42 hX.o hX.trial ?_
        refine i_X11_162 rfl dX11_dry_45 (by exact hA.o) (c_passQuarter (hA.j I) hRc (hC.j I) (hD.off (fun b j b0 b1 => hi.1 b j (by omega))) hW hV hi.2.1 hi.2.2.1 hi.2.2.2.1 (itS_b hs1 r) (itW_b hw9 r) n hn hap hi.2.2.2.2.1 (by omega) (by omega)) (by omega) (Nat.le_of_ble_eq_true rfl) rfl rfl ?_
        rintro _ _ ⟨rfl, J, rfl, hJ⟩
        have hJ := hi.step hn hs1 hJ
        try dsimp only [pu]
        refine E_iinc dX11_dry_48 rfl (by omega) (by omega) (by decide) rfl (by decide) ?_
        try dsimp only [List.set]
        refine E_goto (tgt := 23) dX11_dry_51 (by decide) ?_
        have e : firstT (fun t => fDrB (fun p => decide (hu p ≠ -1000000)) (itW cd hu n we g t) n) (k + 1) r = firstT (fun t => fDrB (fun p => decide (hu p ≠ -1000000)) (itW cd hu n we g t) n) k (r + 1) := by simp only [firstT]; rw [if_neg (by rw [hdw, h36]; simp)]
        rw [e]
        exact EV.mq rfl rfl (ih (r + 1) J (by omega) hJ)
      · simp only [tB0, ne_eq, Bool.not_eq_false, Bool.not_eq_true, decide_eq_true_eq, decide_eq_false_iff_not, Classical.not_not] at h36
        refine E_iload_n dX11_dry_39 rfl ?_
        refine E_iret dX11_dry_40 rfl ?_
        exact ⟨by simp only [firstT]; rw [if_pos (by rw [hdw]; exact h36)], I, rfl, hi.1⟩
set_option maxRecDepth 20000 in
set_option maxHeartbeats 3000000 in
theorem x_dry {G : Ctx} {M : Mem} {A : AS} {B : Int} (hI : CI M A) (hG : GA A B) (hB : B ≤ 900000) (n : Nat) (hn : A 4 2 = n) : CT G m_X11_dry 3 0 0 [vR 21] M (xM M (s_dry A n) (A)) := by
  refine CT.of k_X11_dry 1 (ls := [some (vR 21), none]) rfl (Nat.le_of_ble_eq_true rfl) ?_
  obtain ⟨hX, hN, hR, hT, hK, hS, hW0, hW1, hW2⟩ := id hI
  obtain ⟨a, hRc, hC, ha, haN, hD, hH, hE, hSn, hg, hZ⟩ := hW0
  have hW := hG.w.c
  have hpn := hW.pn
  have hl8 := hW.ln
  have hr8 := hW.rn
  have hgg := hG.w.g
  have hth := hG.th
  have hV := hG.w.hv
  refine E_aload_n dX11_dry_0 rfl ?_
  refine i_X11_158 rfl dX11_dry_1 (by exact hX.o) (c_noCourt hX hRc hC hD) (by omega) (Nat.le_of_ble_eq_true rfl) rfl rfl ?_
  rintro _ _ ⟨rfl, rfl⟩
  try dsimp only [pu]
  refine E_if_eq (tgt := 10) dX11_dry_4 (by decide) (fun h4 => ?_) (fun h4 => ?_)
  · simp only [tB0, ne_eq, Bool.not_eq_false, Bool.not_eq_true, decide_eq_true_eq, decide_eq_false_iff_not, Classical.not_not] at h4
    refine E_aload_n dX11_dry_10 rfl ?_
    refine g_X11_61 rfl dX11_dry_11 hX.o hX.trial ?_
    refine E_aload_n dX11_dry_14 rfl ?_
    refine g_X11_48 rfl dX11_dry_15 hX.o hX.wash ?_
    refine i_X11_182 rfl dX11_dry_18 (by exact hX.w4.o) (c_become (by exact hX.w4) (by exact hX.w0) hRc (by omega) (by omega) (by exact hZ)) (by omega) (Nat.le_of_ble_eq_true rfl) rfl rfl ?_
    rintro _ _ ⟨rfl, I, rfl, hb⟩
    have hWt : WR (mK M 71 a I) 71 (A 4) := WR.become hI.2.2.2.2.2.2.1 hRc (by omega) (by omega) hb
    have hIt : CI (mK M 71 a I) A := hI.kt (Or.inr rfl) hb.2.2
    have hFt : FX M (mK M 71 a I) := FX.k (by omega) hb.2.2
    try dsimp only [pu]
    refine E_iconst dX11_dry_21 (by decide) ?_
    refine E_istore_n dX11_dry_22 rfl (by decide) ?_
    try dsimp only [List.set]
    obtain ⟨a2, k1, k2, k3, k4, k5, k6, k7, k8, k9, k10⟩ := id hWt
    refine EV.post (fun x M' hq => ?_) (l_xdry hIt.1 (by exact hIt.1.w4) k1 k2 k5 hW hV hG.w.we (by exact hG.w.sn) n hn (by omega) hgg.1 (by omega) 97 0 (mI (mK M 71 a I)) (by omega) (WR.wq hWt))
    obtain ⟨rfl, K, rfl, hK⟩ := hq
    refine ⟨?_, hIt.dt (fun b j q1 q2 q3 q4 q5 => hK b j (by omega)), hFt.j (fun b j b0 b1 => hK b j (by omega))⟩
    congr 2; unfold s_dry; rw [if_neg (by omega)]
  · simp only [tB0, ne_eq, Bool.not_eq_false, Bool.not_eq_true, decide_eq_true_eq, decide_eq_false_iff_not, Classical.not_not] at h4
    refine c_X11_154 rfl dX11_dry_7 ?_
    refine E_iret dX11_dry_9 rfl ?_
    refine ⟨?_, hI, FX.rfl' M⟩
    congr 2; unfold s_dry; rw [if_pos (by omega)]
