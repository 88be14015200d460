/-! ===== 83: the law: its loop, its beginning ===== -/
set_option maxRecDepth 20000 in
set_option maxHeartbeats 3000000 in
theorem l_law {G : Ctx} {nm : String} (h384 : gL G ≤ 384) : ∀ (k r : Nat) (M : Mem) (A : AS), r + k = gL G / 6 → LW M A (96 * (r : Int)) → EV G (m_L nm) 14 (20 * k) (200 * k) (fun x M' => x = some (vI 1)) 18 [some (vR 1), some (vR 21), some (vR 77), some (vI (6 * (r : Int)))] [] M := by
  intro k
  induction k with
  | zero =>
    intro r M A hr hi
    have hrr : r = gL G / 6 := by omega
    refine E_iload_n dL_law_18 rfl ?_
    refine E_aload_n dL_law_19 rfl ?_
    refine E_slen dL_law_20 (by omega) ?_
    refine E_bipush dL_law_21 (by decide) ?_
    refine E_isub dL_law_23 (by omega) (by omega) ?_
    refine E_icmp_gt (tgt := 983) dL_law_24 (by decide) (fun h24 => ?_) (fun h24 => ?_)
    · refine E_iconst dL_law_983 (by decide) ?_
      refine E_zret dL_law_984 rfl (by decide) ?_
      rfl
    · exfalso; omega
  | succ k ih =>
    intro r M A hr hi
    have h64 : (r : Int) < 64 := by omega
    have K : ∀ M2 A2, LW M2 A2 (96 * (r : Int) + 96) → EV G (m_L nm) 14 (20 * k) (200 * k) (fun x M' => x = some (vI 1)) 977 [some (vR 1), some (vR 21), some (vR 77), some (vI (6 * (r : Int)))] [] M2 := fun M2 A2 h2 => by
      refine E_iinc dL_law_977 rfl (by omega) (by omega) (by decide) rfl (Nat.le_of_ble_eq_true rfl) ?_
      try dsimp only [List.set]
      refine E_goto (tgt := 18) dL_law_980 (by decide) ?_
      exact EV.lq (by rw [show 6 * ((r + 1 : Nat) : Int) = 6 * (r : Int) + 6 by omega]) (ih (r + 1) M2 A2 (by omega) (by rw [show 96 * ((r + 1 : Nat) : Int) = 96 * (r : Int) + 96 by omega]; exact h2))
    refine E_iload_n dL_law_18 rfl ?_
    refine E_aload_n dL_law_19 rfl ?_
    refine E_slen dL_law_20 (by omega) ?_
    refine E_bipush dL_law_21 (by decide) ?_
    refine E_isub dL_law_23 (by omega) (by omega) ?_
    refine E_icmp_gt (tgt := 983) dL_law_24 (by decide) (fun h24 => ?_) (fun h24 => ?_)
    · exfalso; omega
    · refine E_aload_n dL_law_27 rfl ?_
      refine E_iload_n dL_law_28 rfl ?_
      refine E_scr dL_law_29 (by omega) (by omega) ?_
      refine E_bipush dL_law_30 (by decide) ?_
      refine E_iand dL_law_32 ?_
      by_cases q33_0 : (bAnd (gx G (6 * (r : Int)).toNat).toInt 31) = 0
      · refine E_tabIn (off := 123) (tgt := 156) dL_law_33 (by omega) (by omega) (by rw [q33_0]; rfl) (by decide) ?_
        exact EV.room (by omega) (by omega) (st_row hi (by omega) (by omega) (by omega) (by omega) h384 K)
      by_cases q33_1 : (bAnd (gx G (6 * (r : Int)).toNat).toInt 31) = 1
      · refine E_tabIn (off := 166) (tgt := 199) dL_law_33 (by omega) (by omega) (by rw [q33_1]; rfl) (by decide) ?_
        exact EV.room (by omega) (by omega) (st_set hi (by omega) (by omega) (by omega) (by omega) h384 K)
      by_cases q33_2 : (bAnd (gx G (6 * (r : Int)).toNat).toInt 31) = 2
      · refine E_tabIn (off := 209) (tgt := 242) dL_law_33 (by omega) (by omega) (by rw [q33_2]; rfl) (by decide) ?_
        exact EV.room (by omega) (by omega) (st_copy hi (by omega) (by omega) (by omega) (by omega) h384 K)
      by_cases q33_3 : (bAnd (gx G (6 * (r : Int)).toNat).toInt 31) = 3
      · refine E_tabIn (off := 272) (tgt := 305) dL_law_33 (by omega) (by omega) (by rw [q33_3]; rfl) (by decide) ?_
        exact EV.room (by omega) (by omega) (st_drop hi (by omega) (by omega) (by omega) (by omega) h384 K)
      by_cases q33_4 : (bAnd (gx G (6 * (r : Int)).toNat).toInt 31) = 4
      · refine E_tabIn (off := 295) (tgt := 328) dL_law_33 (by omega) (by omega) (by rw [q33_4]; rfl) (by decide) ?_
        exact EV.room (by omega) (by omega) (st_feed hi (by omega) (by omega) (by omega) (by omega) h384 K)
      by_cases q33_5 : (bAnd (gx G (6 * (r : Int)).toNat).toInt 31) = 5
      · refine E_tabIn (off := 358) (tgt := 391) dL_law_33 (by omega) (by omega) (by rw [q33_5]; rfl) (by decide) ?_
        exact EV.room (by omega) (by omega) (st_court hi (by omega) (by omega) (by omega) (by omega) h384 K)
      by_cases q33_6 : (bAnd (gx G (6 * (r : Int)).toNat).toInt 31) = 6
      · refine E_tabIn (off := 371) (tgt := 404) dL_law_33 (by omega) (by omega) (by rw [q33_6]; rfl) (by decide) ?_
        exact EV.room (by omega) (by omega) (st_fault hi (by omega) (by omega) (by omega) (by omega) h384 K)
      by_cases q33_7 : (bAnd (gx G (6 * (r : Int)).toNat).toInt 31) = 7
      · refine E_tabIn (off := 384) (tgt := 417) dL_law_33 (by omega) (by omega) (by rw [q33_7]; rfl) (by decide) ?_
        exact EV.room (by omega) (by omega) (st_hang hi (by omega) (by omega) (by omega) (by omega) h384 K)
      by_cases q33_8 : (bAnd (gx G (6 * (r : Int)).toNat).toInt 31) = 8
      · refine E_tabIn (off := 417) (tgt := 450) dL_law_33 (by omega) (by omega) (by rw [q33_8]; rfl) (by decide) ?_
        exact EV.room (by omega) (by omega) (st_take hi (by omega) (by omega) (by omega) (by omega) h384 K)
      by_cases q33_9 : (bAnd (gx G (6 * (r : Int)).toNat).toInt 31) = 9
      · refine E_tabIn (off := 440) (tgt := 473) dL_law_33 (by omega) (by omega) (by rw [q33_9]; rfl) (by decide) ?_
        exact EV.room (by omega) (by omega) (st_quarters hi (by omega) (by omega) (by omega) (by omega) h384 K)
      by_cases q33_10 : (bAnd (gx G (6 * (r : Int)).toNat).toInt 31) = 10
      · refine E_tabIn (off := 463) (tgt := 496) dL_law_33 (by omega) (by omega) (by rw [q33_10]; rfl) (by decide) ?_
        exact EV.room (by omega) (by omega) (st_lay hi (by omega) (by omega) (by omega) (by omega) h384 K)
      by_cases q33_11 : (bAnd (gx G (6 * (r : Int)).toNat).toInt 31) = 11
      · refine E_tabIn (off := 496) (tgt := 529) dL_law_33 (by omega) (by omega) (by rw [q33_11]; rfl) (by decide) ?_
        exact EV.room (by omega) (by omega) (st_piece hi (by omega) (by omega) (by omega) (by omega) h384 K)
      by_cases q33_12 : (bAnd (gx G (6 * (r : Int)).toNat).toInt 31) = 12
      · refine E_tabIn (off := 529) (tgt := 562) dL_law_33 (by omega) (by omega) (by rw [q33_12]; rfl) (by decide) ?_
        exact EV.room (by omega) (by omega) (st_line hi (by omega) (by omega) (by omega) (by omega) h384 K)
      by_cases q33_13 : (bAnd (gx G (6 * (r : Int)).toNat).toInt 31) = 13
      · refine E_tabIn (off := 562) (tgt := 595) dL_law_33 (by omega) (by omega) (by rw [q33_13]; rfl) (by decide) ?_
        exact EV.room (by omega) (by omega) (st_dry hi (by omega) (by omega) (by omega) (by omega) h384 K)
      by_cases q33_14 : (bAnd (gx G (6 * (r : Int)).toNat).toInt 31) = 14
      · refine E_tabIn (off := 575) (tgt := 608) dL_law_33 (by omega) (by omega) (by rw [q33_14]; rfl) (by decide) ?_
        exact EV.room (by omega) (by omega) (st_plan hi (by omega) (by omega) (by omega) (by omega) h384 K)
      by_cases q33_15 : (bAnd (gx G (6 * (r : Int)).toNat).toInt 31) = 15
      · refine E_tabIn (off := 608) (tgt := 641) dL_law_33 (by omega) (by omega) (by rw [q33_15]; rfl) (by decide) ?_
        exact EV.room (by omega) (by omega) (st_whose hi (by omega) (by omega) (by omega) (by omega) h384 K)
      by_cases q33_16 : (bAnd (gx G (6 * (r : Int)).toNat).toInt 31) = 16
      · refine E_tabIn (off := 641) (tgt := 674) dL_law_33 (by omega) (by omega) (by rw [q33_16]; rfl) (by decide) ?_
        exact EV.room (by omega) (by omega) (st_sun hi (by omega) (by omega) (by omega) (by omega) h384 K)
      by_cases q33_17 : (bAnd (gx G (6 * (r : Int)).toNat).toInt 31) = 17
      · refine E_tabIn (off := 674) (tgt := 707) dL_law_33 (by omega) (by omega) (by rw [q33_17]; rfl) (by decide) ?_
        exact EV.room (by omega) (by omega) (st_rings hi (by omega) (by omega) (by omega) (by omega) h384 K)
      by_cases q33_18 : (bAnd (gx G (6 * (r : Int)).toNat).toInt 31) = 18
      · refine E_tabIn (off := 717) (tgt := 750) dL_law_33 (by omega) (by omega) (by rw [q33_18]; rfl) (by decide) ?_
        exact EV.room (by omega) (by omega) (st_rain hi (by omega) (by omega) (by omega) (by omega) h384 K)
      by_cases q33_19 : (bAnd (gx G (6 * (r : Int)).toNat).toInt 31) = 19
      · refine E_tabIn (off := 750) (tgt := 783) dL_law_33 (by omega) (by omega) (by rw [q33_19]; rfl) (by decide) ?_
        exact EV.room (by omega) (by omega) (st_image hi (by omega) (by omega) (by omega) (by omega) h384 K)
      by_cases q33_20 : (bAnd (gx G (6 * (r : Int)).toNat).toInt 31) = 20
      · refine E_tabIn (off := 773) (tgt := 806) dL_law_33 (by omega) (by omega) (by rw [q33_20]; rfl) (by decide) ?_
        exact EV.room (by omega) (by omega) (st_restore hi (by omega) (by omega) (by omega) (by omega) h384 K)
      by_cases q33_21 : (bAnd (gx G (6 * (r : Int)).toNat).toInt 31) = 21
      · refine E_tabIn (off := 796) (tgt := 829) dL_law_33 (by omega) (by omega) (by rw [q33_21]; rfl) (by decide) ?_
        exact EV.room (by omega) (by omega) (st_kind hi (by omega) (by omega) (by omega) (by omega) h384 K)
      by_cases q33_22 : (bAnd (gx G (6 * (r : Int)).toNat).toInt 31) = 22
      · refine E_tabIn (off := 819) (tgt := 852) dL_law_33 (by omega) (by omega) (by rw [q33_22]; rfl) (by decide) ?_
        exact EV.room (by omega) (by omega) (st_as hi (by omega) (by omega) (by omega) (by omega) h384 K)
      by_cases q33_23 : (bAnd (gx G (6 * (r : Int)).toNat).toInt 31) = 23
      · refine E_tabIn (off := 852) (tgt := 885) dL_law_33 (by omega) (by omega) (by rw [q33_23]; rfl) (by decide) ?_
        exact EV.room (by omega) (by omega) (st_ask hi (by omega) (by omega) (by omega) (by omega) h384 K)
      by_cases q33_24 : (bAnd (gx G (6 * (r : Int)).toNat).toInt 31) = 24
      · refine E_tabIn (off := 885) (tgt := 918) dL_law_33 (by omega) (by omega) (by rw [q33_24]; rfl) (by decide) ?_
        exact EV.room (by omega) (by omega) (st_trace hi (by omega) (by omega) (by omega) (by omega) h384 K)
      by_cases q33_25 : (bAnd (gx G (6 * (r : Int)).toNat).toInt 31) = 25
      · refine E_tabIn (off := 908) (tgt := 941) dL_law_33 (by omega) (by omega) (by rw [q33_25]; rfl) (by decide) ?_
        exact EV.room (by omega) (by omega) (st_count hi (by omega) (by omega) (by omega) (by omega) h384 K)
      by_cases q33_26 : (bAnd (gx G (6 * (r : Int)).toNat).toInt 31) = 26
      · refine E_tabIn (off := 931) (tgt := 964) dL_law_33 (by omega) (by omega) (by rw [q33_26]; rfl) (by decide) ?_
        exact EV.room (by omega) (by omega) (st_status hi (by omega) (by omega) (by omega) (by omega) h384 K)
      refine E_tabOut (tgt := 977) dL_law_33 (by omega) (by decide) ?_
      exact EV.room (by omega) (by omega) (K M A ⟨hi.1, hi.2.1, hi.2.2.1, hi.2.2.2.le (by omega)⟩)
theorem XO.e7 {M M' : Mem} (h : XO M) (hN : 77 ≤ mN M) (hE : EX M M') : XO M' := by
  have e : ∀ b, b < 77 → mS M' b = mS M b ∧ mI M' b = mI M b ∧ mR M' b = mR M b := fun b hb => hE.2 b (by omega)
  exact ⟨⟨(e 21 (by omega)).1.trans h.o, (congrFun (e 21 (by omega)).2.2 0).trans h.rows, (congrFun (e 21 (by omega)).2.2 1).trans h.reader, (congrFun (e 21 (by omega)).2.2 2).trans h.wash, (congrFun (e 21 (by omega)).2.2 3).trans h.firstImage, (congrFun (e 21 (by omega)).2.2 4).trans h.secondImage, (congrFun (e 21 (by omega)).2.2 5).trans h.draft, (congrFun (e 21 (by omega)).2.2 6).trans h.trial, (congrFun (e 21 (by omega)).2.2 7).trans h.trace, (congrFun (e 21 (by omega)).2.2 8).trans h.triedLines, (congrFun (e 21 (by omega)).2.2 9).trans h.bestLines, (congrFun (e 21 (by omega)).2.2 10).trans h.timesAlone⟩, ⟨(e 30 (by omega)).1.trans h.s8, (e 31 (by omega)).1.trans h.s9, (e 32 (by omega)).1.trans h.s10⟩, ⟨(e 22 (by omega)).1.trans h.rp.o, h.rp.lo, ⟨(congrFun (e 22 (by omega)).2.2 0).trans h.rp.lanes, (e (22 + 1) (by omega)).1.trans h.rp.s_lanes⟩, ⟨(congrFun (e 22 (by omega)).2.2 1).trans h.rp.sizes, (e (22 + 2) (by omega)).1.trans h.rp.s_sizes⟩, (congrFun (e 22 (by omega)).2.2 2).trans h.rp.items, (e (22 + 3) (by omega)).1.trans h.rp.s_items⟩, ⟨(e 26 (by omega)).1.trans h.rq.o, h.rq.lo, (congrFun (e 26 (by omega)).2.2 0).trans h.rq.tape, (e (26 + 1) (by omega)).1.trans h.rq.s_tape⟩, ⟨(e 28 (by omega)).1.trans h.tq.o, h.tq.lo, (congrFun (e 28 (by omega)).2.2 0).trans h.tq.numbers, (e (28 + 1) (by omega)).1.trans h.tq.s_numbers⟩, ⟨(e 47 (by omega)).1.trans h.w0.o, h.w0.lo, ⟨(congrFun (e 47 (by omega)).2.2 2).trans h.w0.wet, (e (47 + 1) (by omega)).1.trans h.w0.s_wet⟩, ⟨(congrFun (e 47 (by omega)).2.2 3).trans h.w0.where, (e (47 + 2) (by omega)).1.trans h.w0.s_where⟩, ⟨(congrFun (e 47 (by omega)).2.2 4).trans h.w0.stained, (e (47 + 3) (by omega)).1.trans h.w0.s_stained⟩, ⟨(congrFun (e 47 (by omega)).2.2 5).trans h.w0.dripsOn, (e (47 + 4) (by omega)).1.trans h.w0.s_dripsOn⟩, (congrFun (e 47 (by omega)).2.2 6).trans h.w0.redOn, (e (47 + 5) (by omega)).1.trans h.w0.s_redOn⟩, ⟨(e 53 (by omega)).1.trans h.w1.o, h.w1.lo, ⟨(congrFun (e 53 (by omega)).2.2 2).trans h.w1.wet, (e (53 + 1) (by omega)).1.trans h.w1.s_wet⟩, ⟨(congrFun (e 53 (by omega)).2.2 3).trans h.w1.where, (e (53 + 2) (by omega)).1.trans h.w1.s_where⟩, ⟨(congrFun (e 53 (by omega)).2.2 4).trans h.w1.stained, (e (53 + 3) (by omega)).1.trans h.w1.s_stained⟩, ⟨(congrFun (e 53 (by omega)).2.2 5).trans h.w1.dripsOn, (e (53 + 4) (by omega)).1.trans h.w1.s_dripsOn⟩, (congrFun (e 53 (by omega)).2.2 6).trans h.w1.redOn, (e (53 + 5) (by omega)).1.trans h.w1.s_redOn⟩, ⟨(e 59 (by omega)).1.trans h.w2.o, h.w2.lo, ⟨(congrFun (e 59 (by omega)).2.2 2).trans h.w2.wet, (e (59 + 1) (by omega)).1.trans h.w2.s_wet⟩, ⟨(congrFun (e 59 (by omega)).2.2 3).trans h.w2.where, (e (59 + 2) (by omega)).1.trans h.w2.s_where⟩, ⟨(congrFun (e 59 (by omega)).2.2 4).trans h.w2.stained, (e (59 + 3) (by omega)).1.trans h.w2.s_stained⟩, ⟨(congrFun (e 59 (by omega)).2.2 5).trans h.w2.dripsOn, (e (59 + 4) (by omega)).1.trans h.w2.s_dripsOn⟩, (congrFun (e 59 (by omega)).2.2 6).trans h.w2.redOn, (e (59 + 5) (by omega)).1.trans h.w2.s_redOn⟩, ⟨(e 65 (by omega)).1.trans h.w3.o, h.w3.lo, ⟨(congrFun (e 65 (by omega)).2.2 2).trans h.w3.wet, (e (65 + 1) (by omega)).1.trans h.w3.s_wet⟩, ⟨(congrFun (e 65 (by omega)).2.2 3).trans h.w3.where, (e (65 + 2) (by omega)).1.trans h.w3.s_where⟩, ⟨(congrFun (e 65 (by omega)).2.2 4).trans h.w3.stained, (e (65 + 3) (by omega)).1.trans h.w3.s_stained⟩, ⟨(congrFun (e 65 (by omega)).2.2 5).trans h.w3.dripsOn, (e (65 + 4) (by omega)).1.trans h.w3.s_dripsOn⟩, (congrFun (e 65 (by omega)).2.2 6).trans h.w3.redOn, (e (65 + 5) (by omega)).1.trans h.w3.s_redOn⟩, ⟨(e 71 (by omega)).1.trans h.w4.o, h.w4.lo, ⟨(congrFun (e 71 (by omega)).2.2 2).trans h.w4.wet, (e (71 + 1) (by omega)).1.trans h.w4.s_wet⟩, ⟨(congrFun (e 71 (by omega)).2.2 3).trans h.w4.where, (e (71 + 2) (by omega)).1.trans h.w4.s_where⟩, ⟨(congrFun (e 71 (by omega)).2.2 4).trans h.w4.stained, (e (71 + 3) (by omega)).1.trans h.w4.s_stained⟩, ⟨(congrFun (e 71 (by omega)).2.2 5).trans h.w4.dripsOn, (e (71 + 4) (by omega)).1.trans h.w4.s_dripsOn⟩, (congrFun (e 71 (by omega)).2.2 6).trans h.w4.redOn, (e (71 + 5) (by omega)).1.trans h.w4.s_redOn⟩⟩
/-- the state that both begin with -/
def A0 (M : Mem) : AS := fun k j => mI M (77 + k) j
theorem GA.zero {A : AS} (h1 : ∀ j : Int, 0 ≤ j → j < 8 → A 1 j = -1) (h0 : ∀ k (j : Int), k ≠ 1 → k ≤ 14 → A k j = 0) : GA A 0 := by
  have z : ∀ cd : CD, (∀ j, cd j = 0) → WFs cd 0 := fun cd h => by
    refine ⟨⟨by rw [h]; omega, by rw [h]; omega, by rw [h]; omega, fun q _ _ => by rw [h]; omega, fun l l0 l1 => by rw [h] at l1; omega, fun l l0 l1 => by rw [h] at l1; omega, fun l l0 l1 => by rw [h] at l1; omega, fun l l0 l1 => by rw [h] at l1; omega, fun l l0 l1 => by rw [h] at l1; omega, fun l l0 l1 => by rw [h] at l1; omega, fun l l0 l1 => by rw [h] at l1; omega⟩, fun l l0 l1 => by rw [h] at l1; omega, fun l l0 l1 => by rw [h] at l1; omega, fun l l0 l1 => by rw [h] at l1; omega, by rw [h]; omega⟩
  refine ⟨fun r r0 r1 => by rw [h1 r r0 r1]; omega, fun r r0 r1 => by rw [h0 _ _ (by omega) (by omega)]; omega, z _ (fun j => h0 _ _ (by omega) (by omega)), Or.inl ⟨h0 _ _ (by omega) (by omega), h0 _ _ (by omega) (by omega)⟩, by rw [h0 _ _ (by omega) (by omega)]; omega, fun j j0 j1 => by rw [h0 _ _ (by omega) (by omega)] at j1; omega, by rw [h0 _ _ (by omega) (by omega)]; omega, fun k hk => ⟨z _ (fun j => h0 _ _ (by omega) (by omega)), Or.inl ⟨h0 _ _ (by omega) (by omega), h0 _ _ (by omega) (by omega)⟩⟩⟩
theorem LW.zero {M1 M2 : Mem} (hN1 : mN M1 = 77) (hX : XO M1) (hC : CA M1 33) (hr : mR M1 47 0 = 33 ∧ mR M1 53 0 = 33 ∧ mR M1 59 0 = 33) (hz : ∀ b (j : Int), 21 ≤ b → b ≤ 76 → b ≠ 23 → b ≠ 30 → b ≠ 31 → b ≠ 32 → mI M1 b j = 0) (hl : ∀ j : Int, 0 ≤ j → j < 8 → mI M1 23 j = -1) (hE : EX M1 M2) (hN2 : mN M2 = 92) (hO : MO M2 77) (hm0 : ∀ j, mI M2 77 j = 0) (hm1 : ∀ j : Int, 0 ≤ j → j < 8 → mI M2 (77 + 1) j = -1) (hm2 : ∀ b (j : Int), 77 + 2 ≤ b → b ≤ 77 + 14 → mI M2 b j = 0) : LW M2 (A0 M2) 0 := by
  have e : ∀ b j, b < 77 → mI M2 b j = mI M1 b j := fun b j hb => congrFun (hE.2 b (by omega)).2.1 j
  have z : ∀ b (j : Int), 21 ≤ b → b ≤ 76 → b ≠ 23 → b ≠ 30 → b ≠ 31 → b ≠ 32 → mI M2 b j = 0 := fun b j h1 h2 h3 h4 h5 h6 => (e b j (by omega)).trans (hz b j h1 h2 h3 h4 h5 h6)
  have a0 : ∀ k (j : Int), k ≠ 1 → k ≤ 14 → A0 M2 k j = 0 := fun k j hk h14 => by
    unfold A0
    by_cases h : k = 0
    · rw [h]; exact hm0 j
    · exact hm2 _ _ (by omega) (by omega)
  have wr : ∀ w (cd : CD), (w = 47 ∨ w = 53 ∨ w = 59) → mR M1 w 0 = 33 → (∀ j, cd j = 0) → WR M2 w cd := fun w cd hw hr h => by
    refine ⟨33, (congrFun (hE.2 w (by omega)).2.2 0).trans hr, hC.ex (by omega) hE, Or.inl rfl, by omega, ⟨by rw [h]; exact z _ _ (by omega) (by omega) (by omega) (by omega) (by omega) (by omega), by rw [h]; exact z _ _ (by omega) (by omega) (by omega) (by omega) (by omega) (by omega), by rw [h]; exact z _ _ (by omega) (by omega) (by omega) (by omega) (by omega) (by omega), fun q _ _ => by rw [h]; exact z _ _ (by omega) (by omega) (by omega) (by omega) (by omega) (by omega), fun l l0 l1 => by rw [h] at l1; omega, fun l l0 l1 => by rw [h] at l1; omega, fun l l0 l1 => by rw [h] at l1; omega, fun l l0 l1 => by rw [h] at l1; omega, fun l l0 l1 => by rw [h] at l1; omega, fun l l0 l1 => by rw [h] at l1; omega, fun l l0 l1 => by rw [h] at l1; omega, fun l l0 l1 => by rw [h] at l1; omega, fun l l0 l1 => by rw [h] at l1; omega, fun l l0 l1 => by rw [h] at l1; omega, fun l l0 l1 => by rw [h] at l1; omega⟩, fun l l0 l1 => by rw [h] at l1; omega, fun l l0 l1 => by rw [h] at l1; omega, fun l l0 l1 => by rw [h] at l1; omega, by rw [h]; exact z _ _ (by omega) (by omega) (by omega) (by omega) (by omega) (by omega), fun p _ _ => Or.inl (z _ _ (by omega) (by omega) (by omega) (by omega) (by omega) (by omega))⟩
  refine ⟨⟨hX.e7 (by omega) hE, by omega, fun r r0 r1 => ⟨?_, fun q => ?_⟩, ⟨?_, fun j j0 j1 => ?_⟩, ⟨?_, fun j j0 j1 => ?_⟩, ⟨?_, ?_⟩, wr 47 _ (by omega) hr.1 (fun j => a0 _ _ (by omega) (by omega)), wr 53 _ (by omega) hr.2.1 (fun j => a0 _ _ (by omega) (by omega)), wr 59 _ (by omega) hr.2.2 (fun j => a0 _ _ (by omega) (by omega))⟩, hO, ⟨fun k j _ => rfl, fun j _ => rfl⟩, GA.zero (fun j j0 j1 => hm1 j j0 j1) a0⟩
  · rw [e _ _ (by omega), hl r r0 r1]; exact (hm1 r r0 r1).symm
  · have := hm1 r r0 r1; unfold A0 at q; omega
  · rw [a0 _ _ (by omega) (by omega)]; exact z _ _ (by omega) (by omega) (by omega) (by omega) (by omega) (by omega)
  · rw [a0 _ _ (by omega) (by omega)] at j1; omega
  · rw [a0 _ _ (by omega) (by omega)]; exact z _ _ (by omega) (by omega) (by omega) (by omega) (by omega) (by omega)
  · rw [a0 _ _ (by omega) (by omega)] at j1; omega
  · rw [a0 _ _ (by omega) (by omega)]; exact z _ _ (by omega) (by omega) (by omega) (by omega) (by omega) (by omega)
  · rw [a0 _ _ (by omega) (by omega)]; exact z _ _ (by omega) (by omega) (by omega) (by omega) (by omega) (by omega)
set_option maxRecDepth 20000 in
set_option maxHeartbeats 3000000 in
theorem law_start {G : Ctx} {nm : String} (h384 : gL G ≤ 384) {M0 : Mem} (hN0 : mN M0 = 21) : EV G (m_L nm) 14 600000 7302250 (fun x M' => x = some (vI 1)) 0 [some (vR 1), none, none, none] [] M0 := by
  refine EV.room (kc := 20 * 64 + 14 + 1 + 55 + 1) (ks := 200 * 64 + 1468 + 28 + 1313 + 15) (by omega) (by omega) ?_
  refine n_L_7 rfl dL_law_0 ?_
  rw [hN0]
  refine E_dup dL_law_3 rfl ?_
  refine i_L_9 rfl dL_law_4 (by omega) (c_CourtWash_init (by rw [mN_new, hN0]) (by rw [← hN0]; exact mS_new0 _ _) (fun j => by rw [← hN0]; exact mI_new0 _ _ _)) (by omega) (Nat.le_of_ble_eq_true rfl) rfl rfl ?_
  rintro _ M1 ⟨rfl, hN1, hX, hC, ⟨hr1, hr2, hr3, hr4, hr5⟩, hold, hz, hl⟩
  try dsimp only [pu]
  refine E_astore_n dL_law_7 rfl (Nat.le_of_ble_eq_true rfl) ?_
  try dsimp only [List.set]
  refine n_L_10 rfl dL_law_8 ?_
  rw [hN1]
  refine E_dup dL_law_11 rfl ?_
  refine i_L_12 rfl dL_law_12 (by omega) (c_Model_init (a := 77) (by rw [mN_new, hN1]) (by omega) (by rw [← hN1]; exact mS_new0 _ _)) (by omega) (Nat.le_of_ble_eq_true rfl) rfl rfl ?_
  rintro _ M2 ⟨rfl, hN2, hO, hu, hm1, hm2⟩
  rw [mN_new, hN1] at hN2 hu
  have hE : EX M1 M2 := ⟨by omega, fun b hb => ⟨(hu b (by omega)).1.trans (mS_new (by omega)), (hu b (by omega)).2.1.trans (mI_new (by omega)), ((hu b (by omega)).2.2 (by omega)).trans (mR_new (by omega))⟩⟩
  have hm0 : ∀ j, mI M2 77 j = 0 := fun j => (congrFun (hu 77 (by omega)).2.1 j).trans (by rw [← hN1]; exact mI_new0 _ _ _)
  have hW := LW.zero hN1 hX hC ⟨hr1, hr2, hr3⟩ hz hl hE (by omega) hO hm0 hm1 hm2
  try dsimp only [pu]
  refine E_astore_n dL_law_15 rfl (Nat.le_of_ble_eq_true rfl) ?_
  try dsimp only [List.set]
  refine E_iconst dL_law_16 (by decide) ?_
  refine E_istore_n dL_law_17 rfl (Nat.le_of_ble_eq_true rfl) ?_
  try dsimp only [List.set]
  exact EV.room (by omega) (by omega) (EV.lq rfl (l_law h384 (gL G / 6) 0 M2 (A0 M2) (by omega) hW))
