/-! ===== 27: the reference: goOn whole ===== -/
theorem EV.post {G : Ctx} {mt : MT} {d kc ks : Nat} {Q Q' : Option MV → Mem → Prop} {pc : Nat} {ls : List (Option MV)} {st : List MV} {M : Mem} (h : ∀ r M', Q r M' → Q' r M') (k : EV G mt d kc ks Q pc ls st M) : EV G mt d kc ks Q' pc ls st M := by
  intro p l e R s m args below meth c H locs cells slots mc ms lsR stR C hR hk hl hP hL hst T hT X
  obtain ⟨t, a, o, b1, b2, ⟨r, v, M', e1, e2, e3, e4⟩, b4⟩ := k p l e R s m args below meth c H locs cells slots mc ms lsR stR C hR hk hl hP hL hst T hT X
  exact ⟨t, a, o, b1, b2, ⟨r, v, M', e1, e2, h _ _ e3, e4⟩, b4⟩
theorem EV.deep {G : Ctx} {mt : MT} {d d' kc ks : Nat} {Q : Option MV → Mem → Prop} {pc : Nat} {ls : List (Option MV)} {st : List MV} {M : Mem} (h : d ≤ d') (k : EV G mt d kc ks Q pc ls st M) : EV G mt d' kc ks Q pc ls st M := by
  intro p l e R s m args below meth c H locs cells slots mc ms lsR stR C hR
  exact k p l e R s m args below meth c H locs cells slots mc ms lsR stR C ⟨by omega, by omega, hR.2.2⟩
theorem GI3.of {M : Mem} {m : Nat} {cd : CD} {hu v : Int → Int} {sb : Nat → Bool} {n t : Nat} {I1 I : Nat → Int → Int} (h1 : ∀ b j, b ≠ m + 8 → I1 b j = mI M b j) (h : GI3 (mJ M I1) m cd hu v sb n t I) : GI3 M m cd hu v sb n t I :=
  ⟨fun b j q1 q2 => (h.1 b j q1 q2).trans (h1 b j q1), h.2.1, h.2.2⟩
set_option maxRecDepth 20000 in
set_option maxHeartbeats 1200000 in
theorem l_go1 {G : Ctx} {M : Mem} {m : Nat} {cd : CD} (hO : MO M m) (hQ : MC (mI M) m cd) (hW : WFc cd) {hu we : Int → Int} {sb : Nat → Bool} (hV : HV cd hu) (hH : ∀ p, 0 ≤ p → p < cd 2 → mI M (m + 7) p = hu p) (hE : ∀ p, 0 ≤ p → p < cd 2 → mI M (m + 8) p = we p) (hw9 : ∀ p, 0 ≤ p → p < cd 2 → 0 ≤ we p ∧ we p ≤ 99) (n : Nat) (hn : cd 2 = n) (hB : BS (mI M m 20) n sb) {q : Int} (q0 : 0 ≤ q) (q1 : q ≤ 1000000) : ∀ (k r : Nat) (I : Nat → Int → Int), r + k = n → gI1 M m cd hu we (Int.tmod q 24) n r I → EV G m_X12_goOn 3 0 0 (rJ M (fun I => GI3 M m cd hu (qW1 cd hu we (Int.tmod q 24)) sb n n I)) 2 [some (vR m), some (vI q), some (vI (r : Int)), none, none, none] [] (mJ M I) := by
  intro k
  induction k with
  | zero =>
    intro r I hr hi
    obtain rfl : r = n := by omega
    have hpn := hW.pn
    have hl8 := hW.ln
    have hr8 := hW.rn
    have hQI : MC (mI (mJ M I)) m cd := fun k h0 h1 => (hi.1 _ _ (by omega)).trans (hQ k h0 h1)
    have hHI : ∀ p, 0 ≤ p → p < cd 2 → I (m + 7) p = hu p := fun p h0 h1 => (hi.1 _ _ (by omega)).trans (hH p h0 h1)
    have hEI : ∀ p, 0 ≤ p → p < cd 2 → mI (mJ M I) (m + 8) p = (qW1 cd hu we (Int.tmod q 24)) p := fun p p0 p1 => by show I (m + 8) p = _; rw [hi.2 p p0 (by omega), if_pos (by omega)]
    have hv9 : ∀ p, 0 ≤ p → p < cd 2 → 0 ≤ (qW1 cd hu we (Int.tmod q 24)) p ∧ (qW1 cd hu we (Int.tmod q 24)) p ≤ 99 := fun p p0 p1 => qW1_b (hw9 p p0 p1)
    refine E_iload_n dX12_goOn_2 rfl ?_
    refine E_aload_n dX12_goOn_3 rfl ?_
    refine g_X12_19 rfl dX12_goOn_4 hO.o hO.court ?_
    refine E_iconst dX12_goOn_7 (by decide) ?_
    refine E_iald dX12_goOn_8 hO.s_court (by omega) (by omega) (hQI.at (j := 2) (by omega) (by omega) (by omega)) ?_
    refine E_icmp_ge (tgt := 35) dX12_goOn_9 (by decide) (fun h9 => ?_) (fun h9 => ?_)
    · refine E_iconst dX12_goOn_35 (by decide) ?_
      refine E_istore_n dX12_goOn_36 rfl (by decide) ?_
      try dsimp only [List.set]
      refine E_iconst dX12_goOn_37 (by decide) ?_
      refine E_istore_n dX12_goOn_38 rfl (by decide) ?_
      try dsimp only [List.set]
      refine EV.deep (d := 2) (by omega) ?_
      refine EV.post (Q := rJ (mJ M I) (fun K => GI3 (mJ M I) m cd hu (qW1 cd hu we (Int.tmod q 24)) sb r r K)) ?_ ?_
      · rintro _ _ ⟨e, K, rfl, hK⟩
        exact ⟨e, K, rfl, GI3.of hi.1 hK⟩
      · refine l_go2 (hO.j I) hQI hW hV hHI hv9 r hn hEI (fun dr z hdr => ?_) r 0 0 (by omega) (BS.nil _)
        refine E_iconst dX12_goOn_87 (by decide) ?_
        refine E_istore_n dX12_goOn_88 rfl (by decide) ?_
        try dsimp only [List.set]
        refine l_go3 (hO.j I) hQI hW hV hHI hv9 r hn hdr r 0 I _ _ (by omega) ⟨fun _ _ _ _ => rfl, fun k k0 k1 => ?_, ?_⟩
        · rw [hi.2 k k0 k1, if_pos (by omega), qW2]
          have z9 := hv9 k k0 (by omega)
          split
          · rfl
          · simp only [gCnt]; omega
        · rw [hi.1 _ _ (by omega)]
          exact hB.congr (fun p hp => by simp [sb2, gRed])
    · exfalso; omega
  | succ k ih =>
    intro r I hr hi
    have hpn := hW.pn
    have hl8 := hW.ln
    have hr8 := hW.rn
    have hQI : MC (mI (mJ M I)) m cd := fun k h0 h1 => (hi.1 _ _ (by omega)).trans (hQ k h0 h1)
    have hHI : ∀ p, 0 ≤ p → p < cd 2 → I (m + 7) p = hu p := fun p h0 h1 => (hi.1 _ _ (by omega)).trans (hH p h0 h1)
    have hv := hV r (by omega) (by omega)
    have hwr : I (m + 8) (r : Int) = we r := by have z := hi.2 r (by omega) (by omega); rw [if_neg (by omega)] at z; exact z
    have hwq := hw9 r (by omega) (by omega)
    refine E_iload_n dX12_goOn_2 rfl ?_
    refine E_aload_n dX12_goOn_3 rfl ?_
    refine g_X12_19 rfl dX12_goOn_4 hO.o hO.court ?_
    refine E_iconst dX12_goOn_7 (by decide) ?_
    refine E_iald dX12_goOn_8 hO.s_court (by omega) (by omega) (hQI.at (j := 2) (by omega) (by omega) (by omega)) ?_
    refine E_icmp_ge (tgt := 35) dX12_goOn_9 (by decide) (fun h9 => ?_) (fun h9 => ?_)
    · exfalso; omega
    · refine E_aload_n dX12_goOn_12 rfl ?_
      refine g_X12_28 rfl dX12_goOn_13 hO.o hO.hung ?_
      refine E_iload_n dX12_goOn_16 rfl ?_
      refine E_iald dX12_goOn_17 hO.s_hung (by omega) (by omega) (hHI _ (by omega) (by omega)) ?_
      refine c_X12_89 rfl dX12_goOn_18 ?_
      refine E_icmp_eq (tgt := 29) dX12_goOn_20 (by decide) (fun h20 => ?_) (fun h20 => ?_)
      · refine E_iinc dX12_goOn_29 rfl (by omega) (by omega) (by decide) rfl (by decide) ?_
        try dsimp only [List.set]
        refine E_goto (tgt := 2) dX12_goOn_32 (by decide) ?_
        exact EV.mq rfl rfl (ih (r + 1) I (by omega) (gI1_skip hi h20))
      · refine E_aload_n dX12_goOn_23 rfl ?_
        refine E_iload_n dX12_goOn_24 rfl ?_
        refine E_iload_n dX12_goOn_25 rfl ?_
        refine i_X12_234 rfl dX12_goOn_26 (by exact hO.o) (c_dries (hO.j I) hQI hW q0 q1 (by omega) (by omega) (hHI _ (by omega) (by omega)) (by omega) (by omega) hwr hwq.1 hwq.2) (by omega) (Nat.le_of_ble_eq_true rfl) rfl rfl ?_
        rintro _ _ ⟨rfl, J, rfl, rfl⟩
        try dsimp only [pu]
        refine E_iinc dX12_goOn_29 rfl (by omega) (by omega) (by decide) rfl (by decide) ?_
        try dsimp only [List.set]
        refine E_goto (tgt := 2) dX12_goOn_32 (by decide) ?_
        exact EV.mq rfl rfl (ih (r + 1) _ (by omega) (gI1_step hi (by rw [qW1, if_neg h20])))
set_option maxRecDepth 20000 in
set_option maxHeartbeats 1200000 in
theorem c_goOn {G : Ctx} {M : Mem} {m : Nat} {cd : CD} (hO : MO M m) (hQ : MC (mI M) m cd) (hW : WFc cd) {hu we : Int → Int} {sb : Nat → Bool} (hV : HV cd hu) (hH : ∀ p, 0 ≤ p → p < cd 2 → mI M (m + 7) p = hu p) (hE : ∀ p, 0 ≤ p → p < cd 2 → mI M (m + 8) p = we p) (hw9 : ∀ p, 0 ≤ p → p < cd 2 → 0 ≤ we p ∧ we p ≤ 99) (n : Nat) (hn : cd 2 = n) (hB : BS (mI M m 20) n sb) {q : Int} (q0 : 0 ≤ q) (q1 : q ≤ 1000000) : CT G m_X12_goOn 3 0 0 [vR m, vI q] M (rJ M (fun I => GI3 M m cd hu (qW1 cd hu we (Int.tmod q 24)) sb n n I)) := by
  refine CT.of k_X12_goOn 4 (ls := [some (vR m), some (vI q), none, none, none, none]) rfl (Nat.le_of_ble_eq_true rfl) ?_
  refine E_iconst dX12_goOn_0 (by decide) ?_
  refine E_istore_n dX12_goOn_1 rfl (by decide) ?_
  try dsimp only [List.set]
  exact l_go1 hO hQ hW hV hH hE hw9 n hn hB q0 q1 n 0 (mI M) (by omega) ⟨fun _ _ _ => rfl, fun p p0 p1 => by rw [if_neg (by omega)]; exact hE p p0 (by omega)⟩
