set_option maxRecDepth 20000 in
set_option maxHeartbeats 3000000 in
theorem l_rrain {G : Ctx} {M : Mem} {m : Nat} {cd : CD} (hO : MO M m) (hQ : MC (mI M) m cd) (hW : WFc cd) (n : Nat) (hn : cd 2 = n) {p w : Int} (p0 : 0 ≤ p ∧ p ≤ 100) : ∀ (k r : Nat) (s : Int) (tk : Nat → Bool) (st sum : Int), r + k = n → BS s n tk ∧ (0 ≤ st ∧ st ≤ 1000000) ∧ (0 ≤ sum ∧ sum + 9000000 * k ≤ 90000000) ∧ cnt (fun p => hg_ cd p && !tk p) n ≤ k → EV G m_X12_rain 2 0 0 (rI M (rnS cd n p k (fun p => hg_ cd p && !tk p) st sum)) 68 [some (vR m), some (vI p), some (vI w), some (vI s), some (vI sum), some (vI st), some (vI (nx cd (fun p => hg_ cd p && !tk p) n))] [] M := by
  intro k
  induction k with
  | zero =>
    intro r s tk st sum hr hi
    obtain rfl : r = n := by omega
    have hpn := hW.pn
    have hz := nx_n cd (fun p => hg_ cd p && !tk p) r (cnt_0 r (by omega))
    refine E_iload dX12_rain_68 rfl ?_
    refine c_X12_89 rfl dX12_rain_70 ?_
    refine E_icmp_eq (tgt := 123) dX12_rain_72 (by decide) (fun h72 => ?_) (fun h72 => ?_)
    · refine E_iload dX12_rain_123 rfl ?_
      refine E_iret dX12_rain_125 rfl ?_
      exact ⟨rfl, rfl⟩
    · exfalso; omega
  | succ k ih =>
    intro r s tk st sum hr hi
    have hpn := hW.pn
    have hr := nx_r cd (fun p => hg_ cd p && !tk p) n
    refine E_iload dX12_rain_68 rfl ?_
    refine c_X12_89 rfl dX12_rain_70 ?_
    refine E_icmp_eq (tgt := 123) dX12_rain_72 (by decide) (fun h72 => ?_) (fun h72 => ?_)
    · refine E_iload dX12_rain_123 rfl ?_
      refine E_iret dX12_rain_125 rfl ?_
      exact ⟨by simp only [rnS]; rw [if_pos h72], rfl⟩
    · obtain ⟨j, hj⟩ := Int.eq_ofNat_of_zero_le (show 0 ≤ (nx cd (fun p => hg_ cd p && !tk p) n) by omega)
      rw [hj]
      have hy := hW.ya (p := (j : Int)) (by omega) (by omega)
      have hyb := rain_b hy hi.2.1
      have hs2 := rain_s p0 hi.2.1
      refine E_iload dX12_rain_75 rfl ?_
      refine E_aload_n dX12_rain_77 rfl ?_
      refine E_iload dX12_rain_78 rfl ?_
      refine E_iconst dX12_rain_80 (by decide) ?_
      refine i_X12_202 rfl dX12_rain_81 (by exact hO.o) (c_of hO hQ (j := 87 + 6 * (j : Int)) (by omega) (by omega) (by omega)) (by omega) (Nat.le_of_ble_eq_true rfl) rfl rfl ?_
      rintro _ _ ⟨rfl, rfl⟩
      try dsimp only [pu]
      refine c_X12_287 rfl dX12_rain_84 ?_
      refine E_iload dX12_rain_87 rfl ?_
      refine E_isub dX12_rain_89 (by omega) (by omega) ?_
      refine E_imul dX12_rain_90 (by omega) (by omega) ?_
      refine E_iadd dX12_rain_91 (by omega) (by omega) ?_
      refine E_istore dX12_rain_92 rfl (by decide) ?_
      try dsimp only [List.set]
      refine E_iload dX12_rain_94 rfl ?_
      refine E_bipush dX12_rain_96 (by decide) ?_
      refine E_iload_n dX12_rain_98 rfl ?_
      refine E_isub dX12_rain_99 (by omega) (by omega) ?_
      refine E_imul dX12_rain_100 (by omega) (by omega) ?_
      refine E_bipush dX12_rain_101 (by decide) ?_
      refine E_idiv dX12_rain_103 (by omega) (by omega) (by omega) ?_
      refine E_istore dX12_rain_104 rfl (by decide) ?_
      try dsimp only [List.set]
      refine E_iload_n dX12_rain_106 rfl ?_
      refine E_iconst dX12_rain_107 (by decide) ?_
      refine E_iload dX12_rain_108 rfl ?_
      refine E_ishl dX12_rain_110 ?_
      refine E_ior dX12_rain_111 ?_
      refine E_istore_n dX12_rain_112 rfl (by decide) ?_
      try dsimp only [List.set]
      refine E_aload_n dX12_rain_113 rfl ?_
      refine E_iload_n dX12_rain_114 rfl ?_
      refine i_X12_284 rfl dX12_rain_115 (by exact hO.o) (c_nextIn hO hQ hW n hn (hi.1.set (k := j) (by omega) (by omega))) (by omega) (Nat.le_of_ble_eq_true rfl) rfl rfl ?_
      rintro _ _ ⟨rfl, rfl⟩
      try dsimp only [pu]
      refine E_istore dX12_rain_118 rfl (by decide) ?_
      try dsimp only [List.set]
      refine E_goto (tgt := 68) dX12_rain_120 (by decide) ?_
      have hcg : ∀ q, q < n → (fun p => hg_ cd p && !(tk p || decide (p = j))) q = wo (fun p => hg_ cd p && !tk p) (j : Int) q := fun q hq => by unfold wo; simp only []; rw [show decide ((q : Int) = (j : Int)) = decide (q = j) from decide_eq_decide.mpr (by omega)]; cases hg_ cd q <;> cases tk q <;> cases decide (q = j) <;> rfl
      have hcn : cnt (fun p => hg_ cd p && !(tk p || decide (p = j))) n ≤ k := by rw [cnt_cg n hcg, cnt_wo (fun p => hg_ cd p && !tk p) j n (by omega) (nx_b cd _ n j hj)]; omega
      exact EV.post (fun x M' hq => by simp only [rnS]; rw [if_neg h72, hj, ← rnS_cg cd n p k _ _ _ _ hcg]; exact hq) (ih (r + 1) _ (fun p => tk p || decide (p = j)) _ _ (by omega) ⟨hi.1.set (by omega) (by omega), hs2.2, ⟨by omega, by omega⟩, hcn⟩)
theorem bs0 : ∀ n : Nat, BS 0 n (fun _ => false)
  | 0 => BS.nil _
  | n + 1 => (bs0 n).skip rfl
set_option maxRecDepth 20000 in
set_option maxHeartbeats 3000000 in
theorem r_rain {G : Ctx} {M : Mem} {m : Nat} {A : AS} {B : Int} (hO : MO M m) (hV : MA (mI M) m A) (hG : GA A B) (hB : B ≤ 900000) {p w : Int} (n : Nat) (hn : A 4 2 = n) : CT G m_X12_rain 2 0 0 [vR m, vI p, vI w] M (rM M m (s_rain A p w n) A) := by
  refine CT.of k_X12_rain 4 (ls := [some (vR m), some (vI p), some (vI w), none, none, none, none]) rfl (Nat.le_of_ble_eq_true rfl) ?_
  refine E_aload_n dX12_rain_0 rfl ?_
  refine E_iconst dX12_rain_1 (by decide) ?_
  refine p_X12_53 rfl dX12_rain_2 hO.o ?_
  obtain ⟨M1, e1, hO, hV, hF⟩ := thr hO hV
  refine EV.mq rfl e1.symm ?_
  clear e1
  have hQ := hV.mc
  have hW := hG.w.c
  have hpn := hW.pn
  have hl8 := hW.ln
  have hr8 := hW.rn
  have hgg := hG.w.g
  have hth := hG.th
  refine E_aload_n dX12_rain_5 rfl ?_
  refine g_X12_192 rfl dX12_rain_6 hO.o (hV.2 7 (by unfold SJ; omega)) ?_
  refine E_if_ne (tgt := 15) dX12_rain_9 (by decide) (fun h9 => ?_) (fun h9 => ?_)
  · refine E_iload_n dX12_rain_15 rfl ?_
    refine E_i2l dX12_rain_16 ?_
    refine E_lconst (x := 0) dX12_rain_17 (by decide) ?_
    refine c_X12_282 rfl dX12_rain_18 ?_
    refine i_X12_63 rfl dX12_rain_21 c_in (by omega) (Nat.le_of_ble_eq_true rfl) rfl rfl ?_
    rintro _ _ ⟨rfl, rfl⟩
    try dsimp only [pu]
    refine E_if_eq (tgt := 37) dX12_rain_24 (by decide) (fun h24 => ?_) (fun h24 => ?_)
    · simp only [tB0, ne_eq, Bool.not_eq_false, Bool.not_eq_true, decide_eq_true_eq, decide_eq_false_iff_not, Classical.not_not] at h24
      refine c_X12_73 rfl dX12_rain_37 ?_
      refine E_iret dX12_rain_39 rfl ?_
      refine ⟨?_, hF, hV⟩
      congr 2; unfold s_rain; rw [if_neg (by omega), if_neg (by omega)]
    · simp only [tB0, ne_eq, Bool.not_eq_false, Bool.not_eq_true, decide_eq_true_eq, decide_eq_false_iff_not, Classical.not_not] at h24
      refine E_iload_n dX12_rain_27 rfl ?_
      refine E_i2l dX12_rain_28 ?_
      refine E_lconst (x := 0) dX12_rain_29 (by decide) ?_
      refine E_lconst (x := 1) dX12_rain_30 (by decide) ?_
      refine i_X12_63 rfl dX12_rain_31 c_in (by omega) (Nat.le_of_ble_eq_true rfl) rfl rfl ?_
      rintro _ _ ⟨rfl, rfl⟩
      try dsimp only [pu]
      refine E_if_ne (tgt := 40) dX12_rain_34 (by decide) (fun h34 => ?_) (fun h34 => ?_)
      · simp only [tB0, ne_eq, Bool.not_eq_false, Bool.not_eq_true, decide_eq_true_eq, decide_eq_false_iff_not, Classical.not_not] at h34
        refine E_iload_n dX12_rain_40 rfl ?_
        refine E_iconst dX12_rain_41 (by decide) ?_
        refine E_icmp_ne (tgt := 51) dX12_rain_42 (by decide) (fun h42 => ?_) (fun h42 => ?_)
        · refine E_iconst dX12_rain_51 (by decide) ?_
          refine E_istore_n dX12_rain_52 rfl (by decide) ?_
          try dsimp only [List.set]
          refine E_iconst dX12_rain_53 (by decide) ?_
          refine E_istore dX12_rain_54 rfl (by decide) ?_
          try dsimp only [List.set]
          refine c_X12_287 rfl dX12_rain_56 ?_
          refine E_istore dX12_rain_59 rfl (by decide) ?_
          try dsimp only [List.set]
          refine E_aload_n dX12_rain_61 rfl ?_
          refine E_iconst dX12_rain_62 (by decide) ?_
          refine i_X12_284 rfl dX12_rain_63 (by exact hO.o) (c_nextIn hO hQ hW n hn (s := 0) (tk := fun _ => false) (bs0 n)) (by omega) (Nat.le_of_ble_eq_true rfl) rfl rfl ?_
          rintro _ _ ⟨rfl, rfl⟩
          try dsimp only [pu]
          refine E_istore dX12_rain_66 rfl (by decide) ?_
          try dsimp only [List.set]
          have hcb := cnt_b (fun p => hg_ (A 4) p && !(fun _ => false) p) n
          refine EV.post (fun x M' hq => ?_) (l_rrain hO hQ hW n hn (p := p) (w := w) (by omega) n 0 0 (fun _ => false) _ _ (by omega) ⟨bs0 n, by omega, by omega, hcb.2⟩)
          obtain ⟨rfl, rfl⟩ := hq
          refine ⟨?_, hF, hV⟩
          congr 2; unfold s_rain; rw [if_neg (by omega), if_pos (by omega), if_neg (by omega)]; exact rnS_cg _ _ _ _ _ _ _ _ (fun j _ => by simp)
        · refine E_aload_n dX12_rain_45 rfl ?_
          refine E_iconst dX12_rain_46 (by decide) ?_
          refine i_X12_284 rfl dX12_rain_47 (by exact hO.o) (c_nextIn hO hQ hW n hn (s := 0) (tk := fun _ => false) (bs0 n)) (by omega) (Nat.le_of_ble_eq_true rfl) rfl rfl ?_
          rintro _ _ ⟨rfl, rfl⟩
          try dsimp only [pu]
          refine E_iret dX12_rain_50 rfl ?_
          refine ⟨?_, hF, hV⟩
          congr 2; unfold s_rain; rw [if_neg (by omega), if_pos (by omega), if_pos (by omega)]; exact nx_cg _ n (fun j _ => by simp)
      · simp only [tB0, ne_eq, Bool.not_eq_false, Bool.not_eq_true, decide_eq_true_eq, decide_eq_false_iff_not, Classical.not_not] at h34
        refine c_X12_73 rfl dX12_rain_37 ?_
        refine E_iret dX12_rain_39 rfl ?_
        refine ⟨?_, hF, hV⟩
        congr 2; unfold s_rain; rw [if_neg (by omega), if_neg (by omega)]
  · refine c_X12_208 rfl dX12_rain_12 ?_
    refine E_iret dX12_rain_14 rfl ?_
    refine ⟨?_, hF, hV⟩
    congr 2; unfold s_rain; rw [if_pos (by omega)]
