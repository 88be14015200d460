/-! ===== 82: the law: one call ===== -/
theorem MO.fx {M M' : Mem} (h : MO M 77) (hF : FX M M') : MO M' 77 := by
  have e : ∀ b, 77 ≤ b → b ≤ 91 → mS M' b = mS M b := fun b b0 b1 => (hF.2 b b0 b1).1
  have f : ∀ k, mR M' 77 k = mR M 77 k := fun k => congrFun (hF.2 77 (by omega) (by omega)).2.2 k
  unfold MO at h ⊢
  simp only [e 77 (by omega) (by omega), f, e (77 + 1) (by omega) (by omega), e (77 + 2) (by omega) (by omega), e (77 + 3) (by omega) (by omega), e (77 + 4) (by omega) (by omega), e (77 + 5) (by omega) (by omega), e (77 + 6) (by omega) (by omega), e (77 + 7) (by omega) (by omega), e (77 + 8) (by omega) (by omega), e (77 + 9) (by omega) (by omega), e (77 + 10) (by omega) (by omega), e (77 + 11) (by omega) (by omega), e (77 + 12) (by omega) (by omega), e (77 + 13) (by omega) (by omega), e (77 + 14) (by omega) (by omega)]
  exact h
theorem MA.fx {M M' : Mem} {A : AS} (h : MA (mI M) 77 A) (hF : FX M M') : MA (mI M') 77 A := h.of (fun k j hs => congrFun (hF.2 (77 + k) (by omega) (by unfold SA at hs; omega)).2.1 j) (fun j hs => congrFun (hF.2 77 (by omega) (by omega)).2.1 j)
theorem CI.rf {M M' : Mem} {A : AS} (h : CI M A) (hR : RF M 77 M') : CI M' A := by
  have e : ∀ b j, (b < 77 ∨ 77 + 14 < b) → mI M' b j = mI M b j := hR.2
  rw [hR.1]
  exact h.j (I := mI M') (fun b j hb => e b j (by omega)) (h.2.2.1.cg (fun j => e _ _ (by omega)) (fun j => e _ _ (by omega)) (fun j => e _ _ (by omega)) (fun _ => rfl) (fun _ => rfl) (fun _ => rfl)) (h.2.2.2.1.cg (e _ _ (by omega)) (fun j => e _ _ (by omega)) rfl (fun _ => rfl)) (h.2.2.2.2.1.cg (e _ _ (by omega)) (fun j => e _ _ (by omega)) rfl (fun _ => rfl)) (h.2.2.2.2.2.1.cg (e _ _ (by omega)) (e _ _ (by omega)) rfl rfl) (fun _ => rfl) (fun _ => rfl)
/-- both sides hold the state A -/
def LW (M : Mem) (A : AS) (B : Int) : Prop := CI M A ∧ MO M 77 ∧ MA (mI M) 77 A ∧ GA A B
theorem LW.nx {M M1 M2 : Mem} {A A2 : AS} {B : Int} (h : LW M A B) (hI : CI M1 A2) (hF : FX M M1) (hR : RF M1 77 M2) (hV : MA (mI M2) 77 A2) (hG : GA A2 (B + 96)) : LW M2 A2 (B + 96) := ⟨hI.rf hR, by have z := h.2.1.fx hF; rw [hR.1]; exact z, hV, hG⟩
theorem i32r (x : Int32) : -2147483648 ≤ x.toInt ∧ x.toInt ≤ 2147483647 := by
  have a := Int32.le_toInt x
  have b := Int32.toInt_lt x
  omega
section EVG
variable {G : Ctx} {mt : MT} {d kc ks : Nat} {Q : Option MV → Mem → Prop} {pc : Nat} {ls : List (Option MV)} {st : List MV} {M : Mem}
theorem EV.gs (k : GS G M → EV G mt d kc ks Q pc ls st M) : EV G mt d kc ks Q pc ls st M := by
  intro p l e R s m args below meth c H locs cells slots mc ms lsR stR C0 hR hkk hl hP hL hst
  exact k hP.2.2.2.2 p l e R s m args below meth c H locs cells slots mc ms lsR stR C0 hR hkk hl hP hL hst
theorem E_scr {i : Int} (hd : decode mt.2.1 pc = .ok (.iaload, 1)) (h0 : 0 ≤ i) (h1 : i < gL G) (kk : EV G mt d kc ks Q (pc + 1) ls (vI ((gx G i.toNat).toInt) :: st) M) : EV G mt d kc ks Q pc ls (vI i :: vR 1 :: st) M :=
  EV.gs (fun h => E_sld hd h0 h1 (by have z := h.2.1 i.toNat; rw [Int.toNat_of_nonneg h0] at z; exact z) kk)
end EVG
/-- the law's own method; its name isn't asked for -/
abbrev m_L (nm : String) : MT := (⟨RL, nm, "([I)Z"⟩, (cL_law, (4, (Option.some FieldType.boolean))))
set_option maxRecDepth 20000 in
set_option maxHeartbeats 3000000 in
theorem x_ringsB {G : Ctx} {M : Mem} {A : AS} {B : Int} (hI : CI M A) (hG : GA A B) (hB : B ≤ 900000) {a c w : Int} (c0 : c < 2) : CT G m_X11_rings 5 3 18 [vR 21, vI a, vI c, vI w] M (xM M (s_rings A a c w) (t_rings A a c w)) := by
  refine CT.of k_X11_rings 1 (ls := [some (vR 21), some (vI a), some (vI c), some (vI w), none]) rfl (Nat.le_of_ble_eq_true rfl) ?_
  obtain ⟨hX, hN, hR, hT, hK, hS, hW0, hW1, hW2⟩ := id hI
  obtain ⟨ca, hRc, hC, hca, haN, hD, hH, hE, hSn, hg, hZ⟩ := hW0
  have hW := hG.w.c
  have hpn := hW.pn
  have hl8 := hW.ln
  have hr8 := hW.rn
  have hgg := hG.w.g
  have hth := hG.th
  have hV := hG.w.hv
  refine E_aload_n dX11_rings_0 rfl ?_
  refine i_X11_158 rfl dX11_rings_1 (by exact hX.o) (c_noCourt hX hRc hC hD) (by omega) (Nat.le_of_ble_eq_true rfl) rfl rfl ?_
  rintro _ _ ⟨rfl, rfl⟩
  try dsimp only [pu]
  refine E_if_eq (tgt := 10) dX11_rings_4 (by decide) (fun h4 => ?_) (fun h4 => ?_)
  · simp only [tB0, ne_eq, Bool.not_eq_false, Bool.not_eq_true, decide_eq_true_eq, decide_eq_false_iff_not, Classical.not_not] at h4
    refine E_aload_n dX11_rings_10 rfl ?_
    refine g_X11_10 rfl dX11_rings_11 hX.o hX.rows ?_
    refine E_iload_n dX11_rings_14 rfl ?_
    refine i_X11_64 rfl dX11_rings_15 (by exact hX.rp.o) (c_xIsRow (by exact hX.rp)) (by omega) (Nat.le_of_ble_eq_true rfl) rfl rfl ?_
    rintro _ _ ⟨rfl, rfl⟩
    try dsimp only [pu]
    refine E_if_eq (tgt := 42) dX11_rings_18 (by decide) (fun h18 => ?_) (fun h18 => ?_)
    · simp only [tB0, ne_eq, Bool.not_eq_false, Bool.not_eq_true, decide_eq_true_eq, decide_eq_false_iff_not, Classical.not_not] at h18
      refine c_X11_72 rfl dX11_rings_42 ?_
      refine E_iret dX11_rings_44 rfl ?_
      refine ⟨?_, ?_, (FX.rfl' M)⟩
      · congr 2; unfold s_rings; rw [if_neg (by omega), if_pos (by omega)]; try rfl
      · unfold t_rings; rw [if_neg (by omega), if_pos (by omega)]; exact hI
    · simp only [tB0, ne_eq, Bool.not_eq_false, Bool.not_eq_true, decide_eq_true_eq, decide_eq_false_iff_not, Classical.not_not] at h18
      refine E_iload_n dX11_rings_21 rfl ?_
      refine E_iconst dX11_rings_22 (by decide) ?_
      refine E_bipush dX11_rings_23 (by decide) ?_
      refine i_X11_68 rfl dX11_rings_25 c_isIn (by omega) (Nat.le_of_ble_eq_true rfl) rfl rfl ?_
      rintro _ _ ⟨rfl, rfl⟩
      try dsimp only [pu]
      refine E_if_eq (tgt := 42) dX11_rings_28 (by decide) (fun h28 => ?_) (fun h28 => ?_)
      · simp only [tB0, ne_eq, Bool.not_eq_false, Bool.not_eq_true, decide_eq_true_eq, decide_eq_false_iff_not, Classical.not_not] at h28
        refine c_X11_72 rfl dX11_rings_42 ?_
        refine E_iret dX11_rings_44 rfl ?_
        refine ⟨?_, ?_, (FX.rfl' M)⟩
        · congr 2; unfold s_rings; rw [if_neg (by omega), if_pos (by omega)]; try rfl
        · unfold t_rings; rw [if_neg (by omega), if_pos (by omega)]; exact hI
      · exfalso; simp only [tB0, Bool.not_eq_false, decide_eq_true_eq] at h28; omega
  · simp only [tB0, ne_eq, Bool.not_eq_false, Bool.not_eq_true, decide_eq_true_eq, decide_eq_false_iff_not, Classical.not_not] at h4
    refine c_X11_154 rfl dX11_rings_7 ?_
    refine E_iret dX11_rings_9 rfl ?_
    refine ⟨?_, ?_, (FX.rfl' M)⟩
    · congr 2; unfold s_rings; rw [if_pos (by omega)]; try rfl
    · unfold t_rings; rw [if_pos (by omega)]; exact hI
set_option maxRecDepth 20000 in
set_option maxHeartbeats 3000000 in
theorem r_ringsB {G : Ctx} {M : Mem} {m : Nat} {A : AS} {B : Int} (hO : MO M m) (hV : MA (mI M) m A) (hG : GA A B) (hB : B ≤ 900000) {a c w : Int} (c0 : c < 2) : CT G m_X12_rings 5 0 0 [vR m, vI a, vI c, vI w] M (rM M m (s_rings A a c w) (t_rings A a c w)) := by
  refine CT.of k_X12_rings 3 (ls := [some (vR m), some (vI a), some (vI c), some (vI w), none, none, none]) rfl (Nat.le_of_ble_eq_true rfl) ?_
  refine E_aload_n dX12_rings_0 rfl ?_
  refine E_iconst dX12_rings_1 (by decide) ?_
  refine p_X12_53 rfl dX12_rings_2 hO.o ?_
  obtain ⟨M1, e1, hO, hV, hF⟩ := thr hO hV
  refine EV.mq rfl e1.symm ?_
  clear e1
  have hQ := hV.mc
  have hW := hG.w.c
  have hpn := hW.pn
  have hl8 := hW.ln
  have hr8 := hW.rn
  have hgg := hG.w.g
  have hth := hG.th
  refine E_aload_n dX12_rings_5 rfl ?_
  refine g_X12_192 rfl dX12_rings_6 hO.o (hV.2 7 (by unfold SJ; omega)) ?_
  refine E_if_ne (tgt := 15) dX12_rings_9 (by decide) (fun h9 => ?_) (fun h9 => ?_)
  · refine E_iload_n dX12_rings_15 rfl ?_
    refine i_X12_67 rfl dX12_rings_16 c_isRow (by omega) (Nat.le_of_ble_eq_true rfl) rfl rfl ?_
    rintro _ _ ⟨rfl, rfl⟩
    try dsimp only [pu]
    refine E_if_eq (tgt := 49) dX12_rings_19 (by decide) (fun h19 => ?_) (fun h19 => ?_)
    · simp only [tB0, ne_eq, Bool.not_eq_false, Bool.not_eq_true, decide_eq_true_eq, decide_eq_false_iff_not, Classical.not_not] at h19
      refine c_X12_73 rfl dX12_rings_49 ?_
      refine E_iret dX12_rings_51 rfl ?_
      refine ⟨?_, hF, ?_⟩
      · congr 2; unfold s_rings; rw [if_neg (by omega), if_pos (by omega)]; try rfl
      · unfold t_rings; rw [if_neg (by omega), if_pos (by omega)]; exact hV
    · simp only [tB0, ne_eq, Bool.not_eq_false, Bool.not_eq_true, decide_eq_true_eq, decide_eq_false_iff_not, Classical.not_not] at h19
      refine E_iload_n dX12_rings_22 rfl ?_
      refine E_i2l dX12_rings_23 ?_
      refine c_X12_71 rfl dX12_rings_24 ?_
      refine c_X12_277 rfl dX12_rings_27 ?_
      refine i_X12_63 rfl dX12_rings_30 c_in (by omega) (Nat.le_of_ble_eq_true rfl) rfl rfl ?_
      rintro _ _ ⟨rfl, rfl⟩
      try dsimp only [pu]
      refine E_if_eq (tgt := 49) dX12_rings_33 (by decide) (fun h33 => ?_) (fun h33 => ?_)
      · simp only [tB0, ne_eq, Bool.not_eq_false, Bool.not_eq_true, decide_eq_true_eq, decide_eq_false_iff_not, Classical.not_not] at h33
        refine c_X12_73 rfl dX12_rings_49 ?_
        refine E_iret dX12_rings_51 rfl ?_
        refine ⟨?_, hF, ?_⟩
        · congr 2; unfold s_rings; rw [if_neg (by omega), if_pos (by omega)]; try rfl
        · unfold t_rings; rw [if_neg (by omega), if_pos (by omega)]; exact hV
      · exfalso; simp only [tB0, Bool.not_eq_false, decide_eq_true_eq] at h33; omega
  · refine c_X12_208 rfl dX12_rings_12 ?_
    refine E_iret dX12_rings_14 rfl ?_
    refine ⟨?_, hF, ?_⟩
    · congr 2; unfold s_rings; rw [if_pos (by omega)]; try rfl
    · unfold t_rings; rw [if_pos (by omega)]; exact hV
theorem x_ringsC {G : Ctx} {M : Mem} {A : AS} {B : Int} (hI : CI M A) (hG : GA A B) (hB : B ≤ 900000) {a c w : Int} (c0 : c ≤ 2147483647) : CT G m_X11_rings 5 3 18 [vR 21, vI a, vI c, vI w] M (xM M (s_rings A a c w) (t_rings A a c w)) := by
  by_cases h : c < 2
  · exact x_ringsB hI hG hB h
  · exact x_rings hI hG hB ⟨by omega, c0⟩
theorem r_ringsC {G : Ctx} {M : Mem} {m : Nat} {A : AS} {B : Int} (hO : MO M m) (hV : MA (mI M) m A) (hG : GA A B) (hB : B ≤ 900000) {a c w : Int} : CT G m_X12_rings 5 0 0 [vR m, vI a, vI c, vI w] M (rM M m (s_rings A a c w) (t_rings A a c w)) := by
  by_cases h : c < 2
  · exact r_ringsB hO hV hG hB h
  · exact r_rings hO hV hG hB (by omega)
set_option maxRecDepth 20000 in
set_option maxHeartbeats 3000000 in
theorem st_row {G : Ctx} {nm : String} {M : Mem} {A : AS} {B : Int} (hL : LW M A B) (hB0 : 0 ≤ B) (hB : B ≤ 900000) {kc ks : Nat} {i : Int} (i0 : 0 ≤ i) (i1 : i + 6 ≤ gL G) (h384 : gL G ≤ 384) {Q : Option MV → Mem → Prop} (K : ∀ M2 A2, LW M2 A2 (B + 96) → EV G (m_L nm) 14 kc ks Q 977 [some (vR 1), some (vR 21), some (vR 77), some (vI i)] [] M2) : EV G (m_L nm) 14 (kc + 20) (ks + 200) Q 156 [some (vR 1), some (vR 21), some (vR 77), some (vI i)] [] M := by
  have hG := hL.2.2.2
  have hwc := hG.w.c
  obtain ⟨n, hn⟩ := Int.eq_ofNat_of_zero_le hwc.pn.1
  obtain ⟨rn, hrn⟩ := Int.eq_ofNat_of_zero_le hwc.rn.1
  obtain ⟨ln, hln⟩ := Int.eq_ofNat_of_zero_le hwc.ln.1
  refine E_aload_n dL_law_156 rfl ?_
  refine E_aload_n dL_law_157 rfl ?_
  refine E_iload_n dL_law_158 rfl ?_
  refine E_iconst dL_law_159 (by decide) ?_
  refine E_iadd dL_law_160 (by omega) (by omega) ?_
  refine E_scr dL_law_161 (by omega) (by omega) ?_
  refine E_aload_n dL_law_162 rfl ?_
  refine E_iload_n dL_law_163 rfl ?_
  refine E_iconst dL_law_164 (by decide) ?_
  refine E_iadd dL_law_165 (by omega) (by omega) ?_
  refine E_scr dL_law_166 (by omega) (by omega) ?_
  refine E_aload_n dL_law_167 rfl ?_
  refine E_iload_n dL_law_168 rfl ?_
  refine E_iconst dL_law_169 (by decide) ?_
  refine E_iadd dL_law_170 (by omega) (by omega) ?_
  refine E_scr dL_law_171 (by omega) (by omega) ?_
  refine i_L_13 rfl dL_law_172 (by exact hL.1.1.o) (x_row hL.1 hG hB) (by omega) (Nat.le_of_ble_eq_true rfl) rfl rfl ?_
  rintro _ M1 ⟨rfl, hI1, hF⟩
  try dsimp only [pu]
  refine E_aload_n dL_law_175 rfl ?_
  refine E_aload_n dL_law_176 rfl ?_
  refine E_iload_n dL_law_177 rfl ?_
  refine E_iconst dL_law_178 (by decide) ?_
  refine E_iadd dL_law_179 (by omega) (by omega) ?_
  refine E_scr dL_law_180 (by omega) (by omega) ?_
  refine E_aload_n dL_law_181 rfl ?_
  refine E_iload_n dL_law_182 rfl ?_
  refine E_iconst dL_law_183 (by decide) ?_
  refine E_iadd dL_law_184 (by omega) (by omega) ?_
  refine E_scr dL_law_185 (by omega) (by omega) ?_
  refine E_aload_n dL_law_186 rfl ?_
  refine E_iload_n dL_law_187 rfl ?_
  refine E_iconst dL_law_188 (by decide) ?_
  refine E_iadd dL_law_189 (by omega) (by omega) ?_
  refine E_scr dL_law_190 (by omega) (by omega) ?_
  refine i_L_17 rfl dL_law_191 (by exact (hL.2.1.fx hF).o) (r_row (hL.2.1.fx hF) (hL.2.2.1.fx hF) hG hB) (by omega) (Nat.le_of_ble_eq_true rfl) rfl rfl ?_
  rintro _ M2 ⟨rfl, hR, hV⟩
  try dsimp only [pu]
  refine E_icmp_eq (tgt := 977) dL_law_194 (by decide) (fun h194 => ?_) (fun h194 => ?_)
  · exact EV.room (by omega) (by omega) (K M2 _ (hL.nx hI1 hF hR hV ((hG.row _ _ _).le (by omega))))
  · exact absurd rfl h194
set_option maxRecDepth 20000 in
set_option maxHeartbeats 3000000 in
theorem st_set {G : Ctx} {nm : String} {M : Mem} {A : AS} {B : Int} (hL : LW M A B) (hB0 : 0 ≤ B) (hB : B ≤ 900000) {kc ks : Nat} {i : Int} (i0 : 0 ≤ i) (i1 : i + 6 ≤ gL G) (h384 : gL G ≤ 384) {Q : Option MV → Mem → Prop} (K : ∀ M2 A2, LW M2 A2 (B + 96) → EV G (m_L nm) 14 kc ks Q 977 [some (vR 1), some (vR 21), some (vR 77), some (vI i)] [] M2) : EV G (m_L nm) 14 (kc + 20) (ks + 200) Q 199 [some (vR 1), some (vR 21), some (vR 77), some (vI i)] [] M := by
  have hG := hL.2.2.2
  have hwc := hG.w.c
  obtain ⟨n, hn⟩ := Int.eq_ofNat_of_zero_le hwc.pn.1
  obtain ⟨rn, hrn⟩ := Int.eq_ofNat_of_zero_le hwc.rn.1
  obtain ⟨ln, hln⟩ := Int.eq_ofNat_of_zero_le hwc.ln.1
  refine E_aload_n dL_law_199 rfl ?_
  refine E_aload_n dL_law_200 rfl ?_
  refine E_iload_n dL_law_201 rfl ?_
  refine E_iconst dL_law_202 (by decide) ?_
  refine E_iadd dL_law_203 (by omega) (by omega) ?_
  refine E_scr dL_law_204 (by omega) (by omega) ?_
  refine E_aload_n dL_law_205 rfl ?_
  refine E_iload_n dL_law_206 rfl ?_
  refine E_iconst dL_law_207 (by decide) ?_
  refine E_iadd dL_law_208 (by omega) (by omega) ?_
  refine E_scr dL_law_209 (by omega) (by omega) ?_
  refine E_aload_n dL_law_210 rfl ?_
  refine E_iload_n dL_law_211 rfl ?_
  refine E_iconst dL_law_212 (by decide) ?_
  refine E_iadd dL_law_213 (by omega) (by omega) ?_
  refine E_scr dL_law_214 (by omega) (by omega) ?_
  refine i_L_18 rfl dL_law_215 (by exact hL.1.1.o) (x_set hL.1 hG hB (i32r (gx G (i + 2).toNat))) (by omega) (Nat.le_of_ble_eq_true rfl) rfl rfl ?_
  rintro _ M1 ⟨rfl, hI1, hF⟩
  try dsimp only [pu]
  refine E_aload_n dL_law_218 rfl ?_
  refine E_aload_n dL_law_219 rfl ?_
  refine E_iload_n dL_law_220 rfl ?_
  refine E_iconst dL_law_221 (by decide) ?_
  refine E_iadd dL_law_222 (by omega) (by omega) ?_
  refine E_scr dL_law_223 (by omega) (by omega) ?_
  refine E_aload_n dL_law_224 rfl ?_
  refine E_iload_n dL_law_225 rfl ?_
  refine E_iconst dL_law_226 (by decide) ?_
  refine E_iadd dL_law_227 (by omega) (by omega) ?_
  refine E_scr dL_law_228 (by omega) (by omega) ?_
  refine E_aload_n dL_law_229 rfl ?_
  refine E_iload_n dL_law_230 rfl ?_
  refine E_iconst dL_law_231 (by decide) ?_
  refine E_iadd dL_law_232 (by omega) (by omega) ?_
  refine E_scr dL_law_233 (by omega) (by omega) ?_
  refine i_L_21 rfl dL_law_234 (by exact (hL.2.1.fx hF).o) (r_set (hL.2.1.fx hF) (hL.2.2.1.fx hF) hG hB (i32r (gx G (i + 2).toNat))) (by omega) (Nat.le_of_ble_eq_true rfl) rfl rfl ?_
  rintro _ M2 ⟨rfl, hR, hV⟩
  try dsimp only [pu]
  refine E_icmp_eq (tgt := 977) dL_law_237 (by decide) (fun h237 => ?_) (fun h237 => ?_)
  · exact EV.room (by omega) (by omega) (K M2 _ (hL.nx hI1 hF hR hV ((hG.set _ _ _).le (by omega))))
  · exact absurd rfl h237
set_option maxRecDepth 20000 in
set_option maxHeartbeats 3000000 in
theorem st_copy {G : Ctx} {nm : String} {M : Mem} {A : AS} {B : Int} (hL : LW M A B) (hB0 : 0 ≤ B) (hB : B ≤ 900000) {kc ks : Nat} {i : Int} (i0 : 0 ≤ i) (i1 : i + 6 ≤ gL G) (h384 : gL G ≤ 384) {Q : Option MV → Mem → Prop} (K : ∀ M2 A2, LW M2 A2 (B + 96) → EV G (m_L nm) 14 kc ks Q 977 [some (vR 1), some (vR 21), some (vR 77), some (vI i)] [] M2) : EV G (m_L nm) 14 (kc + 20) (ks + 200) Q 242 [some (vR 1), some (vR 21), some (vR 77), some (vI i)] [] M := by
  have hG := hL.2.2.2
  have hwc := hG.w.c
  obtain ⟨n, hn⟩ := Int.eq_ofNat_of_zero_le hwc.pn.1
  obtain ⟨rn, hrn⟩ := Int.eq_ofNat_of_zero_le hwc.rn.1
  obtain ⟨ln, hln⟩ := Int.eq_ofNat_of_zero_le hwc.ln.1
  refine E_aload_n dL_law_242 rfl ?_
  refine E_aload_n dL_law_243 rfl ?_
  refine E_iload_n dL_law_244 rfl ?_
  refine E_iconst dL_law_245 (by decide) ?_
  refine E_iadd dL_law_246 (by omega) (by omega) ?_
  refine E_scr dL_law_247 (by omega) (by omega) ?_
  refine E_aload_n dL_law_248 rfl ?_
  refine E_iload_n dL_law_249 rfl ?_
  refine E_iconst dL_law_250 (by decide) ?_
  refine E_iadd dL_law_251 (by omega) (by omega) ?_
  refine E_scr dL_law_252 (by omega) (by omega) ?_
  refine E_aload_n dL_law_253 rfl ?_
  refine E_iload_n dL_law_254 rfl ?_
  refine E_iconst dL_law_255 (by decide) ?_
  refine E_iadd dL_law_256 (by omega) (by omega) ?_
  refine E_scr dL_law_257 (by omega) (by omega) ?_
  refine E_aload_n dL_law_258 rfl ?_
  refine E_iload_n dL_law_259 rfl ?_
  refine E_iconst dL_law_260 (by decide) ?_
  refine E_iadd dL_law_261 (by omega) (by omega) ?_
  refine E_scr dL_law_262 (by omega) (by omega) ?_
  refine E_aload_n dL_law_263 rfl ?_
  refine E_iload_n dL_law_264 rfl ?_
  refine E_iconst dL_law_265 (by decide) ?_
  refine E_iadd dL_law_266 (by omega) (by omega) ?_
  refine E_scr dL_law_267 (by omega) (by omega) ?_
  refine i_L_22 rfl dL_law_268 (by exact hL.1.1.o) (x_copy hL.1 hG hB (i32r (gx G (i + 2).toNat)) (i32r (gx G (i + 4).toNat)) (i32r (gx G (i + 5).toNat))) (by omega) (Nat.le_of_ble_eq_true rfl) rfl rfl ?_
  rintro _ M1 ⟨rfl, hI1, hF⟩
  try dsimp only [pu]
  refine E_aload_n dL_law_271 rfl ?_
  refine E_aload_n dL_law_272 rfl ?_
  refine E_iload_n dL_law_273 rfl ?_
  refine E_iconst dL_law_274 (by decide) ?_
  refine E_iadd dL_law_275 (by omega) (by omega) ?_
  refine E_scr dL_law_276 (by omega) (by omega) ?_
  refine E_aload_n dL_law_277 rfl ?_
  refine E_iload_n dL_law_278 rfl ?_
  refine E_iconst dL_law_279 (by decide) ?_
  refine E_iadd dL_law_280 (by omega) (by omega) ?_
  refine E_scr dL_law_281 (by omega) (by omega) ?_
  refine E_aload_n dL_law_282 rfl ?_
  refine E_iload_n dL_law_283 rfl ?_
  refine E_iconst dL_law_284 (by decide) ?_
  refine E_iadd dL_law_285 (by omega) (by omega) ?_
  refine E_scr dL_law_286 (by omega) (by omega) ?_
  refine E_aload_n dL_law_287 rfl ?_
  refine E_iload_n dL_law_288 rfl ?_
  refine E_iconst dL_law_289 (by decide) ?_
  refine E_iadd dL_law_290 (by omega) (by omega) ?_
  refine E_scr dL_law_291 (by omega) (by omega) ?_
  refine E_aload_n dL_law_292 rfl ?_
  refine E_iload_n dL_law_293 rfl ?_
  refine E_iconst dL_law_294 (by decide) ?_
  refine E_iadd dL_law_295 (by omega) (by omega) ?_
  refine E_scr dL_law_296 (by omega) (by omega) ?_
  refine i_L_26 rfl dL_law_297 (by exact (hL.2.1.fx hF).o) (r_copy (hL.2.1.fx hF) (hL.2.2.1.fx hF) hG hB (i32r (gx G (i + 2).toNat)) (i32r (gx G (i + 4).toNat)) (i32r (gx G (i + 5).toNat))) (by omega) (Nat.le_of_ble_eq_true rfl) rfl rfl ?_
  rintro _ M2 ⟨rfl, hR, hV⟩
  try dsimp only [pu]
  refine E_icmp_eq (tgt := 977) dL_law_300 (by decide) (fun h300 => ?_) (fun h300 => ?_)
  · exact EV.room (by omega) (by omega) (K M2 _ (hL.nx hI1 hF hR hV ((hG.copy _ _ _ _ _).le (by omega))))
  · exact absurd rfl h300
set_option maxRecDepth 20000 in
set_option maxHeartbeats 3000000 in
theorem st_drop {G : Ctx} {nm : String} {M : Mem} {A : AS} {B : Int} (hL : LW M A B) (hB0 : 0 ≤ B) (hB : B ≤ 900000) {kc ks : Nat} {i : Int} (i0 : 0 ≤ i) (i1 : i + 6 ≤ gL G) (h384 : gL G ≤ 384) {Q : Option MV → Mem → Prop} (K : ∀ M2 A2, LW M2 A2 (B + 96) → EV G (m_L nm) 14 kc ks Q 977 [some (vR 1), some (vR 21), some (vR 77), some (vI i)] [] M2) : EV G (m_L nm) 14 (kc + 20) (ks + 200) Q 305 [some (vR 1), some (vR 21), some (vR 77), some (vI i)] [] M := by
  have hG := hL.2.2.2
  have hwc := hG.w.c
  obtain ⟨n, hn⟩ := Int.eq_ofNat_of_zero_le hwc.pn.1
  obtain ⟨rn, hrn⟩ := Int.eq_ofNat_of_zero_le hwc.rn.1
  obtain ⟨ln, hln⟩ := Int.eq_ofNat_of_zero_le hwc.ln.1
  refine E_aload_n dL_law_305 rfl ?_
  refine E_aload_n dL_law_306 rfl ?_
  refine E_iload_n dL_law_307 rfl ?_
  refine E_iconst dL_law_308 (by decide) ?_
  refine E_iadd dL_law_309 (by omega) (by omega) ?_
  refine E_scr dL_law_310 (by omega) (by omega) ?_
  refine i_L_27 rfl dL_law_311 (by exact hL.1.1.o) (x_drop hL.1 hG hB) (by omega) (Nat.le_of_ble_eq_true rfl) rfl rfl ?_
  rintro _ M1 ⟨rfl, hI1, hF⟩
  try dsimp only [pu]
  refine E_aload_n dL_law_314 rfl ?_
  refine E_aload_n dL_law_315 rfl ?_
  refine E_iload_n dL_law_316 rfl ?_
  refine E_iconst dL_law_317 (by decide) ?_
  refine E_iadd dL_law_318 (by omega) (by omega) ?_
  refine E_scr dL_law_319 (by omega) (by omega) ?_
  refine i_L_31 rfl dL_law_320 (by exact (hL.2.1.fx hF).o) (r_drop (hL.2.1.fx hF) (hL.2.2.1.fx hF) hG hB) (by omega) (Nat.le_of_ble_eq_true rfl) rfl rfl ?_
  rintro _ M2 ⟨rfl, hR, hV⟩
  try dsimp only [pu]
  refine E_icmp_eq (tgt := 977) dL_law_323 (by decide) (fun h323 => ?_) (fun h323 => ?_)
  · exact EV.room (by omega) (by omega) (K M2 _ (hL.nx hI1 hF hR hV ((hG.drop _).le (by omega))))
  · exact absurd rfl h323
set_option maxRecDepth 20000 in
set_option maxHeartbeats 3000000 in
theorem st_feed {G : Ctx} {nm : String} {M : Mem} {A : AS} {B : Int} (hL : LW M A B) (hB0 : 0 ≤ B) (hB : B ≤ 900000) {kc ks : Nat} {i : Int} (i0 : 0 ≤ i) (i1 : i + 6 ≤ gL G) (h384 : gL G ≤ 384) {Q : Option MV → Mem → Prop} (K : ∀ M2 A2, LW M2 A2 (B + 96) → EV G (m_L nm) 14 kc ks Q 977 [some (vR 1), some (vR 21), some (vR 77), some (vI i)] [] M2) : EV G (m_L nm) 14 (kc + 20) (ks + 200) Q 328 [some (vR 1), some (vR 21), some (vR 77), some (vI i)] [] M := by
  have hG := hL.2.2.2
  have hwc := hG.w.c
  obtain ⟨n, hn⟩ := Int.eq_ofNat_of_zero_le hwc.pn.1
  obtain ⟨rn, hrn⟩ := Int.eq_ofNat_of_zero_le hwc.rn.1
  obtain ⟨ln, hln⟩ := Int.eq_ofNat_of_zero_le hwc.ln.1
  refine E_aload_n dL_law_328 rfl ?_
  refine E_aload_n dL_law_329 rfl ?_
  refine E_iload_n dL_law_330 rfl ?_
  refine E_iconst dL_law_331 (by decide) ?_
  refine E_iadd dL_law_332 (by omega) (by omega) ?_
  refine E_scr dL_law_333 (by omega) (by omega) ?_
  refine E_i2l dL_law_334 ?_
  refine E_bipush dL_law_335 (by decide) ?_
  refine E_lshl dL_law_337 ?_
  refine E_aload_n dL_law_338 rfl ?_
  refine E_iload_n dL_law_339 rfl ?_
  refine E_iconst dL_law_340 (by decide) ?_
  refine E_iadd dL_law_341 (by omega) (by omega) ?_
  refine E_scr dL_law_342 (by omega) (by omega) ?_
  refine E_i2l dL_law_343 ?_
  refine c_L_32 rfl dL_law_344 ?_
  refine E_land dL_law_347 ?_
  refine E_lor dL_law_348 ?_
  refine E_aload_n dL_law_349 rfl ?_
  refine E_iload_n dL_law_350 rfl ?_
  refine E_iconst dL_law_351 (by decide) ?_
  refine E_iadd dL_law_352 (by omega) (by omega) ?_
  refine E_scr dL_law_353 (by omega) (by omega) ?_
  refine i_L_34 rfl dL_law_354 (by exact hL.1.1.o) (x_feed hL.1 hG hB) (by omega) (Nat.le_of_ble_eq_true rfl) rfl rfl ?_
  rintro _ M1 ⟨rfl, hI1, hF⟩
  try dsimp only [pu]
  refine E_aload_n dL_law_357 rfl ?_
  refine E_aload_n dL_law_358 rfl ?_
  refine E_iload_n dL_law_359 rfl ?_
  refine E_iconst dL_law_360 (by decide) ?_
  refine E_iadd dL_law_361 (by omega) (by omega) ?_
  refine E_scr dL_law_362 (by omega) (by omega) ?_
  refine E_i2l dL_law_363 ?_
  refine E_bipush dL_law_364 (by decide) ?_
  refine E_lshl dL_law_366 ?_
  refine E_aload_n dL_law_367 rfl ?_
  refine E_iload_n dL_law_368 rfl ?_
  refine E_iconst dL_law_369 (by decide) ?_
  refine E_iadd dL_law_370 (by omega) (by omega) ?_
  refine E_scr dL_law_371 (by omega) (by omega) ?_
  refine E_i2l dL_law_372 ?_
  refine c_L_32 rfl dL_law_373 ?_
  refine E_land dL_law_376 ?_
  refine E_lor dL_law_377 ?_
  refine E_aload_n dL_law_378 rfl ?_
  refine E_iload_n dL_law_379 rfl ?_
  refine E_iconst dL_law_380 (by decide) ?_
  refine E_iadd dL_law_381 (by omega) (by omega) ?_
  refine E_scr dL_law_382 (by omega) (by omega) ?_
  refine i_L_38 rfl dL_law_383 (by exact (hL.2.1.fx hF).o) (r_feed (hL.2.1.fx hF) (hL.2.2.1.fx hF) hG hB) (by omega) (Nat.le_of_ble_eq_true rfl) rfl rfl ?_
  rintro _ M2 ⟨rfl, hR, hV⟩
  try dsimp only [pu]
  refine E_icmp_eq (tgt := 977) dL_law_386 (by decide) (fun h386 => ?_) (fun h386 => ?_)
  · exact EV.room (by omega) (by omega) (K M2 _ (hL.nx hI1 hF hR hV ((hG.feed _ _).le (by omega))))
  · exact absurd rfl h386
set_option maxRecDepth 20000 in
set_option maxHeartbeats 3000000 in
theorem st_court {G : Ctx} {nm : String} {M : Mem} {A : AS} {B : Int} (hL : LW M A B) (hB0 : 0 ≤ B) (hB : B ≤ 900000) {kc ks : Nat} {i : Int} (i0 : 0 ≤ i) (i1 : i + 6 ≤ gL G) (h384 : gL G ≤ 384) {Q : Option MV → Mem → Prop} (K : ∀ M2 A2, LW M2 A2 (B + 96) → EV G (m_L nm) 14 kc ks Q 977 [some (vR 1), some (vR 21), some (vR 77), some (vI i)] [] M2) : EV G (m_L nm) 14 (kc + 20) (ks + 200) Q 391 [some (vR 1), some (vR 21), some (vR 77), some (vI i)] [] M := by
  have hG := hL.2.2.2
  have hwc := hG.w.c
  obtain ⟨n, hn⟩ := Int.eq_ofNat_of_zero_le hwc.pn.1
  obtain ⟨rn, hrn⟩ := Int.eq_ofNat_of_zero_le hwc.rn.1
  obtain ⟨ln, hln⟩ := Int.eq_ofNat_of_zero_le hwc.ln.1
  refine E_aload_n dL_law_391 rfl ?_
  refine EV.room (kc := kc + 14) (ks := ks + 144) (by omega) (by omega) ?_
  refine i_L_39 rfl dL_law_392 (by exact hL.1.1.o) (x_court hL.1 hG) (by omega) (Nat.le_of_ble_eq_true rfl) rfl rfl ?_
  rintro _ M1 ⟨rfl, hI1, hF⟩
  try dsimp only [pu]
  refine E_aload_n dL_law_395 rfl ?_
  refine i_L_43 rfl dL_law_396 (by exact (hL.2.1.fx hF).o) (r_court (hL.2.1.fx hF) (hL.2.2.1.fx hF) hG hB) (by omega) (Nat.le_of_ble_eq_true rfl) rfl rfl ?_
  rintro _ M2 ⟨rfl, hR, hV⟩
  try dsimp only [pu]
  refine E_icmp_eq (tgt := 977) dL_law_399 (by decide) (fun h399 => ?_) (fun h399 => ?_)
  · exact EV.room (by omega) (by omega) (K M2 _ (hL.nx hI1 hF hR hV ((hG.court hB0).le (by omega))))
  · exact absurd rfl h399
set_option maxRecDepth 20000 in
set_option maxHeartbeats 3000000 in
theorem st_fault {G : Ctx} {nm : String} {M : Mem} {A : AS} {B : Int} (hL : LW M A B) (hB0 : 0 ≤ B) (hB : B ≤ 900000) {kc ks : Nat} {i : Int} (i0 : 0 ≤ i) (i1 : i + 6 ≤ gL G) (h384 : gL G ≤ 384) {Q : Option MV → Mem → Prop} (K : ∀ M2 A2, LW M2 A2 (B + 96) → EV G (m_L nm) 14 kc ks Q 977 [some (vR 1), some (vR 21), some (vR 77), some (vI i)] [] M2) : EV G (m_L nm) 14 (kc + 20) (ks + 200) Q 404 [some (vR 1), some (vR 21), some (vR 77), some (vI i)] [] M := by
  have hG := hL.2.2.2
  have hwc := hG.w.c
  obtain ⟨n, hn⟩ := Int.eq_ofNat_of_zero_le hwc.pn.1
  obtain ⟨rn, hrn⟩ := Int.eq_ofNat_of_zero_le hwc.rn.1
  obtain ⟨ln, hln⟩ := Int.eq_ofNat_of_zero_le hwc.ln.1
  refine E_aload_n dL_law_404 rfl ?_
  refine i_L_44 rfl dL_law_405 (by exact hL.1.1.o) (x_fault hL.1 hG hB) (by omega) (Nat.le_of_ble_eq_true rfl) rfl rfl ?_
  rintro _ M1 ⟨rfl, hI1, hF⟩
  try dsimp only [pu]
  refine E_aload_n dL_law_408 rfl ?_
  refine i_L_47 rfl dL_law_409 (by exact (hL.2.1.fx hF).o) (r_fault (hL.2.1.fx hF) (hL.2.2.1.fx hF) hG hB) (by omega) (Nat.le_of_ble_eq_true rfl) rfl rfl ?_
  rintro _ M2 ⟨rfl, hR, hV⟩
  try dsimp only [pu]
  refine E_icmp_eq (tgt := 977) dL_law_412 (by decide) (fun h412 => ?_) (fun h412 => ?_)
  · exact EV.room (by omega) (by omega) (K M2 _ (hL.nx hI1 hF hR hV (hG.le (by omega))))
  · exact absurd rfl h412
set_option maxRecDepth 20000 in
set_option maxHeartbeats 3000000 in
theorem st_hang {G : Ctx} {nm : String} {M : Mem} {A : AS} {B : Int} (hL : LW M A B) (hB0 : 0 ≤ B) (hB : B ≤ 900000) {kc ks : Nat} {i : Int} (i0 : 0 ≤ i) (i1 : i + 6 ≤ gL G) (h384 : gL G ≤ 384) {Q : Option MV → Mem → Prop} (K : ∀ M2 A2, LW M2 A2 (B + 96) → EV G (m_L nm) 14 kc ks Q 977 [some (vR 1), some (vR 21), some (vR 77), some (vI i)] [] M2) : EV G (m_L nm) 14 (kc + 20) (ks + 200) Q 417 [some (vR 1), some (vR 21), some (vR 77), some (vI i)] [] M := by
  have hG := hL.2.2.2
  have hwc := hG.w.c
  obtain ⟨n, hn⟩ := Int.eq_ofNat_of_zero_le hwc.pn.1
  obtain ⟨rn, hrn⟩ := Int.eq_ofNat_of_zero_le hwc.rn.1
  obtain ⟨ln, hln⟩ := Int.eq_ofNat_of_zero_le hwc.ln.1
  refine E_aload_n dL_law_417 rfl ?_
  refine E_aload_n dL_law_418 rfl ?_
  refine E_iload_n dL_law_419 rfl ?_
  refine E_iconst dL_law_420 (by decide) ?_
  refine E_iadd dL_law_421 (by omega) (by omega) ?_
  refine E_scr dL_law_422 (by omega) (by omega) ?_
  refine E_aload_n dL_law_423 rfl ?_
  refine E_iload_n dL_law_424 rfl ?_
  refine E_iconst dL_law_425 (by decide) ?_
  refine E_iadd dL_law_426 (by omega) (by omega) ?_
  refine E_scr dL_law_427 (by omega) (by omega) ?_
  refine i_L_48 rfl dL_law_428 (by exact hL.1.1.o) (x_hang hL.1 hG hB n hn rn hrn) (by omega) (Nat.le_of_ble_eq_true rfl) rfl rfl ?_
  rintro _ M1 ⟨rfl, hI1, hF⟩
  try dsimp only [pu]
  refine E_aload_n dL_law_431 rfl ?_
  refine E_aload_n dL_law_432 rfl ?_
  refine E_iload_n dL_law_433 rfl ?_
  refine E_iconst dL_law_434 (by decide) ?_
  refine E_iadd dL_law_435 (by omega) (by omega) ?_
  refine E_scr dL_law_436 (by omega) (by omega) ?_
  refine E_aload_n dL_law_437 rfl ?_
  refine E_iload_n dL_law_438 rfl ?_
  refine E_iconst dL_law_439 (by decide) ?_
  refine E_iadd dL_law_440 (by omega) (by omega) ?_
  refine E_scr dL_law_441 (by omega) (by omega) ?_
  refine i_L_52 rfl dL_law_442 (by exact (hL.2.1.fx hF).o) (r_hang (hL.2.1.fx hF) (hL.2.2.1.fx hF) hG hB n hn rn hrn) (by omega) (Nat.le_of_ble_eq_true rfl) rfl rfl ?_
  rintro _ M2 ⟨rfl, hR, hV⟩
  try dsimp only [pu]
  refine E_icmp_eq (tgt := 977) dL_law_445 (by decide) (fun h445 => ?_) (fun h445 => ?_)
  · exact EV.room (by omega) (by omega) (K M2 _ (hL.nx hI1 hF hR hV ((hG.hang _ _ n rn hn).le (by omega))))
  · exact absurd rfl h445
set_option maxRecDepth 20000 in
set_option maxHeartbeats 3000000 in
theorem st_take {G : Ctx} {nm : String} {M : Mem} {A : AS} {B : Int} (hL : LW M A B) (hB0 : 0 ≤ B) (hB : B ≤ 900000) {kc ks : Nat} {i : Int} (i0 : 0 ≤ i) (i1 : i + 6 ≤ gL G) (h384 : gL G ≤ 384) {Q : Option MV → Mem → Prop} (K : ∀ M2 A2, LW M2 A2 (B + 96) → EV G (m_L nm) 14 kc ks Q 977 [some (vR 1), some (vR 21), some (vR 77), some (vI i)] [] M2) : EV G (m_L nm) 14 (kc + 20) (ks + 200) Q 450 [some (vR 1), some (vR 21), some (vR 77), some (vI i)] [] M := by
  have hG := hL.2.2.2
  have hwc := hG.w.c
  obtain ⟨n, hn⟩ := Int.eq_ofNat_of_zero_le hwc.pn.1
  obtain ⟨rn, hrn⟩ := Int.eq_ofNat_of_zero_le hwc.rn.1
  obtain ⟨ln, hln⟩ := Int.eq_ofNat_of_zero_le hwc.ln.1
  refine E_aload_n dL_law_450 rfl ?_
  refine E_aload_n dL_law_451 rfl ?_
  refine E_iload_n dL_law_452 rfl ?_
  refine E_iconst dL_law_453 (by decide) ?_
  refine E_iadd dL_law_454 (by omega) (by omega) ?_
  refine E_scr dL_law_455 (by omega) (by omega) ?_
  refine i_L_53 rfl dL_law_456 (by exact hL.1.1.o) (x_take hL.1 hG hB) (by omega) (Nat.le_of_ble_eq_true rfl) rfl rfl ?_
  rintro _ M1 ⟨rfl, hI1, hF⟩
  try dsimp only [pu]
  refine E_aload_n dL_law_459 rfl ?_
  refine E_aload_n dL_law_460 rfl ?_
  refine E_iload_n dL_law_461 rfl ?_
  refine E_iconst dL_law_462 (by decide) ?_
  refine E_iadd dL_law_463 (by omega) (by omega) ?_
  refine E_scr dL_law_464 (by omega) (by omega) ?_
  refine i_L_56 rfl dL_law_465 (by exact (hL.2.1.fx hF).o) (r_take (hL.2.1.fx hF) (hL.2.2.1.fx hF) hG hB) (by omega) (Nat.le_of_ble_eq_true rfl) rfl rfl ?_
  rintro _ M2 ⟨rfl, hR, hV⟩
  try dsimp only [pu]
  refine E_icmp_eq (tgt := 977) dL_law_468 (by decide) (fun h468 => ?_) (fun h468 => ?_)
  · exact EV.room (by omega) (by omega) (K M2 _ (hL.nx hI1 hF hR hV ((hG.take _).le (by omega))))
  · exact absurd rfl h468
set_option maxRecDepth 20000 in
set_option maxHeartbeats 3000000 in
theorem st_quarters {G : Ctx} {nm : String} {M : Mem} {A : AS} {B : Int} (hL : LW M A B) (hB0 : 0 ≤ B) (hB : B ≤ 900000) {kc ks : Nat} {i : Int} (i0 : 0 ≤ i) (i1 : i + 6 ≤ gL G) (h384 : gL G ≤ 384) {Q : Option MV → Mem → Prop} (K : ∀ M2 A2, LW M2 A2 (B + 96) → EV G (m_L nm) 14 kc ks Q 977 [some (vR 1), some (vR 21), some (vR 77), some (vI i)] [] M2) : EV G (m_L nm) 14 (kc + 20) (ks + 200) Q 473 [some (vR 1), some (vR 21), some (vR 77), some (vI i)] [] M := by
  have hG := hL.2.2.2
  have hwc := hG.w.c
  obtain ⟨n, hn⟩ := Int.eq_ofNat_of_zero_le hwc.pn.1
  obtain ⟨rn, hrn⟩ := Int.eq_ofNat_of_zero_le hwc.rn.1
  obtain ⟨ln, hln⟩ := Int.eq_ofNat_of_zero_le hwc.ln.1
  refine E_aload_n dL_law_473 rfl ?_
  refine E_aload_n dL_law_474 rfl ?_
  refine E_iload_n dL_law_475 rfl ?_
  refine E_iconst dL_law_476 (by decide) ?_
  refine E_iadd dL_law_477 (by omega) (by omega) ?_
  refine E_scr dL_law_478 (by omega) (by omega) ?_
  refine i_L_57 rfl dL_law_479 (by exact hL.1.1.o) (x_quarters hL.1 hG hB n hn) (by omega) (Nat.le_of_ble_eq_true rfl) rfl rfl ?_
  rintro _ M1 ⟨rfl, hI1, hF⟩
  try dsimp only [pu]
  refine E_aload_n dL_law_482 rfl ?_
  refine E_aload_n dL_law_483 rfl ?_
  refine E_iload_n dL_law_484 rfl ?_
  refine E_iconst dL_law_485 (by decide) ?_
  refine E_iadd dL_law_486 (by omega) (by omega) ?_
  refine E_scr dL_law_487 (by omega) (by omega) ?_
  refine i_L_60 rfl dL_law_488 (by exact (hL.2.1.fx hF).o) (r_quarters (hL.2.1.fx hF) (hL.2.2.1.fx hF) hG hB n hn) (by omega) (Nat.le_of_ble_eq_true rfl) rfl rfl ?_
  rintro _ M2 ⟨rfl, hR, hV⟩
  try dsimp only [pu]
  refine E_icmp_eq (tgt := 977) dL_law_491 (by decide) (fun h491 => ?_) (fun h491 => ?_)
  · exact EV.room (by omega) (by omega) (K M2 _ (hL.nx hI1 hF hR hV (hG.quarters _ n hn)))
  · exact absurd rfl h491
set_option maxRecDepth 20000 in
set_option maxHeartbeats 3000000 in
theorem st_lay {G : Ctx} {nm : String} {M : Mem} {A : AS} {B : Int} (hL : LW M A B) (hB0 : 0 ≤ B) (hB : B ≤ 900000) {kc ks : Nat} {i : Int} (i0 : 0 ≤ i) (i1 : i + 6 ≤ gL G) (h384 : gL G ≤ 384) {Q : Option MV → Mem → Prop} (K : ∀ M2 A2, LW M2 A2 (B + 96) → EV G (m_L nm) 14 kc ks Q 977 [some (vR 1), some (vR 21), some (vR 77), some (vI i)] [] M2) : EV G (m_L nm) 14 (kc + 20) (ks + 200) Q 496 [some (vR 1), some (vR 21), some (vR 77), some (vI i)] [] M := by
  have hG := hL.2.2.2
  have hwc := hG.w.c
  obtain ⟨n, hn⟩ := Int.eq_ofNat_of_zero_le hwc.pn.1
  obtain ⟨rn, hrn⟩ := Int.eq_ofNat_of_zero_le hwc.rn.1
  obtain ⟨ln, hln⟩ := Int.eq_ofNat_of_zero_le hwc.ln.1
  refine E_aload_n dL_law_496 rfl ?_
  refine E_aload_n dL_law_497 rfl ?_
  refine E_iload_n dL_law_498 rfl ?_
  refine E_iconst dL_law_499 (by decide) ?_
  refine E_iadd dL_law_500 (by omega) (by omega) ?_
  refine E_scr dL_law_501 (by omega) (by omega) ?_
  refine E_aload_n dL_law_502 rfl ?_
  refine E_iload_n dL_law_503 rfl ?_
  refine E_iconst dL_law_504 (by decide) ?_
  refine E_iadd dL_law_505 (by omega) (by omega) ?_
  refine E_scr dL_law_506 (by omega) (by omega) ?_
  refine i_L_61 rfl dL_law_507 (by exact hL.1.1.o) (x_lay hL.1 hG hB n hn rn hrn (i32r (gx G (i + 2).toNat))) (by omega) (Nat.le_of_ble_eq_true rfl) rfl rfl ?_
  rintro _ M1 ⟨rfl, hI1, hF⟩
  try dsimp only [pu]
  refine E_aload_n dL_law_510 rfl ?_
  refine E_aload_n dL_law_511 rfl ?_
  refine E_iload_n dL_law_512 rfl ?_
  refine E_iconst dL_law_513 (by decide) ?_
  refine E_iadd dL_law_514 (by omega) (by omega) ?_
  refine E_scr dL_law_515 (by omega) (by omega) ?_
  refine E_aload_n dL_law_516 rfl ?_
  refine E_iload_n dL_law_517 rfl ?_
  refine E_iconst dL_law_518 (by decide) ?_
  refine E_iadd dL_law_519 (by omega) (by omega) ?_
  refine E_scr dL_law_520 (by omega) (by omega) ?_
  refine i_L_64 rfl dL_law_521 (by exact (hL.2.1.fx hF).o) (r_lay (hL.2.1.fx hF) (hL.2.2.1.fx hF) hG hB n hn rn hrn (i32r (gx G (i + 2).toNat))) (by omega) (Nat.le_of_ble_eq_true rfl) rfl rfl ?_
  rintro _ M2 ⟨rfl, hR, hV⟩
  try dsimp only [pu]
  refine E_icmp_eq (tgt := 977) dL_law_524 (by decide) (fun h524 => ?_) (fun h524 => ?_)
  · exact EV.room (by omega) (by omega) (K M2 _ (hL.nx hI1 hF hR hV ((hG.lay _ _ n rn hn).le (by omega))))
  · exact absurd rfl h524
set_option maxRecDepth 20000 in
set_option maxHeartbeats 3000000 in
theorem st_piece {G : Ctx} {nm : String} {M : Mem} {A : AS} {B : Int} (hL : LW M A B) (hB0 : 0 ≤ B) (hB : B ≤ 900000) {kc ks : Nat} {i : Int} (i0 : 0 ≤ i) (i1 : i + 6 ≤ gL G) (h384 : gL G ≤ 384) {Q : Option MV → Mem → Prop} (K : ∀ M2 A2, LW M2 A2 (B + 96) → EV G (m_L nm) 14 kc ks Q 977 [some (vR 1), some (vR 21), some (vR 77), some (vI i)] [] M2) : EV G (m_L nm) 14 (kc + 20) (ks + 200) Q 529 [some (vR 1), some (vR 21), some (vR 77), some (vI i)] [] M := by
  have hG := hL.2.2.2
  have hwc := hG.w.c
  obtain ⟨n, hn⟩ := Int.eq_ofNat_of_zero_le hwc.pn.1
  obtain ⟨rn, hrn⟩ := Int.eq_ofNat_of_zero_le hwc.rn.1
  obtain ⟨ln, hln⟩ := Int.eq_ofNat_of_zero_le hwc.ln.1
  refine E_aload_n dL_law_529 rfl ?_
  refine E_aload_n dL_law_530 rfl ?_
  refine E_iload_n dL_law_531 rfl ?_
  refine E_iconst dL_law_532 (by decide) ?_
  refine E_iadd dL_law_533 (by omega) (by omega) ?_
  refine E_scr dL_law_534 (by omega) (by omega) ?_
  refine E_aload_n dL_law_535 rfl ?_
  refine E_iload_n dL_law_536 rfl ?_
  refine E_iconst dL_law_537 (by decide) ?_
  refine E_iadd dL_law_538 (by omega) (by omega) ?_
  refine E_scr dL_law_539 (by omega) (by omega) ?_
  refine i_L_65 rfl dL_law_540 (by exact hL.1.1.o) (x_piece hL.1 hG hB) (by omega) (Nat.le_of_ble_eq_true rfl) rfl rfl ?_
  rintro _ M1 ⟨rfl, hI1, hF⟩
  try dsimp only [pu]
  refine E_aload_n dL_law_543 rfl ?_
  refine E_aload_n dL_law_544 rfl ?_
  refine E_iload_n dL_law_545 rfl ?_
  refine E_iconst dL_law_546 (by decide) ?_
  refine E_iadd dL_law_547 (by omega) (by omega) ?_
  refine E_scr dL_law_548 (by omega) (by omega) ?_
  refine E_aload_n dL_law_549 rfl ?_
  refine E_iload_n dL_law_550 rfl ?_
  refine E_iconst dL_law_551 (by decide) ?_
  refine E_iadd dL_law_552 (by omega) (by omega) ?_
  refine E_scr dL_law_553 (by omega) (by omega) ?_
  refine i_L_68 rfl dL_law_554 (by exact (hL.2.1.fx hF).o) (r_piece (hL.2.1.fx hF) (hL.2.2.1.fx hF) hG hB) (by omega) (Nat.le_of_ble_eq_true rfl) rfl rfl ?_
  rintro _ M2 ⟨rfl, hR, hV⟩
  try dsimp only [pu]
  refine E_icmp_eq (tgt := 977) dL_law_557 (by decide) (fun h557 => ?_) (fun h557 => ?_)
  · exact EV.room (by omega) (by omega) (K M2 _ (hL.nx hI1 hF hR hV (hG.le (by omega))))
  · exact absurd rfl h557
set_option maxRecDepth 20000 in
set_option maxHeartbeats 3000000 in
theorem st_line {G : Ctx} {nm : String} {M : Mem} {A : AS} {B : Int} (hL : LW M A B) (hB0 : 0 ≤ B) (hB : B ≤ 900000) {kc ks : Nat} {i : Int} (i0 : 0 ≤ i) (i1 : i + 6 ≤ gL G) (h384 : gL G ≤ 384) {Q : Option MV → Mem → Prop} (K : ∀ M2 A2, LW M2 A2 (B + 96) → EV G (m_L nm) 14 kc ks Q 977 [some (vR 1), some (vR 21), some (vR 77), some (vI i)] [] M2) : EV G (m_L nm) 14 (kc + 20) (ks + 200) Q 562 [some (vR 1), some (vR 21), some (vR 77), some (vI i)] [] M := by
  have hG := hL.2.2.2
  have hwc := hG.w.c
  obtain ⟨n, hn⟩ := Int.eq_ofNat_of_zero_le hwc.pn.1
  obtain ⟨rn, hrn⟩ := Int.eq_ofNat_of_zero_le hwc.rn.1
  obtain ⟨ln, hln⟩ := Int.eq_ofNat_of_zero_le hwc.ln.1
  refine E_aload_n dL_law_562 rfl ?_
  refine E_aload_n dL_law_563 rfl ?_
  refine E_iload_n dL_law_564 rfl ?_
  refine E_iconst dL_law_565 (by decide) ?_
  refine E_iadd dL_law_566 (by omega) (by omega) ?_
  refine E_scr dL_law_567 (by omega) (by omega) ?_
  refine E_aload_n dL_law_568 rfl ?_
  refine E_iload_n dL_law_569 rfl ?_
  refine E_iconst dL_law_570 (by decide) ?_
  refine E_iadd dL_law_571 (by omega) (by omega) ?_
  refine E_scr dL_law_572 (by omega) (by omega) ?_
  refine i_L_69 rfl dL_law_573 (by exact hL.1.1.o) (x_line hL.1 hG hB n hn rn hrn) (by omega) (Nat.le_of_ble_eq_true rfl) rfl rfl ?_
  rintro _ M1 ⟨rfl, hI1, hF⟩
  try dsimp only [pu]
  refine E_aload_n dL_law_576 rfl ?_
  refine E_aload_n dL_law_577 rfl ?_
  refine E_iload_n dL_law_578 rfl ?_
  refine E_iconst dL_law_579 (by decide) ?_
  refine E_iadd dL_law_580 (by omega) (by omega) ?_
  refine E_scr dL_law_581 (by omega) (by omega) ?_
  refine E_aload_n dL_law_582 rfl ?_
  refine E_iload_n dL_law_583 rfl ?_
  refine E_iconst dL_law_584 (by decide) ?_
  refine E_iadd dL_law_585 (by omega) (by omega) ?_
  refine E_scr dL_law_586 (by omega) (by omega) ?_
  refine i_L_72 rfl dL_law_587 (by exact (hL.2.1.fx hF).o) (r_line (hL.2.1.fx hF) (hL.2.2.1.fx hF) hG hB n hn rn hrn) (by omega) (Nat.le_of_ble_eq_true rfl) rfl rfl ?_
  rintro _ M2 ⟨rfl, hR, hV⟩
  try dsimp only [pu]
  refine E_icmp_eq (tgt := 977) dL_law_590 (by decide) (fun h590 => ?_) (fun h590 => ?_)
  · exact EV.room (by omega) (by omega) (K M2 _ (hL.nx hI1 hF hR hV (hG.le (by omega))))
  · exact absurd rfl h590
set_option maxRecDepth 20000 in
set_option maxHeartbeats 3000000 in
theorem st_dry {G : Ctx} {nm : String} {M : Mem} {A : AS} {B : Int} (hL : LW M A B) (hB0 : 0 ≤ B) (hB : B ≤ 900000) {kc ks : Nat} {i : Int} (i0 : 0 ≤ i) (i1 : i + 6 ≤ gL G) (h384 : gL G ≤ 384) {Q : Option MV → Mem → Prop} (K : ∀ M2 A2, LW M2 A2 (B + 96) → EV G (m_L nm) 14 kc ks Q 977 [some (vR 1), some (vR 21), some (vR 77), some (vI i)] [] M2) : EV G (m_L nm) 14 (kc + 20) (ks + 200) Q 595 [some (vR 1), some (vR 21), some (vR 77), some (vI i)] [] M := by
  have hG := hL.2.2.2
  have hwc := hG.w.c
  obtain ⟨n, hn⟩ := Int.eq_ofNat_of_zero_le hwc.pn.1
  obtain ⟨rn, hrn⟩ := Int.eq_ofNat_of_zero_le hwc.rn.1
  obtain ⟨ln, hln⟩ := Int.eq_ofNat_of_zero_le hwc.ln.1
  refine E_aload_n dL_law_595 rfl ?_
  refine i_L_73 rfl dL_law_596 (by exact hL.1.1.o) (x_dry hL.1 hG hB n hn) (by omega) (Nat.le_of_ble_eq_true rfl) rfl rfl ?_
  rintro _ M1 ⟨rfl, hI1, hF⟩
  try dsimp only [pu]
  refine E_aload_n dL_law_599 rfl ?_
  refine i_L_76 rfl dL_law_600 (by exact (hL.2.1.fx hF).o) (r_dry (hL.2.1.fx hF) (hL.2.2.1.fx hF) hG hB n hn) (by omega) (Nat.le_of_ble_eq_true rfl) rfl rfl ?_
  rintro _ M2 ⟨rfl, hR, hV⟩
  try dsimp only [pu]
  refine E_icmp_eq (tgt := 977) dL_law_603 (by decide) (fun h603 => ?_) (fun h603 => ?_)
  · exact EV.room (by omega) (by omega) (K M2 _ (hL.nx hI1 hF hR hV (hG.le (by omega))))
  · exact absurd rfl h603
set_option maxRecDepth 20000 in
set_option maxHeartbeats 3000000 in
theorem st_plan {G : Ctx} {nm : String} {M : Mem} {A : AS} {B : Int} (hL : LW M A B) (hB0 : 0 ≤ B) (hB : B ≤ 900000) {kc ks : Nat} {i : Int} (i0 : 0 ≤ i) (i1 : i + 6 ≤ gL G) (h384 : gL G ≤ 384) {Q : Option MV → Mem → Prop} (K : ∀ M2 A2, LW M2 A2 (B + 96) → EV G (m_L nm) 14 kc ks Q 977 [some (vR 1), some (vR 21), some (vR 77), some (vI i)] [] M2) : EV G (m_L nm) 14 (kc + 20) (ks + 200) Q 608 [some (vR 1), some (vR 21), some (vR 77), some (vI i)] [] M := by
  have hG := hL.2.2.2
  have hwc := hG.w.c
  obtain ⟨n, hn⟩ := Int.eq_ofNat_of_zero_le hwc.pn.1
  obtain ⟨rn, hrn⟩ := Int.eq_ofNat_of_zero_le hwc.rn.1
  obtain ⟨ln, hln⟩ := Int.eq_ofNat_of_zero_le hwc.ln.1
  refine E_aload_n dL_law_608 rfl ?_
  refine E_aload_n dL_law_609 rfl ?_
  refine E_iload_n dL_law_610 rfl ?_
  refine E_iconst dL_law_611 (by decide) ?_
  refine E_iadd dL_law_612 (by omega) (by omega) ?_
  refine E_scr dL_law_613 (by omega) (by omega) ?_
  refine E_aload_n dL_law_614 rfl ?_
  refine E_iload_n dL_law_615 rfl ?_
  refine E_iconst dL_law_616 (by decide) ?_
  refine E_iadd dL_law_617 (by omega) (by omega) ?_
  refine E_scr dL_law_618 (by omega) (by omega) ?_
  refine i_L_77 rfl dL_law_619 (by exact hL.1.1.o) (x_plan hL.1 hG hB n hn rn hrn ln hln) (by omega) (Nat.le_of_ble_eq_true rfl) rfl rfl ?_
  rintro _ M1 ⟨rfl, hI1, hF⟩
  try dsimp only [pu]
  refine E_aload_n dL_law_622 rfl ?_
  refine E_aload_n dL_law_623 rfl ?_
  refine E_iload_n dL_law_624 rfl ?_
  refine E_iconst dL_law_625 (by decide) ?_
  refine E_iadd dL_law_626 (by omega) (by omega) ?_
  refine E_scr dL_law_627 (by omega) (by omega) ?_
  refine E_aload_n dL_law_628 rfl ?_
  refine E_iload_n dL_law_629 rfl ?_
  refine E_iconst dL_law_630 (by decide) ?_
  refine E_iadd dL_law_631 (by omega) (by omega) ?_
  refine E_scr dL_law_632 (by omega) (by omega) ?_
  refine i_L_80 rfl dL_law_633 (by exact (hL.2.1.fx hF).o) (r_plan (hL.2.1.fx hF) (hL.2.2.1.fx hF) hG hB n hn rn hrn ln hln) (by omega) (Nat.le_of_ble_eq_true rfl) rfl rfl ?_
  rintro _ M2 ⟨rfl, hR, hV⟩
  try dsimp only [pu]
  refine E_icmp_eq (tgt := 977) dL_law_636 (by decide) (fun h636 => ?_) (fun h636 => ?_)
  · exact EV.room (by omega) (by omega) (K M2 _ (hL.nx hI1 hF hR hV (hG.le (by omega))))
  · exact absurd rfl h636
set_option maxRecDepth 20000 in
set_option maxHeartbeats 3000000 in
theorem st_whose {G : Ctx} {nm : String} {M : Mem} {A : AS} {B : Int} (hL : LW M A B) (hB0 : 0 ≤ B) (hB : B ≤ 900000) {kc ks : Nat} {i : Int} (i0 : 0 ≤ i) (i1 : i + 6 ≤ gL G) (h384 : gL G ≤ 384) {Q : Option MV → Mem → Prop} (K : ∀ M2 A2, LW M2 A2 (B + 96) → EV G (m_L nm) 14 kc ks Q 977 [some (vR 1), some (vR 21), some (vR 77), some (vI i)] [] M2) : EV G (m_L nm) 14 (kc + 20) (ks + 200) Q 641 [some (vR 1), some (vR 21), some (vR 77), some (vI i)] [] M := by
  have hG := hL.2.2.2
  have hwc := hG.w.c
  obtain ⟨n, hn⟩ := Int.eq_ofNat_of_zero_le hwc.pn.1
  obtain ⟨rn, hrn⟩ := Int.eq_ofNat_of_zero_le hwc.rn.1
  obtain ⟨ln, hln⟩ := Int.eq_ofNat_of_zero_le hwc.ln.1
  refine E_aload_n dL_law_641 rfl ?_
  refine E_aload_n dL_law_642 rfl ?_
  refine E_iload_n dL_law_643 rfl ?_
  refine E_iconst dL_law_644 (by decide) ?_
  refine E_iadd dL_law_645 (by omega) (by omega) ?_
  refine E_scr dL_law_646 (by omega) (by omega) ?_
  refine E_aload_n dL_law_647 rfl ?_
  refine E_iload_n dL_law_648 rfl ?_
  refine E_iconst dL_law_649 (by decide) ?_
  refine E_iadd dL_law_650 (by omega) (by omega) ?_
  refine E_scr dL_law_651 (by omega) (by omega) ?_
  refine i_L_81 rfl dL_law_652 (by exact hL.1.1.o) (x_whose hL.1 hG hB n hn) (by omega) (Nat.le_of_ble_eq_true rfl) rfl rfl ?_
  rintro _ M1 ⟨rfl, hI1, hF⟩
  try dsimp only [pu]
  refine E_aload_n dL_law_655 rfl ?_
  refine E_aload_n dL_law_656 rfl ?_
  refine E_iload_n dL_law_657 rfl ?_
  refine E_iconst dL_law_658 (by decide) ?_
  refine E_iadd dL_law_659 (by omega) (by omega) ?_
  refine E_scr dL_law_660 (by omega) (by omega) ?_
  refine E_aload_n dL_law_661 rfl ?_
  refine E_iload_n dL_law_662 rfl ?_
  refine E_iconst dL_law_663 (by decide) ?_
  refine E_iadd dL_law_664 (by omega) (by omega) ?_
  refine E_scr dL_law_665 (by omega) (by omega) ?_
  refine i_L_84 rfl dL_law_666 (by exact (hL.2.1.fx hF).o) (r_whose (hL.2.1.fx hF) (hL.2.2.1.fx hF) hG hB n hn) (by omega) (Nat.le_of_ble_eq_true rfl) rfl rfl ?_
  rintro _ M2 ⟨rfl, hR, hV⟩
  try dsimp only [pu]
  refine E_icmp_eq (tgt := 977) dL_law_669 (by decide) (fun h669 => ?_) (fun h669 => ?_)
  · exact EV.room (by omega) (by omega) (K M2 _ (hL.nx hI1 hF hR hV (hG.le (by omega))))
  · exact absurd rfl h669
set_option maxRecDepth 20000 in
set_option maxHeartbeats 3000000 in
theorem st_sun {G : Ctx} {nm : String} {M : Mem} {A : AS} {B : Int} (hL : LW M A B) (hB0 : 0 ≤ B) (hB : B ≤ 900000) {kc ks : Nat} {i : Int} (i0 : 0 ≤ i) (i1 : i + 6 ≤ gL G) (h384 : gL G ≤ 384) {Q : Option MV → Mem → Prop} (K : ∀ M2 A2, LW M2 A2 (B + 96) → EV G (m_L nm) 14 kc ks Q 977 [some (vR 1), some (vR 21), some (vR 77), some (vI i)] [] M2) : EV G (m_L nm) 14 (kc + 20) (ks + 200) Q 674 [some (vR 1), some (vR 21), some (vR 77), some (vI i)] [] M := by
  have hG := hL.2.2.2
  have hwc := hG.w.c
  obtain ⟨n, hn⟩ := Int.eq_ofNat_of_zero_le hwc.pn.1
  obtain ⟨rn, hrn⟩ := Int.eq_ofNat_of_zero_le hwc.rn.1
  obtain ⟨ln, hln⟩ := Int.eq_ofNat_of_zero_le hwc.ln.1
  refine E_aload_n dL_law_674 rfl ?_
  refine E_aload_n dL_law_675 rfl ?_
  refine E_iload_n dL_law_676 rfl ?_
  refine E_iconst dL_law_677 (by decide) ?_
  refine E_iadd dL_law_678 (by omega) (by omega) ?_
  refine E_scr dL_law_679 (by omega) (by omega) ?_
  refine E_aload_n dL_law_680 rfl ?_
  refine E_iload_n dL_law_681 rfl ?_
  refine E_iconst dL_law_682 (by decide) ?_
  refine E_iadd dL_law_683 (by omega) (by omega) ?_
  refine E_scr dL_law_684 (by omega) (by omega) ?_
  refine i_L_85 rfl dL_law_685 (by exact hL.1.1.o) (x_sun hL.1 hG hB) (by omega) (Nat.le_of_ble_eq_true rfl) rfl rfl ?_
  rintro _ M1 ⟨rfl, hI1, hF⟩
  try dsimp only [pu]
  refine E_aload_n dL_law_688 rfl ?_
  refine E_aload_n dL_law_689 rfl ?_
  refine E_iload_n dL_law_690 rfl ?_
  refine E_iconst dL_law_691 (by decide) ?_
  refine E_iadd dL_law_692 (by omega) (by omega) ?_
  refine E_scr dL_law_693 (by omega) (by omega) ?_
  refine E_aload_n dL_law_694 rfl ?_
  refine E_iload_n dL_law_695 rfl ?_
  refine E_iconst dL_law_696 (by decide) ?_
  refine E_iadd dL_law_697 (by omega) (by omega) ?_
  refine E_scr dL_law_698 (by omega) (by omega) ?_
  refine i_L_88 rfl dL_law_699 (by exact (hL.2.1.fx hF).o) (r_sun (hL.2.1.fx hF) (hL.2.2.1.fx hF) hG hB) (by omega) (Nat.le_of_ble_eq_true rfl) rfl rfl ?_
  rintro _ M2 ⟨rfl, hR, hV⟩
  try dsimp only [pu]
  refine E_icmp_eq (tgt := 977) dL_law_702 (by decide) (fun h702 => ?_) (fun h702 => ?_)
  · exact EV.room (by omega) (by omega) (K M2 _ (hL.nx hI1 hF hR hV (hG.le (by omega))))
  · exact absurd rfl h702
set_option maxRecDepth 20000 in
set_option maxHeartbeats 3000000 in
theorem st_rings {G : Ctx} {nm : String} {M : Mem} {A : AS} {B : Int} (hL : LW M A B) (hB0 : 0 ≤ B) (hB : B ≤ 900000) {kc ks : Nat} {i : Int} (i0 : 0 ≤ i) (i1 : i + 6 ≤ gL G) (h384 : gL G ≤ 384) {Q : Option MV → Mem → Prop} (K : ∀ M2 A2, LW M2 A2 (B + 96) → EV G (m_L nm) 14 kc ks Q 977 [some (vR 1), some (vR 21), some (vR 77), some (vI i)] [] M2) : EV G (m_L nm) 14 (kc + 20) (ks + 200) Q 707 [some (vR 1), some (vR 21), some (vR 77), some (vI i)] [] M := by
  have hG := hL.2.2.2
  have hwc := hG.w.c
  obtain ⟨n, hn⟩ := Int.eq_ofNat_of_zero_le hwc.pn.1
  obtain ⟨rn, hrn⟩ := Int.eq_ofNat_of_zero_le hwc.rn.1
  obtain ⟨ln, hln⟩ := Int.eq_ofNat_of_zero_le hwc.ln.1
  refine E_aload_n dL_law_707 rfl ?_
  refine E_aload_n dL_law_708 rfl ?_
  refine E_iload_n dL_law_709 rfl ?_
  refine E_iconst dL_law_710 (by decide) ?_
  refine E_iadd dL_law_711 (by omega) (by omega) ?_
  refine E_scr dL_law_712 (by omega) (by omega) ?_
  refine E_aload_n dL_law_713 rfl ?_
  refine E_iload_n dL_law_714 rfl ?_
  refine E_iconst dL_law_715 (by decide) ?_
  refine E_iadd dL_law_716 (by omega) (by omega) ?_
  refine E_scr dL_law_717 (by omega) (by omega) ?_
  refine E_aload_n dL_law_718 rfl ?_
  refine E_iload_n dL_law_719 rfl ?_
  refine E_iconst dL_law_720 (by decide) ?_
  refine E_iadd dL_law_721 (by omega) (by omega) ?_
  refine E_scr dL_law_722 (by omega) (by omega) ?_
  refine EV.room (kc := kc + 3) (ks := ks + 18) (by omega) (by omega) ?_
  refine i_L_89 rfl dL_law_723 (by exact hL.1.1.o) (x_ringsC hL.1 hG hB (i32r (gx G (i + 2).toNat)).2) (by omega) (Nat.le_of_ble_eq_true rfl) rfl rfl ?_
  rintro _ M1 ⟨rfl, hI1, hF⟩
  try dsimp only [pu]
  refine E_aload_n dL_law_726 rfl ?_
  refine E_aload_n dL_law_727 rfl ?_
  refine E_iload_n dL_law_728 rfl ?_
  refine E_iconst dL_law_729 (by decide) ?_
  refine E_iadd dL_law_730 (by omega) (by omega) ?_
  refine E_scr dL_law_731 (by omega) (by omega) ?_
  refine E_aload_n dL_law_732 rfl ?_
  refine E_iload_n dL_law_733 rfl ?_
  refine E_iconst dL_law_734 (by decide) ?_
  refine E_iadd dL_law_735 (by omega) (by omega) ?_
  refine E_scr dL_law_736 (by omega) (by omega) ?_
  refine E_aload_n dL_law_737 rfl ?_
  refine E_iload_n dL_law_738 rfl ?_
  refine E_iconst dL_law_739 (by decide) ?_
  refine E_iadd dL_law_740 (by omega) (by omega) ?_
  refine E_scr dL_law_741 (by omega) (by omega) ?_
  refine i_L_92 rfl dL_law_742 (by exact (hL.2.1.fx hF).o) (r_ringsC (hL.2.1.fx hF) (hL.2.2.1.fx hF) hG hB) (by omega) (Nat.le_of_ble_eq_true rfl) rfl rfl ?_
  rintro _ M2 ⟨rfl, hR, hV⟩
  try dsimp only [pu]
  refine E_icmp_eq (tgt := 977) dL_law_745 (by decide) (fun h745 => ?_) (fun h745 => ?_)
  · exact EV.room (by omega) (by omega) (K M2 _ (hL.nx hI1 hF hR hV ((hG.rings _ _ _).le (by omega))))
  · exact absurd rfl h745
set_option maxRecDepth 20000 in
set_option maxHeartbeats 3000000 in
theorem st_rain {G : Ctx} {nm : String} {M : Mem} {A : AS} {B : Int} (hL : LW M A B) (hB0 : 0 ≤ B) (hB : B ≤ 900000) {kc ks : Nat} {i : Int} (i0 : 0 ≤ i) (i1 : i + 6 ≤ gL G) (h384 : gL G ≤ 384) {Q : Option MV → Mem → Prop} (K : ∀ M2 A2, LW M2 A2 (B + 96) → EV G (m_L nm) 14 kc ks Q 977 [some (vR 1), some (vR 21), some (vR 77), some (vI i)] [] M2) : EV G (m_L nm) 14 (kc + 20) (ks + 200) Q 750 [some (vR 1), some (vR 21), some (vR 77), some (vI i)] [] M := by
  have hG := hL.2.2.2
  have hwc := hG.w.c
  obtain ⟨n, hn⟩ := Int.eq_ofNat_of_zero_le hwc.pn.1
  obtain ⟨rn, hrn⟩ := Int.eq_ofNat_of_zero_le hwc.rn.1
  obtain ⟨ln, hln⟩ := Int.eq_ofNat_of_zero_le hwc.ln.1
  refine E_aload_n dL_law_750 rfl ?_
  refine E_aload_n dL_law_751 rfl ?_
  refine E_iload_n dL_law_752 rfl ?_
  refine E_iconst dL_law_753 (by decide) ?_
  refine E_iadd dL_law_754 (by omega) (by omega) ?_
  refine E_scr dL_law_755 (by omega) (by omega) ?_
  refine E_aload_n dL_law_756 rfl ?_
  refine E_iload_n dL_law_757 rfl ?_
  refine E_iconst dL_law_758 (by decide) ?_
  refine E_iadd dL_law_759 (by omega) (by omega) ?_
  refine E_scr dL_law_760 (by omega) (by omega) ?_
  refine i_L_93 rfl dL_law_761 (by exact hL.1.1.o) (x_rain hL.1 hG hB n hn) (by omega) (Nat.le_of_ble_eq_true rfl) rfl rfl ?_
  rintro _ M1 ⟨rfl, hI1, hF⟩
  try dsimp only [pu]
  refine E_aload_n dL_law_764 rfl ?_
  refine E_aload_n dL_law_765 rfl ?_
  refine E_iload_n dL_law_766 rfl ?_
  refine E_iconst dL_law_767 (by decide) ?_
  refine E_iadd dL_law_768 (by omega) (by omega) ?_
  refine E_scr dL_law_769 (by omega) (by omega) ?_
  refine E_aload_n dL_law_770 rfl ?_
  refine E_iload_n dL_law_771 rfl ?_
  refine E_iconst dL_law_772 (by decide) ?_
  refine E_iadd dL_law_773 (by omega) (by omega) ?_
  refine E_scr dL_law_774 (by omega) (by omega) ?_
  refine i_L_96 rfl dL_law_775 (by exact (hL.2.1.fx hF).o) (r_rain (hL.2.1.fx hF) (hL.2.2.1.fx hF) hG hB n hn) (by omega) (Nat.le_of_ble_eq_true rfl) rfl rfl ?_
  rintro _ M2 ⟨rfl, hR, hV⟩
  try dsimp only [pu]
  refine E_icmp_eq (tgt := 977) dL_law_778 (by decide) (fun h778 => ?_) (fun h778 => ?_)
  · exact EV.room (by omega) (by omega) (K M2 _ (hL.nx hI1 hF hR hV (hG.le (by omega))))
  · exact absurd rfl h778
set_option maxRecDepth 20000 in
set_option maxHeartbeats 3000000 in
theorem st_image {G : Ctx} {nm : String} {M : Mem} {A : AS} {B : Int} (hL : LW M A B) (hB0 : 0 ≤ B) (hB : B ≤ 900000) {kc ks : Nat} {i : Int} (i0 : 0 ≤ i) (i1 : i + 6 ≤ gL G) (h384 : gL G ≤ 384) {Q : Option MV → Mem → Prop} (K : ∀ M2 A2, LW M2 A2 (B + 96) → EV G (m_L nm) 14 kc ks Q 977 [some (vR 1), some (vR 21), some (vR 77), some (vI i)] [] M2) : EV G (m_L nm) 14 (kc + 20) (ks + 200) Q 783 [some (vR 1), some (vR 21), some (vR 77), some (vI i)] [] M := by
  have hG := hL.2.2.2
  have hwc := hG.w.c
  obtain ⟨n, hn⟩ := Int.eq_ofNat_of_zero_le hwc.pn.1
  obtain ⟨rn, hrn⟩ := Int.eq_ofNat_of_zero_le hwc.rn.1
  obtain ⟨ln, hln⟩ := Int.eq_ofNat_of_zero_le hwc.ln.1
  refine E_aload_n dL_law_783 rfl ?_
  refine E_aload_n dL_law_784 rfl ?_
  refine E_iload_n dL_law_785 rfl ?_
  refine E_iconst dL_law_786 (by decide) ?_
  refine E_iadd dL_law_787 (by omega) (by omega) ?_
  refine E_scr dL_law_788 (by omega) (by omega) ?_
  refine i_L_97 rfl dL_law_789 (by exact hL.1.1.o) (x_image hL.1 hG hB) (by omega) (Nat.le_of_ble_eq_true rfl) rfl rfl ?_
  rintro _ M1 ⟨rfl, hI1, hF⟩
  try dsimp only [pu]
  refine E_aload_n dL_law_792 rfl ?_
  refine E_aload_n dL_law_793 rfl ?_
  refine E_iload_n dL_law_794 rfl ?_
  refine E_iconst dL_law_795 (by decide) ?_
  refine E_iadd dL_law_796 (by omega) (by omega) ?_
  refine E_scr dL_law_797 (by omega) (by omega) ?_
  refine i_L_100 rfl dL_law_798 (by exact (hL.2.1.fx hF).o) (r_image (hL.2.1.fx hF) (hL.2.2.1.fx hF) hG hB) (by omega) (Nat.le_of_ble_eq_true rfl) rfl rfl ?_
  rintro _ M2 ⟨rfl, hR, hV⟩
  try dsimp only [pu]
  refine E_icmp_eq (tgt := 977) dL_law_801 (by decide) (fun h801 => ?_) (fun h801 => ?_)
  · exact EV.room (by omega) (by omega) (K M2 _ (hL.nx hI1 hF hR hV ((hG.image _).le (by omega))))
  · exact absurd rfl h801
set_option maxRecDepth 20000 in
set_option maxHeartbeats 3000000 in
theorem st_restore {G : Ctx} {nm : String} {M : Mem} {A : AS} {B : Int} (hL : LW M A B) (hB0 : 0 ≤ B) (hB : B ≤ 900000) {kc ks : Nat} {i : Int} (i0 : 0 ≤ i) (i1 : i + 6 ≤ gL G) (h384 : gL G ≤ 384) {Q : Option MV → Mem → Prop} (K : ∀ M2 A2, LW M2 A2 (B + 96) → EV G (m_L nm) 14 kc ks Q 977 [some (vR 1), some (vR 21), some (vR 77), some (vI i)] [] M2) : EV G (m_L nm) 14 (kc + 20) (ks + 200) Q 806 [some (vR 1), some (vR 21), some (vR 77), some (vI i)] [] M := by
  have hG := hL.2.2.2
  have hwc := hG.w.c
  obtain ⟨n, hn⟩ := Int.eq_ofNat_of_zero_le hwc.pn.1
  obtain ⟨rn, hrn⟩ := Int.eq_ofNat_of_zero_le hwc.rn.1
  obtain ⟨ln, hln⟩ := Int.eq_ofNat_of_zero_le hwc.ln.1
  refine E_aload_n dL_law_806 rfl ?_
  refine E_aload_n dL_law_807 rfl ?_
  refine E_iload_n dL_law_808 rfl ?_
  refine E_iconst dL_law_809 (by decide) ?_
  refine E_iadd dL_law_810 (by omega) (by omega) ?_
  refine E_scr dL_law_811 (by omega) (by omega) ?_
  refine i_L_101 rfl dL_law_812 (by exact hL.1.1.o) (x_restore hL.1 hG hB) (by omega) (Nat.le_of_ble_eq_true rfl) rfl rfl ?_
  rintro _ M1 ⟨rfl, hI1, hF⟩
  try dsimp only [pu]
  refine E_aload_n dL_law_815 rfl ?_
  refine E_aload_n dL_law_816 rfl ?_
  refine E_iload_n dL_law_817 rfl ?_
  refine E_iconst dL_law_818 (by decide) ?_
  refine E_iadd dL_law_819 (by omega) (by omega) ?_
  refine E_scr dL_law_820 (by omega) (by omega) ?_
  refine i_L_104 rfl dL_law_821 (by exact (hL.2.1.fx hF).o) (r_restore (hL.2.1.fx hF) (hL.2.2.1.fx hF) hG hB) (by omega) (Nat.le_of_ble_eq_true rfl) rfl rfl ?_
  rintro _ M2 ⟨rfl, hR, hV⟩
  try dsimp only [pu]
  refine E_icmp_eq (tgt := 977) dL_law_824 (by decide) (fun h824 => ?_) (fun h824 => ?_)
  · exact EV.room (by omega) (by omega) (K M2 _ (hL.nx hI1 hF hR hV ((hG.restore _).le (by omega))))
  · exact absurd rfl h824
set_option maxRecDepth 20000 in
set_option maxHeartbeats 3000000 in
theorem st_kind {G : Ctx} {nm : String} {M : Mem} {A : AS} {B : Int} (hL : LW M A B) (hB0 : 0 ≤ B) (hB : B ≤ 900000) {kc ks : Nat} {i : Int} (i0 : 0 ≤ i) (i1 : i + 6 ≤ gL G) (h384 : gL G ≤ 384) {Q : Option MV → Mem → Prop} (K : ∀ M2 A2, LW M2 A2 (B + 96) → EV G (m_L nm) 14 kc ks Q 977 [some (vR 1), some (vR 21), some (vR 77), some (vI i)] [] M2) : EV G (m_L nm) 14 (kc + 20) (ks + 200) Q 829 [some (vR 1), some (vR 21), some (vR 77), some (vI i)] [] M := by
  have hG := hL.2.2.2
  have hwc := hG.w.c
  obtain ⟨n, hn⟩ := Int.eq_ofNat_of_zero_le hwc.pn.1
  obtain ⟨rn, hrn⟩ := Int.eq_ofNat_of_zero_le hwc.rn.1
  obtain ⟨ln, hln⟩ := Int.eq_ofNat_of_zero_le hwc.ln.1
  refine E_aload_n dL_law_829 rfl ?_
  refine E_aload_n dL_law_830 rfl ?_
  refine E_iload_n dL_law_831 rfl ?_
  refine E_iconst dL_law_832 (by decide) ?_
  refine E_iadd dL_law_833 (by omega) (by omega) ?_
  refine E_scr dL_law_834 (by omega) (by omega) ?_
  refine i_L_105 rfl dL_law_835 (by exact hL.1.1.o) (x_kind hL.1 hG hB) (by omega) (Nat.le_of_ble_eq_true rfl) rfl rfl ?_
  rintro _ M1 ⟨rfl, hI1, hF⟩
  try dsimp only [pu]
  refine E_aload_n dL_law_838 rfl ?_
  refine E_aload_n dL_law_839 rfl ?_
  refine E_iload_n dL_law_840 rfl ?_
  refine E_iconst dL_law_841 (by decide) ?_
  refine E_iadd dL_law_842 (by omega) (by omega) ?_
  refine E_scr dL_law_843 (by omega) (by omega) ?_
  refine i_L_108 rfl dL_law_844 (by exact (hL.2.1.fx hF).o) (r_kind (hL.2.1.fx hF) (hL.2.2.1.fx hF) hG hB) (by omega) (Nat.le_of_ble_eq_true rfl) rfl rfl ?_
  rintro _ M2 ⟨rfl, hR, hV⟩
  try dsimp only [pu]
  refine E_icmp_eq (tgt := 977) dL_law_847 (by decide) (fun h847 => ?_) (fun h847 => ?_)
  · exact EV.room (by omega) (by omega) (K M2 _ (hL.nx hI1 hF hR hV (hG.le (by omega))))
  · exact absurd rfl h847
set_option maxRecDepth 20000 in
set_option maxHeartbeats 3000000 in
theorem st_as {G : Ctx} {nm : String} {M : Mem} {A : AS} {B : Int} (hL : LW M A B) (hB0 : 0 ≤ B) (hB : B ≤ 900000) {kc ks : Nat} {i : Int} (i0 : 0 ≤ i) (i1 : i + 6 ≤ gL G) (h384 : gL G ≤ 384) {Q : Option MV → Mem → Prop} (K : ∀ M2 A2, LW M2 A2 (B + 96) → EV G (m_L nm) 14 kc ks Q 977 [some (vR 1), some (vR 21), some (vR 77), some (vI i)] [] M2) : EV G (m_L nm) 14 (kc + 20) (ks + 200) Q 852 [some (vR 1), some (vR 21), some (vR 77), some (vI i)] [] M := by
  have hG := hL.2.2.2
  have hwc := hG.w.c
  obtain ⟨n, hn⟩ := Int.eq_ofNat_of_zero_le hwc.pn.1
  obtain ⟨rn, hrn⟩ := Int.eq_ofNat_of_zero_le hwc.rn.1
  obtain ⟨ln, hln⟩ := Int.eq_ofNat_of_zero_le hwc.ln.1
  refine E_aload_n dL_law_852 rfl ?_
  refine E_aload_n dL_law_853 rfl ?_
  refine E_iload_n dL_law_854 rfl ?_
  refine E_iconst dL_law_855 (by decide) ?_
  refine E_iadd dL_law_856 (by omega) (by omega) ?_
  refine E_scr dL_law_857 (by omega) (by omega) ?_
  refine E_aload_n dL_law_858 rfl ?_
  refine E_iload_n dL_law_859 rfl ?_
  refine E_iconst dL_law_860 (by decide) ?_
  refine E_iadd dL_law_861 (by omega) (by omega) ?_
  refine E_scr dL_law_862 (by omega) (by omega) ?_
  refine EV.room (kc := kc + 1) (ks := ks + 4) (by omega) (by omega) ?_
  refine i_L_109 rfl dL_law_863 (by exact hL.1.1.o) (x_as hL.1 hG hB) (by omega) (Nat.le_of_ble_eq_true rfl) rfl rfl ?_
  rintro _ M1 ⟨rfl, hI1, hF⟩
  try dsimp only [pu]
  refine E_aload_n dL_law_866 rfl ?_
  refine E_aload_n dL_law_867 rfl ?_
  refine E_iload_n dL_law_868 rfl ?_
  refine E_iconst dL_law_869 (by decide) ?_
  refine E_iadd dL_law_870 (by omega) (by omega) ?_
  refine E_scr dL_law_871 (by omega) (by omega) ?_
  refine E_aload_n dL_law_872 rfl ?_
  refine E_iload_n dL_law_873 rfl ?_
  refine E_iconst dL_law_874 (by decide) ?_
  refine E_iadd dL_law_875 (by omega) (by omega) ?_
  refine E_scr dL_law_876 (by omega) (by omega) ?_
  refine i_L_112 rfl dL_law_877 (by exact (hL.2.1.fx hF).o) (r_as (hL.2.1.fx hF) (hL.2.2.1.fx hF) hG hB) (by omega) (Nat.le_of_ble_eq_true rfl) rfl rfl ?_
  rintro _ M2 ⟨rfl, hR, hV⟩
  try dsimp only [pu]
  refine E_icmp_eq (tgt := 977) dL_law_880 (by decide) (fun h880 => ?_) (fun h880 => ?_)
  · exact EV.room (by omega) (by omega) (K M2 _ (hL.nx hI1 hF hR hV ((hG.as _ _).le (by omega))))
  · exact absurd rfl h880
set_option maxRecDepth 20000 in
set_option maxHeartbeats 3000000 in
theorem st_ask {G : Ctx} {nm : String} {M : Mem} {A : AS} {B : Int} (hL : LW M A B) (hB0 : 0 ≤ B) (hB : B ≤ 900000) {kc ks : Nat} {i : Int} (i0 : 0 ≤ i) (i1 : i + 6 ≤ gL G) (h384 : gL G ≤ 384) {Q : Option MV → Mem → Prop} (K : ∀ M2 A2, LW M2 A2 (B + 96) → EV G (m_L nm) 14 kc ks Q 977 [some (vR 1), some (vR 21), some (vR 77), some (vI i)] [] M2) : EV G (m_L nm) 14 (kc + 20) (ks + 200) Q 885 [some (vR 1), some (vR 21), some (vR 77), some (vI i)] [] M := by
  have hG := hL.2.2.2
  have hwc := hG.w.c
  obtain ⟨n, hn⟩ := Int.eq_ofNat_of_zero_le hwc.pn.1
  obtain ⟨rn, hrn⟩ := Int.eq_ofNat_of_zero_le hwc.rn.1
  obtain ⟨ln, hln⟩ := Int.eq_ofNat_of_zero_le hwc.ln.1
  refine E_aload_n dL_law_885 rfl ?_
  refine E_aload_n dL_law_886 rfl ?_
  refine E_iload_n dL_law_887 rfl ?_
  refine E_iconst dL_law_888 (by decide) ?_
  refine E_iadd dL_law_889 (by omega) (by omega) ?_
  refine E_scr dL_law_890 (by omega) (by omega) ?_
  refine E_aload_n dL_law_891 rfl ?_
  refine E_iload_n dL_law_892 rfl ?_
  refine E_iconst dL_law_893 (by decide) ?_
  refine E_iadd dL_law_894 (by omega) (by omega) ?_
  refine E_scr dL_law_895 (by omega) (by omega) ?_
  refine EV.room (kc := kc + 1) (ks := ks + 4) (by omega) (by omega) ?_
  refine i_L_113 rfl dL_law_896 (by exact hL.1.1.o) (x_ask hL.1 hG hB) (by omega) (Nat.le_of_ble_eq_true rfl) rfl rfl ?_
  rintro _ M1 ⟨rfl, hI1, hF⟩
  try dsimp only [pu]
  refine E_aload_n dL_law_899 rfl ?_
  refine E_aload_n dL_law_900 rfl ?_
  refine E_iload_n dL_law_901 rfl ?_
  refine E_iconst dL_law_902 (by decide) ?_
  refine E_iadd dL_law_903 (by omega) (by omega) ?_
  refine E_scr dL_law_904 (by omega) (by omega) ?_
  refine E_aload_n dL_law_905 rfl ?_
  refine E_iload_n dL_law_906 rfl ?_
  refine E_iconst dL_law_907 (by decide) ?_
  refine E_iadd dL_law_908 (by omega) (by omega) ?_
  refine E_scr dL_law_909 (by omega) (by omega) ?_
  refine i_L_116 rfl dL_law_910 (by exact (hL.2.1.fx hF).o) (r_ask (hL.2.1.fx hF) (hL.2.2.1.fx hF) hG hB) (by omega) (Nat.le_of_ble_eq_true rfl) rfl rfl ?_
  rintro _ M2 ⟨rfl, hR, hV⟩
  try dsimp only [pu]
  refine E_icmp_eq (tgt := 977) dL_law_913 (by decide) (fun h913 => ?_) (fun h913 => ?_)
  · exact EV.room (by omega) (by omega) (K M2 _ (hL.nx hI1 hF hR hV ((hG.ask _ _).le (by omega))))
  · exact absurd rfl h913
set_option maxRecDepth 20000 in
set_option maxHeartbeats 3000000 in
theorem st_trace {G : Ctx} {nm : String} {M : Mem} {A : AS} {B : Int} (hL : LW M A B) (hB0 : 0 ≤ B) (hB : B ≤ 900000) {kc ks : Nat} {i : Int} (i0 : 0 ≤ i) (i1 : i + 6 ≤ gL G) (h384 : gL G ≤ 384) {Q : Option MV → Mem → Prop} (K : ∀ M2 A2, LW M2 A2 (B + 96) → EV G (m_L nm) 14 kc ks Q 977 [some (vR 1), some (vR 21), some (vR 77), some (vI i)] [] M2) : EV G (m_L nm) 14 (kc + 20) (ks + 200) Q 918 [some (vR 1), some (vR 21), some (vR 77), some (vI i)] [] M := by
  have hG := hL.2.2.2
  have hwc := hG.w.c
  obtain ⟨n, hn⟩ := Int.eq_ofNat_of_zero_le hwc.pn.1
  obtain ⟨rn, hrn⟩ := Int.eq_ofNat_of_zero_le hwc.rn.1
  obtain ⟨ln, hln⟩ := Int.eq_ofNat_of_zero_le hwc.ln.1
  refine E_aload_n dL_law_918 rfl ?_
  refine E_aload_n dL_law_919 rfl ?_
  refine E_iload_n dL_law_920 rfl ?_
  refine E_iconst dL_law_921 (by decide) ?_
  refine E_iadd dL_law_922 (by omega) (by omega) ?_
  refine E_scr dL_law_923 (by omega) (by omega) ?_
  refine i_L_117 rfl dL_law_924 (by exact hL.1.1.o) (x_trace hL.1 hG hB) (by omega) (Nat.le_of_ble_eq_true rfl) rfl rfl ?_
  rintro _ M1 ⟨rfl, hI1, hF⟩
  try dsimp only [pu]
  refine E_aload_n dL_law_927 rfl ?_
  refine E_aload_n dL_law_928 rfl ?_
  refine E_iload_n dL_law_929 rfl ?_
  refine E_iconst dL_law_930 (by decide) ?_
  refine E_iadd dL_law_931 (by omega) (by omega) ?_
  refine E_scr dL_law_932 (by omega) (by omega) ?_
  refine i_L_120 rfl dL_law_933 (by exact (hL.2.1.fx hF).o) (r_trace (hL.2.1.fx hF) (hL.2.2.1.fx hF) hG hB) (by omega) (Nat.le_of_ble_eq_true rfl) rfl rfl ?_
  rintro _ M2 ⟨rfl, hR, hV⟩
  try dsimp only [pu]
  refine E_icmp_eq (tgt := 977) dL_law_936 (by decide) (fun h936 => ?_) (fun h936 => ?_)
  · exact EV.room (by omega) (by omega) (K M2 _ (hL.nx hI1 hF hR hV (hG.le (by omega))))
  · exact absurd rfl h936
set_option maxRecDepth 20000 in
set_option maxHeartbeats 3000000 in
theorem st_count {G : Ctx} {nm : String} {M : Mem} {A : AS} {B : Int} (hL : LW M A B) (hB0 : 0 ≤ B) (hB : B ≤ 900000) {kc ks : Nat} {i : Int} (i0 : 0 ≤ i) (i1 : i + 6 ≤ gL G) (h384 : gL G ≤ 384) {Q : Option MV → Mem → Prop} (K : ∀ M2 A2, LW M2 A2 (B + 96) → EV G (m_L nm) 14 kc ks Q 977 [some (vR 1), some (vR 21), some (vR 77), some (vI i)] [] M2) : EV G (m_L nm) 14 (kc + 20) (ks + 200) Q 941 [some (vR 1), some (vR 21), some (vR 77), some (vI i)] [] M := by
  have hG := hL.2.2.2
  have hwc := hG.w.c
  obtain ⟨n, hn⟩ := Int.eq_ofNat_of_zero_le hwc.pn.1
  obtain ⟨rn, hrn⟩ := Int.eq_ofNat_of_zero_le hwc.rn.1
  obtain ⟨ln, hln⟩ := Int.eq_ofNat_of_zero_le hwc.ln.1
  refine E_aload_n dL_law_941 rfl ?_
  refine E_aload_n dL_law_942 rfl ?_
  refine E_iload_n dL_law_943 rfl ?_
  refine E_iconst dL_law_944 (by decide) ?_
  refine E_iadd dL_law_945 (by omega) (by omega) ?_
  refine E_scr dL_law_946 (by omega) (by omega) ?_
  refine i_L_121 rfl dL_law_947 (by exact hL.1.1.o) (x_count hL.1 hG hB n hn) (by omega) (Nat.le_of_ble_eq_true rfl) rfl rfl ?_
  rintro _ M1 ⟨rfl, hI1, hF⟩
  try dsimp only [pu]
  refine E_aload_n dL_law_950 rfl ?_
  refine E_aload_n dL_law_951 rfl ?_
  refine E_iload_n dL_law_952 rfl ?_
  refine E_iconst dL_law_953 (by decide) ?_
  refine E_iadd dL_law_954 (by omega) (by omega) ?_
  refine E_scr dL_law_955 (by omega) (by omega) ?_
  refine i_L_124 rfl dL_law_956 (by exact (hL.2.1.fx hF).o) (r_count (hL.2.1.fx hF) (hL.2.2.1.fx hF) hG hB n hn) (by omega) (Nat.le_of_ble_eq_true rfl) rfl rfl ?_
  rintro _ M2 ⟨rfl, hR, hV⟩
  try dsimp only [pu]
  refine E_icmp_eq (tgt := 977) dL_law_959 (by decide) (fun h959 => ?_) (fun h959 => ?_)
  · exact EV.room (by omega) (by omega) (K M2 _ (hL.nx hI1 hF hR hV (hG.le (by omega))))
  · exact absurd rfl h959
set_option maxRecDepth 20000 in
set_option maxHeartbeats 3000000 in
theorem st_status {G : Ctx} {nm : String} {M : Mem} {A : AS} {B : Int} (hL : LW M A B) (hB0 : 0 ≤ B) (hB : B ≤ 900000) {kc ks : Nat} {i : Int} (i0 : 0 ≤ i) (i1 : i + 6 ≤ gL G) (h384 : gL G ≤ 384) {Q : Option MV → Mem → Prop} (K : ∀ M2 A2, LW M2 A2 (B + 96) → EV G (m_L nm) 14 kc ks Q 977 [some (vR 1), some (vR 21), some (vR 77), some (vI i)] [] M2) : EV G (m_L nm) 14 (kc + 20) (ks + 200) Q 964 [some (vR 1), some (vR 21), some (vR 77), some (vI i)] [] M := by
  have hG := hL.2.2.2
  have hwc := hG.w.c
  obtain ⟨n, hn⟩ := Int.eq_ofNat_of_zero_le hwc.pn.1
  obtain ⟨rn, hrn⟩ := Int.eq_ofNat_of_zero_le hwc.rn.1
  obtain ⟨ln, hln⟩ := Int.eq_ofNat_of_zero_le hwc.ln.1
  refine E_aload_n dL_law_964 rfl ?_
  refine i_L_125 rfl dL_law_965 (by exact hL.1.1.o) (x_status hL.1 hG hB) (by omega) (Nat.le_of_ble_eq_true rfl) rfl rfl ?_
  rintro _ M1 ⟨rfl, hI1, hF⟩
  try dsimp only [pu]
  refine E_aload_n dL_law_968 rfl ?_
  refine i_L_128 rfl dL_law_969 (by exact (hL.2.1.fx hF).o) (r_status (hL.2.1.fx hF) (hL.2.2.1.fx hF) hG hB) (by omega) (Nat.le_of_ble_eq_true rfl) rfl rfl ?_
  rintro _ M2 ⟨rfl, hR, hV⟩
  try dsimp only [pu]
  refine E_icmp_eq (tgt := 977) dL_law_972 (by decide) (fun h972 => ?_) (fun h972 => ?_)
  · exact EV.room (by omega) (by omega) (K M2 _ (hL.nx hI1 hF hR hV (hG.le (by omega))))
  · exact absurd rfl h972
