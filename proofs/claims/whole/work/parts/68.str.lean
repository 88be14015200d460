/-! ===== 68: Strings: their lengths and characters ===== -/
theorem qs_0 : Cond.methodLink "CourtWash$Reader" 146 yJ0_length_8abf5 ∈ AW := aw_mem (List.mem_of_getElem? (i := 461) (by decide +kernel)) (by decide +kernel)
theorem qs_1 : Cond.instanceMethod yJ0_length_8abf5 ∈ AW := aw_mem (List.mem_of_getElem? (i := 462) (by decide +kernel)) (by decide +kernel)
theorem qs_2 : Cond.selects "java/lang/String" yJ0_length_8abf5 yJ0_length_8abf5 ∈ AW := aw_mem (List.mem_of_getElem? (i := 463) (by decide +kernel)) (by decide +kernel)
theorem qs_3 : Cond.methodLink "java/lang/String" 335 yJ0_coder_7d493 ∈ AW := aw_mem (List.mem_of_getElem? (i := 465) (by decide +kernel)) (by decide +kernel)
theorem qs_4 : Cond.instanceMethod yJ0_coder_7d493 ∈ AW := aw_mem (List.mem_of_getElem? (i := 466) (by decide +kernel)) (by decide +kernel)
theorem qs_5 : Cond.selects "java/lang/String" yJ0_coder_7d493 yJ0_coder_7d493 ∈ AW := aw_mem (List.mem_of_getElem? (i := 467) (by decide +kernel)) (by decide +kernel)
theorem qs_6 : Cond.fieldLink "java/lang/String" 38 "java/lang/String" "COMPACT_STRINGS" "Z" ∈ AW := aw_mem (List.mem_of_getElem? (i := 469) (by decide +kernel)) (by decide +kernel)
theorem qs_7 : Cond.methodLink "CourtWash$Reader" 150 yJ0_charAt_5068e ∈ AW := aw_mem (List.mem_of_getElem? (i := 471) (by decide +kernel)) (by decide +kernel)
theorem qs_8 : Cond.instanceMethod yJ0_charAt_5068e ∈ AW := aw_mem (List.mem_of_getElem? (i := 472) (by decide +kernel)) (by decide +kernel)
theorem qs_9 : Cond.selects "java/lang/String" yJ0_charAt_5068e yJ0_charAt_5068e ∈ AW := aw_mem (List.mem_of_getElem? (i := 473) (by decide +kernel)) (by decide +kernel)
theorem qs_10 : Cond.methodLink "java/lang/String" 492 yJ0_isLatin1_aae02 ∈ AW := aw_mem (List.mem_of_getElem? (i := 475) (by decide +kernel)) (by decide +kernel)
theorem qs_11 : Cond.instanceMethod yJ0_isLatin1_aae02 ∈ AW := aw_mem (List.mem_of_getElem? (i := 476) (by decide +kernel)) (by decide +kernel)
theorem qs_12 : Cond.selects "java/lang/String" yJ0_isLatin1_aae02 yJ0_isLatin1_aae02 ∈ AW := aw_mem (List.mem_of_getElem? (i := 477) (by decide +kernel)) (by decide +kernel)
theorem qs_13 : Cond.fieldLink "java/lang/String" 1053 "jdk/internal/util/Preconditions" "SIOOBE_FORMATTER" "Ljava/util/function/BiFunction;" ∈ AW := aw_mem (List.mem_of_getElem? (i := 485) (by decide +kernel)) (by decide +kernel)
theorem qs_14 : Cond.fieldLink "java/lang/String" 9 "java/lang/String" "value" "[B" ∈ AW := aw_mem (List.mem_of_getElem? (i := 1493) (by decide +kernel)) (by decide +kernel)
theorem qs_15 : Cond.fieldLink "java/lang/String" 15 "java/lang/String" "coder" "B" ∈ AW := aw_mem (List.mem_of_getElem? (i := 1494) (by decide +kernel)) (by decide +kernel)
def sCh (i j : Nat) : Int := ((sByt.getD i []).getD j 0).toInt
theorem rfv_k {G : Ctx} {i : Nat} (h : i < 9) : rfv G (2 + i) = .ref (gK G i) := by
  unfold rfv am
  rw [if_neg (by omega), if_neg (by omega), if_pos (by omega), if_neg (by omega), if_pos (by omega), show 2 + i - 2 = i by omega]
theorem rfv_v {G : Ctx} {i : Nat} (h : i < 9) : rfv G (11 + i) = .ref (gV G i) := by
  unfold rfv am
  rw [if_neg (by omega), if_neg (by omega), if_pos (by omega), if_neg (by omega), if_neg (by omega), show 11 + i - 11 = i by omega]
section EVK
variable {G : Ctx} {mt : MT} {d kc ks : Nat} {Q : Option MV → Mem → Prop} {pc : Nat} {ls : List (Option MV)} {st : List MV} {M : Mem}
theorem sRef_lt {i : Nat} {q : String × Nat × String} (h : sRef[i]? = some q) : i < 9 := by
  have := (List.getElem?_eq_some_iff.mp h).1
  exact this
theorem E_ldcS {i idx : Nat} {q : String × Nat × String} (hd : decode mt.2.1 pc = .ok (.ldc idx, 2)) (hq : sRef[i]? = some q) (h1 : q.1 = mt.1.cls) (h2 : q.2.1 = idx) (k : EV G mt d kc ks Q (pc + 2) ls (vR (2 + i) :: st) M) : EV G mt d kc ks Q pc ls st M := by
  intro p l e R s m args below meth c H locs cells slots mc ms lsR stR C0 hR hkk hl hP hL hst
  have hr := C0.2.2.2.2.2.2.2.2.2.2.2.2.2.1.1 i q hq
  rw [h1, h2] at hr
  exact va_ldcS C0.1 C0.2.1 C0.2.2.2.1 hr hd (k p l e R s m args below meth c H locs cells slots mc ms lsR _ C0 hR hkk hl hP hL ⟨(rfv_k (sRef_lt hq)).symm, hst⟩)
theorem E_gfV {i : Nat} (hi : i < 9) (ho : mt.1.cls = RJ0) (hd : decode mt.2.1 pc = .ok (.getfield 9, 3)) (k : EV G mt d kc ks Q (pc + 3) ls (vR (11 + i) :: st) M) : EV G mt d kc ks Q pc ls (vR (2 + i) :: st) M := by
  intro p l e R s m args below meth c H locs cells slots mc ms lsR stR C0 hR hkk hl hP hL hst
  obtain ⟨v, rest, rfl, hv, hs1⟩ := hst.c
  have hv : v = rfv G (2 + i) := hv
  rw [rfv_k hi] at hv
  subst hv
  obtain ⟨cf, kk, fi, f, cell, h1, h2, h3, h4, h5, h6⟩ := (C0.2.2.2.2.2.2.2.2.2.2.2.2.1.1.1 i hi).2.2.1
  have hlt : gK G i < gb G := Nat.not_le.mp h6
  exact W.getf (ref := "java/lang/String") C0.1 C0.2.1 C0.2.2.2.1 (C0.2.2.2.2.1 _ (by rw [ho]; exact qs_14)) h1 h2 ((hP.2.2.1 _ hlt).trans h3) h4 (v := .ref (gV G i)) h5 rfl rfl hd (k p l e R s m args below meth c H locs cells slots mc ms lsR _ C0 hR hkk hl hP hL ⟨(rfv_v hi).symm, hs1⟩)
theorem E_gfC {i : Nat} (hi : i < 9) (ho : mt.1.cls = RJ0) (hd : decode mt.2.1 pc = .ok (.getfield 15, 3)) (k : EV G mt d kc ks Q (pc + 3) ls (vI 0 :: st) M) : EV G mt d kc ks Q pc ls (vR (2 + i) :: st) M := by
  intro p l e R s m args below meth c H locs cells slots mc ms lsR stR C0 hR hkk hl hP hL hst
  obtain ⟨v, rest, rfl, hv, hs1⟩ := hst.c
  have hv : v = rfv G (2 + i) := hv
  rw [rfv_k hi] at hv
  subst hv
  obtain ⟨cf, kk, fi, f, cell, h1, h2, h3, h4, h5, h6⟩ := (C0.2.2.2.2.2.2.2.2.2.2.2.2.1.1.1 i hi).2.1
  have hlt : gK G i < gb G := Nat.not_le.mp h6
  exact W.getf (ref := "java/lang/String") C0.1 C0.2.1 C0.2.2.2.1 (C0.2.2.2.2.1 _ (by rw [ho]; exact qs_15)) h1 h2 ((hP.2.2.1 _ hlt).trans h3) h4 (v := .int 0) h5 rfl rfl hd (k p l e R s m args below meth c H locs cells slots mc ms lsR _ C0 hR hkk hl hP hL ⟨⟨_, rfl, rfl⟩, hs1⟩)
theorem sLen_b : ∀ i, i < 9 → sLen.getD i 0 ≤ 5 := by decide
theorem E_vlen {i : Nat} (hi : i < 9) (hd : decode mt.2.1 pc = .ok (.arraylength, 1)) (kk : EV G mt d kc ks Q (pc + 1) ls (vI ((sLen.getD i 0 : Nat) : Int) :: st) M) : EV G mt d kc ks Q pc ls (vR (11 + i) :: st) M := by
  intro p l e R s m args below meth c H locs cells slots mc ms lsR stR C0 hR hkk hl hP hL hst
  obtain ⟨v, rest, rfl, hv, hs1⟩ := hst.c
  have hv : v = rfv G (11 + i) := hv
  rw [rfv_v hi] at hv
  subst hv
  obtain ⟨scr, x1, x2, x3, x4, x5, x6, x7⟩ := (C0.2.2.2.2.2.2.2.2.2.2.2.2.1.1.1 i hi).2.2.2
  have hlt : gV G i < gb G := Nat.not_le.mp x7
  have h5 := sLen_b i hi
  exact W.alen (n := Int32.ofNat (sLen.getD i 0)) C0.1 C0.2.1 ((hP.2.2.1 _ hlt).trans x1) x2 x5 rfl rfl hd (kk p l e R s m args below meth c H locs cells slots mc ms lsR _ C0 hR hkk hl hP hL ⟨⟨_, rfl, nI_toInt (show _ < 2 ^ 31 by omega)⟩, hs1⟩)
theorem E_vld {i : Nat} {j : Int} (hi : i < 9) (hd : decode mt.2.1 pc = .ok (.baload, 1)) (h0 : 0 ≤ j) (h1 : j < (sLen.getD i 0 : Nat)) (kk : EV G mt d kc ks Q (pc + 1) ls (vI (sCh i j.toNat) :: st) M) : EV G mt d kc ks Q pc ls (vI j :: vR (11 + i) :: st) M := by
  intro p l e R s m args below meth c H locs cells slots mc ms lsR stR C0 hR hkk hl hP hL hst
  obtain ⟨v, rest, rfl, ⟨jj, rfl, hj⟩, hs1⟩ := hst.c
  obtain ⟨v, rest, rfl, hv, hs2⟩ := hs1.c
  have hv : v = rfv G (11 + i) := hv
  rw [rfv_v hi] at hv
  subst hv
  obtain ⟨scr, x1, x2, x3, x4, x5, x6, x7⟩ := (C0.2.2.2.2.2.2.2.2.2.2.2.2.1.1.1 i hi).2.2.2
  have hlt : gV G i < gb G := Nat.not_le.mp x7
  have hin := i32_in hj h0 h1
  have hl2 : jj.toNatClampNeg < sLen.getD i 0 := Nat.not_le.mp fun q => hin (Or.inr q)
  have hcl : jj.toNatClampNeg = j.toNat := by
    have z := i32_clamp hj
    exact z
  exact W.bald (v := .int ((sByt.getD i []).getD jj.toNatClampNeg 0)) C0.1 C0.2.1 ((hP.2.2.1 _ hlt).trans x1) x2 x3 (fun q => hin (q.elim Or.inl (fun z => absurd (Nat.le_trans x4 z) (by omega)))) (x6 _ hl2) rfl rfl hd (kk p l e R s m args below meth c H locs cells slots mc ms lsR _ C0 hR hkk hl hP hL ⟨⟨_, rfl, by rw [hcl]; rfl⟩, hs2⟩)
theorem E_gs38 (ho : mt.1.cls = RJ0) (hd : decode mt.2.1 pc = .ok (.getstatic 38, 3)) (kk : EV G mt d kc ks Q (pc + 3) ls (vI 1 :: st) M) : EV G mt d kc ks Q pc ls st M := by
  intro p l e R s m args below meth c H locs cells slots mc ms lsR stR C0 hR hkk hl hP hL hst
  obtain ⟨cf, kf, fi, f, a, cell, h1, h2, h3, h4, h5, h6, h7, h8⟩ := C0.2.2.2.2.2.2.2.2.2.2.2.2.1.2.1
  have hlt : a < gb G := Nat.not_le.mp h8
  exact W.gets (ref := "java/lang/String") C0.1 C0.2.1 C0.2.2.2.1 (C0.2.2.2.2.1 _ (by rw [ho]; exact qs_6)) h1 h2 h3 h4 ((hP.2.2.1 _ hlt).trans h5) (fun e => by rw [e] at h6; cases h6) h7 rfl hd (kk p l e R s m args below meth c H locs cells slots mc ms lsR _ C0 hR hkk hl hP hL ⟨⟨_, rfl, rfl⟩, hst⟩)
theorem E_gs1053 (ho : mt.1.cls = RJ0) (hd : decode mt.2.1 pc = .ok (.getstatic 1053, 3)) (kk : EV G mt d kc ks Q (pc + 3) ls (vR 20 :: st) M) : EV G mt d kc ks Q pc ls st M := by
  intro p l e R s m args below meth c H locs cells slots mc ms lsR stR C0 hR hkk hl hP hL hst
  obtain ⟨cf, kf, fi, f, a, cell, h1, h2, h3, h4, h5, h6, h7, h8⟩ := C0.2.2.2.2.2.2.2.2.2.2.2.2.1.2.2.1
  have hlt : a < gb G := Nat.not_le.mp h8
  exact W.gets (ref := "jdk/internal/util/Preconditions") C0.1 C0.2.1 C0.2.2.2.1 (C0.2.2.2.2.1 _ (by rw [ho]; exact qs_13)) h1 h2 h3 h4 ((hP.2.2.1 _ hlt).trans h5) (fun e => by rw [e] at h6; cases h6) h7 rfl hd (kk p l e R s m args below meth c H locs cells slots mc ms lsR _ C0 hR hkk hl hP hL ⟨rfl, hst⟩)
/-- an instance method of a String constant -/
theorem E_callK {mt' : MT} {d' mc' ms' n idx : Nat} {as : List MV} {Q' : Option MV → Mem → Prop} {i : Nat} (h9 : i < 9) (hi : Cond.instanceMethod mt'.1 ∈ AW) (hse : Cond.selects "java/lang/String" mt'.1 mt'.1 ∈ AW) (hd : decode mt.2.1 pc = .ok (.invokevirtual idx, 3)) (hm : MK mt' n) (hlk : Cond.methodLink mt.1.cls idx mt'.1 ∈ AW) (hct : CT G mt' d' mc' ms' (vR (2 + i) :: as) M Q') (hn : as.length = n) (hdd : d' + 1 ≤ d) (hw : (st.map wd).sum ≤ 8) (k : ∀ r M', Q' r M' → EV G mt d kc ks Q (pc + 3) ls (pu r st) M') : EV G mt d (kc + mc') (ks + ms') Q pc ls (as.reverse ++ vR (2 + i) :: st) M := by
  intro p l e R s m args below meth c H locs cells slots mc ms lsR stR C0 hR hkk hl hP hL hst
  have hts := C0.2.2.2.2.1
  have hK := C0.2.2.2.2.2.2.2.2
  obtain ⟨v1, v2, rfl, ha, hs2⟩ := hst.split
  have hrl := VRs.rev ha
  rw [List.reverse_reverse] at hrl
  have hv1 : v1 = v1.reverse.reverse := (List.reverse_reverse v1).symm
  obtain ⟨w, rest, rfl, hv, hs3⟩ := hs2.c
  have hv : w = rfv G (2 + i) := hv
  obtain ⟨cell, q1, q2, q3, q4⟩ := (hK.2.2.2.2.1.1.1 i h9).1
  have hlt : gK G i < gb G := Nat.not_le.mp q4
  rw [rfv_k h9] at hv
  subst hv
  refine EV.behind C0 hR hkk hl hL hs3 (va_runV (C := "java/lang/String") (b := gK G i) (As := v1.reverse) (rest := rest) ⟨C0.1, C0.2.1, C0.2.2.1, C0.2.2.2.1, hts⟩ (hct l) ⟨callB_ct (d' := d') hts hm hlk (by omega) (by omega), hts _ hi, hts _ hse⟩ ⟨PX.blind, ⟨cell, (hP.2.2.1 _ hlt).trans q1, q2, q3⟩, fun U hU hW => ⟨⟨_, rfl, ⟨(rfv_k h9).symm, hrl⟩⟩, by rw [hU]; exact hP, hK.warm hW⟩⟩ rfl ?_ ?_ ?_ (lv_room (by rw [wd_sum hK hs3]; exact hw)) hd ⟨by omega, by omega⟩) k
  · rw [List.length_reverse, ← VRs.len ha, List.length_reverse]; exact hn
  · obtain ⟨lv, q, -⟩ := hL; exact q.1
  · rw [List.reverse_reverse]
theorem E_callK0 {mt' : MT} {d' mc' ms' idx : Nat} {Q' : Option MV → Mem → Prop} {i : Nat} (h9 : i < 9) (hi : Cond.instanceMethod mt'.1 ∈ AW) (hse : Cond.selects "java/lang/String" mt'.1 mt'.1 ∈ AW) (hd : decode mt.2.1 pc = .ok (.invokevirtual idx, 3)) (hm : MK mt' 0) (hlk : Cond.methodLink mt.1.cls idx mt'.1 ∈ AW) (hct : CT G mt' d' mc' ms' [vR (2 + i)] M Q') (hdd : d' + 1 ≤ d) (hw : (st.map wd).sum ≤ 8) {kc0 ks0 : Nat} (hkc : kc0 = kc + mc') (hks : ks0 = ks + ms') (k : ∀ r M', Q' r M' → EV G mt d kc ks Q (pc + 3) ls (pu r st) M') : EV G mt d kc0 ks0 Q pc ls (vR (2 + i) :: st) M := by subst hkc; subst hks; exact E_callK (as := []) h9 hi hse hd hm hlk hct rfl hdd hw k
theorem E_callK1 {mt' : MT} {d' mc' ms' idx : Nat} {a1 : MV} {Q' : Option MV → Mem → Prop} {i : Nat} (h9 : i < 9) (hi : Cond.instanceMethod mt'.1 ∈ AW) (hse : Cond.selects "java/lang/String" mt'.1 mt'.1 ∈ AW) (hd : decode mt.2.1 pc = .ok (.invokevirtual idx, 3)) (hm : MK mt' 1) (hlk : Cond.methodLink mt.1.cls idx mt'.1 ∈ AW) (hct : CT G mt' d' mc' ms' [vR (2 + i), a1] M Q') (hdd : d' + 1 ≤ d) (hw : (st.map wd).sum ≤ 8) {kc0 ks0 : Nat} (hkc : kc0 = kc + mc') (hks : ks0 = ks + ms') (k : ∀ r M', Q' r M' → EV G mt d kc ks Q (pc + 3) ls (pu r st) M') : EV G mt d kc0 ks0 Q pc ls (a1 :: vR (2 + i) :: st) M := by subst hkc; subst hks; exact E_callK (as := [a1]) h9 hi hse hd hm hlk hct rfl hdd hw k
end EVK
set_option maxRecDepth 20000 in
set_option maxHeartbeats 3000000 in
theorem c_coder {G : Ctx} {M : Mem} {i : Nat} (hs9 : i < 9) : CT G m_J0_coder_7d493 0 0 0 [vR (2 + i)] M (rI M 0) := by
  refine CT.of k_J0_coder_7d493 0 (ls := [some (vR (2 + i))]) rfl (Nat.le_of_ble_eq_true rfl) ?_
  refine E_gs38 rfl dJ0_coder_7d493_0 ?_
  refine E_if_eq (tgt := 13) dJ0_coder_7d493_3 (by decide) (fun h3 => ?_) (fun h3 => ?_)
  · exfalso; omega
  · refine E_aload_n dJ0_coder_7d493_6 rfl ?_
    refine E_gfC hs9 rfl dJ0_coder_7d493_7 ?_
    refine E_goto (tgt := 14) dJ0_coder_7d493_10 (by decide) ?_
    refine E_zret dJ0_coder_7d493_14 rfl (by decide) ?_
    exact ⟨rfl, rfl⟩
set_option maxRecDepth 20000 in
set_option maxHeartbeats 3000000 in
theorem c_isLatin1 {G : Ctx} {M : Mem} {i : Nat} (hs9 : i < 9) : CT G m_J0_isLatin1_aae02 0 0 0 [vR (2 + i)] M (rI M 1) := by
  refine CT.of k_J0_isLatin1_aae02 0 (ls := [some (vR (2 + i))]) rfl (Nat.le_of_ble_eq_true rfl) ?_
  refine E_gs38 rfl dJ0_isLatin1_aae02_0 ?_
  refine E_if_eq (tgt := 17) dJ0_isLatin1_aae02_3 (by decide) (fun h3 => ?_) (fun h3 => ?_)
  · exfalso; omega
  · refine E_aload_n dJ0_isLatin1_aae02_6 rfl ?_
    refine E_gfC hs9 rfl dJ0_isLatin1_aae02_7 ?_
    refine E_if_ne (tgt := 17) dJ0_isLatin1_aae02_10 (by decide) (fun h10 => ?_) (fun h10 => ?_)
    · exfalso; omega
    · refine E_iconst dJ0_isLatin1_aae02_13 (by decide) ?_
      refine E_goto (tgt := 18) dJ0_isLatin1_aae02_14 (by decide) ?_
      refine E_zret dJ0_isLatin1_aae02_18 rfl (by decide) ?_
      exact ⟨rfl, rfl⟩
set_option maxRecDepth 20000 in
set_option maxHeartbeats 3000000 in
theorem c_slen {G : Ctx} {M : Mem} {i : Nat} (hs9 : i < 9) : CT G m_J0_length_8abf5 1 0 0 [vR (2 + i)] M (rI M ((sLen.getD i 0 : Nat) : Int)) := by
  refine CT.of k_J0_length_8abf5 0 (ls := [some (vR (2 + i))]) rfl (Nat.le_of_ble_eq_true rfl) ?_
  refine E_aload_n dJ0_length_8abf5_0 rfl ?_
  refine E_gfV hs9 rfl dJ0_length_8abf5_1 ?_
  refine E_vlen hs9 dJ0_length_8abf5_4 ?_
  refine E_aload_n dJ0_length_8abf5_5 rfl ?_
  refine E_callK0 (i := i) hs9 qs_4 qs_5 dJ0_length_8abf5_6 k_J0_coder_7d493 qs_3 (c_coder hs9) (by omega) (Nat.le_of_ble_eq_true rfl) rfl rfl ?_
  rintro _ _ ⟨rfl, rfl⟩
  try dsimp only [pu]
  refine E_ishr dJ0_length_8abf5_9 ?_
  refine E_iret dJ0_length_8abf5_10 rfl ?_
  have h5 := sLen_b i hs9
  have e := bShr_nat (x := sLen.getD i 0) (p := 0) (by omega) (by omega)
  rw [show (2 : Nat) ^ 0 = 1 from rfl, Nat.div_one] at e
  exact ⟨by rw [show (0 : Int) = ((0 : Nat) : Int) from rfl, e], rfl⟩
set_option maxRecDepth 20000 in
set_option maxHeartbeats 3000000 in
theorem c_preIndex {G : Ctx} {M : Mem} {a b : Int} (h0 : 0 ≤ a) (h1 : a < b) : CT G m_J3_checkIndex_8e157 0 0 0 [vI a, vI b, vR 20] M (rI M a) := by
  refine CT.of k_J3_checkIndex_8e157 0 (ls := [some (vI a), some (vI b), some (vR 20)]) rfl (Nat.le_of_ble_eq_true rfl) ?_
  refine E_iload_n dJ3_checkIndex_8e157_0 rfl ?_
  refine E_if_lt (tgt := 9) dJ3_checkIndex_8e157_1 (by decide) (fun h1 => ?_) (fun h1 => ?_)
  · exfalso; omega
  · refine E_iload_n dJ3_checkIndex_8e157_4 rfl ?_
    refine E_iload_n dJ3_checkIndex_8e157_5 rfl ?_
    refine E_icmp_lt (tgt := 16) dJ3_checkIndex_8e157_6 (by decide) (fun h6 => ?_) (fun h6 => ?_)
    · refine E_iload_n dJ3_checkIndex_8e157_16 rfl ?_
      refine E_iret dJ3_checkIndex_8e157_17 rfl ?_
      exact ⟨rfl, rfl⟩
    · exfalso; omega
set_option maxRecDepth 20000 in
set_option maxHeartbeats 3000000 in
theorem c_strIndex {G : Ctx} {M : Mem} {a b : Int} (h0 : 0 ≤ a) (h1 : a < b) : CT G m_J0_checkIndex_df160 1 0 0 [vI a, vI b] M (fun r M' => r = none ∧ M = M') := by
  refine CT.of k_J0_checkIndex_df160 0 (ls := [some (vI a), some (vI b)]) rfl (Nat.le_of_ble_eq_true rfl) ?_
  refine E_iload_n dJ0_checkIndex_df160_0 rfl ?_
  refine E_iload_n dJ0_checkIndex_df160_1 rfl ?_
  refine E_gs1053 rfl dJ0_checkIndex_df160_2 ?_
  refine i_J0_1059 rfl dJ0_checkIndex_df160_5 (c_preIndex h0 h1) (by omega) (Nat.le_of_ble_eq_true rfl) rfl rfl ?_
  rintro _ _ ⟨rfl, rfl⟩
  try dsimp only [pu]
  refine E_pop dJ0_checkIndex_df160_8 rfl ?_
  refine E_vret dJ0_checkIndex_df160_9 rfl ?_
  exact ⟨rfl, rfl⟩
theorem sCh_c : ∀ i, i < 9 → ∀ j, j < sLen.getD i 0 → bI2c (bAnd (sCh i j) 255) = sCh i j := by decide +kernel
theorem sCh_n : ∀ i, i < 9 → ∀ j, j < sLen.getD i 0 → narrow .char (.int (Int32.ofInt (sCh i j))) = .int (Int32.ofInt (sCh i j)) := by decide +kernel
theorem sCh_b : ∀ i, i < 9 → ∀ j, j < sLen.getD i 0 → 97 ≤ sCh i j ∧ sCh i j ≤ 122 := by decide +kernel
set_option maxRecDepth 20000 in
set_option maxHeartbeats 3000000 in
theorem c_l1char {G : Ctx} {M : Mem} {i : Nat} (hs9 : i < 9) {j : Int} (h0 : 0 ≤ j) (h1 : j < (sLen.getD i 0 : Nat)) : CT G m_J1_charAt_3b067 2 0 0 [vR (11 + i), vI j] M (rI M (sCh i j.toNat)) := by
  refine CT.of k_J1_charAt_3b067 0 (ls := [some (vR (11 + i)), some (vI j)]) rfl (Nat.le_of_ble_eq_true rfl) ?_
  refine E_iload_n dJ1_charAt_3b067_0 rfl ?_
  refine E_aload_n dJ1_charAt_3b067_1 rfl ?_
  refine E_vlen hs9 dJ1_charAt_3b067_2 ?_
  refine i_J1_9 rfl dJ1_charAt_3b067_3 (c_strIndex h0 h1) (by omega) (Nat.le_of_ble_eq_true rfl) rfl rfl ?_
  rintro _ _ ⟨rfl, rfl⟩
  try dsimp only [pu]
  refine E_aload_n dJ1_charAt_3b067_6 rfl ?_
  refine E_iload_n dJ1_charAt_3b067_7 rfl ?_
  refine E_vld hs9 dJ1_charAt_3b067_8 h0 h1 ?_
  refine E_sipush dJ1_charAt_3b067_9 (by decide) ?_
  refine E_iand dJ1_charAt_3b067_12 ?_
  refine E_i2c dJ1_charAt_3b067_13 ?_
  rw [sCh_c i hs9 j.toNat (by omega)]
  refine E_zret dJ1_charAt_3b067_14 rfl (sCh_n i hs9 j.toNat (by omega)) ?_
  exact ⟨rfl, rfl⟩
set_option maxRecDepth 20000 in
set_option maxHeartbeats 3000000 in
theorem c_schar {G : Ctx} {M : Mem} {i : Nat} (hs9 : i < 9) {j : Int} (h0 : 0 ≤ j ∧ j < (sLen.getD i 0 : Nat)) : CT G m_J0_charAt_5068e 3 0 0 [vR (2 + i), vI j] M (rI M (sCh i j.toNat)) := by
  refine CT.of k_J0_charAt_5068e 0 (ls := [some (vR (2 + i)), some (vI j)]) rfl (Nat.le_of_ble_eq_true rfl) ?_
  refine E_aload_n dJ0_charAt_5068e_0 rfl ?_
  refine E_callK0 (i := i) hs9 qs_11 qs_12 dJ0_charAt_5068e_1 k_J0_isLatin1_aae02 qs_10 (c_isLatin1 hs9) (by omega) (Nat.le_of_ble_eq_true rfl) rfl rfl ?_
  rintro _ _ ⟨rfl, rfl⟩
  try dsimp only [pu]
  refine E_if_eq (tgt := 16) dJ0_charAt_5068e_4 (by decide) (fun h4 => ?_) (fun h4 => ?_)
  · exfalso; omega
  · refine E_aload_n dJ0_charAt_5068e_7 rfl ?_
    refine E_gfV hs9 rfl dJ0_charAt_5068e_8 ?_
    refine E_iload_n dJ0_charAt_5068e_11 rfl ?_
    refine i_J0_495 rfl dJ0_charAt_5068e_12 (c_l1char hs9 h0.1 h0.2) (by omega) (Nat.le_of_ble_eq_true rfl) rfl rfl ?_
    rintro _ _ ⟨rfl, rfl⟩
    try dsimp only [pu]
    refine E_zret dJ0_charAt_5068e_15 rfl (sCh_n i hs9 j.toNat (by omega)) ?_
    exact ⟨rfl, rfl⟩
