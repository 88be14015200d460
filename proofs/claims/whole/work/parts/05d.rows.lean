section EVB
variable {G : Ctx} {mt : MT} {d kc ks : Nat} {Q : Option MV → Mem → Prop} {pc : Nat} {ls : List (Option MV)} {st : List MV} {M : Mem}
theorem E_newI {n : Int} {N : Nat} (hd : decode mt.2.1 pc = .ok (.newarray .int, 2)) (hw : Cond.arrayClass .int ∈ AW) (h0 : n = (N : Int)) (h1 : N ≤ 1000000) (kk : EV G mt d kc ks Q (pc + 2) ls (vR (mN M) :: st) (mNew M (1, N))) : EV G mt d (kc + 1) (ks + N) Q pc ls (vI n :: st) M := by
  intro p l e R s m args below meth c H locs cells slots mc ms lsR stR C0 hR hkk hl hP hL hst
  obtain ⟨v, rest, rfl, ⟨j, rfl, hj⟩, hs1⟩ := hst.c
  have hN : j.toNatClampNeg = N := by rw [i32_clamp hj, h0]; rfl
  have hbt : N * componentBytes (newarray.typeOf .int) ≤ 536870912 := by
    have h5 : componentBytes (newarray.typeOf .int) = 4 := rfl
    rw [h5]; omega
  refine va_newaK (atype := .int) C0.1 C0.2.1 (C0.2.2.2.2.1 _ hw) rfl hd rfl (by rw [Int32.lt_iff_toInt_lt, hj, h0]; show ¬ (N : Int) < 0; omega) hN hbt (by omega) (by omega) rfl fun H' cA e1 e2 e3 e4 e5 => ?_
  have hcA : cA = gI G := Option.some.inj (e5.symm.trans C0.2.2.2.2.2.2.2.2.2.2.1.1)
  subst hcA
  have hq := hP.push (H' := H') (1, N) (by rw [e2]) e3 (by
    unfold CellR
    rw [show mS (mNew M (1, N)) (mN M) = (1, N) by simp [mS, mNew, mN]]
    refine ⟨by omega, fun _ => 0, ?_, fun j hj => ?_⟩
    · rw [show am G (mN M) = H.size by rw [am_hi hP.1, hP.2.1]]
      exact e1
    · simp [mI, mNew, mN])
  exact kk p l e R s m args below meth c H' locs (cells + 1) (slots + N) mc ms lsR _ C0 hR (by omega) hl hq.1 hL ⟨by show _ = rfv G _; rw [rfv_hi hP.1, hq.2], hs1⟩
theorem E_newB {n : Int} {N : Nat} (hd : decode mt.2.1 pc = .ok (.newarray .byte, 2)) (hw : Cond.arrayClass .byte ∈ AW) (h0 : n = (N : Int)) (h1 : N ≤ 1000000) (kk : EV G mt d kc ks Q (pc + 2) ls (vR (mN M) :: st) (mNew M (2, N))) : EV G mt d (kc + 1) (ks + N) Q pc ls (vI n :: st) M := by
  intro p l e R s m args below meth c H locs cells slots mc ms lsR stR C0 hR hkk hl hP hL hst
  obtain ⟨v, rest, rfl, ⟨j, rfl, hj⟩, hs1⟩ := hst.c
  have hN : j.toNatClampNeg = N := by rw [i32_clamp hj, h0]; rfl
  have hbt : N * componentBytes (newarray.typeOf .byte) ≤ 536870912 := by
    have h5 : componentBytes (newarray.typeOf .byte) = 1 := rfl
    rw [h5]; omega
  refine va_newaK (atype := .byte) C0.1 C0.2.1 (C0.2.2.2.2.1 _ hw) rfl hd rfl (by rw [Int32.lt_iff_toInt_lt, hj, h0]; show ¬ (N : Int) < 0; omega) hN hbt (by omega) (by omega) rfl fun H' cA e1 e2 e3 e4 e5 => ?_
  have hcA : cA = gB G := Option.some.inj (e5.symm.trans C0.2.2.2.2.2.2.2.2.2.2.1.2.1)
  subst hcA
  have hq := hP.push (H' := H') (2, N) (by rw [e2]) e3 (by
    unfold CellR
    rw [show mS (mNew M (2, N)) (mN M) = (2, N) by simp [mS, mNew, mN]]
    refine ⟨by omega, fun _ => 0, ?_, fun j hj => ?_⟩
    · rw [show am G (mN M) = H.size by rw [am_hi hP.1, hP.2.1]]
      exact e1
    · simp [mI, mNew, mN])
  exact kk p l e R s m args below meth c H' locs (cells + 1) (slots + N) mc ms lsR _ C0 hR (by omega) hl hq.1 hL ⟨by show _ = rfv G _; rw [rfv_hi hP.1, hq.2], hs1⟩
theorem E_newZ {n : Int} {N : Nat} (hd : decode mt.2.1 pc = .ok (.newarray .boolean, 2)) (hw : Cond.arrayClass .boolean ∈ AW) (h0 : n = (N : Int)) (h1 : N ≤ 1000000) (kk : EV G mt d kc ks Q (pc + 2) ls (vR (mN M) :: st) (mNew M (3, N))) : EV G mt d (kc + 1) (ks + N) Q pc ls (vI n :: st) M := by
  intro p l e R s m args below meth c H locs cells slots mc ms lsR stR C0 hR hkk hl hP hL hst
  obtain ⟨v, rest, rfl, ⟨j, rfl, hj⟩, hs1⟩ := hst.c
  have hN : j.toNatClampNeg = N := by rw [i32_clamp hj, h0]; rfl
  have hbt : N * componentBytes (newarray.typeOf .boolean) ≤ 536870912 := by
    have h5 : componentBytes (newarray.typeOf .boolean) = 1 := rfl
    rw [h5]; omega
  refine va_newaK (atype := .boolean) C0.1 C0.2.1 (C0.2.2.2.2.1 _ hw) rfl hd rfl (by rw [Int32.lt_iff_toInt_lt, hj, h0]; show ¬ (N : Int) < 0; omega) hN hbt (by omega) (by omega) rfl fun H' cA e1 e2 e3 e4 e5 => ?_
  have hcA : cA = gZ G := Option.some.inj (e5.symm.trans C0.2.2.2.2.2.2.2.2.2.2.1.2.2)
  subst hcA
  have hq := hP.push (H' := H') (3, N) (by rw [e2]) e3 (by
    unfold CellR
    rw [show mS (mNew M (3, N)) (mN M) = (3, N) by simp [mS, mNew, mN]]
    refine ⟨by omega, fun _ => 0, ?_, fun j hj => ?_⟩
    · rw [show am G (mN M) = H.size by rw [am_hi hP.1, hP.2.1]]
      exact e1
    · simp [mI, mNew, mN])
  exact kk p l e R s m args below meth c H' locs (cells + 1) (slots + N) mc ms lsR _ C0 hR (by omega) hl hq.1 hL ⟨by show _ = rfv G _; rw [rfv_hi hP.1, hq.2], hs1⟩
theorem E_new {ci idx : Nat} {C : String} {T : u_T} {N : Nat} (hd : decode mt.2.1 pc = .ok (.new idx, 3)) (hc : cls_[ci]? = some (C, T, N)) (hin : ∀ w ∈ u_ws C T N, w ∈ AW) (hty : ∀ k, k < N → parseFieldDescriptor (T k).2.2.1 = some (tyC ci k)) (hdv : ∀ k, k < N → defaultValue (tyC ci k) = if fk ci k = true then .null else .int 0)
    (hcl : Cond.classLink mt.1.cls idx C ∈ AW) (hinst : Cond.instantiable C N ∈ AW) (hini : Cond.initialized C ∈ AW) (kk : EV G mt d kc ks Q (pc + 3) ls (vR (mN M) :: st) (mNew M (4, ci))) : EV G mt d (kc + 1) (ks + N) Q pc ls st M := by
  intro p l e R s m args below meth c H locs cells slots mc ms lsR stR C0 hR hkk hl hP hL hst
  have hts := C0.2.2.2.2.1
  have hKn := C0.2.2.2.2.2.2.2.2.1.1 ci _ hc
  refine W.newcK C0.1 C0.2.1 C0.2.2.2.1 (hts _ hcl) (hts _ hinst) (hts _ hini) rfl hd (by omega) (by omega) hKn.2.1 rfl fun H' kC hkC e1 e2 e3 => ?_
  have hq := hP.push (H' := H') (4, ci) (by rw [e2]) e3 (by
    unfold CellR
    rw [show mS (mNew M (4, ci)) (mN M) = (4, ci) by simp [mS, mNew, mN]]
    refine ⟨_, _, hc, u_born (tyC ci) hts hin hKn hkC (by rw [show am G (mN M) = H.size by rw [am_hi hP.1, hP.2.1]]; exact e1) hty, fun k hk => ?_⟩
    unfold FV
    rw [hdv k hk]
    by_cases hf : fk ci k = true
    · rw [if_pos hf, if_pos hf]
      rw [show mR (mNew M (4, ci)) (mN M) k = 0 by simp [mR, mNew, mN]]
      rfl
    · rw [if_neg hf, if_neg hf]
      exact ⟨0, rfl, by simp [mI, mNew, mN]⟩)
  exact kk p l e R s m args below meth c H' locs (cells + 1) (slots + N) mc ms lsR _ C0 hR (by omega) hl hq.1 hL ⟨by show _ = rfv G _; rw [rfv_hi hP.1, hq.2], hst⟩
end EVB
