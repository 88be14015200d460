section EVB
variable {G : Ctx} {mt : MT} {d kc ks : Nat} {Q : Option MV → Mem → Prop} {pc : Nat} {ls : List (Option MV)} {st : List MV} {M : Mem}
theorem E_iast {a n : Nat} {i x : Int} (hd : decode mt.2.1 pc = .ok (.iastore, 1)) (hs : mS M a = (1, n)) (h0 : 0 ≤ i) (h1 : i < n) (kk : EV G mt d kc ks Q (pc + 1) ls st (mWI M a i x)) : EV G mt d kc ks Q pc ls (vI x :: vI i :: vR a :: st) M := by
  intro p l e R s m args below meth c H locs cells slots mc ms lsR stR C0 hR hkk hl hP hL hst
  obtain ⟨v, rest, rfl, ⟨ix, rfl, hi⟩, hs1⟩ := hst.c
  obtain ⟨v, rest, rfl, ⟨j, rfl, hj⟩, hs2⟩ := hs1.c
  obtain ⟨v, rest, rfl, hv, hs3⟩ := hs2.c
  have hv : v = rfv G a := hv
  obtain ⟨ha, hn, f, h2, h3⟩ := hP.arr hs
  rw [rfv_hi ha] at hv
  subst hv
  have hin := i32_in hj h0 h1
  have hlt : j.toNatClampNeg < n := Nat.not_le.mp fun q => hin (Or.inr q)
  have hji : ((j.toNatClampNeg : Nat) : Int) = i := by rw [i32_clamp hj, Int.toNat_of_nonneg h0]
  refine W.iast C0.1 C0.2.1 h2 (C0.2.2.2.2.2.2.2.2.2.1.1 n (fun j => .int (f j))) (fun q => by cases q) (by show ¬ (j < 0 ∨ (arrV _ _ _).slots.size ≤ _); rw [arrV_size]; exact hin) rfl rfl hd fun H' e1 e2 e3 => ?_
  refine kk p l e R s m args below meth c H' _ cells slots mc ms lsR _ C0 hR hkk ?_ ?_ hL hs3
  · intro q hq
    rcases List.mem_append.mp hq with h | h
    · exact hl q h
    · rw [List.mem_singleton.mp h]
      show gb G ≤ am G a
      rw [am_hi ha]; omega
  · refine hP.write ha rfl rfl (fun b j hb => up2_ne _ _ (fun h => hb h.1)) (fun b j hb => rfl) e2 e3 ?_
    unfold CellR
    rw [show mS (mWI M a i x) a = (1, n) from hs]
    refine ⟨hn, fun q => if q = j.toNatClampNeg then ix else f q, ?_, fun q hq => ?_⟩
    · rw [e1, arrV_store]
      congr 2
      funext q
      by_cases hq : q = j.toNatClampNeg
      · simp [updV, hq]
      · simp [updV, hq]
    · by_cases hq2 : q = j.toNatClampNeg
      · subst hq2
        dsimp only
        rw [if_pos rfl, hi, hji]
        exact (up2_self _ _ _ _).symm
      · dsimp only
        rw [if_neg hq2, h3 q hq]
        refine (up2_ne _ _ (fun h => hq2 ?_)).symm
        have := h.2
        omega
theorem E_bast {a n : Nat} {i x : Int} (hd : decode mt.2.1 pc = .ok (.bastore, 1)) (hs : mS M a = (2, n)) (h0 : 0 ≤ i) (h1 : i < n) (hn0 : narrow .byte (.int (Int32.ofInt x)) = .int (Int32.ofInt x)) (kk : EV G mt d kc ks Q (pc + 1) ls st (mWI M a i x)) : EV G mt d kc ks Q pc ls (vI x :: vI i :: vR a :: st) M := by
  intro p l e R s m args below meth c H locs cells slots mc ms lsR stR C0 hR hkk hl hP hL hst
  obtain ⟨v, rest, rfl, ⟨ix, rfl, hi⟩, hs1⟩ := hst.c
  obtain ⟨v, rest, rfl, ⟨j, rfl, hj⟩, hs2⟩ := hs1.c
  obtain ⟨v, rest, rfl, hv, hs3⟩ := hs2.c
  have hv : v = rfv G a := hv
  obtain ⟨ha, hn, f, h2, h3⟩ := hP.arrB hs
  rw [rfv_hi ha] at hv
  subst hv
  have hin := i32_in hj h0 h1
  have hlt : j.toNatClampNeg < n := Nat.not_le.mp fun q => hin (Or.inr q)
  have hji : ((j.toNatClampNeg : Nat) : Int) = i := by rw [i32_clamp hj, Int.toNat_of_nonneg h0]
  refine W.bast C0.1 C0.2.1 h2 (C0.2.2.2.2.2.2.2.2.2.1.2.1 n (fun j => .int (f j))) (fun q => by cases q) (by show ¬ (j < 0 ∨ (arrV _ _ _).slots.size ≤ _); rw [arrV_size]; exact hin) rfl rfl hd fun H' e1 e2 e3 => ?_
  refine kk p l e R s m args below meth c H' _ cells slots mc ms lsR _ C0 hR hkk ?_ ?_ hL hs3
  · intro q hq
    rcases List.mem_append.mp hq with h | h
    · exact hl q h
    · rw [List.mem_singleton.mp h]
      show gb G ≤ am G a
      rw [am_hi ha]; omega
  · refine hP.write ha rfl rfl (fun b j hb => up2_ne _ _ (fun h => hb h.1)) (fun b j hb => rfl) e2 e3 ?_
    rw [show narrow .byte (.int ix) = .int ix by rw [← i32_of ix, hi]; exact hn0] at e1
    unfold CellR
    rw [show mS (mWI M a i x) a = (2, n) from hs]
    refine ⟨hn, fun q => if q = j.toNatClampNeg then ix else f q, ?_, fun q hq => ?_⟩
    · rw [e1, arrV_store]
      congr 2
      funext q
      by_cases hq : q = j.toNatClampNeg
      · simp [updV, hq]
      · simp [updV, hq]
    · by_cases hq2 : q = j.toNatClampNeg
      · subst hq2
        dsimp only
        rw [if_pos rfl, hi, hji]
        exact (up2_self _ _ _ _).symm
      · dsimp only
        rw [if_neg hq2, h3 q hq]
        refine (up2_ne _ _ (fun h => hq2 ?_)).symm
        have := h.2
        omega
theorem E_zast {a n : Nat} {i x : Int} (hd : decode mt.2.1 pc = .ok (.bastore, 1)) (hs : mS M a = (3, n)) (h0 : 0 ≤ i) (h1 : i < n) (hn0 : narrow .boolean (.int (Int32.ofInt x)) = .int (Int32.ofInt x)) (kk : EV G mt d kc ks Q (pc + 1) ls st (mWI M a i x)) : EV G mt d kc ks Q pc ls (vI x :: vI i :: vR a :: st) M := by
  intro p l e R s m args below meth c H locs cells slots mc ms lsR stR C0 hR hkk hl hP hL hst
  obtain ⟨v, rest, rfl, ⟨ix, rfl, hi⟩, hs1⟩ := hst.c
  obtain ⟨v, rest, rfl, ⟨j, rfl, hj⟩, hs2⟩ := hs1.c
  obtain ⟨v, rest, rfl, hv, hs3⟩ := hs2.c
  have hv : v = rfv G a := hv
  obtain ⟨ha, hn, f, h2, h3⟩ := hP.arrZ hs
  rw [rfv_hi ha] at hv
  subst hv
  have hin := i32_in hj h0 h1
  have hlt : j.toNatClampNeg < n := Nat.not_le.mp fun q => hin (Or.inr q)
  have hji : ((j.toNatClampNeg : Nat) : Int) = i := by rw [i32_clamp hj, Int.toNat_of_nonneg h0]
  refine W.zast C0.1 C0.2.1 h2 (C0.2.2.2.2.2.2.2.2.2.1.2.2 n (fun j => .int (f j))) (fun q => by cases q) (by show ¬ (j < 0 ∨ (arrV _ _ _).slots.size ≤ _); rw [arrV_size]; exact hin) rfl rfl hd fun H' e1 e2 e3 => ?_
  refine kk p l e R s m args below meth c H' _ cells slots mc ms lsR _ C0 hR hkk ?_ ?_ hL hs3
  · intro q hq
    rcases List.mem_append.mp hq with h | h
    · exact hl q h
    · rw [List.mem_singleton.mp h]
      show gb G ≤ am G a
      rw [am_hi ha]; omega
  · refine hP.write ha rfl rfl (fun b j hb => up2_ne _ _ (fun h => hb h.1)) (fun b j hb => rfl) e2 e3 ?_
    rw [show narrow .boolean (.int ix) = .int ix by rw [← i32_of ix, hi]; exact hn0] at e1
    unfold CellR
    rw [show mS (mWI M a i x) a = (3, n) from hs]
    refine ⟨hn, fun q => if q = j.toNatClampNeg then ix else f q, ?_, fun q hq => ?_⟩
    · rw [e1, arrV_store]
      congr 2
      funext q
      by_cases hq : q = j.toNatClampNeg
      · simp [updV, hq]
      · simp [updV, hq]
    · by_cases hq2 : q = j.toNatClampNeg
      · subst hq2
        dsimp only
        rw [if_pos rfl, hi, hji]
        exact (up2_self _ _ _ _).symm
      · dsimp only
        rw [if_neg hq2, h3 q hq]
        refine (up2_ne _ _ (fun h => hq2 ?_)).symm
        have := h.2
        omega
end EVB
