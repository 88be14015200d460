section EVB
variable {G : Ctx} {mt : MT} {d kc ks : Nat} {Q : Option MV → Mem → Prop} {pc : Nat} {ls : List (Option MV)} {st : List MV} {M : Mem}
theorem E_iald {a n : Nat} {i x : Int} (hd : decode mt.2.1 pc = .ok (.iaload, 1)) (hs : mS M a = (1, n)) (h0 : 0 ≤ i) (h1 : i < n) (hx : mI M a i = x) (kk : EV G mt d kc ks Q (pc + 1) ls (vI x :: st) M) : EV G mt d kc ks Q pc ls (vI i :: vR a :: st) M := by
  intro p l e R s m args below meth c H locs cells slots mc ms lsR stR C0 hR hkk hl hP hL hst
  obtain ⟨v, rest, rfl, ⟨j, rfl, hj⟩, hs1⟩ := hst.c
  obtain ⟨v, rest, rfl, hv, hs2⟩ := hs1.c
  have hv : v = rfv G a := hv
  obtain ⟨ha, hn, f, h2, h3⟩ := hP.arr hs
  rw [rfv_hi ha] at hv
  subst hv
  have hin := i32_in hj h0 h1
  have hlt : j.toNatClampNeg < n := Nat.not_le.mp fun q => hin (Or.inr q)
  have hval : (f j.toNatClampNeg).toInt = x := by
    rw [h3 _ hlt, i32_clamp hj, ← hx, Int.toNat_of_nonneg h0]
  exact W.iald (v := .int (f j.toNatClampNeg)) C0.1 C0.2.1 h2 (C0.2.2.2.2.2.2.2.2.2.1.1 n (fun j => .int (f j))) (fun q => by cases q) (by show ¬ (j < 0 ∨ (arrV _ _ _).slots.size ≤ _); rw [arrV_size]; exact hin) (by show (arrV _ _ _).slots[_]? = _; rw [arrV_read _ _ hlt]) rfl rfl hd (kk p l e R s m args below meth c H locs cells slots mc ms lsR _ C0 hR hkk hl hP hL ⟨⟨_, rfl, hval⟩, hs2⟩)
theorem E_bald {a n : Nat} {i x : Int} (hd : decode mt.2.1 pc = .ok (.baload, 1)) (hs : mS M a = (2, n)) (h0 : 0 ≤ i) (h1 : i < n) (hx : mI M a i = x) (kk : EV G mt d kc ks Q (pc + 1) ls (vI x :: st) M) : EV G mt d kc ks Q pc ls (vI i :: vR a :: st) M := by
  intro p l e R s m args below meth c H locs cells slots mc ms lsR stR C0 hR hkk hl hP hL hst
  obtain ⟨v, rest, rfl, ⟨j, rfl, hj⟩, hs1⟩ := hst.c
  obtain ⟨v, rest, rfl, hv, hs2⟩ := hs1.c
  have hv : v = rfv G a := hv
  obtain ⟨ha, hn, f, h2, h3⟩ := hP.arrB hs
  rw [rfv_hi ha] at hv
  subst hv
  have hin := i32_in hj h0 h1
  have hlt : j.toNatClampNeg < n := Nat.not_le.mp fun q => hin (Or.inr q)
  have hval : (f j.toNatClampNeg).toInt = x := by
    rw [h3 _ hlt, i32_clamp hj, ← hx, Int.toNat_of_nonneg h0]
  exact W.bald (v := .int (f j.toNatClampNeg)) C0.1 C0.2.1 h2 (C0.2.2.2.2.2.2.2.2.2.1.2.1 n (fun j => .int (f j))) (fun q => by cases q) (by show ¬ (j < 0 ∨ (arrV _ _ _).slots.size ≤ _); rw [arrV_size]; exact hin) (by show (arrV _ _ _).slots[_]? = _; rw [arrV_read _ _ hlt]) rfl rfl hd (kk p l e R s m args below meth c H locs cells slots mc ms lsR _ C0 hR hkk hl hP hL ⟨⟨_, rfl, hval⟩, hs2⟩)
theorem E_zald {a n : Nat} {i x : Int} (hd : decode mt.2.1 pc = .ok (.baload, 1)) (hs : mS M a = (3, n)) (h0 : 0 ≤ i) (h1 : i < n) (hx : mI M a i = x) (kk : EV G mt d kc ks Q (pc + 1) ls (vI x :: st) M) : EV G mt d kc ks Q pc ls (vI i :: vR a :: st) M := by
  intro p l e R s m args below meth c H locs cells slots mc ms lsR stR C0 hR hkk hl hP hL hst
  obtain ⟨v, rest, rfl, ⟨j, rfl, hj⟩, hs1⟩ := hst.c
  obtain ⟨v, rest, rfl, hv, hs2⟩ := hs1.c
  have hv : v = rfv G a := hv
  obtain ⟨ha, hn, f, h2, h3⟩ := hP.arrZ hs
  rw [rfv_hi ha] at hv
  subst hv
  have hin := i32_in hj h0 h1
  have hlt : j.toNatClampNeg < n := Nat.not_le.mp fun q => hin (Or.inr q)
  have hval : (f j.toNatClampNeg).toInt = x := by
    rw [h3 _ hlt, i32_clamp hj, ← hx, Int.toNat_of_nonneg h0]
  exact W.zald (v := .int (f j.toNatClampNeg)) C0.1 C0.2.1 h2 (C0.2.2.2.2.2.2.2.2.2.1.2.2 n (fun j => .int (f j))) (fun q => by cases q) (by show ¬ (j < 0 ∨ (arrV _ _ _).slots.size ≤ _); rw [arrV_size]; exact hin) (by show (arrV _ _ _).slots[_]? = _; rw [arrV_read _ _ hlt]) rfl rfl hd (kk p l e R s m args below meth c H locs cells slots mc ms lsR _ C0 hR hkk hl hP hL ⟨⟨_, rfl, hval⟩, hs2⟩)
end EVB
