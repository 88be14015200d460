section EVB
variable {G : Ctx} {mt : MT} {d kc ks : Nat} {Q : Option MV → Mem → Prop} {pc : Nat} {ls : List (Option MV)} {st : List MV} {M : Mem}
theorem E_alen {a n : Nat} (hd : decode mt.2.1 pc = .ok (.arraylength, 1)) (hs : mS M a = (1, n)) (kk : EV G mt d kc ks Q (pc + 1) ls (vI (n : Int) :: st) M) : EV G mt d kc ks Q pc ls (vR a :: st) M := by
  intro p l e R s m args below meth c H locs cells slots mc ms lsR stR C0 hR hkk hl hP hL hst
  obtain ⟨v, rest, rfl, hv, hs1⟩ := hst.c
  have hv : v = rfv G a := hv
  obtain ⟨ha, hn, f, h2, h3⟩ := hP.arr hs
  rw [rfv_hi ha] at hv
  subst hv
  exact W.alen (n := Int32.ofNat n) C0.1 C0.2.1 h2 (C0.2.2.2.2.2.2.2.2.2.1.1 n (fun j => .int (f j))) (by rw [arrV_size]) rfl rfl hd (kk p l e R s m args below meth c H locs cells slots mc ms lsR _ C0 hR hkk hl hP hL ⟨⟨_, rfl, nI_toInt (show _ < 2 ^ 31 by omega)⟩, hs1⟩)
/-- the script -/
theorem E_slen (hd : decode mt.2.1 pc = .ok (.arraylength, 1)) (hn : gL G < 2147483648) (kk : EV G mt d kc ks Q (pc + 1) ls (vI (gL G : Int) :: st) M) : EV G mt d kc ks Q pc ls (vR 1 :: st) M := by
  intro p l e R s m args below meth c H locs cells slots mc ms lsR stR C0 hR hkk hl hP hL hst
  obtain ⟨v, rest, rfl, hv, hs1⟩ := hst.c
  have hv : v = rfv G 1 := hv
  rw [show rfv G 1 = .ref (gs G) from rfl] at hv
  subst hv
  obtain ⟨⟨scr, x1, x2, x3, x4, x5⟩, hb⟩ := C0.2.2.2.2.2.2.2.2.2.2.2.1
  exact W.alen (n := Int32.ofNat (gL G)) C0.1 C0.2.1 ((hP.2.2.1 _ hb).trans x1) x2 (by rw [x4]) rfl rfl hd (kk p l e R s m args below meth c H locs cells slots mc ms lsR _ C0 hR hkk hl hP hL ⟨⟨_, rfl, nI_toInt (show _ < 2 ^ 31 by omega)⟩, hs1⟩)
theorem E_sld {i x : Int} (hd : decode mt.2.1 pc = .ok (.iaload, 1)) (h0 : 0 ≤ i) (h1 : i < gL G) (hx : mI M 1 i = x) (kk : EV G mt d kc ks Q (pc + 1) ls (vI x :: st) M) : EV G mt d kc ks Q pc ls (vI i :: vR 1 :: st) M := by
  intro p l e R s m args below meth c H locs cells slots mc ms lsR stR C0 hR hkk hl hP hL hst
  obtain ⟨v, rest, rfl, ⟨j, rfl, hj⟩, hs1⟩ := hst.c
  obtain ⟨v, rest, rfl, hv, hs2⟩ := hs1.c
  have hv : v = rfv G 1 := hv
  rw [show rfv G 1 = .ref (gs G) from rfl] at hv
  subst hv
  obtain ⟨⟨scr, x1, x2, x3, x4, x5⟩, hb⟩ := C0.2.2.2.2.2.2.2.2.2.2.2.1
  have hin := i32_in hj h0 h1
  have hlt : j.toNatClampNeg < gL G := Nat.not_le.mp fun q => hin (Or.inr q)
  have hval : (gx G j.toNatClampNeg).toInt = x := by
    rw [← hP.2.2.2.2.2.1, i32_clamp hj, ← hx, Int.toNat_of_nonneg h0]
  exact W.iald (v := .int (gx G j.toNatClampNeg)) C0.1 C0.2.1 ((hP.2.2.1 _ hb).trans x1) x2 x3 (by rw [x4]; exact hin) (x5 _ hlt) rfl rfl hd (kk p l e R s m args below meth c H locs cells slots mc ms lsR _ C0 hR hkk hl hP hL ⟨⟨_, rfl, hval⟩, hs2⟩)
end EVB
