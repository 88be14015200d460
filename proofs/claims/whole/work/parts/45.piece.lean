theorem pw_901 : Cond.fieldLink "CourtWash$Piece" 7 "CourtWash$Piece" "number" "I" ∈ AW := aw_mem (List.mem_of_getElem? (i := 901) (by decide +kernel)) (by decide +kernel)
theorem pw_902 : Cond.fieldLink "CourtWash$Piece" 13 "CourtWash$Piece" "wet" "I" ∈ AW := aw_mem (List.mem_of_getElem? (i := 902) (by decide +kernel)) (by decide +kernel)
theorem pw_903 : Cond.fieldLink "CourtWash$Piece" 16 "CourtWash$Piece" "yards" "I" ∈ AW := aw_mem (List.mem_of_getElem? (i := 903) (by decide +kernel)) (by decide +kernel)
theorem pw_908 : Cond.fieldLink "CourtWash$Piece" 19 "CourtWash$Piece" "trace" "LCourtWash$Trace;" ∈ AW := aw_mem (List.mem_of_getElem? (i := 908) (by decide +kernel)) (by decide +kernel)
theorem pw_911 : Cond.fieldLink "CourtWash$Red" 7 "CourtWash$Red" "trace" "LCourtWash$Trace;" ∈ AW := aw_mem (List.mem_of_getElem? (i := 911) (by decide +kernel)) (by decide +kernel)
theorem pw_912 : Cond.sameField "CourtWash$Red" "CourtWash$Piece" "trace" "LCourtWash$Trace;" ∈ AW := aw_mem (List.mem_of_getElem? (i := 912) (by decide +kernel)) (by decide +kernel)
theorem pw_906 : Cond.fieldLink "CourtWash$Red" 27 "CourtWash$Red" "yards" "I" ∈ AW := aw_mem (List.mem_of_getElem? (i := 906) (by decide +kernel)) (by decide +kernel)
theorem pw_907 : Cond.sameField "CourtWash$Red" "CourtWash$Piece" "yards" "I" ∈ AW := aw_mem (List.mem_of_getElem? (i := 907) (by decide +kernel)) (by decide +kernel)
theorem pw_915 : Cond.fieldLink "CourtWash$Wool" 7 "CourtWash$Wool" "trace" "LCourtWash$Trace;" ∈ AW := aw_mem (List.mem_of_getElem? (i := 915) (by decide +kernel)) (by decide +kernel)
theorem pw_916 : Cond.sameField "CourtWash$Wool" "CourtWash$Piece" "trace" "LCourtWash$Trace;" ∈ AW := aw_mem (List.mem_of_getElem? (i := 916) (by decide +kernel)) (by decide +kernel)
theorem pw_904 : Cond.fieldLink "CourtWash$Wool" 23 "CourtWash$Wool" "yards" "I" ∈ AW := aw_mem (List.mem_of_getElem? (i := 904) (by decide +kernel)) (by decide +kernel)
theorem pw_905 : Cond.sameField "CourtWash$Wool" "CourtWash$Piece" "yards" "I" ∈ AW := aw_mem (List.mem_of_getElem? (i := 905) (by decide +kernel)) (by decide +kernel)
theorem pw_1007 : Cond.methodLink "CourtWash$Red" 26 yX2_mark ∈ AW := aw_mem (List.mem_of_getElem? (i := 1007) (by decide +kernel)) (by decide +kernel)
theorem pw_1483 : Cond.sameMethod "CourtWash$Piece" "CourtWash$Piece" "mark" "()I" ∈ AW := aw_mem (List.mem_of_getElem? (i := 1483) (by decide +kernel)) (by decide +kernel)
theorem pw_927 : Cond.superclass "CourtWash$Red" "CourtWash$Piece" ∈ AW := aw_mem (List.mem_of_getElem? (i := 927) (by decide +kernel)) (by decide +kernel)
theorem pw_1008 : Cond.instanceMethod yX2_mark ∈ AW := aw_mem (List.mem_of_getElem? (i := 1008) (by decide +kernel)) (by decide +kernel)
theorem pw_1005 : Cond.methodLink "CourtWash$Black" 23 yX4_mark ∈ AW := aw_mem (List.mem_of_getElem? (i := 1005) (by decide +kernel)) (by decide +kernel)
theorem pw_1001 : Cond.sameMethod "CourtWash$Red" "CourtWash$Red" "mark" "()I" ∈ AW := aw_mem (List.mem_of_getElem? (i := 1001) (by decide +kernel)) (by decide +kernel)
theorem pw_938 : Cond.superclass "CourtWash$Black" "CourtWash$Red" ∈ AW := aw_mem (List.mem_of_getElem? (i := 938) (by decide +kernel)) (by decide +kernel)
theorem pw_999 : Cond.instanceMethod ⟨"CourtWash$Red", "mark", "()I"⟩ ∈ AW := aw_mem (List.mem_of_getElem? (i := 999) (by decide +kernel)) (by decide +kernel)
theorem pw_997 : Cond.methodLink "CourtWash$Red" 19 yX2_size ∈ AW := aw_mem (List.mem_of_getElem? (i := 997) (by decide +kernel)) (by decide +kernel)
theorem pw_985 : Cond.sameMethod "CourtWash$Piece" "CourtWash$Piece" "size" "()I" ∈ AW := aw_mem (List.mem_of_getElem? (i := 985) (by decide +kernel)) (by decide +kernel)
theorem pw_984 : Cond.instanceMethod yX2_size ∈ AW := aw_mem (List.mem_of_getElem? (i := 984) (by decide +kernel)) (by decide +kernel)
theorem pw_998 : Cond.methodLink "CourtWash$Red" 23 ⟨"CourtWash$Red", "mark", "()I"⟩ ∈ AW := aw_mem (List.mem_of_getElem? (i := 998) (by decide +kernel)) (by decide +kernel)
theorem pw_1002 : Cond.selects "CourtWash$Black" ⟨"CourtWash$Red", "mark", "()I"⟩ yX0_mark ∈ AW := aw_mem (List.mem_of_getElem? (i := 1002) (by decide +kernel)) (by decide +kernel)
theorem pw_1003 : Cond.instanceMethod yX0_mark ∈ AW := aw_mem (List.mem_of_getElem? (i := 1003) (by decide +kernel)) (by decide +kernel)
theorem pw_993 : Cond.methodLink "CourtWash$Black" 19 yX4_size ∈ AW := aw_mem (List.mem_of_getElem? (i := 993) (by decide +kernel)) (by decide +kernel)
theorem pw_1482 : Cond.sameMethod "CourtWash$Red" "CourtWash$Red" "size" "()I" ∈ AW := aw_mem (List.mem_of_getElem? (i := 1482) (by decide +kernel)) (by decide +kernel)
theorem pw_994 : Cond.instanceMethod yX4_size ∈ AW := aw_mem (List.mem_of_getElem? (i := 994) (by decide +kernel)) (by decide +kernel)
theorem pw_1021 : Cond.methodLink "CourtWash$Wool" 19 yX2_size ∈ AW := aw_mem (List.mem_of_getElem? (i := 1021) (by decide +kernel)) (by decide +kernel)
theorem pw_949 : Cond.superclass "CourtWash$Wool" "CourtWash$Piece" ∈ AW := aw_mem (List.mem_of_getElem? (i := 949) (by decide +kernel)) (by decide +kernel)
theorem pw_1028 : Cond.methodLink "CourtWash$Sheet" 19 yX2_mark ∈ AW := aw_mem (List.mem_of_getElem? (i := 1028) (by decide +kernel)) (by decide +kernel)
theorem pw_960 : Cond.superclass "CourtWash$Sheet" "CourtWash$Piece" ∈ AW := aw_mem (List.mem_of_getElem? (i := 960) (by decide +kernel)) (by decide +kernel)
theorem pw_1029 : Cond.methodLink "CourtWash$Sheet" 23 ⟨"CourtWash$Sheet", "size", "()I"⟩ ∈ AW := aw_mem (List.mem_of_getElem? (i := 1029) (by decide +kernel)) (by decide +kernel)
theorem pw_1030 : Cond.sameMethod "CourtWash$Sheet" "CourtWash$Piece" "size" "()I" ∈ AW := aw_mem (List.mem_of_getElem? (i := 1030) (by decide +kernel)) (by decide +kernel)
theorem pw_1032 : Cond.selects "CourtWash$Sheet" ⟨"CourtWash$Sheet", "size", "()I"⟩ yX2_size ∈ AW := aw_mem (List.mem_of_getElem? (i := 1032) (by decide +kernel)) (by decide +kernel)
theorem pw_1017 : Cond.methodLink "CourtWash$Sock" 19 yX10_size ∈ AW := aw_mem (List.mem_of_getElem? (i := 1017) (by decide +kernel)) (by decide +kernel)
theorem pw_1484 : Cond.sameMethod "CourtWash$Wool" "CourtWash$Wool" "size" "()I" ∈ AW := aw_mem (List.mem_of_getElem? (i := 1484) (by decide +kernel)) (by decide +kernel)
theorem pw_971 : Cond.superclass "CourtWash$Sock" "CourtWash$Wool" ∈ AW := aw_mem (List.mem_of_getElem? (i := 971) (by decide +kernel)) (by decide +kernel)
theorem pw_1018 : Cond.instanceMethod yX10_size ∈ AW := aw_mem (List.mem_of_getElem? (i := 1018) (by decide +kernel)) (by decide +kernel)
/-! ===== 45: the pieces: rows for calls that are inherited or overridden, for instanceof; their methods ===== -/
theorem awg {l : List Cond} (h : ∀ w ∈ l, w ∈ AW) : GoodIn AW l := fun w hw => ⟨h w hw, good_of_word (List.mem_filter.mp (h w hw)).2⟩
section PIE
variable {G : Ctx} {mt : MT} {d kc ks : Nat} {Q : Option MV → Mem → Prop} {pc : Nat} {ls : List (Option MV)} {st : List MV} {M : Mem}
/-- an inherited method -/
theorem E_callU {mt' : MT} {d' mc' ms' idx : Nat} {Q' : Option MV → Mem → Prop} {b ci : Nat} {q : vw_C} {x : MethodName} {owner : String} (hyx : mt'.1 = ⟨owner, x.name, x.desc⟩) (hl1 : Cond.methodLink mt.1.cls idx x ∈ AW) (hl2 : Cond.sameMethod x.cls owner x.name x.desc ∈ AW) (hl3 : Cond.selects q.1 x mt'.1 ∈ AW) (hl4 : Cond.instanceMethod mt'.1 ∈ AW) (hx : owner ≠ "java/lang/invoke/MethodHandle" ∧ owner ≠ "java/lang/invoke/VarHandle" ∧ (parseMethodDescriptor x.desc).map (fun d => d.parameters.length) = some 0) (hc : cls_[ci]? = some q) (hs : mS M b = (4, ci)) (hd : decode mt.2.1 pc = .ok (.invokevirtual idx, 3)) (hm : MK mt' 0) (hct : CT G mt' d' mc' ms' [vR b] M Q') (hdd : d' + 1 ≤ d) (hw : (st.map wd).sum ≤ 8) (k : ∀ r M', Q' r M' → EV G mt d kc ks Q (pc + 3) ls (pu r st) M') : EV G mt d (kc + mc') (ks + ms') Q pc ls (vR b :: st) M := by
  intro p l e R s m args below meth c H locs cells slots mc ms lsR stR C0 hR hkk hl hP hL hst
  have hts := C0.2.2.2.2.1
  have hK := C0.2.2.2.2.2.2.2.2
  obtain ⟨w, rest, rfl, hv, hs3⟩ := hst.c
  have hv : w = rfv G b := hv
  obtain ⟨hb, r, V, h1, ⟨cell, q1, q2, q3, q4⟩, h3⟩ := hP.obj hs
  rw [rfv_hi hb] at hv
  subst hv
  refine EV.behind C0 hR hkk hl hL hs3 (va_runU (C := q.1) (owner := owner) (x := x) (b := am G b) (As := []) (rest := rest) (n := 0) ⟨C0.1, C0.2.1, C0.2.2.1, C0.2.2.2.1, hts⟩ (hct l) (va_cwU (rm := rmX d' mc' ms') 0 hts (awg (fun w hw => by
      unfold va_wsU at hw
      rcases List.mem_append.mp hw with h | h
      · simp only [List.mem_cons, List.not_mem_nil, or_false] at h
        rcases h with rfl | rfl | rfl | rfl | rfl
        · exact hl1
        · exact hl2
        · exact hl3
        · exact hl4
        · exact hm.2.1
      · rcases List.mem_cons.mp h with rfl | h
        · exact hm.1
        · exact h)) rfl rfl rfl hyx hx ⟨by show d' + 1 ≤ _; omega, by have := hm.2.2.2.1; show 8 + (_ + 11) + 64 * d' ≤ _; omega⟩) ⟨PX.blind, ⟨cell, q1, by rw [q3]; rfl, by rw [q2]; exact (hK.1.1 ci q hc).2.1⟩, fun U hU hW => ⟨⟨_, rfl, ⟨(rfv_hi hb).symm, trivial⟩⟩, by rw [hU]; exact hP, hK.warm hW⟩⟩ rfl rfl ?_ rfl (lv_room (by rw [wd_sum hK hs3]; exact hw)) hd ⟨by omega, by omega⟩) k
  obtain ⟨lv, q, -⟩ := hL; exact q.1
/-- an overridden method -/
theorem E_callO {mt' : MT} {d' mc' ms' idx : Nat} {Q' : Option MV → Mem → Prop} {b ci : Nat} {q : vw_C} {x : MethodName} {owner : String} {b0 : ByteArray} {m0 : Nat} {r0 : Option FieldType} (h0 : Cond.code ⟨owner, x.name, x.desc⟩ b0 m0 r0 ∈ AW) (hl1 : Cond.methodLink mt.1.cls idx x ∈ AW) (hl2 : Cond.sameMethod x.cls owner x.name x.desc ∈ AW) (hl5 : Cond.instanceMethod ⟨owner, x.name, x.desc⟩ ∈ AW) (hl3 : Cond.selects q.1 x mt'.1 ∈ AW) (hl4 : Cond.instanceMethod mt'.1 ∈ AW) (hx : owner ≠ "java/lang/invoke/MethodHandle" ∧ owner ≠ "java/lang/invoke/VarHandle" ∧ (parseMethodDescriptor x.desc).map (fun d => d.parameters.length) = some 0) (hc : cls_[ci]? = some q) (hs : mS M b = (4, ci)) (hd : decode mt.2.1 pc = .ok (.invokevirtual idx, 3)) (hm : MK mt' 0) (hct : CT G mt' d' mc' ms' [vR b] M Q') (hdd : d' + 1 ≤ d) (hw : (st.map wd).sum ≤ 8) (k : ∀ r M', Q' r M' → EV G mt d kc ks Q (pc + 3) ls (pu r st) M') : EV G mt d (kc + mc') (ks + ms') Q pc ls (vR b :: st) M := by
  intro p l e R s m args below meth c H locs cells slots mc ms lsR stR C0 hR hkk hl hP hL hst
  have hts := C0.2.2.2.2.1
  have hK := C0.2.2.2.2.2.2.2.2
  obtain ⟨w, rest, rfl, hv, hs3⟩ := hst.c
  have hv : w = rfv G b := hv
  obtain ⟨hb, r, V, h1, ⟨cell, q1, q2, q3, q4⟩, h3⟩ := hP.obj hs
  rw [rfv_hi hb] at hv
  subst hv
  refine EV.behind C0 hR hkk hl hL hs3 (va_runU (C := q.1) (owner := owner) (x := x) (b := am G b) (As := []) (rest := rest) (n := 0) ⟨C0.1, C0.2.1, C0.2.2.1, C0.2.2.2.1, hts⟩ (hct l) (va_cwO (rm := rmX d' mc' ms') 0 hts (awg (fun w hw => by
      unfold va_wsO at hw
      rcases List.mem_append.mp hw with h | h
      · simp only [List.mem_cons, List.not_mem_nil, or_false] at h
        rcases h with rfl | rfl | rfl | rfl | rfl | rfl
        · exact hl1
        · exact hl2
        · exact hl5
        · exact hl3
        · exact hl4
        · exact hm.2.1
      · rcases List.mem_cons.mp h with rfl | h
        · exact hm.1
        · exact h)) rfl rfl rfl h0 hx ⟨by show d' + 1 ≤ _; omega, by have := hm.2.2.2.1; show 8 + (_ + 11) + 64 * d' ≤ _; omega⟩) ⟨PX.blind, ⟨cell, q1, by rw [q3]; rfl, by rw [q2]; exact (hK.1.1 ci q hc).2.1⟩, fun U hU hW => ⟨⟨_, rfl, ⟨(rfv_hi hb).symm, trivial⟩⟩, by rw [hU]; exact hP, hK.warm hW⟩⟩ rfl rfl ?_ rfl (lv_room (by rw [wd_sum hK hs3]; exact hw)) hd ⟨by omega, by omega⟩) k
  obtain ⟨lv, q, -⟩ := hL; exact q.1
/-- a superclass's method -/
theorem E_callSU {mt' : MT} {d' mc' ms' idx : Nat} {Q' : Option MV → Mem → Prop} {b ci : Nat} {q : vw_C} (hl1 : Cond.methodLink mt.1.cls idx mt'.1 ∈ AW) (hl2 : Cond.sameMethod mt'.1.cls mt'.1.cls mt'.1.name mt'.1.desc ∈ AW) (hl3 : Cond.superclass mt.1.cls mt'.1.cls ∈ AW) (hl4 : Cond.instanceMethod mt'.1 ∈ AW) (hx : mt'.1.name ≠ "<init>" ∧ (parseMethodDescriptor mt'.1.desc).map (fun d => d.parameters.length) = some 0) (hc : cls_[ci]? = some q) (hs : mS M b = (4, ci)) (hd : decode mt.2.1 pc = .ok (.invokespecial idx, 3)) (hm : MK mt' 0) (hct : CT G mt' d' mc' ms' [vR b] M Q') (hdd : d' + 1 ≤ d) (hw : (st.map wd).sum ≤ 8) (k : ∀ r M', Q' r M' → EV G mt d kc ks Q (pc + 3) ls (pu r st) M') : EV G mt d (kc + mc') (ks + ms') Q pc ls (vR b :: st) M := by
  intro p l e R s m args below meth c H locs cells slots mc ms lsR stR C0 hR hkk hl hP hL hst
  have hts := C0.2.2.2.2.1
  have hK := C0.2.2.2.2.2.2.2.2
  obtain ⟨w, rest, rfl, hv, hs3⟩ := hst.c
  have hv : w = rfv G b := hv
  obtain ⟨hb, r, V, h1, ⟨cell, q1, q2, q3, q4⟩, h3⟩ := hP.obj hs
  rw [rfv_hi hb] at hv
  subst hv
  refine EV.behind C0 hR hkk hl hL hs3 (va_runSU (C := q.1) (b := am G b) (As := []) (rest := rest) (n := 0) (hK.1.1 ci q hc).2 ⟨C0.1, C0.2.1, C0.2.2.1, C0.2.2.2.1, hts⟩ (hct l) (va_cwSU (rm := rmX d' mc' ms') 0 hts (awg (fun w hw => by
      unfold va_wsSU at hw
      rcases List.mem_append.mp hw with h | h
      · simp only [List.mem_cons, List.not_mem_nil, or_false] at h
        rcases h with rfl | rfl | rfl | rfl | rfl
        · exact hl1
        · exact hl2
        · exact hl3
        · exact hl4
        · exact hm.2.1
      · rcases List.mem_cons.mp h with rfl | h
        · exact hm.1
        · exact h)) rfl rfl rfl hx ⟨by show d' + 1 ≤ _; omega, by have := hm.2.2.2.1; show 8 + (_ + 11) + 64 * d' ≤ _; omega⟩) ⟨PX.blind, ⟨cell, q1, by rw [q3]; rfl, by rw [q2]; exact (hK.1.1 ci q hc).2.1⟩, fun U hU hW => ⟨⟨_, rfl, ⟨(rfv_hi hb).symm, trivial⟩⟩, by rw [hU]; exact hP, hK.warm hW⟩⟩ rfl rfl ?_ rfl (lv_room (by rw [wd_sum hK hs3]; exact hw)) hd ⟨by omega, by omega⟩) k
  obtain ⟨lv, q, -⟩ := hL; exact q.1
theorem E_instS {idx b ci : Nat} {q : vw_C} (hc : cls_[ci]? = some q) (hs : mS M b = (4, ci)) (hlk : Cond.classLink mt.1.cls idx q.1 ∈ AW) (hd : decode mt.2.1 pc = .ok (.instanceof idx, 3)) (kk : EV G mt d kc ks Q (pc + 3) ls (vI 1 :: st) M) : EV G mt d kc ks Q pc ls (vR b :: st) M := by
  intro p l e R s m args below meth c H locs cells slots mc ms lsR stR C0 hR hkk hl hP hL hst
  have hts := C0.2.2.2.2.1
  have hK := C0.2.2.2.2.2.2.2.2
  obtain ⟨w, rest, rfl, hv, hs3⟩ := hst.c
  have hv : w = rfv G b := hv
  obtain ⟨hb, r, V, h1, ⟨cell, q1, q2, q3, q4⟩, h3⟩ := hP.obj hs
  rw [rfv_hi hb] at hv
  subst hv
  exact va_instS C0.1 C0.2.1 C0.2.2.2.1 (hts _ hlk) (hK.1.1 ci q hc).2 ⟨cell, q1, by rw [q3]; rfl, by rw [q2]; exact (hK.1.1 ci q hc).2.1⟩ hd (kk p l e R s m args below meth c H locs cells slots mc ms lsR _ C0 hR hkk hl hP hL ⟨⟨1, rfl, rfl⟩, hs3⟩)
theorem E_instY {idx b ci : Nat} {q : vw_C} {nm : String} (hc : cls_[ci]? = some q) (hs : mS M b = (4, ci)) (hlk : Cond.classLink mt.1.cls idx nm ∈ AW) (hw : Cond.castable q.1 nm ∈ AW) (hd : decode mt.2.1 pc = .ok (.instanceof idx, 3)) (kk : EV G mt d kc ks Q (pc + 3) ls (vI 1 :: st) M) : EV G mt d kc ks Q pc ls (vR b :: st) M := by
  intro p l e R s m args below meth c H locs cells slots mc ms lsR stR C0 hR hkk hl hP hL hst
  have hts := C0.2.2.2.2.1
  have hK := C0.2.2.2.2.2.2.2.2
  obtain ⟨w, rest, rfl, hv, hs3⟩ := hst.c
  have hv : w = rfv G b := hv
  obtain ⟨hb, r, V, h1, ⟨cell, q1, q2, q3, q4⟩, h3⟩ := hP.obj hs
  rw [rfv_hi hb] at hv
  subst hv
  exact va_instY C0.1 C0.2.1 C0.2.2.2.1 (hts _ hlk) (va_tabs rfl rfl (hts _ hw)) ⟨cell, q1, by rw [q3]; rfl, by rw [q2]; exact (hK.1.1 ci q hc).2.1⟩ hd (kk p l e R s m args below meth c H locs cells slots mc ms lsR _ C0 hR hkk hl hP hL ⟨⟨1, rfl, rfl⟩, hs3⟩)
theorem E_instN {idx b ci : Nat} {q : vw_C} {nm : String} {i : Nat} (hc : cls_[ci]? = some q) (hs : mS M b = (4, ci)) (hlk : Cond.classLink mt.1.cls idx nm ∈ AW) (hn : ncL[i]? = some (q.1, nm)) (hd : decode mt.2.1 pc = .ok (.instanceof idx, 3)) (kk : EV G mt d kc ks Q (pc + 3) ls (vI 0 :: st) M) : EV G mt d kc ks Q pc ls (vR b :: st) M := by
  intro p l e R s m args below meth c H locs cells slots mc ms lsR stR C0 hR hkk hl hP hL hst
  have hts := C0.2.2.2.2.1
  have hK := C0.2.2.2.2.2.2.2.2
  obtain ⟨w, rest, rfl, hv, hs3⟩ := hst.c
  have hv : w = rfv G b := hv
  obtain ⟨hb, r, V, h1, ⟨cell, q1, q2, q3, q4⟩, h3⟩ := hP.obj hs
  rw [rfv_hi hb] at hv
  subst hv
  exact va_instNo C0.1 C0.2.1 C0.2.2.2.1 (hts _ hlk) (hK.2.2.2.2.2.1.2 i _ hn) ⟨cell, q1, by rw [q3]; rfl, by rw [q2]; exact (hK.1.1 ci q hc).2.1⟩ hd (kk p l e R s m args below meth c H locs cells slots mc ms lsR _ C0 hR hkk hl hP hL ⟨⟨0, rfl, rfl⟩, hs3⟩)
theorem gp_X2_7_3 {a : Nat} {x : Int} (ho : mt.1.cls = RX2) (hd : decode mt.2.1 pc = .ok (.getfield 7, 3)) (hs : mS M a = (4, 3)) (hx : mI M a 0 = x) (kk : EV G mt d kc ks Q (pc + 3) ls (vI x :: st) M) : EV G mt d kc ks Q pc ls (vR a :: st) M := E_getI hd (ci := 3) (k := 0) rfl (by decide) in_3 (by rw [ho]; exact pw_901) (fun _ _ _ _ h => h) (by decide +kernel) rfl hs hx kk
theorem pp_X2_7_3 {a : Nat} {x : Int} (ho : mt.1.cls = RX2) (hi : mt.1.name = "<init>") (hd : decode mt.2.1 pc = .ok (.putfield 7, 3)) (hs : mS M a = (4, 3)) (kk : EV G mt d kc ks Q (pc + 3) ls st (mWI M a 0 x)) : EV G mt d kc ks Q pc ls (vI x :: vR a :: st) M := E_putI hd (ci := 3) (k := 0) rfl (by decide) in_3 ty_3 nmX4 (by rw [ho]; exact pw_901) (fun _ _ h => h) (Or.inr ⟨rfl, hi, by rw [ho]; rfl⟩) (by decide +kernel) rfl rfl ⟨rfl, rfl⟩ hs kk
theorem gp_X2_13_3 {a : Nat} {x : Int} (ho : mt.1.cls = RX2) (hd : decode mt.2.1 pc = .ok (.getfield 13, 3)) (hs : mS M a = (4, 3)) (hx : mI M a 1 = x) (kk : EV G mt d kc ks Q (pc + 3) ls (vI x :: st) M) : EV G mt d kc ks Q pc ls (vR a :: st) M := E_getI hd (ci := 3) (k := 1) rfl (by decide) in_3 (by rw [ho]; exact pw_902) (fun _ _ _ _ h => h) (by decide +kernel) rfl hs hx kk
theorem pp_X2_13_3 {a : Nat} {x : Int} (ho : mt.1.cls = RX2) (hi : mt.1.name = "<init>") (hd : decode mt.2.1 pc = .ok (.putfield 13, 3)) (hs : mS M a = (4, 3)) (kk : EV G mt d kc ks Q (pc + 3) ls st (mWI M a 1 x)) : EV G mt d kc ks Q pc ls (vI x :: vR a :: st) M := E_putI hd (ci := 3) (k := 1) rfl (by decide) in_3 ty_3 nmX4 (by rw [ho]; exact pw_902) (fun _ _ h => h) (Or.inr ⟨rfl, hi, by rw [ho]; rfl⟩) (by decide +kernel) rfl rfl ⟨rfl, rfl⟩ hs kk
theorem gp_X2_16_3 {a : Nat} {x : Int} (ho : mt.1.cls = RX2) (hd : decode mt.2.1 pc = .ok (.getfield 16, 3)) (hs : mS M a = (4, 3)) (hx : mI M a 2 = x) (kk : EV G mt d kc ks Q (pc + 3) ls (vI x :: st) M) : EV G mt d kc ks Q pc ls (vR a :: st) M := E_getI hd (ci := 3) (k := 2) rfl (by decide) in_3 (by rw [ho]; exact pw_903) (fun _ _ _ _ h => h) (by decide +kernel) rfl hs hx kk
theorem pp_X2_16_3 {a : Nat} {x : Int} (ho : mt.1.cls = RX2) (hi : mt.1.name = "<init>") (hd : decode mt.2.1 pc = .ok (.putfield 16, 3)) (hs : mS M a = (4, 3)) (kk : EV G mt d kc ks Q (pc + 3) ls st (mWI M a 2 x)) : EV G mt d kc ks Q pc ls (vI x :: vR a :: st) M := E_putI hd (ci := 3) (k := 2) rfl (by decide) in_3 ty_3 nmX4 (by rw [ho]; exact pw_903) (fun _ _ h => h) (Or.inr ⟨rfl, hi, by rw [ho]; rfl⟩) (by decide +kernel) rfl rfl ⟨rfl, rfl⟩ hs kk
theorem gp_X2_19_3 {a r0 : Nat} (ho : mt.1.cls = RX2) (hd : decode mt.2.1 pc = .ok (.getfield 19, 3)) (hs : mS M a = (4, 3)) (hx : mR M a 3 = r0) (kk : EV G mt d kc ks Q (pc + 3) ls (vR r0 :: st) M) : EV G mt d kc ks Q pc ls (vR a :: st) M := E_getR hd (ci := 3) (k := 3) rfl (by decide) in_3 (by rw [ho]; exact pw_908) (fun _ _ _ _ h => h) (by decide +kernel) hs hx kk
theorem pp_X2_19_3 {a r0 : Nat} (ho : mt.1.cls = RX2) (hi : mt.1.name = "<init>") (hd : decode mt.2.1 pc = .ok (.putfield 19, 3)) (hs : mS M a = (4, 3)) (hr : 21 ≤ r0) (kk : EV G mt d kc ks Q (pc + 3) ls st (mWR M a 3 r0)) : EV G mt d kc ks Q pc ls (vR r0 :: vR a :: st) M := E_putR hd (ci := 3) (k := 3) rfl (by decide) in_3 ty_3 nmX4 (by rw [ho]; exact pw_908) (fun _ _ h => h) (Or.inr ⟨rfl, hi, by rw [ho]; rfl⟩) (by decide +kernel) rfl (fun _ => ⟨rfl, rfl⟩) hs hr kk
theorem gp_X2_7_0 {a : Nat} {x : Int} (ho : mt.1.cls = RX2) (hd : decode mt.2.1 pc = .ok (.getfield 7, 3)) (hs : mS M a = (4, 0)) (hx : mI M a 0 = x) (kk : EV G mt d kc ks Q (pc + 3) ls (vI x :: st) M) : EV G mt d kc ks Q pc ls (vR a :: st) M := E_getI hd (ci := 0) (k := 0) rfl (by decide) in_0 (by rw [ho]; exact pw_901) (fun _ _ _ _ h => h) (by decide +kernel) rfl hs hx kk
theorem pp_X2_7_0 {a : Nat} {x : Int} (ho : mt.1.cls = RX2) (hi : mt.1.name = "<init>") (hd : decode mt.2.1 pc = .ok (.putfield 7, 3)) (hs : mS M a = (4, 0)) (kk : EV G mt d kc ks Q (pc + 3) ls st (mWI M a 0 x)) : EV G mt d kc ks Q pc ls (vI x :: vR a :: st) M := E_putI hd (ci := 0) (k := 0) rfl (by decide) in_0 ty_0 nmX0 (by rw [ho]; exact pw_901) (fun _ _ h => h) (Or.inr ⟨rfl, hi, by rw [ho]; rfl⟩) (by decide +kernel) rfl rfl ⟨rfl, rfl⟩ hs kk
theorem gp_X2_13_0 {a : Nat} {x : Int} (ho : mt.1.cls = RX2) (hd : decode mt.2.1 pc = .ok (.getfield 13, 3)) (hs : mS M a = (4, 0)) (hx : mI M a 1 = x) (kk : EV G mt d kc ks Q (pc + 3) ls (vI x :: st) M) : EV G mt d kc ks Q pc ls (vR a :: st) M := E_getI hd (ci := 0) (k := 1) rfl (by decide) in_0 (by rw [ho]; exact pw_902) (fun _ _ _ _ h => h) (by decide +kernel) rfl hs hx kk
theorem pp_X2_13_0 {a : Nat} {x : Int} (ho : mt.1.cls = RX2) (hi : mt.1.name = "<init>") (hd : decode mt.2.1 pc = .ok (.putfield 13, 3)) (hs : mS M a = (4, 0)) (kk : EV G mt d kc ks Q (pc + 3) ls st (mWI M a 1 x)) : EV G mt d kc ks Q pc ls (vI x :: vR a :: st) M := E_putI hd (ci := 0) (k := 1) rfl (by decide) in_0 ty_0 nmX0 (by rw [ho]; exact pw_902) (fun _ _ h => h) (Or.inr ⟨rfl, hi, by rw [ho]; rfl⟩) (by decide +kernel) rfl rfl ⟨rfl, rfl⟩ hs kk
theorem gp_X2_16_0 {a : Nat} {x : Int} (ho : mt.1.cls = RX2) (hd : decode mt.2.1 pc = .ok (.getfield 16, 3)) (hs : mS M a = (4, 0)) (hx : mI M a 2 = x) (kk : EV G mt d kc ks Q (pc + 3) ls (vI x :: st) M) : EV G mt d kc ks Q pc ls (vR a :: st) M := E_getI hd (ci := 0) (k := 2) rfl (by decide) in_0 (by rw [ho]; exact pw_903) (fun _ _ _ _ h => h) (by decide +kernel) rfl hs hx kk
theorem pp_X2_16_0 {a : Nat} {x : Int} (ho : mt.1.cls = RX2) (hi : mt.1.name = "<init>") (hd : decode mt.2.1 pc = .ok (.putfield 16, 3)) (hs : mS M a = (4, 0)) (kk : EV G mt d kc ks Q (pc + 3) ls st (mWI M a 2 x)) : EV G mt d kc ks Q pc ls (vI x :: vR a :: st) M := E_putI hd (ci := 0) (k := 2) rfl (by decide) in_0 ty_0 nmX0 (by rw [ho]; exact pw_903) (fun _ _ h => h) (Or.inr ⟨rfl, hi, by rw [ho]; rfl⟩) (by decide +kernel) rfl rfl ⟨rfl, rfl⟩ hs kk
theorem gp_X2_19_0 {a r0 : Nat} (ho : mt.1.cls = RX2) (hd : decode mt.2.1 pc = .ok (.getfield 19, 3)) (hs : mS M a = (4, 0)) (hx : mR M a 3 = r0) (kk : EV G mt d kc ks Q (pc + 3) ls (vR r0 :: st) M) : EV G mt d kc ks Q pc ls (vR a :: st) M := E_getR hd (ci := 0) (k := 3) rfl (by decide) in_0 (by rw [ho]; exact pw_908) (fun _ _ _ _ h => h) (by decide +kernel) hs hx kk
theorem pp_X2_19_0 {a r0 : Nat} (ho : mt.1.cls = RX2) (hi : mt.1.name = "<init>") (hd : decode mt.2.1 pc = .ok (.putfield 19, 3)) (hs : mS M a = (4, 0)) (hr : 21 ≤ r0) (kk : EV G mt d kc ks Q (pc + 3) ls st (mWR M a 3 r0)) : EV G mt d kc ks Q pc ls (vR r0 :: vR a :: st) M := E_putR hd (ci := 0) (k := 3) rfl (by decide) in_0 ty_0 nmX0 (by rw [ho]; exact pw_908) (fun _ _ h => h) (Or.inr ⟨rfl, hi, by rw [ho]; rfl⟩) (by decide +kernel) rfl (fun _ => ⟨rfl, rfl⟩) hs hr kk
theorem gp_X2_7_9 {a : Nat} {x : Int} (ho : mt.1.cls = RX2) (hd : decode mt.2.1 pc = .ok (.getfield 7, 3)) (hs : mS M a = (4, 9)) (hx : mI M a 0 = x) (kk : EV G mt d kc ks Q (pc + 3) ls (vI x :: st) M) : EV G mt d kc ks Q pc ls (vR a :: st) M := E_getI hd (ci := 9) (k := 0) rfl (by decide) in_9 (by rw [ho]; exact pw_901) (fun _ _ _ _ h => h) (by decide +kernel) rfl hs hx kk
theorem pp_X2_7_9 {a : Nat} {x : Int} (ho : mt.1.cls = RX2) (hi : mt.1.name = "<init>") (hd : decode mt.2.1 pc = .ok (.putfield 7, 3)) (hs : mS M a = (4, 9)) (kk : EV G mt d kc ks Q (pc + 3) ls st (mWI M a 0 x)) : EV G mt d kc ks Q pc ls (vI x :: vR a :: st) M := E_putI hd (ci := 9) (k := 0) rfl (by decide) in_9 ty_9 nmX10 (by rw [ho]; exact pw_901) (fun _ _ h => h) (Or.inr ⟨rfl, hi, by rw [ho]; rfl⟩) (by decide +kernel) rfl rfl ⟨rfl, rfl⟩ hs kk
theorem gp_X2_13_9 {a : Nat} {x : Int} (ho : mt.1.cls = RX2) (hd : decode mt.2.1 pc = .ok (.getfield 13, 3)) (hs : mS M a = (4, 9)) (hx : mI M a 1 = x) (kk : EV G mt d kc ks Q (pc + 3) ls (vI x :: st) M) : EV G mt d kc ks Q pc ls (vR a :: st) M := E_getI hd (ci := 9) (k := 1) rfl (by decide) in_9 (by rw [ho]; exact pw_902) (fun _ _ _ _ h => h) (by decide +kernel) rfl hs hx kk
theorem pp_X2_13_9 {a : Nat} {x : Int} (ho : mt.1.cls = RX2) (hi : mt.1.name = "<init>") (hd : decode mt.2.1 pc = .ok (.putfield 13, 3)) (hs : mS M a = (4, 9)) (kk : EV G mt d kc ks Q (pc + 3) ls st (mWI M a 1 x)) : EV G mt d kc ks Q pc ls (vI x :: vR a :: st) M := E_putI hd (ci := 9) (k := 1) rfl (by decide) in_9 ty_9 nmX10 (by rw [ho]; exact pw_902) (fun _ _ h => h) (Or.inr ⟨rfl, hi, by rw [ho]; rfl⟩) (by decide +kernel) rfl rfl ⟨rfl, rfl⟩ hs kk
theorem gp_X2_16_9 {a : Nat} {x : Int} (ho : mt.1.cls = RX2) (hd : decode mt.2.1 pc = .ok (.getfield 16, 3)) (hs : mS M a = (4, 9)) (hx : mI M a 2 = x) (kk : EV G mt d kc ks Q (pc + 3) ls (vI x :: st) M) : EV G mt d kc ks Q pc ls (vR a :: st) M := E_getI hd (ci := 9) (k := 2) rfl (by decide) in_9 (by rw [ho]; exact pw_903) (fun _ _ _ _ h => h) (by decide +kernel) rfl hs hx kk
theorem pp_X2_16_9 {a : Nat} {x : Int} (ho : mt.1.cls = RX2) (hi : mt.1.name = "<init>") (hd : decode mt.2.1 pc = .ok (.putfield 16, 3)) (hs : mS M a = (4, 9)) (kk : EV G mt d kc ks Q (pc + 3) ls st (mWI M a 2 x)) : EV G mt d kc ks Q pc ls (vI x :: vR a :: st) M := E_putI hd (ci := 9) (k := 2) rfl (by decide) in_9 ty_9 nmX10 (by rw [ho]; exact pw_903) (fun _ _ h => h) (Or.inr ⟨rfl, hi, by rw [ho]; rfl⟩) (by decide +kernel) rfl rfl ⟨rfl, rfl⟩ hs kk
theorem gp_X2_19_9 {a r0 : Nat} (ho : mt.1.cls = RX2) (hd : decode mt.2.1 pc = .ok (.getfield 19, 3)) (hs : mS M a = (4, 9)) (hx : mR M a 3 = r0) (kk : EV G mt d kc ks Q (pc + 3) ls (vR r0 :: st) M) : EV G mt d kc ks Q pc ls (vR a :: st) M := E_getR hd (ci := 9) (k := 3) rfl (by decide) in_9 (by rw [ho]; exact pw_908) (fun _ _ _ _ h => h) (by decide +kernel) hs hx kk
theorem pp_X2_19_9 {a r0 : Nat} (ho : mt.1.cls = RX2) (hi : mt.1.name = "<init>") (hd : decode mt.2.1 pc = .ok (.putfield 19, 3)) (hs : mS M a = (4, 9)) (hr : 21 ≤ r0) (kk : EV G mt d kc ks Q (pc + 3) ls st (mWR M a 3 r0)) : EV G mt d kc ks Q pc ls (vR r0 :: vR a :: st) M := E_putR hd (ci := 9) (k := 3) rfl (by decide) in_9 ty_9 nmX10 (by rw [ho]; exact pw_908) (fun _ _ h => h) (Or.inr ⟨rfl, hi, by rw [ho]; rfl⟩) (by decide +kernel) rfl (fun _ => ⟨rfl, rfl⟩) hs hr kk
theorem gp_X2_7_5 {a : Nat} {x : Int} (ho : mt.1.cls = RX2) (hd : decode mt.2.1 pc = .ok (.getfield 7, 3)) (hs : mS M a = (4, 5)) (hx : mI M a 0 = x) (kk : EV G mt d kc ks Q (pc + 3) ls (vI x :: st) M) : EV G mt d kc ks Q pc ls (vR a :: st) M := E_getI hd (ci := 5) (k := 0) rfl (by decide) in_5 (by rw [ho]; exact pw_901) (fun _ _ _ _ h => h) (by decide +kernel) rfl hs hx kk
theorem pp_X2_7_5 {a : Nat} {x : Int} (ho : mt.1.cls = RX2) (hi : mt.1.name = "<init>") (hd : decode mt.2.1 pc = .ok (.putfield 7, 3)) (hs : mS M a = (4, 5)) (kk : EV G mt d kc ks Q (pc + 3) ls st (mWI M a 0 x)) : EV G mt d kc ks Q pc ls (vI x :: vR a :: st) M := E_putI hd (ci := 5) (k := 0) rfl (by decide) in_5 ty_5 nmX6 (by rw [ho]; exact pw_901) (fun _ _ h => h) (Or.inr ⟨rfl, hi, by rw [ho]; rfl⟩) (by decide +kernel) rfl rfl ⟨rfl, rfl⟩ hs kk
theorem gp_X2_13_5 {a : Nat} {x : Int} (ho : mt.1.cls = RX2) (hd : decode mt.2.1 pc = .ok (.getfield 13, 3)) (hs : mS M a = (4, 5)) (hx : mI M a 1 = x) (kk : EV G mt d kc ks Q (pc + 3) ls (vI x :: st) M) : EV G mt d kc ks Q pc ls (vR a :: st) M := E_getI hd (ci := 5) (k := 1) rfl (by decide) in_5 (by rw [ho]; exact pw_902) (fun _ _ _ _ h => h) (by decide +kernel) rfl hs hx kk
theorem pp_X2_13_5 {a : Nat} {x : Int} (ho : mt.1.cls = RX2) (hi : mt.1.name = "<init>") (hd : decode mt.2.1 pc = .ok (.putfield 13, 3)) (hs : mS M a = (4, 5)) (kk : EV G mt d kc ks Q (pc + 3) ls st (mWI M a 1 x)) : EV G mt d kc ks Q pc ls (vI x :: vR a :: st) M := E_putI hd (ci := 5) (k := 1) rfl (by decide) in_5 ty_5 nmX6 (by rw [ho]; exact pw_902) (fun _ _ h => h) (Or.inr ⟨rfl, hi, by rw [ho]; rfl⟩) (by decide +kernel) rfl rfl ⟨rfl, rfl⟩ hs kk
theorem gp_X2_16_5 {a : Nat} {x : Int} (ho : mt.1.cls = RX2) (hd : decode mt.2.1 pc = .ok (.getfield 16, 3)) (hs : mS M a = (4, 5)) (hx : mI M a 2 = x) (kk : EV G mt d kc ks Q (pc + 3) ls (vI x :: st) M) : EV G mt d kc ks Q pc ls (vR a :: st) M := E_getI hd (ci := 5) (k := 2) rfl (by decide) in_5 (by rw [ho]; exact pw_903) (fun _ _ _ _ h => h) (by decide +kernel) rfl hs hx kk
theorem pp_X2_16_5 {a : Nat} {x : Int} (ho : mt.1.cls = RX2) (hi : mt.1.name = "<init>") (hd : decode mt.2.1 pc = .ok (.putfield 16, 3)) (hs : mS M a = (4, 5)) (kk : EV G mt d kc ks Q (pc + 3) ls st (mWI M a 2 x)) : EV G mt d kc ks Q pc ls (vI x :: vR a :: st) M := E_putI hd (ci := 5) (k := 2) rfl (by decide) in_5 ty_5 nmX6 (by rw [ho]; exact pw_903) (fun _ _ h => h) (Or.inr ⟨rfl, hi, by rw [ho]; rfl⟩) (by decide +kernel) rfl rfl ⟨rfl, rfl⟩ hs kk
theorem gp_X2_19_5 {a r0 : Nat} (ho : mt.1.cls = RX2) (hd : decode mt.2.1 pc = .ok (.getfield 19, 3)) (hs : mS M a = (4, 5)) (hx : mR M a 3 = r0) (kk : EV G mt d kc ks Q (pc + 3) ls (vR r0 :: st) M) : EV G mt d kc ks Q pc ls (vR a :: st) M := E_getR hd (ci := 5) (k := 3) rfl (by decide) in_5 (by rw [ho]; exact pw_908) (fun _ _ _ _ h => h) (by decide +kernel) hs hx kk
theorem pp_X2_19_5 {a r0 : Nat} (ho : mt.1.cls = RX2) (hi : mt.1.name = "<init>") (hd : decode mt.2.1 pc = .ok (.putfield 19, 3)) (hs : mS M a = (4, 5)) (hr : 21 ≤ r0) (kk : EV G mt d kc ks Q (pc + 3) ls st (mWR M a 3 r0)) : EV G mt d kc ks Q pc ls (vR r0 :: vR a :: st) M := E_putR hd (ci := 5) (k := 3) rfl (by decide) in_5 ty_5 nmX6 (by rw [ho]; exact pw_908) (fun _ _ h => h) (Or.inr ⟨rfl, hi, by rw [ho]; rfl⟩) (by decide +kernel) rfl (fun _ => ⟨rfl, rfl⟩) hs hr kk
theorem gp_X2_7_6 {a : Nat} {x : Int} (ho : mt.1.cls = RX2) (hd : decode mt.2.1 pc = .ok (.getfield 7, 3)) (hs : mS M a = (4, 6)) (hx : mI M a 0 = x) (kk : EV G mt d kc ks Q (pc + 3) ls (vI x :: st) M) : EV G mt d kc ks Q pc ls (vR a :: st) M := E_getI hd (ci := 6) (k := 0) rfl (by decide) in_6 (by rw [ho]; exact pw_901) (fun _ _ _ _ h => h) (by decide +kernel) rfl hs hx kk
theorem pp_X2_7_6 {a : Nat} {x : Int} (ho : mt.1.cls = RX2) (hi : mt.1.name = "<init>") (hd : decode mt.2.1 pc = .ok (.putfield 7, 3)) (hs : mS M a = (4, 6)) (kk : EV G mt d kc ks Q (pc + 3) ls st (mWI M a 0 x)) : EV G mt d kc ks Q pc ls (vI x :: vR a :: st) M := E_putI hd (ci := 6) (k := 0) rfl (by decide) in_6 ty_6 nmX7 (by rw [ho]; exact pw_901) (fun _ _ h => h) (Or.inr ⟨rfl, hi, by rw [ho]; rfl⟩) (by decide +kernel) rfl rfl ⟨rfl, rfl⟩ hs kk
theorem gp_X2_13_6 {a : Nat} {x : Int} (ho : mt.1.cls = RX2) (hd : decode mt.2.1 pc = .ok (.getfield 13, 3)) (hs : mS M a = (4, 6)) (hx : mI M a 1 = x) (kk : EV G mt d kc ks Q (pc + 3) ls (vI x :: st) M) : EV G mt d kc ks Q pc ls (vR a :: st) M := E_getI hd (ci := 6) (k := 1) rfl (by decide) in_6 (by rw [ho]; exact pw_902) (fun _ _ _ _ h => h) (by decide +kernel) rfl hs hx kk
theorem pp_X2_13_6 {a : Nat} {x : Int} (ho : mt.1.cls = RX2) (hi : mt.1.name = "<init>") (hd : decode mt.2.1 pc = .ok (.putfield 13, 3)) (hs : mS M a = (4, 6)) (kk : EV G mt d kc ks Q (pc + 3) ls st (mWI M a 1 x)) : EV G mt d kc ks Q pc ls (vI x :: vR a :: st) M := E_putI hd (ci := 6) (k := 1) rfl (by decide) in_6 ty_6 nmX7 (by rw [ho]; exact pw_902) (fun _ _ h => h) (Or.inr ⟨rfl, hi, by rw [ho]; rfl⟩) (by decide +kernel) rfl rfl ⟨rfl, rfl⟩ hs kk
theorem gp_X2_16_6 {a : Nat} {x : Int} (ho : mt.1.cls = RX2) (hd : decode mt.2.1 pc = .ok (.getfield 16, 3)) (hs : mS M a = (4, 6)) (hx : mI M a 2 = x) (kk : EV G mt d kc ks Q (pc + 3) ls (vI x :: st) M) : EV G mt d kc ks Q pc ls (vR a :: st) M := E_getI hd (ci := 6) (k := 2) rfl (by decide) in_6 (by rw [ho]; exact pw_903) (fun _ _ _ _ h => h) (by decide +kernel) rfl hs hx kk
theorem pp_X2_16_6 {a : Nat} {x : Int} (ho : mt.1.cls = RX2) (hi : mt.1.name = "<init>") (hd : decode mt.2.1 pc = .ok (.putfield 16, 3)) (hs : mS M a = (4, 6)) (kk : EV G mt d kc ks Q (pc + 3) ls st (mWI M a 2 x)) : EV G mt d kc ks Q pc ls (vI x :: vR a :: st) M := E_putI hd (ci := 6) (k := 2) rfl (by decide) in_6 ty_6 nmX7 (by rw [ho]; exact pw_903) (fun _ _ h => h) (Or.inr ⟨rfl, hi, by rw [ho]; rfl⟩) (by decide +kernel) rfl rfl ⟨rfl, rfl⟩ hs kk
theorem gp_X2_19_6 {a r0 : Nat} (ho : mt.1.cls = RX2) (hd : decode mt.2.1 pc = .ok (.getfield 19, 3)) (hs : mS M a = (4, 6)) (hx : mR M a 3 = r0) (kk : EV G mt d kc ks Q (pc + 3) ls (vR r0 :: st) M) : EV G mt d kc ks Q pc ls (vR a :: st) M := E_getR hd (ci := 6) (k := 3) rfl (by decide) in_6 (by rw [ho]; exact pw_908) (fun _ _ _ _ h => h) (by decide +kernel) hs hx kk
theorem pp_X2_19_6 {a r0 : Nat} (ho : mt.1.cls = RX2) (hi : mt.1.name = "<init>") (hd : decode mt.2.1 pc = .ok (.putfield 19, 3)) (hs : mS M a = (4, 6)) (hr : 21 ≤ r0) (kk : EV G mt d kc ks Q (pc + 3) ls st (mWR M a 3 r0)) : EV G mt d kc ks Q pc ls (vR r0 :: vR a :: st) M := E_putR hd (ci := 6) (k := 3) rfl (by decide) in_6 ty_6 nmX7 (by rw [ho]; exact pw_908) (fun _ _ h => h) (Or.inr ⟨rfl, hi, by rw [ho]; rfl⟩) (by decide +kernel) rfl (fun _ => ⟨rfl, rfl⟩) hs hr kk
theorem gp_X4_7_3 {a r0 : Nat} (ho : mt.1.cls = RX4) (hd : decode mt.2.1 pc = .ok (.getfield 7, 3)) (hs : mS M a = (4, 3)) (hx : mR M a 3 = r0) (kk : EV G mt d kc ks Q (pc + 3) ls (vR r0 :: st) M) : EV G mt d kc ks Q pc ls (vR a :: st) M := E_getR hd (ci := 3) (k := 3) rfl (by decide) in_3 (by rw [ho]; exact pw_911) (fun args s hts x h => u_same (hts _ pw_912) x h) (by decide +kernel) hs hx kk
theorem gp_X4_27_3 {a : Nat} {x : Int} (ho : mt.1.cls = RX4) (hd : decode mt.2.1 pc = .ok (.getfield 27, 3)) (hs : mS M a = (4, 3)) (hx : mI M a 2 = x) (kk : EV G mt d kc ks Q (pc + 3) ls (vI x :: st) M) : EV G mt d kc ks Q pc ls (vR a :: st) M := E_getI hd (ci := 3) (k := 2) rfl (by decide) in_3 (by rw [ho]; exact pw_906) (fun args s hts x h => u_same (hts _ pw_907) x h) (by decide +kernel) rfl hs hx kk
theorem gp_X4_7_0 {a r0 : Nat} (ho : mt.1.cls = RX4) (hd : decode mt.2.1 pc = .ok (.getfield 7, 3)) (hs : mS M a = (4, 0)) (hx : mR M a 3 = r0) (kk : EV G mt d kc ks Q (pc + 3) ls (vR r0 :: st) M) : EV G mt d kc ks Q pc ls (vR a :: st) M := E_getR hd (ci := 0) (k := 3) rfl (by decide) in_0 (by rw [ho]; exact pw_911) (fun args s hts x h => u_same (hts _ pw_912) x h) (by decide +kernel) hs hx kk
theorem gp_X4_27_0 {a : Nat} {x : Int} (ho : mt.1.cls = RX4) (hd : decode mt.2.1 pc = .ok (.getfield 27, 3)) (hs : mS M a = (4, 0)) (hx : mI M a 2 = x) (kk : EV G mt d kc ks Q (pc + 3) ls (vI x :: st) M) : EV G mt d kc ks Q pc ls (vR a :: st) M := E_getI hd (ci := 0) (k := 2) rfl (by decide) in_0 (by rw [ho]; exact pw_906) (fun args s hts x h => u_same (hts _ pw_907) x h) (by decide +kernel) rfl hs hx kk
theorem gp_X10_7_9 {a r0 : Nat} (ho : mt.1.cls = RX10) (hd : decode mt.2.1 pc = .ok (.getfield 7, 3)) (hs : mS M a = (4, 9)) (hx : mR M a 3 = r0) (kk : EV G mt d kc ks Q (pc + 3) ls (vR r0 :: st) M) : EV G mt d kc ks Q pc ls (vR a :: st) M := E_getR hd (ci := 9) (k := 3) rfl (by decide) in_9 (by rw [ho]; exact pw_915) (fun args s hts x h => u_same (hts _ pw_916) x h) (by decide +kernel) hs hx kk
theorem gp_X10_23_9 {a : Nat} {x : Int} (ho : mt.1.cls = RX10) (hd : decode mt.2.1 pc = .ok (.getfield 23, 3)) (hs : mS M a = (4, 9)) (hx : mI M a 2 = x) (kk : EV G mt d kc ks Q (pc + 3) ls (vI x :: st) M) : EV G mt d kc ks Q pc ls (vR a :: st) M := E_getI hd (ci := 9) (k := 2) rfl (by decide) in_9 (by rw [ho]; exact pw_904) (fun args s hts x h => u_same (hts _ pw_905) x h) (by decide +kernel) rfl hs hx kk
theorem gp_X10_7_6 {a r0 : Nat} (ho : mt.1.cls = RX10) (hd : decode mt.2.1 pc = .ok (.getfield 7, 3)) (hs : mS M a = (4, 6)) (hx : mR M a 3 = r0) (kk : EV G mt d kc ks Q (pc + 3) ls (vR r0 :: st) M) : EV G mt d kc ks Q pc ls (vR a :: st) M := E_getR hd (ci := 6) (k := 3) rfl (by decide) in_6 (by rw [ho]; exact pw_915) (fun args s hts x h => u_same (hts _ pw_916) x h) (by decide +kernel) hs hx kk
theorem gp_X10_23_6 {a : Nat} {x : Int} (ho : mt.1.cls = RX10) (hd : decode mt.2.1 pc = .ok (.getfield 23, 3)) (hs : mS M a = (4, 6)) (hx : mI M a 2 = x) (kk : EV G mt d kc ks Q (pc + 3) ls (vI x :: st) M) : EV G mt d kc ks Q pc ls (vR a :: st) M := E_getI hd (ci := 6) (k := 2) rfl (by decide) in_6 (by rw [ho]; exact pw_904) (fun args s hts x h => u_same (hts _ pw_905) x h) (by decide +kernel) rfl hs hx kk
end PIE
/-- bodies begin, one after the other -/
def bgI (I : AS) (L : List Int) : AS := L.foldl (fun I b => trI I 28 0 (28 + 1) 1 b) I
theorem trI_ne (I : AS) {o f t : Nat} {fl b : Int} {c : Nat} {j : Int} (h1 : ¬ (c = o ∧ j = fl)) (h2 : c ≠ t) : trI I o f t fl b c j = I c j := by
  unfold trI; split
  · rw [up2_ne _ _ h1, up2_ne _ _ (fun z => h2 z.1)]
  · rfl
theorem trI_b {I : AS} {o f t : Nat} {fl b : Int} (h : 0 ≤ I o fl ∧ I o fl ≤ 16) : 0 ≤ trI I o f t fl b o fl ∧ trI I o f t fl b o fl ≤ 16 := by
  unfold trI; split
  · rw [up2_self]; omega
  · exact h
theorem bgI_ne {c : Nat} (h1 : c ≠ 28) (h2 : c ≠ 29) (j : Int) : ∀ (L : List Int) (I : AS), bgI I L c j = I c j
  | [], _ => rfl
  | b :: L, I => (bgI_ne h1 h2 j L (trI I 28 0 (28 + 1) 1 b)).trans (trI_ne I (by omega) (by omega))
theorem bgI_b : ∀ (L : List Int) (I : AS), (0 ≤ I 28 1 ∧ I 28 1 ≤ 16) → 0 ≤ bgI I L 28 1 ∧ bgI I L 28 1 ≤ 16
  | [], _, h => h
  | b :: L, I, h => bgI_b L (trI I 28 0 (28 + 1) 1 b) (trI_b h)
/-- a piece that is asked -/
def PQ (M : Mem) (a ci : Nat) (nb we ya : Int) : Prop := mS M a = (4, ci) ∧ 92 ≤ a ∧ mR M a 3 = 28 ∧ TQ M 28 ∧ (0 ≤ mI M 28 1 ∧ mI M 28 1 ≤ 16) ∧ mI M a 0 = nb ∧ mI M a 1 = we ∧ mI M a 2 = ya ∧ (0 ≤ nb ∧ nb ≤ 9) ∧ (0 ≤ we ∧ we ≤ 99) ∧ (1 ≤ ya ∧ ya ≤ 9)
theorem PQ.o {M : Mem} {a ci : Nat} {nb we ya : Int} (h : PQ M a ci nb we ya) : mS M a = (4, ci) := h.1
theorem PQ.tr {M : Mem} {a ci : Nat} {nb we ya : Int} (h : PQ M a ci nb we ya) : mR M a 3 = 28 := h.2.2.1
theorem PQ.tq {M : Mem} {a ci : Nat} {nb we ya : Int} (h : PQ M a ci nb we ya) : TQ M 28 := h.2.2.2.1
theorem PQ.tb {M : Mem} {a ci : Nat} {nb we ya : Int} (h : PQ M a ci nb we ya) : 0 ≤ mI M 28 1 ∧ mI M 28 1 ≤ 16 := h.2.2.2.2.1
theorem PQ.nb {M : Mem} {a ci : Nat} {nb we ya : Int} (h : PQ M a ci nb we ya) : mI M a 0 = nb := h.2.2.2.2.2.1
theorem PQ.we {M : Mem} {a ci : Nat} {nb we ya : Int} (h : PQ M a ci nb we ya) : mI M a 1 = we := h.2.2.2.2.2.2.1
theorem PQ.ya {M : Mem} {a ci : Nat} {nb we ya : Int} (h : PQ M a ci nb we ya) : mI M a 2 = ya := h.2.2.2.2.2.2.2.1
theorem PQ.bd {M : Mem} {a ci : Nat} {nb we ya : Int} (h : PQ M a ci nb we ya) : (0 ≤ nb ∧ nb ≤ 9) ∧ (0 ≤ we ∧ we ≤ 99) ∧ (1 ≤ ya ∧ ya ≤ 9) := h.2.2.2.2.2.2.2.2
theorem PQ.bg {M : Mem} {a ci : Nat} {nb we ya : Int} (h : PQ M a ci nb we ya) (L : List Int) : PQ (mJ M (bgI (mI M) L)) a ci nb we ya := by
  obtain ⟨h1, h2, h3, h4, h5, h6, h7, h8, h9⟩ := h
  exact ⟨h1, h2, h3, h4, bgI_b L _ h5, (bgI_ne (by omega) (by omega) _ L _).trans h6, (bgI_ne (by omega) (by omega) _ L _).trans h7, (bgI_ne (by omega) (by omega) _ L _).trans h8, h9⟩
/-- a body's contract: what it answers, which bodies begin -/
def pB (M : Mem) (x : Int) (L : List Int) : Option MV → Mem → Prop := fun r M' => r = some (vI x) ∧ M' = mJ M (bgI (mI M) L)
set_option maxRecDepth 20000 in
set_option maxHeartbeats 3000000 in
theorem c_X2_size_3 {G : Ctx} {M : Mem} {a : Nat} {nb we ya : Int} (hP : PQ M a 3 nb we ya) : CT G m_X2_size 1 0 0 [vR a] M (pB M (we) [10]) := by
  refine CT.of k_X2_size 0 (ls := [some (vR a)]) rfl (Nat.le_of_ble_eq_true rfl) ?_
  have hb := hP.bd
  refine E_aload_n dX2_size_0 rfl ?_
  refine gp_X2_19_3 rfl dX2_size_1 (by exact hP.o) (by exact hP.tr) ?_
  refine E_bipush dX2_size_4 (by decide) ?_
  refine i_X2_23 rfl dX2_size_6 (by exact hP.tq.o) (c_tBegin (by exact hP.tq.o) (by exact hP.tq.numbers) (by exact hP.tq.s_numbers) (by exact hP.tb.1) (by exact hP.tb.2)) (by omega) (Nat.le_of_ble_eq_true rfl) rfl rfl ?_
  rintro _ _ ⟨rfl, I1, rfl, rfl⟩
  have hP := hP.bg [10]
  change EV _ _ _ _ _ _ _ _ _ (mJ _ (bgI (mI _) [10]))
  try dsimp only [pu]
  refine E_aload_n dX2_size_9 rfl ?_
  refine gp_X2_13_3 rfl dX2_size_10 (by exact hP.o) (by exact hP.we) ?_
  refine E_iret dX2_size_13 rfl ?_
  exact ⟨rfl, rfl⟩
set_option maxRecDepth 20000 in
set_option maxHeartbeats 3000000 in
theorem c_X2_mark_3 {G : Ctx} {M : Mem} {a : Nat} {nb we ya : Int} (hP : PQ M a 3 nb we ya) : CT G m_X2_mark 1 0 0 [vR a] M (pB M (nb) [20]) := by
  refine CT.of k_X2_mark 0 (ls := [some (vR a)]) rfl (Nat.le_of_ble_eq_true rfl) ?_
  have hb := hP.bd
  refine E_aload_n dX2_mark_0 rfl ?_
  refine gp_X2_19_3 rfl dX2_mark_1 (by exact hP.o) (by exact hP.tr) ?_
  refine E_bipush dX2_mark_4 (by decide) ?_
  refine i_X2_23 rfl dX2_mark_6 (by exact hP.tq.o) (c_tBegin (by exact hP.tq.o) (by exact hP.tq.numbers) (by exact hP.tq.s_numbers) (by exact hP.tb.1) (by exact hP.tb.2)) (by omega) (Nat.le_of_ble_eq_true rfl) rfl rfl ?_
  rintro _ _ ⟨rfl, I1, rfl, rfl⟩
  have hP := hP.bg [20]
  change EV _ _ _ _ _ _ _ _ _ (mJ _ (bgI (mI _) [20]))
  try dsimp only [pu]
  refine E_aload_n dX2_mark_9 rfl ?_
  refine gp_X2_7_3 rfl dX2_mark_10 (by exact hP.o) (by exact hP.nb) ?_
  refine E_iret dX2_mark_13 rfl ?_
  exact ⟨rfl, rfl⟩
set_option maxRecDepth 20000 in
set_option maxHeartbeats 3000000 in
theorem c_X2_size_0 {G : Ctx} {M : Mem} {a : Nat} {nb we ya : Int} (hP : PQ M a 0 nb we ya) : CT G m_X2_size 1 0 0 [vR a] M (pB M (we) [10]) := by
  refine CT.of k_X2_size 0 (ls := [some (vR a)]) rfl (Nat.le_of_ble_eq_true rfl) ?_
  have hb := hP.bd
  refine E_aload_n dX2_size_0 rfl ?_
  refine gp_X2_19_0 rfl dX2_size_1 (by exact hP.o) (by exact hP.tr) ?_
  refine E_bipush dX2_size_4 (by decide) ?_
  refine i_X2_23 rfl dX2_size_6 (by exact hP.tq.o) (c_tBegin (by exact hP.tq.o) (by exact hP.tq.numbers) (by exact hP.tq.s_numbers) (by exact hP.tb.1) (by exact hP.tb.2)) (by omega) (Nat.le_of_ble_eq_true rfl) rfl rfl ?_
  rintro _ _ ⟨rfl, I1, rfl, rfl⟩
  have hP := hP.bg [10]
  change EV _ _ _ _ _ _ _ _ _ (mJ _ (bgI (mI _) [10]))
  try dsimp only [pu]
  refine E_aload_n dX2_size_9 rfl ?_
  refine gp_X2_13_0 rfl dX2_size_10 (by exact hP.o) (by exact hP.we) ?_
  refine E_iret dX2_size_13 rfl ?_
  exact ⟨rfl, rfl⟩
set_option maxRecDepth 20000 in
set_option maxHeartbeats 3000000 in
theorem c_X2_mark_0 {G : Ctx} {M : Mem} {a : Nat} {nb we ya : Int} (hP : PQ M a 0 nb we ya) : CT G m_X2_mark 1 0 0 [vR a] M (pB M (nb) [20]) := by
  refine CT.of k_X2_mark 0 (ls := [some (vR a)]) rfl (Nat.le_of_ble_eq_true rfl) ?_
  have hb := hP.bd
  refine E_aload_n dX2_mark_0 rfl ?_
  refine gp_X2_19_0 rfl dX2_mark_1 (by exact hP.o) (by exact hP.tr) ?_
  refine E_bipush dX2_mark_4 (by decide) ?_
  refine i_X2_23 rfl dX2_mark_6 (by exact hP.tq.o) (c_tBegin (by exact hP.tq.o) (by exact hP.tq.numbers) (by exact hP.tq.s_numbers) (by exact hP.tb.1) (by exact hP.tb.2)) (by omega) (Nat.le_of_ble_eq_true rfl) rfl rfl ?_
  rintro _ _ ⟨rfl, I1, rfl, rfl⟩
  have hP := hP.bg [20]
  change EV _ _ _ _ _ _ _ _ _ (mJ _ (bgI (mI _) [20]))
  try dsimp only [pu]
  refine E_aload_n dX2_mark_9 rfl ?_
  refine gp_X2_7_0 rfl dX2_mark_10 (by exact hP.o) (by exact hP.nb) ?_
  refine E_iret dX2_mark_13 rfl ?_
  exact ⟨rfl, rfl⟩
set_option maxRecDepth 20000 in
set_option maxHeartbeats 3000000 in
theorem c_X2_size_9 {G : Ctx} {M : Mem} {a : Nat} {nb we ya : Int} (hP : PQ M a 9 nb we ya) : CT G m_X2_size 1 0 0 [vR a] M (pB M (we) [10]) := by
  refine CT.of k_X2_size 0 (ls := [some (vR a)]) rfl (Nat.le_of_ble_eq_true rfl) ?_
  have hb := hP.bd
  refine E_aload_n dX2_size_0 rfl ?_
  refine gp_X2_19_9 rfl dX2_size_1 (by exact hP.o) (by exact hP.tr) ?_
  refine E_bipush dX2_size_4 (by decide) ?_
  refine i_X2_23 rfl dX2_size_6 (by exact hP.tq.o) (c_tBegin (by exact hP.tq.o) (by exact hP.tq.numbers) (by exact hP.tq.s_numbers) (by exact hP.tb.1) (by exact hP.tb.2)) (by omega) (Nat.le_of_ble_eq_true rfl) rfl rfl ?_
  rintro _ _ ⟨rfl, I1, rfl, rfl⟩
  have hP := hP.bg [10]
  change EV _ _ _ _ _ _ _ _ _ (mJ _ (bgI (mI _) [10]))
  try dsimp only [pu]
  refine E_aload_n dX2_size_9 rfl ?_
  refine gp_X2_13_9 rfl dX2_size_10 (by exact hP.o) (by exact hP.we) ?_
  refine E_iret dX2_size_13 rfl ?_
  exact ⟨rfl, rfl⟩
set_option maxRecDepth 20000 in
set_option maxHeartbeats 3000000 in
theorem c_X2_mark_9 {G : Ctx} {M : Mem} {a : Nat} {nb we ya : Int} (hP : PQ M a 9 nb we ya) : CT G m_X2_mark 1 0 0 [vR a] M (pB M (nb) [20]) := by
  refine CT.of k_X2_mark 0 (ls := [some (vR a)]) rfl (Nat.le_of_ble_eq_true rfl) ?_
  have hb := hP.bd
  refine E_aload_n dX2_mark_0 rfl ?_
  refine gp_X2_19_9 rfl dX2_mark_1 (by exact hP.o) (by exact hP.tr) ?_
  refine E_bipush dX2_mark_4 (by decide) ?_
  refine i_X2_23 rfl dX2_mark_6 (by exact hP.tq.o) (c_tBegin (by exact hP.tq.o) (by exact hP.tq.numbers) (by exact hP.tq.s_numbers) (by exact hP.tb.1) (by exact hP.tb.2)) (by omega) (Nat.le_of_ble_eq_true rfl) rfl rfl ?_
  rintro _ _ ⟨rfl, I1, rfl, rfl⟩
  have hP := hP.bg [20]
  change EV _ _ _ _ _ _ _ _ _ (mJ _ (bgI (mI _) [20]))
  try dsimp only [pu]
  refine E_aload_n dX2_mark_9 rfl ?_
  refine gp_X2_7_9 rfl dX2_mark_10 (by exact hP.o) (by exact hP.nb) ?_
  refine E_iret dX2_mark_13 rfl ?_
  exact ⟨rfl, rfl⟩
set_option maxRecDepth 20000 in
set_option maxHeartbeats 3000000 in
theorem c_X2_size_5 {G : Ctx} {M : Mem} {a : Nat} {nb we ya : Int} (hP : PQ M a 5 nb we ya) : CT G m_X2_size 1 0 0 [vR a] M (pB M (we) [10]) := by
  refine CT.of k_X2_size 0 (ls := [some (vR a)]) rfl (Nat.le_of_ble_eq_true rfl) ?_
  have hb := hP.bd
  refine E_aload_n dX2_size_0 rfl ?_
  refine gp_X2_19_5 rfl dX2_size_1 (by exact hP.o) (by exact hP.tr) ?_
  refine E_bipush dX2_size_4 (by decide) ?_
  refine i_X2_23 rfl dX2_size_6 (by exact hP.tq.o) (c_tBegin (by exact hP.tq.o) (by exact hP.tq.numbers) (by exact hP.tq.s_numbers) (by exact hP.tb.1) (by exact hP.tb.2)) (by omega) (Nat.le_of_ble_eq_true rfl) rfl rfl ?_
  rintro _ _ ⟨rfl, I1, rfl, rfl⟩
  have hP := hP.bg [10]
  change EV _ _ _ _ _ _ _ _ _ (mJ _ (bgI (mI _) [10]))
  try dsimp only [pu]
  refine E_aload_n dX2_size_9 rfl ?_
  refine gp_X2_13_5 rfl dX2_size_10 (by exact hP.o) (by exact hP.we) ?_
  refine E_iret dX2_size_13 rfl ?_
  exact ⟨rfl, rfl⟩
set_option maxRecDepth 20000 in
set_option maxHeartbeats 3000000 in
theorem c_X2_mark_5 {G : Ctx} {M : Mem} {a : Nat} {nb we ya : Int} (hP : PQ M a 5 nb we ya) : CT G m_X2_mark 1 0 0 [vR a] M (pB M (nb) [20]) := by
  refine CT.of k_X2_mark 0 (ls := [some (vR a)]) rfl (Nat.le_of_ble_eq_true rfl) ?_
  have hb := hP.bd
  refine E_aload_n dX2_mark_0 rfl ?_
  refine gp_X2_19_5 rfl dX2_mark_1 (by exact hP.o) (by exact hP.tr) ?_
  refine E_bipush dX2_mark_4 (by decide) ?_
  refine i_X2_23 rfl dX2_mark_6 (by exact hP.tq.o) (c_tBegin (by exact hP.tq.o) (by exact hP.tq.numbers) (by exact hP.tq.s_numbers) (by exact hP.tb.1) (by exact hP.tb.2)) (by omega) (Nat.le_of_ble_eq_true rfl) rfl rfl ?_
  rintro _ _ ⟨rfl, I1, rfl, rfl⟩
  have hP := hP.bg [20]
  change EV _ _ _ _ _ _ _ _ _ (mJ _ (bgI (mI _) [20]))
  try dsimp only [pu]
  refine E_aload_n dX2_mark_9 rfl ?_
  refine gp_X2_7_5 rfl dX2_mark_10 (by exact hP.o) (by exact hP.nb) ?_
  refine E_iret dX2_mark_13 rfl ?_
  exact ⟨rfl, rfl⟩
set_option maxRecDepth 20000 in
set_option maxHeartbeats 3000000 in
theorem c_X2_size_6 {G : Ctx} {M : Mem} {a : Nat} {nb we ya : Int} (hP : PQ M a 6 nb we ya) : CT G m_X2_size 1 0 0 [vR a] M (pB M (we) [10]) := by
  refine CT.of k_X2_size 0 (ls := [some (vR a)]) rfl (Nat.le_of_ble_eq_true rfl) ?_
  have hb := hP.bd
  refine E_aload_n dX2_size_0 rfl ?_
  refine gp_X2_19_6 rfl dX2_size_1 (by exact hP.o) (by exact hP.tr) ?_
  refine E_bipush dX2_size_4 (by decide) ?_
  refine i_X2_23 rfl dX2_size_6 (by exact hP.tq.o) (c_tBegin (by exact hP.tq.o) (by exact hP.tq.numbers) (by exact hP.tq.s_numbers) (by exact hP.tb.1) (by exact hP.tb.2)) (by omega) (Nat.le_of_ble_eq_true rfl) rfl rfl ?_
  rintro _ _ ⟨rfl, I1, rfl, rfl⟩
  have hP := hP.bg [10]
  change EV _ _ _ _ _ _ _ _ _ (mJ _ (bgI (mI _) [10]))
  try dsimp only [pu]
  refine E_aload_n dX2_size_9 rfl ?_
  refine gp_X2_13_6 rfl dX2_size_10 (by exact hP.o) (by exact hP.we) ?_
  refine E_iret dX2_size_13 rfl ?_
  exact ⟨rfl, rfl⟩
set_option maxRecDepth 20000 in
set_option maxHeartbeats 3000000 in
theorem c_X2_mark_6 {G : Ctx} {M : Mem} {a : Nat} {nb we ya : Int} (hP : PQ M a 6 nb we ya) : CT G m_X2_mark 1 0 0 [vR a] M (pB M (nb) [20]) := by
  refine CT.of k_X2_mark 0 (ls := [some (vR a)]) rfl (Nat.le_of_ble_eq_true rfl) ?_
  have hb := hP.bd
  refine E_aload_n dX2_mark_0 rfl ?_
  refine gp_X2_19_6 rfl dX2_mark_1 (by exact hP.o) (by exact hP.tr) ?_
  refine E_bipush dX2_mark_4 (by decide) ?_
  refine i_X2_23 rfl dX2_mark_6 (by exact hP.tq.o) (c_tBegin (by exact hP.tq.o) (by exact hP.tq.numbers) (by exact hP.tq.s_numbers) (by exact hP.tb.1) (by exact hP.tb.2)) (by omega) (Nat.le_of_ble_eq_true rfl) rfl rfl ?_
  rintro _ _ ⟨rfl, I1, rfl, rfl⟩
  have hP := hP.bg [20]
  change EV _ _ _ _ _ _ _ _ _ (mJ _ (bgI (mI _) [20]))
  try dsimp only [pu]
  refine E_aload_n dX2_mark_9 rfl ?_
  refine gp_X2_7_6 rfl dX2_mark_10 (by exact hP.o) (by exact hP.nb) ?_
  refine E_iret dX2_mark_13 rfl ?_
  exact ⟨rfl, rfl⟩
set_option maxRecDepth 20000 in
set_option maxHeartbeats 3000000 in
theorem c_X4_mark_3 {G : Ctx} {M : Mem} {a : Nat} {nb we ya : Int} (hP : PQ M a 3 nb we ya) : CT G m_X4_mark 2 0 0 [vR a] M (pB M (nb + ya) [21, 20]) := by
  refine CT.of k_X4_mark 0 (ls := [some (vR a)]) rfl (Nat.le_of_ble_eq_true rfl) ?_
  have hb := hP.bd
  refine E_aload_n dX4_mark_0 rfl ?_
  refine gp_X4_7_3 rfl dX4_mark_1 (by exact hP.o) (by exact hP.tr) ?_
  refine E_bipush dX4_mark_4 (by decide) ?_
  refine i_X4_13 rfl dX4_mark_6 (by exact hP.tq.o) (c_tBegin (by exact hP.tq.o) (by exact hP.tq.numbers) (by exact hP.tq.s_numbers) (by exact hP.tb.1) (by exact hP.tb.2)) (by omega) (Nat.le_of_ble_eq_true rfl) rfl rfl ?_
  rintro _ _ ⟨rfl, I1, rfl, rfl⟩
  have hP := hP.bg [21]
  change EV _ _ _ _ _ _ _ _ _ (mJ _ (bgI (mI _) [21]))
  try dsimp only [pu]
  refine E_aload_n dX4_mark_9 rfl ?_
  refine E_callSU (mt' := m_X2_mark) (ci := 3) pw_1007 pw_1483 pw_927 pw_1008 (by decide +kernel) rfl (by exact hP.o) dX4_mark_10 k_X2_mark (c_X2_mark_3 hP) (by omega) (Nat.le_of_ble_eq_true rfl) ?_
  rintro _ _ ⟨rfl, rfl⟩
  have hP := hP.bg [20]
  try dsimp only [pu]
  refine E_aload_n dX4_mark_13 rfl ?_
  refine gp_X4_27_3 rfl dX4_mark_14 (by exact hP.o) (by exact hP.ya) ?_
  refine E_iadd dX4_mark_17 (by omega) (by omega) ?_
  refine E_iret dX4_mark_18 rfl ?_
  exact ⟨rfl, rfl⟩
set_option maxRecDepth 20000 in
set_option maxHeartbeats 3000000 in
theorem c_X4_mark_0 {G : Ctx} {M : Mem} {a : Nat} {nb we ya : Int} (hP : PQ M a 0 nb we ya) : CT G m_X4_mark 2 0 0 [vR a] M (pB M (nb + ya) [21, 20]) := by
  refine CT.of k_X4_mark 0 (ls := [some (vR a)]) rfl (Nat.le_of_ble_eq_true rfl) ?_
  have hb := hP.bd
  refine E_aload_n dX4_mark_0 rfl ?_
  refine gp_X4_7_0 rfl dX4_mark_1 (by exact hP.o) (by exact hP.tr) ?_
  refine E_bipush dX4_mark_4 (by decide) ?_
  refine i_X4_13 rfl dX4_mark_6 (by exact hP.tq.o) (c_tBegin (by exact hP.tq.o) (by exact hP.tq.numbers) (by exact hP.tq.s_numbers) (by exact hP.tb.1) (by exact hP.tb.2)) (by omega) (Nat.le_of_ble_eq_true rfl) rfl rfl ?_
  rintro _ _ ⟨rfl, I1, rfl, rfl⟩
  have hP := hP.bg [21]
  change EV _ _ _ _ _ _ _ _ _ (mJ _ (bgI (mI _) [21]))
  try dsimp only [pu]
  refine E_aload_n dX4_mark_9 rfl ?_
  refine E_callSU (mt' := m_X2_mark) (ci := 0) pw_1007 pw_1483 pw_927 pw_1008 (by decide +kernel) rfl (by exact hP.o) dX4_mark_10 k_X2_mark (c_X2_mark_0 hP) (by omega) (Nat.le_of_ble_eq_true rfl) ?_
  rintro _ _ ⟨rfl, rfl⟩
  have hP := hP.bg [20]
  try dsimp only [pu]
  refine E_aload_n dX4_mark_13 rfl ?_
  refine gp_X4_27_0 rfl dX4_mark_14 (by exact hP.o) (by exact hP.ya) ?_
  refine E_iadd dX4_mark_17 (by omega) (by omega) ?_
  refine E_iret dX4_mark_18 rfl ?_
  exact ⟨rfl, rfl⟩
set_option maxRecDepth 20000 in
set_option maxHeartbeats 3000000 in
theorem c_X0_mark_0 {G : Ctx} {M : Mem} {a : Nat} {nb we ya : Int} (hP : PQ M a 0 nb we ya) : CT G m_X0_mark 3 0 0 [vR a] M (pB M (nb + ya + 1000) [24, 21, 20]) := by
  refine CT.of k_X0_mark 0 (ls := [some (vR a)]) rfl (Nat.le_of_ble_eq_true rfl) ?_
  have hb := hP.bd
  refine E_aload_n dX0_mark_0 rfl ?_
  refine g_X0_7 rfl dX0_mark_1 (by exact hP.o) (by exact hP.tr) ?_
  refine E_bipush dX0_mark_4 (by decide) ?_
  refine i_X0_13 rfl dX0_mark_6 (by exact hP.tq.o) (c_tBegin (by exact hP.tq.o) (by exact hP.tq.numbers) (by exact hP.tq.s_numbers) (by exact hP.tb.1) (by exact hP.tb.2)) (by omega) (Nat.le_of_ble_eq_true rfl) rfl rfl ?_
  rintro _ _ ⟨rfl, I1, rfl, rfl⟩
  have hP := hP.bg [24]
  change EV _ _ _ _ _ _ _ _ _ (mJ _ (bgI (mI _) [24]))
  try dsimp only [pu]
  refine E_aload_n dX0_mark_9 rfl ?_
  refine E_callSU (mt' := m_X4_mark) (ci := 0) pw_1005 pw_1001 pw_938 pw_999 (by decide +kernel) rfl (by exact hP.o) dX0_mark_10 k_X4_mark (c_X4_mark_0 hP) (by omega) (Nat.le_of_ble_eq_true rfl) ?_
  rintro _ _ ⟨rfl, rfl⟩
  have hP := hP.bg [21, 20]
  try dsimp only [pu]
  refine E_sipush dX0_mark_13 (by decide) ?_
  refine E_iadd dX0_mark_16 (by omega) (by omega) ?_
  refine E_iret dX0_mark_17 rfl ?_
  exact ⟨rfl, rfl⟩
set_option maxRecDepth 20000 in
set_option maxHeartbeats 3000000 in
theorem c_X4_size_3 {G : Ctx} {M : Mem} {a : Nat} {nb we ya : Int} (hP : PQ M a 3 nb we ya) : CT G m_X4_size 3 0 0 [vR a] M (pB M (we + (nb + ya)) [11, 10, 21, 20]) := by
  refine CT.of k_X4_size 0 (ls := [some (vR a)]) rfl (Nat.le_of_ble_eq_true rfl) ?_
  have hb := hP.bd
  refine E_aload_n dX4_size_0 rfl ?_
  refine gp_X4_7_3 rfl dX4_size_1 (by exact hP.o) (by exact hP.tr) ?_
  refine E_bipush dX4_size_4 (by decide) ?_
  refine i_X4_13 rfl dX4_size_6 (by exact hP.tq.o) (c_tBegin (by exact hP.tq.o) (by exact hP.tq.numbers) (by exact hP.tq.s_numbers) (by exact hP.tb.1) (by exact hP.tb.2)) (by omega) (Nat.le_of_ble_eq_true rfl) rfl rfl ?_
  rintro _ _ ⟨rfl, I1, rfl, rfl⟩
  have hP := hP.bg [11]
  change EV _ _ _ _ _ _ _ _ _ (mJ _ (bgI (mI _) [11]))
  try dsimp only [pu]
  refine E_aload_n dX4_size_9 rfl ?_
  refine E_callSU (mt' := m_X2_size) (ci := 3) pw_997 pw_985 pw_927 pw_984 (by decide +kernel) rfl (by exact hP.o) dX4_size_10 k_X2_size (c_X2_size_3 hP) (by omega) (Nat.le_of_ble_eq_true rfl) ?_
  rintro _ _ ⟨rfl, rfl⟩
  have hP := hP.bg [10]
  try dsimp only [pu]
  refine E_aload_n dX4_size_13 rfl ?_
  refine i_X4_23 rfl dX4_size_14 (by exact hP.o) (c_X4_mark_3 hP) (by omega) (Nat.le_of_ble_eq_true rfl) rfl rfl ?_
  rintro _ _ ⟨rfl, rfl⟩
  try dsimp only [pu]
  refine E_iadd dX4_size_17 (by omega) (by omega) ?_
  refine E_iret dX4_size_18 rfl ?_
  exact ⟨rfl, rfl⟩
set_option maxRecDepth 20000 in
set_option maxHeartbeats 3000000 in
theorem c_X4_size_0 {G : Ctx} {M : Mem} {a : Nat} {nb we ya : Int} (hP : PQ M a 0 nb we ya) : CT G m_X4_size 4 0 0 [vR a] M (pB M (we + (nb + ya + 1000)) [11, 10, 24, 21, 20]) := by
  refine CT.of k_X4_size 0 (ls := [some (vR a)]) rfl (Nat.le_of_ble_eq_true rfl) ?_
  have hb := hP.bd
  refine E_aload_n dX4_size_0 rfl ?_
  refine gp_X4_7_0 rfl dX4_size_1 (by exact hP.o) (by exact hP.tr) ?_
  refine E_bipush dX4_size_4 (by decide) ?_
  refine i_X4_13 rfl dX4_size_6 (by exact hP.tq.o) (c_tBegin (by exact hP.tq.o) (by exact hP.tq.numbers) (by exact hP.tq.s_numbers) (by exact hP.tb.1) (by exact hP.tb.2)) (by omega) (Nat.le_of_ble_eq_true rfl) rfl rfl ?_
  rintro _ _ ⟨rfl, I1, rfl, rfl⟩
  have hP := hP.bg [11]
  change EV _ _ _ _ _ _ _ _ _ (mJ _ (bgI (mI _) [11]))
  try dsimp only [pu]
  refine E_aload_n dX4_size_9 rfl ?_
  refine E_callSU (mt' := m_X2_size) (ci := 0) pw_997 pw_985 pw_927 pw_984 (by decide +kernel) rfl (by exact hP.o) dX4_size_10 k_X2_size (c_X2_size_0 hP) (by omega) (Nat.le_of_ble_eq_true rfl) ?_
  rintro _ _ ⟨rfl, rfl⟩
  have hP := hP.bg [10]
  try dsimp only [pu]
  refine E_aload_n dX4_size_13 rfl ?_
  refine E_callO (mt' := m_X0_mark) (ci := 0) (x := ⟨"CourtWash$Red", "mark", "()I"⟩) (owner := "CourtWash$Red") k_X4_mark.1 pw_998 pw_1001 pw_999 pw_1002 pw_1003 (by decide +kernel) rfl (by exact hP.o) dX4_size_14 k_X0_mark (c_X0_mark_0 hP) (by omega) (Nat.le_of_ble_eq_true rfl) ?_
  rintro _ _ ⟨rfl, rfl⟩
  have hP := hP.bg [24, 21, 20]
  try dsimp only [pu]
  refine E_iadd dX4_size_17 (by omega) (by omega) ?_
  refine E_iret dX4_size_18 rfl ?_
  exact ⟨rfl, rfl⟩
set_option maxRecDepth 20000 in
set_option maxHeartbeats 3000000 in
theorem c_X0_size_0 {G : Ctx} {M : Mem} {a : Nat} {nb we ya : Int} (hP : PQ M a 0 nb we ya) : CT G m_X0_size 5 0 0 [vR a] M (pB M (-(we + (nb + ya + 1000))) [12, 11, 10, 24, 21, 20]) := by
  refine CT.of k_X0_size 0 (ls := [some (vR a)]) rfl (Nat.le_of_ble_eq_true rfl) ?_
  have hb := hP.bd
  refine E_aload_n dX0_size_0 rfl ?_
  refine g_X0_7 rfl dX0_size_1 (by exact hP.o) (by exact hP.tr) ?_
  refine E_bipush dX0_size_4 (by decide) ?_
  refine i_X0_13 rfl dX0_size_6 (by exact hP.tq.o) (c_tBegin (by exact hP.tq.o) (by exact hP.tq.numbers) (by exact hP.tq.s_numbers) (by exact hP.tb.1) (by exact hP.tb.2)) (by omega) (Nat.le_of_ble_eq_true rfl) rfl rfl ?_
  rintro _ _ ⟨rfl, I1, rfl, rfl⟩
  have hP := hP.bg [12]
  change EV _ _ _ _ _ _ _ _ _ (mJ _ (bgI (mI _) [12]))
  try dsimp only [pu]
  refine E_aload_n dX0_size_9 rfl ?_
  refine E_callSU (mt' := m_X4_size) (ci := 0) pw_993 pw_1482 pw_938 pw_994 (by decide +kernel) rfl (by exact hP.o) dX0_size_10 k_X4_size (c_X4_size_0 hP) (by omega) (Nat.le_of_ble_eq_true rfl) ?_
  rintro _ _ ⟨rfl, rfl⟩
  have hP := hP.bg [11, 10, 24, 21, 20]
  try dsimp only [pu]
  refine E_ineg dX0_size_13 (by omega) (by omega) ?_
  refine E_iret dX0_size_14 rfl ?_
  exact ⟨rfl, rfl⟩
set_option maxRecDepth 20000 in
set_option maxHeartbeats 3000000 in
theorem c_X10_size_9 {G : Ctx} {M : Mem} {a : Nat} {nb we ya : Int} (hP : PQ M a 9 nb we ya) : CT G m_X10_size 2 0 0 [vR a] M (pB M (we - ya) [13, 10]) := by
  refine CT.of k_X10_size 0 (ls := [some (vR a)]) rfl (Nat.le_of_ble_eq_true rfl) ?_
  have hb := hP.bd
  refine E_aload_n dX10_size_0 rfl ?_
  refine gp_X10_7_9 rfl dX10_size_1 (by exact hP.o) (by exact hP.tr) ?_
  refine E_bipush dX10_size_4 (by decide) ?_
  refine i_X10_13 rfl dX10_size_6 (by exact hP.tq.o) (c_tBegin (by exact hP.tq.o) (by exact hP.tq.numbers) (by exact hP.tq.s_numbers) (by exact hP.tb.1) (by exact hP.tb.2)) (by omega) (Nat.le_of_ble_eq_true rfl) rfl rfl ?_
  rintro _ _ ⟨rfl, I1, rfl, rfl⟩
  have hP := hP.bg [13]
  change EV _ _ _ _ _ _ _ _ _ (mJ _ (bgI (mI _) [13]))
  try dsimp only [pu]
  refine E_aload_n dX10_size_9 rfl ?_
  refine E_callSU (mt' := m_X2_size) (ci := 9) pw_1021 pw_985 pw_949 pw_984 (by decide +kernel) rfl (by exact hP.o) dX10_size_10 k_X2_size (c_X2_size_9 hP) (by omega) (Nat.le_of_ble_eq_true rfl) ?_
  rintro _ _ ⟨rfl, rfl⟩
  have hP := hP.bg [10]
  try dsimp only [pu]
  refine E_aload_n dX10_size_13 rfl ?_
  refine gp_X10_23_9 rfl dX10_size_14 (by exact hP.o) (by exact hP.ya) ?_
  refine E_isub dX10_size_17 (by omega) (by omega) ?_
  refine E_iret dX10_size_18 rfl ?_
  exact ⟨rfl, rfl⟩
set_option maxRecDepth 20000 in
set_option maxHeartbeats 3000000 in
theorem c_X10_size_6 {G : Ctx} {M : Mem} {a : Nat} {nb we ya : Int} (hP : PQ M a 6 nb we ya) : CT G m_X10_size 2 0 0 [vR a] M (pB M (we - ya) [13, 10]) := by
  refine CT.of k_X10_size 0 (ls := [some (vR a)]) rfl (Nat.le_of_ble_eq_true rfl) ?_
  have hb := hP.bd
  refine E_aload_n dX10_size_0 rfl ?_
  refine gp_X10_7_6 rfl dX10_size_1 (by exact hP.o) (by exact hP.tr) ?_
  refine E_bipush dX10_size_4 (by decide) ?_
  refine i_X10_13 rfl dX10_size_6 (by exact hP.tq.o) (c_tBegin (by exact hP.tq.o) (by exact hP.tq.numbers) (by exact hP.tq.s_numbers) (by exact hP.tb.1) (by exact hP.tb.2)) (by omega) (Nat.le_of_ble_eq_true rfl) rfl rfl ?_
  rintro _ _ ⟨rfl, I1, rfl, rfl⟩
  have hP := hP.bg [13]
  change EV _ _ _ _ _ _ _ _ _ (mJ _ (bgI (mI _) [13]))
  try dsimp only [pu]
  refine E_aload_n dX10_size_9 rfl ?_
  refine E_callSU (mt' := m_X2_size) (ci := 6) pw_1021 pw_985 pw_949 pw_984 (by decide +kernel) rfl (by exact hP.o) dX10_size_10 k_X2_size (c_X2_size_6 hP) (by omega) (Nat.le_of_ble_eq_true rfl) ?_
  rintro _ _ ⟨rfl, rfl⟩
  have hP := hP.bg [10]
  try dsimp only [pu]
  refine E_aload_n dX10_size_13 rfl ?_
  refine gp_X10_23_6 rfl dX10_size_14 (by exact hP.o) (by exact hP.ya) ?_
  refine E_isub dX10_size_17 (by omega) (by omega) ?_
  refine E_iret dX10_size_18 rfl ?_
  exact ⟨rfl, rfl⟩
set_option maxRecDepth 20000 in
set_option maxHeartbeats 3000000 in
theorem c_X6_mark_5 {G : Ctx} {M : Mem} {a : Nat} {nb we ya : Int} (hP : PQ M a 5 nb we ya) : CT G m_X6_mark 2 0 0 [vR a] M (pB M (nb - we) [22, 20, 10]) := by
  refine CT.of k_X6_mark 0 (ls := [some (vR a)]) rfl (Nat.le_of_ble_eq_true rfl) ?_
  have hb := hP.bd
  refine E_aload_n dX6_mark_0 rfl ?_
  refine g_X6_7 rfl dX6_mark_1 (by exact hP.o) (by exact hP.tr) ?_
  refine E_bipush dX6_mark_4 (by decide) ?_
  refine i_X6_13 rfl dX6_mark_6 (by exact hP.tq.o) (c_tBegin (by exact hP.tq.o) (by exact hP.tq.numbers) (by exact hP.tq.s_numbers) (by exact hP.tb.1) (by exact hP.tb.2)) (by omega) (Nat.le_of_ble_eq_true rfl) rfl rfl ?_
  rintro _ _ ⟨rfl, I1, rfl, rfl⟩
  have hP := hP.bg [22]
  change EV _ _ _ _ _ _ _ _ _ (mJ _ (bgI (mI _) [22]))
  try dsimp only [pu]
  refine E_aload_n dX6_mark_9 rfl ?_
  refine E_callSU (mt' := m_X2_mark) (ci := 5) pw_1028 pw_1483 pw_960 pw_1008 (by decide +kernel) rfl (by exact hP.o) dX6_mark_10 k_X2_mark (c_X2_mark_5 hP) (by omega) (Nat.le_of_ble_eq_true rfl) ?_
  rintro _ _ ⟨rfl, rfl⟩
  have hP := hP.bg [20]
  try dsimp only [pu]
  refine E_aload_n dX6_mark_13 rfl ?_
  refine E_callU (mt' := m_X2_size) (ci := 5) (x := ⟨"CourtWash$Sheet", "size", "()I"⟩) (owner := "CourtWash$Piece") rfl pw_1029 pw_1030 pw_1032 pw_984 (by decide +kernel) rfl (by exact hP.o) dX6_mark_14 k_X2_size (c_X2_size_5 hP) (by omega) (Nat.le_of_ble_eq_true rfl) ?_
  rintro _ _ ⟨rfl, rfl⟩
  have hP := hP.bg [10]
  try dsimp only [pu]
  refine E_isub dX6_mark_17 (by omega) (by omega) ?_
  refine E_iret dX6_mark_18 rfl ?_
  exact ⟨rfl, rfl⟩
set_option maxRecDepth 20000 in
set_option maxHeartbeats 3000000 in
theorem c_X7_size_6 {G : Ctx} {M : Mem} {a : Nat} {nb we ya : Int} (hP : PQ M a 6 nb we ya) : CT G m_X7_size 3 0 0 [vR a] M (pB M (2 * (we - ya)) [14, 13, 10]) := by
  refine CT.of k_X7_size 0 (ls := [some (vR a)]) rfl (Nat.le_of_ble_eq_true rfl) ?_
  have hb := hP.bd
  refine E_aload_n dX7_size_0 rfl ?_
  refine g_X7_7 rfl dX7_size_1 (by exact hP.o) (by exact hP.tr) ?_
  refine E_bipush dX7_size_4 (by decide) ?_
  refine i_X7_13 rfl dX7_size_6 (by exact hP.tq.o) (c_tBegin (by exact hP.tq.o) (by exact hP.tq.numbers) (by exact hP.tq.s_numbers) (by exact hP.tb.1) (by exact hP.tb.2)) (by omega) (Nat.le_of_ble_eq_true rfl) rfl rfl ?_
  rintro _ _ ⟨rfl, I1, rfl, rfl⟩
  have hP := hP.bg [14]
  change EV _ _ _ _ _ _ _ _ _ (mJ _ (bgI (mI _) [14]))
  try dsimp only [pu]
  refine E_iconst dX7_size_9 (by decide) ?_
  refine E_aload_n dX7_size_10 rfl ?_
  refine E_callSU (mt' := m_X10_size) (ci := 6) pw_1017 pw_1484 pw_971 pw_1018 (by decide +kernel) rfl (by exact hP.o) dX7_size_11 k_X10_size (c_X10_size_6 hP) (by omega) (Nat.le_of_ble_eq_true rfl) ?_
  rintro _ _ ⟨rfl, rfl⟩
  have hP := hP.bg [13, 10]
  try dsimp only [pu]
  refine E_imul dX7_size_14 (by omega) (by omega) ?_
  refine E_iret dX7_size_15 rfl ?_
  exact ⟨rfl, rfl⟩
