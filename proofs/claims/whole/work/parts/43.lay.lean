/-! ===== 43: lay ===== -/
/-- what hangs, by a row of lines, after the first k; why not -/
def lh (f : Int → Int) : Nat → Int → Int
  | 0 => fun _ => -1000000
  | k + 1 => if f k < 0 then lh f k else upH (lh f k) k (f k)
def lr (cd : CD) (f : Int → Int) (g : Int) (n rn : Nat) : Nat → Int
  | 0 => 0
  | k + 1 => if lr cd f g n rn k ≠ 0 then lr cd f g n rn k else if f k < 0 then 0 else fRef cd (lh f k) g k (f k) n rn
theorem lh_at (f : Int → Int) : ∀ (k : Nat) (p : Int), 0 ≤ p → lh f k p = if p < k ∧ 0 ≤ f p then f p else -1000000
  | 0, p, h => by simp only [lh]; rw [if_neg (by omega)]
  | k + 1, p, h => by
    have ih := lh_at f k p h
    simp only [lh]
    by_cases hk : f k < 0
    · rw [if_pos hk, ih]
      by_cases e : p = k
      · subst e; rw [if_neg (by omega), if_neg (by omega)]
      · by_cases q : p < k ∧ 0 ≤ f p
        · rw [if_pos q, if_pos ⟨by omega, q.2⟩]
        · rw [if_neg q, if_neg (by omega)]
    · rw [if_neg hk]
      unfold upH
      by_cases e : p = k
      · subst e; rw [if_pos rfl, if_pos ⟨by omega, by omega⟩]
      · rw [if_neg e, ih]
        by_cases q : p < k ∧ 0 ≤ f p
        · rw [if_pos q, if_pos ⟨by omega, q.2⟩]
        · rw [if_neg q, if_neg (by omega)]
theorem lr_mono {cd : CD} {f : Int → Int} {g : Int} {n rn k q : Nat} (h : lr cd f g n rn k ≠ 0) (hk : k ≤ q) : lr cd f g n rn q = lr cd f g n rn k := by
  induction hk with
  | refl => rfl
  | step _ ih => simp only [lr]; rw [if_pos (by rw [ih]; exact h), ih]
theorem fIn_at {f : Int → Int} {lo hi : Int} : ∀ {n : Nat}, fIn f lo hi n = true → ∀ p : Int, 0 ≤ p → p < n → lo ≤ f p ∧ f p ≤ hi := by
  intro n
  induction n with
  | zero => intro _ p p0 p1; omega
  | succ n ih =>
    intro h p p0 p1
    simp only [fIn, Bool.and_eq_true, decide_eq_true_eq] at h
    by_cases e : p = n
    · rw [e]; exact h.2
    · exact ih h.1 p p0 (by omega)
theorem lh_hv {cd : CD} {f : Int → Int} {n : Nat} (hn : cd 2 = n) (hf : fIn f (-1) (cd 0 - 1) n = true) (k : Nat) : HV cd (lh f k) := fun p p0 p1 => by
  rw [lh_at f k p p0]
  have h := fIn_at hf p p0 (by omega)
  split
  · exact Or.inr ⟨by omega, by omega⟩
  · exact Or.inl rfl
theorem fRef_sg (cd : CD) (hu : Int → Int) (g p l : Int) (n rn : Nat) : fRef cd hu g p l n rn = 0 ∨ fRef cd hu g p l n rn < 0 := by
  unfold fRef; split
  · exact Or.inr (by omega)
  · split
    · exact Or.inl rfl
    · exact Or.inr (by omega)
theorem fLeft_nn {cd : CD} (hW : WFc cd) {hu : Int → Int} {g p l : Int} {n rn : Nat} (hn : (n : Int) ≤ cd 2) (h : fRef cd hu g p l n rn = 0) : 0 ≤ fLeft cd hu p l n := by
  unfold fRef at h
  split at h
  · omega
  · split at h
    · rename_i h2
      have := (fRoom_iff hW hu p l n hn).mp h2
      unfold fLeft
      split
      · omega
      · omega
    · omega
def s_lay (A : AS) (a i : Int) (n rn : Nat) : Int := if A 0 7 = 0 then -1000002 else if ¬ (0 ≤ a ∧ a ≤ 7) then -1000001 else if A 1 a < 0 then -1000011 else if ¬ (0 ≤ i ∧ i + A 4 2 ≤ A 2 a) then -1000012 else if fIn (fun p => A 3 (40 * a + i + p)) (-1) (A 4 0 - 1) n = false then -1000001 else if lr (A 4) (fun p => A 3 (40 * a + i + p)) (A 4 3) n rn n ≠ 0 then lr (A 4) (fun p => A 3 (40 * a + i + p)) (A 4 3) n rn n else cnt (fun p => decide (0 ≤ A 3 (40 * a + i + p))) n
def t_laid (A : AS) (a i : Int) (n rn : Nat) : AS := if A 0 7 = 0 then A else if ¬ (0 ≤ a ∧ a ≤ 7) then A else if A 1 a < 0 then up2 A 0 1 1 else if ¬ (0 ≤ i ∧ i + A 4 2 ≤ A 2 a) then up2 A 0 1 2 else if fIn (fun p => A 3 (40 * a + i + p)) (-1) (A 4 0 - 1) n = false then A else if lr (A 4) (fun p => A 3 (40 * a + i + p)) (A 4 3) n rn n ≠ 0 then A else pg4 (up2 A 0 1 0) (cKeep (A 4) (lh (fun p => A 3 (40 * a + i + p)) n) (cWe (A 4)) (cSn (A 4)) n)
theorem pg4_up (A : AS) (f : CD) (x : Int) : pg4 (up2 A 0 1 x) f = up2 (pg4 A f) 0 1 x := by
  funext k j; simp only [pg4, up2]
  by_cases h : k = 4
  · have h2 : ¬ (k = 0 ∧ j = 1) := by omega
    simp only [if_pos h, if_neg h2]
  · simp only [if_neg h]
set_option maxRecDepth 20000 in
set_option maxHeartbeats 3000000 in
theorem l_rlay1 {G : Ctx} {M : Mem} {m : Nat} {cd : CD} (hO : MO M m) (hQ : MC (mI M) m cd) (hW : WFc cd) (n : Nat) (hn : cd 2 = n) {a i : Int} {f : Int → Int} (a0 : 0 ≤ a ∧ a ≤ 7) (i0 : 0 ≤ i ∧ i + n ≤ 40) (hf : ∀ p : Int, 0 ≤ p → p < n → mI M (m + 3) (40 * a + i + p) = f p) {Q : Option MV → Mem → Prop} (KB : fIn f (-1) (cd 0 - 1) n = false → Q (some (vI (-1000001))) M) (K : ∀ z : Int, fIn f (-1) (cd 0 - 1) n = true → EV G m_X12_lay 3 0 0 Q 124 [some (vR m), some (vI a), some (vI i), some (vI z), none, none, none] [] M) : ∀ (k r : Nat) , r + k = n → fIn f (-1) (cd 0 - 1) r = true → EV G m_X12_lay 3 0 0 (Q) 73 [some (vR m), some (vI a), some (vI i), some (vI (r : Int)), none, none, none] [] M := by
  intro k
  induction k with
  | zero =>
    intro r  hr hi_
    obtain rfl : r = n := by omega
    have hpn := hW.pn
    have hl8 := hW.ln
    refine E_iload_n dX12_lay_73 rfl ?_
    refine E_aload_n dX12_lay_74 rfl ?_
    refine g_X12_19 rfl dX12_lay_75 hO.o hO.court ?_
    refine E_iconst dX12_lay_78 (by decide) ?_
    refine E_iald dX12_lay_79 hO.s_court (by omega) (by omega) (hQ.at (j := 2) (by omega) (by omega) (by omega)) ?_
    refine E_icmp_ge (tgt := 124) dX12_lay_80 (by decide) (fun h80 => ?_) (fun h80 => ?_)
    · exact K _ hi_
    · exfalso; omega
  | succ k ih =>
    intro r  hr hi_
    have hpn := hW.pn
    have hl8 := hW.ln
    refine E_iload_n dX12_lay_73 rfl ?_
    refine E_aload_n dX12_lay_74 rfl ?_
    refine g_X12_19 rfl dX12_lay_75 hO.o hO.court ?_
    refine E_iconst dX12_lay_78 (by decide) ?_
    refine E_iald dX12_lay_79 hO.s_court (by omega) (by omega) (hQ.at (j := 2) (by omega) (by omega) (by omega)) ?_
    refine E_icmp_ge (tgt := 124) dX12_lay_80 (by decide) (fun h80 => ?_) (fun h80 => ?_)
    · exfalso; omega
    · refine E_aload_n dX12_lay_83 rfl ?_
      refine g_X12_16 rfl dX12_lay_84 hO.o hO.item ?_
      refine E_bipush dX12_lay_87 (by decide) ?_
      refine E_iload_n dX12_lay_89 rfl ?_
      refine E_imul dX12_lay_90 (by omega) (by omega) ?_
      refine E_iload_n dX12_lay_91 rfl ?_
      refine E_iadd dX12_lay_92 (by omega) (by omega) ?_
      refine E_iload_n dX12_lay_93 rfl ?_
      refine E_iadd dX12_lay_94 (by omega) (by omega) ?_
      refine E_iald dX12_lay_95 hO.s_item (by omega) (by omega) (hf _ (by omega) (by omega)) ?_
      refine E_i2l dX12_lay_96 ?_
      refine c_X12_248 rfl dX12_lay_97 ?_
      refine E_aload_n dX12_lay_100 rfl ?_
      refine g_X12_19 rfl dX12_lay_101 hO.o hO.court ?_
      refine E_iconst dX12_lay_104 (by decide) ?_
      refine E_iald dX12_lay_105 hO.s_court (by omega) (by omega) (hQ.at (j := 0) (by omega) (by omega) (by omega)) ?_
      refine E_iconst dX12_lay_106 (by decide) ?_
      refine E_isub dX12_lay_107 (by omega) (by omega) ?_
      refine E_i2l dX12_lay_108 ?_
      refine i_X12_63 rfl dX12_lay_109 c_in (by omega) (Nat.le_of_ble_eq_true rfl) rfl rfl ?_
      rintro _ _ ⟨rfl, rfl⟩
      try dsimp only [pu]
      refine E_if_ne (tgt := 118) dX12_lay_112 (by decide) (fun h112 => ?_) (fun h112 => ?_)
      · simp only [tB0, ne_eq, Bool.not_eq_false, Bool.not_eq_true, decide_eq_true_eq, decide_eq_false_iff_not, Classical.not_not] at h112
        refine E_iinc dX12_lay_118 rfl (by omega) (by omega) (by decide) rfl (by decide) ?_
        try dsimp only [List.set]
        refine E_goto (tgt := 73) dX12_lay_121 (by decide) ?_
        exact EV.lq rfl (ih (r + 1) (by omega) (by simp only [fIn, hi_, Bool.true_and]; exact decide_eq_true (by omega)))
      · simp only [tB0, ne_eq, Bool.not_eq_false, Bool.not_eq_true, decide_eq_true_eq, decide_eq_false_iff_not, Classical.not_not] at h112
        refine c_X12_73 rfl dX12_lay_115 ?_
        refine E_iret dX12_lay_117 rfl ?_
        refine KB (fIn_mono (k := r + 1) ?_ (by omega))
        simp only [fIn, hi_, Bool.true_and]; exact decide_eq_false (by omega)
set_option maxRecDepth 20000 in
set_option maxHeartbeats 3000000 in
theorem l_rlay2 {G : Ctx} {M : Mem} {m : Nat} {cd : CD} (hO : MO M m) (hQ : MC (mI M) m cd) (hW : WFc cd) (n : Nat) (hn : cd 2 = n) {a i : Int} {Q : Option MV → Mem → Prop} (K : ∀ (I : AS) (z : Int), ((∀ b j, b ≠ m + 7 → I b j = mI M b j) ∧ ∀ p : Int, 0 ≤ p → p < n → I (m + 7) p = -1000000) → EV G m_X12_lay 3 0 0 Q 154 [some (vR m), some (vI a), some (vI i), some (vI z), none, none, none] [] (mJ M I)) : ∀ (k r : Nat) (I : Nat → Int → Int), r + k = n → ((∀ b j, b ≠ m + 7 → I b j = mI M b j) ∧ ∀ p : Int, 0 ≤ p → p < r → I (m + 7) p = -1000000) → EV G m_X12_lay 3 0 0 (Q) 130 [some (vR m), some (vI a), some (vI i), some (vI (r : Int)), none, none, none] [] (mJ M I) := by
  intro k
  induction k with
  | zero =>
    intro r I hr hi
    obtain rfl : r = n := by omega
    have hpn := hW.pn
    have hl8 := hW.ln
    have hQI : MC (mI (mJ M I)) m cd := fun k h0 h1 => (hi.1 _ _ (by omega)).trans (hQ k h0 h1)
    refine E_iload_n dX12_lay_130 rfl ?_
    refine E_aload_n dX12_lay_131 rfl ?_
    refine g_X12_19 rfl dX12_lay_132 hO.o hO.court ?_
    refine E_iconst dX12_lay_135 (by decide) ?_
    refine E_iald dX12_lay_136 hO.s_court (by omega) (by omega) (hQI.at (j := 2) (by omega) (by omega) (by omega)) ?_
    refine E_icmp_ge (tgt := 154) dX12_lay_137 (by decide) (fun h137 => ?_) (fun h137 => ?_)
    · exact K I _ hi
    · exfalso; omega
  | succ k ih =>
    intro r I hr hi
    have hpn := hW.pn
    have hl8 := hW.ln
    have hQI : MC (mI (mJ M I)) m cd := fun k h0 h1 => (hi.1 _ _ (by omega)).trans (hQ k h0 h1)
    refine E_iload_n dX12_lay_130 rfl ?_
    refine E_aload_n dX12_lay_131 rfl ?_
    refine g_X12_19 rfl dX12_lay_132 hO.o hO.court ?_
    refine E_iconst dX12_lay_135 (by decide) ?_
    refine E_iald dX12_lay_136 hO.s_court (by omega) (by omega) (hQI.at (j := 2) (by omega) (by omega) (by omega)) ?_
    refine E_icmp_ge (tgt := 154) dX12_lay_137 (by decide) (fun h137 => ?_) (fun h137 => ?_)
    · exfalso; omega
    · refine E_aload_n dX12_lay_140 rfl ?_
      refine g_X12_28 rfl dX12_lay_141 hO.o hO.hung ?_
      refine E_iload_n dX12_lay_144 rfl ?_
      refine c_X12_89 rfl dX12_lay_145 ?_
      refine E_iast dX12_lay_147 hO.s_hung (by omega) (by omega) ?_
      refine E_iinc dX12_lay_148 rfl (by omega) (by omega) (by decide) rfl (by decide) ?_
      try dsimp only [List.set]
      refine E_goto (tgt := 130) dX12_lay_151 (by decide) ?_
      refine EV.mq rfl rfl (ih (r + 1) (up2 I (m + 7) r (-1000000)) (by omega) ⟨fun b j hb => (up2_ne _ _ (fun z => hb z.1)).trans (hi.1 b j hb), fun p p0 p1 => ?_⟩)
      by_cases hp : p = r
      · rw [hp, up2_self]
      · rw [up2_ne _ _ (by omega)]; exact hi.2 p p0 (by omega)
set_option maxRecDepth 20000 in
set_option maxHeartbeats 3000000 in
theorem l_rlay3 {G : Ctx} {M : Mem} {m : Nat} {cd : CD} (hO : MO M m) (hQ : MC (mI M) m cd) (hW : WFc cd) (n : Nat) (hn : cd 2 = n) {a i : Int} {f : Int → Int} (a0 : 0 ≤ a ∧ a ≤ 7) (i0 : 0 ≤ i ∧ i + n ≤ 40) (hf : ∀ p : Int, 0 ≤ p → p < n → mI M (m + 3) (40 * a + i + p) = f p) {Q : Option MV → Mem → Prop} (rn : Nat) (hrn : cd 1 = rn) (g0 : 0 ≤ cd 3) (g1 : cd 3 ≤ 1000000) (hin : fIn f (-1) (cd 0 - 1) n = true) (KR : ∀ I : AS, (∀ b j, b ≠ m + 7 → I b j = mI M b j) → lr cd f (cd 3) n rn n ≠ 0 → Q (some (vI (lr cd f (cd 3) n rn n))) (mJ M I)) (K : ∀ (I : AS) (z5 z6 : Option MV), ((∀ b j, b ≠ m + 7 → I b j = mI M b j) ∧ (∀ p : Int, 0 ≤ p → p < cd 2 → I (m + 7) p = lh f n p) ∧ lr cd f (cd 3) n rn n = 0) → EV G m_X12_lay 3 0 0 Q 232 [some (vR m), some (vI a), some (vI i), some (vI (cnt (fun p => decide (0 ≤ f p)) n)), some (vI (n : Int)), z5, z6] [] (mJ M I)) : ∀ (k r : Nat) (I : AS) (z5 z6 : Option MV), r + k = n → (∀ b j, b ≠ m + 7 → I b j = mI M b j) ∧ (∀ p : Int, 0 ≤ p → p < cd 2 → I (m + 7) p = lh f r p) ∧ lr cd f (cd 3) n rn r = 0 → EV G m_X12_lay 3 0 0 (Q) 159 [some (vR m), some (vI a), some (vI i), some (vI (cnt (fun p => decide (0 ≤ f p)) r)), some (vI (r : Int)), z5, z6] [] (mJ M I) := by
  intro k
  induction k with
  | zero =>
    intro r I z5 z6 hr hi
    obtain rfl : r = n := by omega
    have hpn := hW.pn
    have hl8 := hW.ln
    have hQI : MC (mI (mJ M I)) m cd := fun k h0 h1 => (hi.1 _ _ (by omega)).trans (hQ k h0 h1)
    refine E_iload dX12_lay_159 rfl ?_
    refine E_aload_n dX12_lay_161 rfl ?_
    refine g_X12_19 rfl dX12_lay_162 hO.o hO.court ?_
    refine E_iconst dX12_lay_165 (by decide) ?_
    refine E_iald dX12_lay_166 hO.s_court (by omega) (by omega) (hQI.at (j := 2) (by omega) (by omega) (by omega)) ?_
    refine E_icmp_ge (tgt := 232) dX12_lay_167 (by decide) (fun h167 => ?_) (fun h167 => ?_)
    · exact K I _ _ hi
    · exfalso; omega
  | succ k ih =>
    intro r I z5 z6 hr hi
    have hpn := hW.pn
    have hl8 := hW.ln
    have hQI : MC (mI (mJ M I)) m cd := fun k h0 h1 => (hi.1 _ _ (by omega)).trans (hQ k h0 h1)
    have hcb := cnt_b (fun p => decide (0 ≤ f p)) r
    have hfr := fIn_at hin r (by omega) (by omega)
    refine E_iload dX12_lay_159 rfl ?_
    refine E_aload_n dX12_lay_161 rfl ?_
    refine g_X12_19 rfl dX12_lay_162 hO.o hO.court ?_
    refine E_iconst dX12_lay_165 (by decide) ?_
    refine E_iald dX12_lay_166 hO.s_court (by omega) (by omega) (hQI.at (j := 2) (by omega) (by omega) (by omega)) ?_
    refine E_icmp_ge (tgt := 232) dX12_lay_167 (by decide) (fun h167 => ?_) (fun h167 => ?_)
    · exfalso; omega
    · refine E_aload_n dX12_lay_170 rfl ?_
      refine g_X12_16 rfl dX12_lay_171 hO.o hO.item ?_
      refine E_bipush dX12_lay_174 (by decide) ?_
      refine E_iload_n dX12_lay_176 rfl ?_
      refine E_imul dX12_lay_177 (by omega) (by omega) ?_
      refine E_iload_n dX12_lay_178 rfl ?_
      refine E_iadd dX12_lay_179 (by omega) (by omega) ?_
      refine E_iload dX12_lay_180 rfl ?_
      refine E_iadd dX12_lay_182 (by omega) (by omega) ?_
      refine E_iald dX12_lay_183 hO.s_item (by omega) (by omega) ((hi.1 _ _ (by omega)).trans (hf _ (by omega) (by omega))) ?_
      refine E_istore dX12_lay_184 rfl (by decide) ?_
      try dsimp only [List.set]
      refine E_iload dX12_lay_186 rfl ?_
      refine E_if_ge (tgt := 195) dX12_lay_188 (by decide) (fun h188 => ?_) (fun h188 => ?_)
      · refine E_aload_n dX12_lay_195 rfl ?_
        refine E_iload dX12_lay_196 rfl ?_
        refine E_iload dX12_lay_198 rfl ?_
        refine i_X12_224 rfl dX12_lay_200 (by exact hO.o) (c_comes (hO.j I) hQI hW hi.2.1 g0 g1 n hn rn hrn (by omega) (by omega) (by omega) (by omega)) (by omega) (Nat.le_of_ble_eq_true rfl) rfl rfl ?_
        rintro _ M9 ⟨rfl, hM⟩
        obtain ⟨J, rfl, hJ7, hJo⟩ := com_mem hi.2.1 hM
        try dsimp only [pu]
        refine E_istore dX12_lay_203 rfl (by decide) ?_
        try dsimp only [List.set]
        refine E_iload dX12_lay_205 rfl ?_
        refine E_if_ge (tgt := 213) dX12_lay_207 (by decide) (fun h207 => ?_) (fun h207 => ?_)
        · refine E_iload_n dX12_lay_213 rfl ?_
          refine E_iload dX12_lay_214 rfl ?_
          refine E_if_ge (tgt := 223) dX12_lay_216 (by decide) (fun h216 => ?_) (fun h216 => ?_)
          · refine E_iconst dX12_lay_223 (by decide) ?_
            refine E_iadd dX12_lay_224 (by omega) (by omega) ?_
            refine E_istore_n dX12_lay_225 rfl (by decide) ?_
            try dsimp only [List.set]
            refine E_iinc dX12_lay_226 rfl (by omega) (by omega) (by decide) rfl (by decide) ?_
            try dsimp only [List.set]
            refine E_goto (tgt := 159) dX12_lay_229 (by decide) ?_
            have hz : (fRef cd (lh f r) (cd 3) r (f r) n rn) = 0 := by
              rcases fRef_sg cd (lh f r) (cd 3) r (f r) n rn with hz | hz
              · exact hz
              · exfalso; rw [if_neg (by omega)] at h207; omega
            rw [if_pos hz] at hJ7
            exact EV.lq (by simp only [cnt]; rw [decide_eq_true (by omega)]; rfl) (EV.mq rfl rfl (ih (r + 1) J _ _ (by omega) ⟨fun b j hb => (hJo b j hb).trans (hi.1 b j hb), fun p p0 p1 => by simp only [lh]; rw [if_neg (by omega)]; exact hJ7 p p0 p1, by simp only [lr]; rw [if_neg (by omega), if_neg (by omega)]; exact hz⟩))
          · exfalso; omega
        · refine E_iload dX12_lay_210 rfl ?_
          refine E_iret dX12_lay_212 rfl ?_
          have hz : (fRef cd (lh f r) (cd 3) r (f r) n rn) ≠ 0 := fun hz => by
            have := fLeft_nn hW (by omega) hz
            rw [if_pos hz] at h207; omega
          rw [if_neg hz] at hJ7 ⊢
          have e : lr cd f (cd 3) n rn (r + 1) = (fRef cd (lh f r) (cd 3) r (f r) n rn) := by simp only [lr]; rw [if_neg (by omega), if_neg (by omega)]
          have e2 : lr cd f (cd 3) n rn n = (fRef cd (lh f r) (cd 3) r (f r) n rn) := (lr_mono (by rw [e]; exact hz) (by omega)).trans e
          rw [← e2]
          exact KR J (fun b j hb => (hJo b j hb).trans (hi.1 b j hb)) (by rw [e2]; exact hz)
      · refine E_iconst dX12_lay_191 (by decide) ?_
        refine E_goto (tgt := 203) dX12_lay_192 (by decide) ?_
        refine E_istore dX12_lay_203 rfl (by decide) ?_
        try dsimp only [List.set]
        refine E_iload dX12_lay_205 rfl ?_
        refine E_if_ge (tgt := 213) dX12_lay_207 (by decide) (fun h207 => ?_) (fun h207 => ?_)
        · refine E_iload_n dX12_lay_213 rfl ?_
          refine E_iload dX12_lay_214 rfl ?_
          refine E_if_ge (tgt := 223) dX12_lay_216 (by decide) (fun h216 => ?_) (fun h216 => ?_)
          · exfalso; omega
          · refine E_iconst dX12_lay_219 (by decide) ?_
            refine E_goto (tgt := 224) dX12_lay_220 (by decide) ?_
            refine E_iadd dX12_lay_224 (by omega) (by omega) ?_
            refine E_istore_n dX12_lay_225 rfl (by decide) ?_
            try dsimp only [List.set]
            refine E_iinc dX12_lay_226 rfl (by omega) (by omega) (by decide) rfl (by decide) ?_
            try dsimp only [List.set]
            refine E_goto (tgt := 159) dX12_lay_229 (by decide) ?_
            exact EV.lq (by simp only [cnt]; rw [decide_eq_false (by omega)]; rfl) (EV.mq rfl rfl (ih (r + 1) I _ _ (by omega) ⟨hi.1, fun p p0 p1 => by simp only [lh]; rw [if_pos (by omega)]; exact hi.2.1 p p0 p1, by simp only [lr]; rw [if_neg (by omega), if_pos (by omega)]⟩))
        · exfalso; omega
set_option maxRecDepth 20000 in
set_option maxHeartbeats 3000000 in
theorem r_lay {G : Ctx} {M : Mem} {m : Nat} {A : AS} {B : Int} (hO : MO M m) (hV : MA (mI M) m A) (hG : GA A B) (hB : B ≤ 900000) {a i : Int} (n : Nat) (hn : A 4 2 = n) (rn : Nat) (hrn : A 4 1 = rn) (i0 : -2147483648 ≤ i ∧ i ≤ 2147483647) : CT G m_X12_lay 3 0 0 [vR m, vI a, vI i] M (rM M m (s_lay A a i n rn) (t_laid A a i n rn)) := by
  refine CT.of k_X12_lay 4 (ls := [some (vR m), some (vI a), some (vI i), none, none, none, none]) rfl (Nat.le_of_ble_eq_true rfl) ?_
  refine E_aload_n dX12_lay_0 rfl ?_
  refine E_iconst dX12_lay_1 (by decide) ?_
  refine p_X12_53 rfl dX12_lay_2 hO.o ?_
  obtain ⟨M1, e1, hO, hV, hF⟩ := thr hO hV
  refine EV.mq rfl e1.symm ?_
  clear e1
  have hQ := hV.mc
  have hW := hG.w.c
  have hpn := hW.pn
  have hl8 := hW.ln
  have hr8 := hW.rn
  have hgg := hG.w.g
  have hth := hG.th
  refine E_aload_n dX12_lay_5 rfl ?_
  refine g_X12_192 rfl dX12_lay_6 hO.o (hV.2 7 (by unfold SJ; omega)) ?_
  refine E_if_ne (tgt := 15) dX12_lay_9 (by decide) (fun h9 => ?_) (fun h9 => ?_)
  · refine E_iload_n dX12_lay_15 rfl ?_
    refine i_X12_67 rfl dX12_lay_16 c_isRow (by omega) (Nat.le_of_ble_eq_true rfl) rfl rfl ?_
    rintro _ _ ⟨rfl, rfl⟩
    try dsimp only [pu]
    refine E_if_ne (tgt := 25) dX12_lay_19 (by decide) (fun h19 => ?_) (fun h19 => ?_)
    · simp only [tB0, ne_eq, Bool.not_eq_false, Bool.not_eq_true, decide_eq_true_eq, decide_eq_false_iff_not, Classical.not_not] at h19
      have hsz := hG.sz (r := a) (by omega) (by omega)
      refine E_aload_n dX12_lay_25 rfl ?_
      refine g_X12_7 rfl dX12_lay_26 hO.o hO.lane ?_
      refine E_iload_n dX12_lay_29 rfl ?_
      refine E_iald dX12_lay_30 hO.s_lane (by omega) (by omega) (hV.1 1 _ (by unfold SA; omega)) ?_
      refine E_if_ge (tgt := 40) dX12_lay_31 (by decide) (fun h31 => ?_) (fun h31 => ?_)
      · refine E_iload_n dX12_lay_40 rfl ?_
        refine E_if_lt (tgt := 65) dX12_lay_41 (by decide) (fun h41 => ?_) (fun h41 => ?_)
        · refine E_aload_n dX12_lay_65 rfl ?_
          refine E_iconst dX12_lay_66 (by decide) ?_
          refine i_X12_74 rfl dX12_lay_67 (by exact hO.o) (c_finding hO.o (by omega) (by omega)) (by omega) (Nat.le_of_ble_eq_true rfl) rfl rfl ?_
          rintro _ _ ⟨rfl, rfl⟩
          try dsimp only [pu]
          refine E_iret dX12_lay_70 rfl ?_
          refine ⟨?_, (hF.w (b := m) (by omega) 1 2), ?_⟩
          · congr 2; unfold s_lay; rw [if_neg (by omega), if_neg (by omega), if_neg (by omega), if_pos (by omega)]; try rfl
          · unfold t_laid; rw [if_neg (by omega), if_neg (by omega), if_neg (by omega), if_pos (by omega)]; exact (hV.up0 1 2)
        · refine E_iload_n dX12_lay_44 rfl ?_
          refine E_i2l dX12_lay_45 ?_
          refine E_aload_n dX12_lay_46 rfl ?_
          refine g_X12_19 rfl dX12_lay_47 hO.o hO.court ?_
          refine E_iconst dX12_lay_50 (by decide) ?_
          refine E_iald dX12_lay_51 hO.s_court (by omega) (by omega) (hQ.at (j := 2) (by omega) (by omega) (by omega)) ?_
          refine E_i2l dX12_lay_52 ?_
          refine E_ladd dX12_lay_53 (by omega) (by omega) ?_
          refine E_aload_n dX12_lay_54 rfl ?_
          refine g_X12_13 rfl dX12_lay_55 hO.o hO.many ?_
          refine E_iload_n dX12_lay_58 rfl ?_
          refine E_iald dX12_lay_59 hO.s_many (by omega) (by omega) (hV.1 2 _ (by unfold SA; omega)) ?_
          refine E_i2l dX12_lay_60 ?_
          refine E_lcmp dX12_lay_61 (fun h61 => ?_) (fun h61 => ?_) (fun h61 => ?_)
          · refine E_if_le (tgt := 71) dX12_lay_62 (by decide) (fun h62 => ?_) (fun h62 => ?_)
            · refine E_iconst dX12_lay_71 (by decide) ?_
              refine E_istore_n dX12_lay_72 rfl (by decide) ?_
              try dsimp only [List.set]
              have hf : ∀ p : Int, 0 ≤ p → p < n → mI M1 (m + 3) (40 * a + i + p) = (fun p => A 3 (40 * a + i + p)) p := fun p p0 p1 => hV.1 3 _ (by unfold SA; omega)
              refine l_rlay1 hO hQ hW n hn (f := (fun p => A 3 (40 * a + i + p))) (by omega) (by omega) hf (fun hx => ?_) (fun z hin => ?_) n 0 (by omega) rfl
              · refine ⟨?_, hF, ?_⟩
                · congr 2; unfold s_lay; rw [if_neg (by omega), if_neg (by omega), if_neg (by omega), if_neg (by omega), if_pos hx]
                · unfold t_laid; rw [if_neg (by omega), if_neg (by omega), if_neg (by omega), if_neg (by omega), if_pos hx]; exact hV
              · refine E_aload_n dX12_lay_124 rfl ?_
                refine i_X12_221 rfl dX12_lay_125 (by exact hO.o) (c_layNow hO hQ hW hG.w.sn n hn) (by omega) (Nat.le_of_ble_eq_true rfl) rfl rfl ?_
                rintro _ _ ⟨rfl, I, rfl, hI⟩
                have hQI : MC (mI (mJ M1 I)) m (A 4) := fun k h0 h1 => (hI.1 _ _ (by omega) (by omega) (by omega)).trans (hQ k h0 h1)
                try dsimp only [pu]
                refine E_iconst dX12_lay_128 (by decide) ?_
                refine E_istore_n dX12_lay_129 rfl (by decide) ?_
                try dsimp only [List.set]
                refine l_rlay2 (hO.j I) hQI hW n hn (fun J z hJ => ?_) n 0 I (by omega) ⟨fun _ _ _ => rfl, fun p p0 p1 => by omega⟩
                have hJ : (∀ b j, b ≠ m + 7 → J b j = I b j) ∧ ∀ p : Int, 0 ≤ p → p < n → J (m + 7) p = -1000000 := hJ
                have hQJ : MC (mI (mJ M1 J)) m (A 4) := fun k h0 h1 => (hJ.1 _ _ (by omega)).trans (hQI k h0 h1)
                refine E_iconst dX12_lay_154 (by decide) ?_
                refine E_istore_n dX12_lay_155 rfl (by decide) ?_
                try dsimp only [List.set]
                refine E_iconst dX12_lay_156 (by decide) ?_
                refine E_istore dX12_lay_157 rfl (by decide) ?_
                try dsimp only [List.set]
                have hfJ : ∀ p : Int, 0 ≤ p → p < n → mI (mJ M1 J) (m + 3) (40 * a + i + p) = (fun p => A 3 (40 * a + i + p)) p := fun p p0 p1 => (hJ.1 _ _ (by omega)).trans ((hI.1 _ _ (by omega) (by omega) (by omega)).trans (hf p p0 p1))
                refine l_rlay3 (M := mJ M1 J) (hO.j J) hQJ hW n hn (f := (fun p => A 3 (40 * a + i + p))) (by omega) (by omega) hfJ rn hrn hgg.1 (by omega) hin (fun K hK hz => ?_) (fun K z5 z6 hK => ?_) n 0 J _ _ (by omega) ⟨fun _ _ _ => rfl, fun p p0 p1 => hJ.2 p p0 (by omega), rfl⟩
                · refine ⟨?_, ?_, ?_⟩
                  · unfold s_lay; rw [if_neg (by omega), if_neg (by omega), if_neg (by omega), if_neg (by omega), if_neg (by rw [hin]; simp), if_pos hz]
                  · exact hF.j (fun b j hb => (hK b j (by omega)).trans ((hJ.1 _ _ (by omega)).trans (hI.1 _ _ (by omega) (by omega) (by omega))))
                  · unfold t_laid; rw [if_neg (by omega), if_neg (by omega), if_neg (by omega), if_neg (by omega), if_neg (by rw [hin]; simp), if_pos hz]
                    exact hV.of (fun k j hs => (hK _ _ (by unfold SA at hs; omega)).trans ((hJ.1 _ _ (by unfold SA at hs; omega)).trans (hI.1 _ _ (by unfold SA at hs; omega) (by unfold SA at hs; omega) (by unfold SA at hs; omega)))) (fun j hs => (hK _ _ (by omega)).trans ((hJ.1 _ _ (by omega)).trans (hI.1 _ _ (by omega) (by omega) (by unfold SJ at hs; omega))))
                · have hK1 : ∀ b j, b ≠ m + 7 → K b j = J b j := hK.1
                  have hQK : MC (mI (mJ M1 K)) m (A 4) := fun k h0 h1 => (hK1 _ _ (by omega)).trans (hQJ k h0 h1)
                  have hBK : BS (mI (mWI (mJ M1 K) m 1 0) m 20) n (cSb (A 4)) := by
                    rw [mI_ne (by omega)]; show BS (K m 20) n (cSb (A 4)); rw [hK1 _ _ (by omega), hJ.1 _ _ (by omega)]; exact hI.2.2
                  refine E_aload_n dX12_lay_232 rfl ?_
                  refine E_iconst dX12_lay_233 (by decide) ?_
                  refine p_X12_57 rfl dX12_lay_234 hO.o ?_
                  refine E_aload_n dX12_lay_237 rfl ?_
                  refine i_X12_227 rfl dX12_lay_238 (by exact hO.o) (c_keepNow (by exact (hO.j K).w) (by exact hQK.w (by omega)) hW (by exact fun p p0 p1 => (mI_ne (by omega)).trans (hK.2.1 p p0 p1)) (by exact fun p p0 p1 => (mI_ne (by omega)).trans ((hK.1 _ _ (by omega)).trans ((hJ.1 _ _ (by omega)).trans (hI.2.1 p p0 (by omega)).2))) n hn (sn := cSn (A 4)) (by exact hBK) hG.w.sn) (by omega) (Nat.le_of_ble_eq_true rfl) rfl rfl ?_
                  rintro _ _ ⟨rfl, L, rfl, hL1, hL2⟩
                  try dsimp only [pu]
                  refine E_iload_n dX12_lay_241 rfl ?_
                  refine E_iret dX12_lay_242 rfl ?_
                  refine ⟨?_, ?_, ?_⟩
                  · unfold s_lay; rw [if_neg (by omega), if_neg (by omega), if_neg (by omega), if_neg (by omega), if_neg (by rw [hin]; simp), if_neg (by rw [hK.2.2]; simp)]
                  · exact ((hF.j (J := K) (fun b j hb => (hK.1 _ _ (by omega)).trans ((hJ.1 _ _ (by omega)).trans (hI.1 _ _ (by omega) (by omega) (by omega))))).w (b := m) (by omega) 1 0).j (fun b j hb => hL1 b j (by omega))
                  · unfold t_laid; rw [if_neg (by omega), if_neg (by omega), if_neg (by omega), if_neg (by omega), if_neg (by rw [hin]; simp), if_neg (by rw [hK.2.2]; simp)]
                    have hVK : MA K m A := hV.of (fun k j hs => (hK.1 _ _ (by unfold SA at hs; omega)).trans ((hJ.1 _ _ (by unfold SA at hs; omega)).trans (hI.1 _ _ (by unfold SA at hs; omega) (by unfold SA at hs; omega) (by unfold SA at hs; omega)))) (fun j hs => (hK.1 _ _ (by omega)).trans ((hJ.1 _ _ (by omega)).trans (hI.1 _ _ (by omega) (by omega) (by unfold SJ at hs; omega))))
                    exact (hVK.up0 1 0).pg (fun b j q1 q2 q3 q4 => hL1 b j q1) hL2
            · exfalso; omega
          · refine E_if_le (tgt := 71) dX12_lay_62 (by decide) (fun h62 => ?_) (fun h62 => ?_)
            · refine E_iconst dX12_lay_71 (by decide) ?_
              refine E_istore_n dX12_lay_72 rfl (by decide) ?_
              try dsimp only [List.set]
              have hf : ∀ p : Int, 0 ≤ p → p < n → mI M1 (m + 3) (40 * a + i + p) = (fun p => A 3 (40 * a + i + p)) p := fun p p0 p1 => hV.1 3 _ (by unfold SA; omega)
              refine l_rlay1 hO hQ hW n hn (f := (fun p => A 3 (40 * a + i + p))) (by omega) (by omega) hf (fun hx => ?_) (fun z hin => ?_) n 0 (by omega) rfl
              · refine ⟨?_, hF, ?_⟩
                · congr 2; unfold s_lay; rw [if_neg (by omega), if_neg (by omega), if_neg (by omega), if_neg (by omega), if_pos hx]
                · unfold t_laid; rw [if_neg (by omega), if_neg (by omega), if_neg (by omega), if_neg (by omega), if_pos hx]; exact hV
              · refine E_aload_n dX12_lay_124 rfl ?_
                refine i_X12_221 rfl dX12_lay_125 (by exact hO.o) (c_layNow hO hQ hW hG.w.sn n hn) (by omega) (Nat.le_of_ble_eq_true rfl) rfl rfl ?_
                rintro _ _ ⟨rfl, I, rfl, hI⟩
                have hQI : MC (mI (mJ M1 I)) m (A 4) := fun k h0 h1 => (hI.1 _ _ (by omega) (by omega) (by omega)).trans (hQ k h0 h1)
                try dsimp only [pu]
                refine E_iconst dX12_lay_128 (by decide) ?_
                refine E_istore_n dX12_lay_129 rfl (by decide) ?_
                try dsimp only [List.set]
                refine l_rlay2 (hO.j I) hQI hW n hn (fun J z hJ => ?_) n 0 I (by omega) ⟨fun _ _ _ => rfl, fun p p0 p1 => by omega⟩
                have hJ : (∀ b j, b ≠ m + 7 → J b j = I b j) ∧ ∀ p : Int, 0 ≤ p → p < n → J (m + 7) p = -1000000 := hJ
                have hQJ : MC (mI (mJ M1 J)) m (A 4) := fun k h0 h1 => (hJ.1 _ _ (by omega)).trans (hQI k h0 h1)
                refine E_iconst dX12_lay_154 (by decide) ?_
                refine E_istore_n dX12_lay_155 rfl (by decide) ?_
                try dsimp only [List.set]
                refine E_iconst dX12_lay_156 (by decide) ?_
                refine E_istore dX12_lay_157 rfl (by decide) ?_
                try dsimp only [List.set]
                have hfJ : ∀ p : Int, 0 ≤ p → p < n → mI (mJ M1 J) (m + 3) (40 * a + i + p) = (fun p => A 3 (40 * a + i + p)) p := fun p p0 p1 => (hJ.1 _ _ (by omega)).trans ((hI.1 _ _ (by omega) (by omega) (by omega)).trans (hf p p0 p1))
                refine l_rlay3 (M := mJ M1 J) (hO.j J) hQJ hW n hn (f := (fun p => A 3 (40 * a + i + p))) (by omega) (by omega) hfJ rn hrn hgg.1 (by omega) hin (fun K hK hz => ?_) (fun K z5 z6 hK => ?_) n 0 J _ _ (by omega) ⟨fun _ _ _ => rfl, fun p p0 p1 => hJ.2 p p0 (by omega), rfl⟩
                · refine ⟨?_, ?_, ?_⟩
                  · unfold s_lay; rw [if_neg (by omega), if_neg (by omega), if_neg (by omega), if_neg (by omega), if_neg (by rw [hin]; simp), if_pos hz]
                  · exact hF.j (fun b j hb => (hK b j (by omega)).trans ((hJ.1 _ _ (by omega)).trans (hI.1 _ _ (by omega) (by omega) (by omega))))
                  · unfold t_laid; rw [if_neg (by omega), if_neg (by omega), if_neg (by omega), if_neg (by omega), if_neg (by rw [hin]; simp), if_pos hz]
                    exact hV.of (fun k j hs => (hK _ _ (by unfold SA at hs; omega)).trans ((hJ.1 _ _ (by unfold SA at hs; omega)).trans (hI.1 _ _ (by unfold SA at hs; omega) (by unfold SA at hs; omega) (by unfold SA at hs; omega)))) (fun j hs => (hK _ _ (by omega)).trans ((hJ.1 _ _ (by omega)).trans (hI.1 _ _ (by omega) (by omega) (by unfold SJ at hs; omega))))
                · have hK1 : ∀ b j, b ≠ m + 7 → K b j = J b j := hK.1
                  have hQK : MC (mI (mJ M1 K)) m (A 4) := fun k h0 h1 => (hK1 _ _ (by omega)).trans (hQJ k h0 h1)
                  have hBK : BS (mI (mWI (mJ M1 K) m 1 0) m 20) n (cSb (A 4)) := by
                    rw [mI_ne (by omega)]; show BS (K m 20) n (cSb (A 4)); rw [hK1 _ _ (by omega), hJ.1 _ _ (by omega)]; exact hI.2.2
                  refine E_aload_n dX12_lay_232 rfl ?_
                  refine E_iconst dX12_lay_233 (by decide) ?_
                  refine p_X12_57 rfl dX12_lay_234 hO.o ?_
                  refine E_aload_n dX12_lay_237 rfl ?_
                  refine i_X12_227 rfl dX12_lay_238 (by exact hO.o) (c_keepNow (by exact (hO.j K).w) (by exact hQK.w (by omega)) hW (by exact fun p p0 p1 => (mI_ne (by omega)).trans (hK.2.1 p p0 p1)) (by exact fun p p0 p1 => (mI_ne (by omega)).trans ((hK.1 _ _ (by omega)).trans ((hJ.1 _ _ (by omega)).trans (hI.2.1 p p0 (by omega)).2))) n hn (sn := cSn (A 4)) (by exact hBK) hG.w.sn) (by omega) (Nat.le_of_ble_eq_true rfl) rfl rfl ?_
                  rintro _ _ ⟨rfl, L, rfl, hL1, hL2⟩
                  try dsimp only [pu]
                  refine E_iload_n dX12_lay_241 rfl ?_
                  refine E_iret dX12_lay_242 rfl ?_
                  refine ⟨?_, ?_, ?_⟩
                  · unfold s_lay; rw [if_neg (by omega), if_neg (by omega), if_neg (by omega), if_neg (by omega), if_neg (by rw [hin]; simp), if_neg (by rw [hK.2.2]; simp)]
                  · exact ((hF.j (J := K) (fun b j hb => (hK.1 _ _ (by omega)).trans ((hJ.1 _ _ (by omega)).trans (hI.1 _ _ (by omega) (by omega) (by omega))))).w (b := m) (by omega) 1 0).j (fun b j hb => hL1 b j (by omega))
                  · unfold t_laid; rw [if_neg (by omega), if_neg (by omega), if_neg (by omega), if_neg (by omega), if_neg (by rw [hin]; simp), if_neg (by rw [hK.2.2]; simp)]
                    have hVK : MA K m A := hV.of (fun k j hs => (hK.1 _ _ (by unfold SA at hs; omega)).trans ((hJ.1 _ _ (by unfold SA at hs; omega)).trans (hI.1 _ _ (by unfold SA at hs; omega) (by unfold SA at hs; omega) (by unfold SA at hs; omega)))) (fun j hs => (hK.1 _ _ (by omega)).trans ((hJ.1 _ _ (by omega)).trans (hI.1 _ _ (by omega) (by omega) (by unfold SJ at hs; omega))))
                    exact (hVK.up0 1 0).pg (fun b j q1 q2 q3 q4 => hL1 b j q1) hL2
            · exfalso; omega
          · refine E_if_le (tgt := 71) dX12_lay_62 (by decide) (fun h62 => ?_) (fun h62 => ?_)
            · exfalso; omega
            · refine E_aload_n dX12_lay_65 rfl ?_
              refine E_iconst dX12_lay_66 (by decide) ?_
              refine i_X12_74 rfl dX12_lay_67 (by exact hO.o) (c_finding hO.o (by omega) (by omega)) (by omega) (Nat.le_of_ble_eq_true rfl) rfl rfl ?_
              rintro _ _ ⟨rfl, rfl⟩
              try dsimp only [pu]
              refine E_iret dX12_lay_70 rfl ?_
              refine ⟨?_, (hF.w (b := m) (by omega) 1 2), ?_⟩
              · congr 2; unfold s_lay; rw [if_neg (by omega), if_neg (by omega), if_neg (by omega), if_pos (by omega)]; try rfl
              · unfold t_laid; rw [if_neg (by omega), if_neg (by omega), if_neg (by omega), if_pos (by omega)]; exact (hV.up0 1 2)
      · refine E_aload_n dX12_lay_34 rfl ?_
        refine E_iconst dX12_lay_35 (by decide) ?_
        refine i_X12_74 rfl dX12_lay_36 (by exact hO.o) (c_finding hO.o (by omega) (by omega)) (by omega) (Nat.le_of_ble_eq_true rfl) rfl rfl ?_
        rintro _ _ ⟨rfl, rfl⟩
        try dsimp only [pu]
        refine E_iret dX12_lay_39 rfl ?_
        refine ⟨?_, (hF.w (b := m) (by omega) 1 1), ?_⟩
        · congr 2; unfold s_lay; rw [if_neg (by omega), if_neg (by omega), if_pos (by omega)]; try rfl
        · unfold t_laid; rw [if_neg (by omega), if_neg (by omega), if_pos (by omega)]; exact (hV.up0 1 1)
    · simp only [tB0, ne_eq, Bool.not_eq_false, Bool.not_eq_true, decide_eq_true_eq, decide_eq_false_iff_not, Classical.not_not] at h19
      refine c_X12_73 rfl dX12_lay_22 ?_
      refine E_iret dX12_lay_24 rfl ?_
      refine ⟨?_, hF, ?_⟩
      · congr 2; unfold s_lay; rw [if_neg (by omega), if_pos (by omega)]; try rfl
      · unfold t_laid; rw [if_neg (by omega), if_pos (by omega)]; exact hV
  · refine c_X12_208 rfl dX12_lay_12 ?_
    refine E_iret dX12_lay_14 rfl ?_
    refine ⟨?_, hF, ?_⟩
    · congr 2; unfold s_lay; rw [if_pos (by omega)]; try rfl
    · unfold t_laid; rw [if_pos (by omega)]; exact hV
