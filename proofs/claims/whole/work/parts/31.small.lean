/-! ===== 31: Trace; findings ===== -/
/-- a body begins: its number is noted, if there is room -/
def trI (I : Nat → Int → Int) (o f t : Nat) (fl : Int) (b : Int) : Nat → Int → Int := if I o fl < 16 then up2 (up2 I t (I o fl) b) o fl (I o fl + 1) else I
set_option maxRecDepth 20000 in
set_option maxHeartbeats 1200000 in
theorem c_tEmpty {G : Ctx} {M : Mem} {a : Nat} (ho : mS M a = (4, 7)) : CT G m_X8_empty 0 0 0 [vR a] M (rJ M (fun I => I = up2 (mI M) a 1 0)) := by
  refine CT.of k_X8_empty 0 (ls := [some (vR a)]) rfl (Nat.le_of_ble_eq_true rfl) ?_
  refine E_aload_n dX8_empty_0 rfl ?_
  refine E_iconst dX8_empty_1 (by decide) ?_
  refine p_X8_13 rfl dX8_empty_2 ho ?_
  refine E_vret dX8_empty_5 rfl ?_
  exact ⟨rfl, _, rfl, rfl⟩
set_option maxRecDepth 20000 in
set_option maxHeartbeats 1200000 in
theorem c_tBegin {G : Ctx} {M : Mem} {a : Nat} (ho : mS M a = (4, 7)) (hr : mR M a 0 = a + 1) (hs : mS M (a + 1) = (1, 16)) {b : Int} (h0 : 0 ≤ mI M a 1) (h1 : mI M a 1 ≤ 16) : CT G m_X8_begin 0 0 0 [vR a, vI b] M (rJ M (fun I => I = trI (mI M) a 0 (a + 1) 1 b)) := by
  refine CT.of k_X8_begin 0 (ls := [some (vR a), some (vI b)]) rfl (Nat.le_of_ble_eq_true rfl) ?_
  refine E_aload_n dX8_begin_0 rfl ?_
  refine g_X8_13 rfl dX8_begin_1 ho rfl ?_
  refine E_bipush dX8_begin_4 (by decide) ?_
  refine E_icmp_ge (tgt := 29) dX8_begin_6 (by decide) (fun h6 => ?_) (fun h6 => ?_)
  · refine E_vret dX8_begin_29 rfl ?_
    refine ⟨rfl, _, rfl, ?_⟩
    unfold trI
    rw [if_neg (by omega)]
    rfl
  · refine E_aload_n dX8_begin_9 rfl ?_
    refine g_X8_9 rfl dX8_begin_10 ho hr ?_
    refine E_aload_n dX8_begin_13 rfl ?_
    refine g_X8_13 rfl dX8_begin_14 ho rfl ?_
    refine E_iload_n dX8_begin_17 rfl ?_
    refine E_iast dX8_begin_18 hs (by omega) (by omega) ?_
    refine E_aload_n dX8_begin_19 rfl ?_
    refine E_dup dX8_begin_20 rfl ?_
    refine g_X8_13 rfl dX8_begin_21 ho (mI_ne (by omega)) ?_
    refine E_iconst dX8_begin_24 (by decide) ?_
    refine E_iadd dX8_begin_25 (by omega) (by omega) ?_
    refine p_X8_13 rfl dX8_begin_26 ho ?_
    refine E_vret dX8_begin_29 rfl ?_
    refine ⟨rfl, _, rfl, ?_⟩
    unfold trI
    rw [if_pos (by omega)]
    rfl
set_option maxRecDepth 20000 in
set_option maxHeartbeats 1200000 in
theorem c_found {G : Ctx} {M : Mem} {x : Nat} (ho : mS M x = (4, 10)) {f : Int} (h0 : 0 ≤ f) (h1 : f ≤ 100) : CT G m_X11_found 0 0 0 [vR x, vI f] M (fun r M' => r = some (vI (-1000010 - f)) ∧ M' = mWI M x 14 f) := by
  refine CT.of k_X11_found 0 (ls := [some (vR x), some (vI f)]) rfl (Nat.le_of_ble_eq_true rfl) ?_
  refine E_aload_n dX11_found_0 rfl ?_
  refine E_iload_n dX11_found_1 rfl ?_
  refine p_X11_312 rfl dX11_found_2 ho ?_
  refine c_X11_315 rfl dX11_found_5 ?_
  refine E_iload_n dX11_found_8 rfl ?_
  refine E_isub dX11_found_9 (by omega) (by omega) ?_
  refine E_iret dX11_found_10 rfl ?_
  exact ⟨rfl, rfl⟩
set_option maxRecDepth 20000 in
set_option maxHeartbeats 1200000 in
theorem c_unfound {G : Ctx} {M : Mem} {x : Nat} (ho : mS M x = (4, 10)) {f : Int} : CT G m_X11_unfound 0 0 0 [vR x, vI f] M (fun r M' => r = some (vI f) ∧ M' = mWI M x 14 0) := by
  refine CT.of k_X11_unfound 0 (ls := [some (vR x), some (vI f)]) rfl (Nat.le_of_ble_eq_true rfl) ?_
  refine E_aload_n dX11_unfound_0 rfl ?_
  refine E_iconst dX11_unfound_1 (by decide) ?_
  refine p_X11_312 rfl dX11_unfound_2 ho ?_
  refine E_iload_n dX11_unfound_5 rfl ?_
  refine E_iret dX11_unfound_6 rfl ?_
  exact ⟨rfl, rfl⟩
set_option maxRecDepth 20000 in
set_option maxHeartbeats 1200000 in
theorem c_finding {G : Ctx} {M : Mem} {m : Nat} (ho : mS M m = (4, 11)) {f : Int} (h0 : 0 ≤ f) (h1 : f ≤ 100) : CT G m_X12_finding 0 0 0 [vR m, vI f] M (fun r M' => r = some (vI (-1000010 - f)) ∧ M' = mWI M m 1 f) := by
  refine CT.of k_X12_finding 0 (ls := [some (vR m), some (vI f)]) rfl (Nat.le_of_ble_eq_true rfl) ?_
  refine E_aload_n dX12_finding_0 rfl ?_
  refine E_iload_n dX12_finding_1 rfl ?_
  refine p_X12_57 rfl dX12_finding_2 ho ?_
  refine c_X12_60 rfl dX12_finding_5 ?_
  refine E_iload_n dX12_finding_7 rfl ?_
  refine E_isub dX12_finding_8 (by omega) (by omega) ?_
  refine E_iret dX12_finding_9 rfl ?_
  exact ⟨rfl, rfl⟩
set_option maxRecDepth 20000 in
set_option maxHeartbeats 1200000 in
theorem c_isRow {G : Ctx} {M : Mem} {r : Int} : CT G m_X12_isRow 1 0 0 [vI r] M (rI M (tB (decide (0 ≤ r ∧ r ≤ 7)))) := by
  refine CT.of k_X12_isRow 0 (ls := [some (vI r)]) rfl (Nat.le_of_ble_eq_true rfl) ?_
  refine E_iload_n dX12_isRow_0 rfl ?_
  refine E_i2l dX12_isRow_1 ?_
  refine E_lconst (x := 0) dX12_isRow_2 (by decide) ?_
  refine c_X12_61 rfl dX12_isRow_3 ?_
  refine i_X12_63 rfl dX12_isRow_6 c_in (by omega) (Nat.le_of_ble_eq_true rfl) rfl rfl ?_
  rintro _ _ ⟨rfl, rfl⟩
  try dsimp only [pu]
  refine E_zret dX12_isRow_9 rfl (tB_nar _) ?_
  exact ⟨rfl, rfl⟩
