theorem lp_renew {b0 n i : Nat} {c m : xc} {wk : Nat → Int64} {v : Int32} (hi : i < n)  : ∀ (d f j : Nat), d + j = 40 → d < f → r_X4_renew b0 f 0 [some (.inr (.inr (some (tA b0 i 7)))), some (.inl v), some (.inl (nI j))] [] (hp b0 n (bf c 6 i j (fun _ => 0)) m wk) = some (none, hp b0 n (u3 (bf c 6 i 40 (fun _ => 0)) 0 i 22 v) m wk) := by
  intro d
  induction d with
  | zero =>
    intro f j h1 h2
    obtain ⟨f, rfl⟩ : ∃ g, f = g + 1 := ⟨f - 1, by omega⟩
    have hj : j = 40 := by omega
    subst hj
    change k_X4_renew_2 b0 (r_X4_renew b0 f) _ _ _ = _
    simp [k_X4_renew_2, xfun, xok, xnth, xset, oCst, oILd, oALd, oISt, oInc, oC2ge, oGetR, oPutI, oIas, oRetV, xis_t0, g_t0_0, p_t0_0, g_t0_1, p_t0_1, g_t0_2, p_t0_2, g_t0_3, g_t0_4, g_t0_5, g_t0_6, g_t0_7, g_t0_8, p_t0_8, g_t0_9, p_t0_9, g_t0_10, p_t0_10, g_t0_11, p_t0_11, g_t0_12, p_t0_12, g_t0_13, p_t0_13, g_t0_14, p_t0_14, g_t0_15, p_t0_15, g_t0_16, p_t0_16, g_t0_17, p_t0_17, g_t0_18, p_t0_18, xis_t1, g_t1_0, g_t1_1, g_t1_2, g_t1_3, p_t1_3, xis_t5, g_t5_0, g_t5_1, p_t5_1, xis_t7, g_t7_0, g_t7_1, p_t7_1, xis_t9, g_t9_0, g_t9_1, p_t9_1, xis_t11, g_t11_0, g_t11_1, p_t11_1, g_t11_2, p_t11_2, xis_t12, g_t12_0, g_t12_1, p_t12_1, hi, (show (40 : Int32) ≤ nI 40 from by decide)]
  | succ d ih =>
    intro f j h1 h2
    obtain ⟨f, rfl⟩ : ∃ g, f = g + 1 := ⟨f - 1, by omega⟩
    have hj : j < 40 := by omega
    have hb : j < 2 ^ 31 := by omega
    have hn0 := nI_nn hb
    have hcl := nI_clamp hb
    have hc : ¬ (40 : Int32) ≤ nI j := nI_ge hj (by decide)
    change k_X4_renew_2 b0 (r_X4_renew b0 f) _ _ _ = _
    simp [k_X4_renew_2, xfun, xok, xnth, xset, oCst, oILd, oALd, oISt, oInc, oC2ge, oGetR, oPutI, oIas, oRetV, xis_t0, g_t0_0, p_t0_0, g_t0_1, p_t0_1, g_t0_2, p_t0_2, g_t0_3, g_t0_4, g_t0_5, g_t0_6, g_t0_7, g_t0_8, p_t0_8, g_t0_9, p_t0_9, g_t0_10, p_t0_10, g_t0_11, p_t0_11, g_t0_12, p_t0_12, g_t0_13, p_t0_13, g_t0_14, p_t0_14, g_t0_15, p_t0_15, g_t0_16, p_t0_16, g_t0_17, p_t0_17, g_t0_18, p_t0_18, xis_t1, g_t1_0, g_t1_1, g_t1_2, g_t1_3, p_t1_3, xis_t5, g_t5_0, g_t5_1, p_t5_1, xis_t7, g_t7_0, g_t7_1, p_t7_1, xis_t9, g_t9_0, g_t9_1, p_t9_1, xis_t11, g_t11_0, g_t11_1, p_t11_1, g_t11_2, p_t11_2, xis_t12, g_t12_0, g_t12_1, p_t12_1, hi, a_t2, s_t2, a_t3, s_t3, a_t4, s_t4, a_t6, s_t6, a_t8, s_t8, a_t10, s_t10, a_t13, s_t13, hc, hn0, hcl, hj, nI_add1]
    have e := bf_step c 6 i j (fun _ => 0)
    rw [e]
    exact ih f (j + 1) (by omega) (by omega)
theorem cf_renew {b0 n i : Nat} {c m : xc} {wk : Nat → Int64} {v : Int32} (hi : i < n) : f_X4_renew b0 [.inr (.inr (some (tA b0 i 7))), .inl v] (hp b0 n c m wk) = some (none, hp b0 n (u3 (bf c 6 i 40 (fun _ => 0)) 0 i 22 v) m wk) := by
  have h := lp_renew (b0 := b0) (m := m) (wk := wk) (c := c) (v := v) hi 40 64 0 rfl (by decide)
  rw [bf_0] at h
  simp [f_X4_renew, k_X4_renew_0, xfun, xok, xnth, xset, oCst, oILd, oALd, oISt, oInc, oC2ge, oGetR, oPutI, oIas, oRetV]
  exact h
theorem lp_copyB {b0 n i : Nat} {c m : xc} {wk : Nat → Int64}  (hi : i < n)  : ∀ (d f j : Nat), d + j = 40 → d < f → r_X4_copyFrom b0 f 0 [some (.inr (.inr (some (tA b0 i 7)))), some (.inr (.inr (some (tA b0 i 12)))), some (.inl (nI j))] [] (hp b0 n (bf c 6 i j (c 7 i)) m wk) = some (none, hp b0 n (u3 (bf c 6 i 40 (c 7 i)) 0 i 22 (c 0 i 26)) m wk) := by
  intro d
  induction d with
  | zero =>
    intro f j h1 h2
    obtain ⟨f, rfl⟩ : ∃ g, f = g + 1 := ⟨f - 1, by omega⟩
    have hj : j = 40 := by omega
    subst hj
    change k_X4_copyFrom_2 b0 (r_X4_copyFrom b0 f) _ _ _ = _
    simp [k_X4_copyFrom_2, xfun, xok, xnth, xset, oCst, oILd, oALd, oISt, oInc, oC2ge, oGetI, oGetR, oPutI, oIal, oIas, oRetV, xis_t0, g_t0_0, p_t0_0, g_t0_1, p_t0_1, g_t0_2, p_t0_2, g_t0_3, g_t0_4, g_t0_5, g_t0_6, g_t0_7, g_t0_8, p_t0_8, g_t0_9, p_t0_9, g_t0_10, p_t0_10, g_t0_11, p_t0_11, g_t0_12, p_t0_12, g_t0_13, p_t0_13, g_t0_14, p_t0_14, g_t0_15, p_t0_15, g_t0_16, p_t0_16, g_t0_17, p_t0_17, g_t0_18, p_t0_18, xis_t1, g_t1_0, g_t1_1, g_t1_2, g_t1_3, p_t1_3, xis_t5, g_t5_0, g_t5_1, p_t5_1, xis_t7, g_t7_0, g_t7_1, p_t7_1, xis_t9, g_t9_0, g_t9_1, p_t9_1, xis_t11, g_t11_0, g_t11_1, p_t11_1, g_t11_2, p_t11_2, xis_t12, g_t12_0, g_t12_1, p_t12_1, hi, (show (40 : Int32) ≤ nI 40 from by decide), bf_a (show 0 ≠ 6 from by decide)]
  | succ d ih =>
    intro f j h1 h2
    obtain ⟨f, rfl⟩ : ∃ g, f = g + 1 := ⟨f - 1, by omega⟩
    have hj : j < 40 := by omega
    have hb : j < 2 ^ 31 := by omega
    have hn0 := nI_nn hb
    have hcl := nI_clamp hb
    have hc : ¬ (40 : Int32) ≤ nI j := nI_ge hj (by decide)
    change k_X4_copyFrom_2 b0 (r_X4_copyFrom b0 f) _ _ _ = _
    simp [k_X4_copyFrom_2, xfun, xok, xnth, xset, oCst, oILd, oALd, oISt, oInc, oC2ge, oGetI, oGetR, oPutI, oIal, oIas, oRetV, xis_t0, g_t0_0, p_t0_0, g_t0_1, p_t0_1, g_t0_2, p_t0_2, g_t0_3, g_t0_4, g_t0_5, g_t0_6, g_t0_7, g_t0_8, p_t0_8, g_t0_9, p_t0_9, g_t0_10, p_t0_10, g_t0_11, p_t0_11, g_t0_12, p_t0_12, g_t0_13, p_t0_13, g_t0_14, p_t0_14, g_t0_15, p_t0_15, g_t0_16, p_t0_16, g_t0_17, p_t0_17, g_t0_18, p_t0_18, xis_t1, g_t1_0, g_t1_1, g_t1_2, g_t1_3, p_t1_3, xis_t5, g_t5_0, g_t5_1, p_t5_1, xis_t7, g_t7_0, g_t7_1, p_t7_1, xis_t9, g_t9_0, g_t9_1, p_t9_1, xis_t11, g_t11_0, g_t11_1, p_t11_1, g_t11_2, p_t11_2, xis_t12, g_t12_0, g_t12_1, p_t12_1, hi, a_t2, s_t2, a_t3, s_t3, a_t4, s_t4, a_t6, s_t6, a_t8, s_t8, a_t10, s_t10, a_t13, s_t13, hc, hn0, hcl, hj, nI_add1, bf_a (show 7 ≠ 6 from by decide)]
    rw [bf_step c 6 i j (c 7 i)]
    exact ih f (j + 1) (by omega) (by omega)
theorem cf_copyB {b0 n i : Nat} {c m : xc} {wk : Nat → Int64} (hi : i < n) : f_X4_copyFrom b0 [.inr (.inr (some (tA b0 i 7))), .inr (.inr (some (tA b0 i 12)))] (hp b0 n c m wk) = some (none, hp b0 n (u3 (bf c 6 i 40 (c 7 i)) 0 i 22 (c 0 i 26)) m wk) := by
  have h := lp_copyB (b0 := b0) (m := m) (wk := wk) (c := c) hi 40 64 0 rfl (by decide)
  rw [bf_0] at h
  simp [f_X4_copyFrom, k_X4_copyFrom_0, xfun, xok, xnth, xset, oCst, oILd, oALd, oISt, oInc, oC2ge, oGetI, oGetR, oPutI, oIal, oIas, oRetV]
  exact h
theorem lp_copyM {b0 n i : Nat} {c m : xc} {wk : Nat → Int64}  (hi : i < n)  : ∀ (d f j : Nat), d + j = 40 → d < f → r_X4_copyFrom b0 f 0 [some (.inr (.inr (some (tA b0 i 12)))), some (.inr (.inr (some (tA b0 i 7)))), some (.inl (nI j))] [] (hp b0 n (bf c 7 i j (c 6 i)) m wk) = some (none, hp b0 n (u3 (bf c 7 i 40 (c 6 i)) 0 i 26 (c 0 i 22)) m wk) := by
  intro d
  induction d with
  | zero =>
    intro f j h1 h2
    obtain ⟨f, rfl⟩ : ∃ g, f = g + 1 := ⟨f - 1, by omega⟩
    have hj : j = 40 := by omega
    subst hj
    change k_X4_copyFrom_2 b0 (r_X4_copyFrom b0 f) _ _ _ = _
    simp [k_X4_copyFrom_2, xfun, xok, xnth, xset, oCst, oILd, oALd, oISt, oInc, oC2ge, oGetI, oGetR, oPutI, oIal, oIas, oRetV, xis_t0, g_t0_0, p_t0_0, g_t0_1, p_t0_1, g_t0_2, p_t0_2, g_t0_3, g_t0_4, g_t0_5, g_t0_6, g_t0_7, g_t0_8, p_t0_8, g_t0_9, p_t0_9, g_t0_10, p_t0_10, g_t0_11, p_t0_11, g_t0_12, p_t0_12, g_t0_13, p_t0_13, g_t0_14, p_t0_14, g_t0_15, p_t0_15, g_t0_16, p_t0_16, g_t0_17, p_t0_17, g_t0_18, p_t0_18, xis_t1, g_t1_0, g_t1_1, g_t1_2, g_t1_3, p_t1_3, xis_t5, g_t5_0, g_t5_1, p_t5_1, xis_t7, g_t7_0, g_t7_1, p_t7_1, xis_t9, g_t9_0, g_t9_1, p_t9_1, xis_t11, g_t11_0, g_t11_1, p_t11_1, g_t11_2, p_t11_2, xis_t12, g_t12_0, g_t12_1, p_t12_1, hi, (show (40 : Int32) ≤ nI 40 from by decide), bf_a (show 0 ≠ 7 from by decide)]
  | succ d ih =>
    intro f j h1 h2
    obtain ⟨f, rfl⟩ : ∃ g, f = g + 1 := ⟨f - 1, by omega⟩
    have hj : j < 40 := by omega
    have hb : j < 2 ^ 31 := by omega
    have hn0 := nI_nn hb
    have hcl := nI_clamp hb
    have hc : ¬ (40 : Int32) ≤ nI j := nI_ge hj (by decide)
    change k_X4_copyFrom_2 b0 (r_X4_copyFrom b0 f) _ _ _ = _
    simp [k_X4_copyFrom_2, xfun, xok, xnth, xset, oCst, oILd, oALd, oISt, oInc, oC2ge, oGetI, oGetR, oPutI, oIal, oIas, oRetV, xis_t0, g_t0_0, p_t0_0, g_t0_1, p_t0_1, g_t0_2, p_t0_2, g_t0_3, g_t0_4, g_t0_5, g_t0_6, g_t0_7, g_t0_8, p_t0_8, g_t0_9, p_t0_9, g_t0_10, p_t0_10, g_t0_11, p_t0_11, g_t0_12, p_t0_12, g_t0_13, p_t0_13, g_t0_14, p_t0_14, g_t0_15, p_t0_15, g_t0_16, p_t0_16, g_t0_17, p_t0_17, g_t0_18, p_t0_18, xis_t1, g_t1_0, g_t1_1, g_t1_2, g_t1_3, p_t1_3, xis_t5, g_t5_0, g_t5_1, p_t5_1, xis_t7, g_t7_0, g_t7_1, p_t7_1, xis_t9, g_t9_0, g_t9_1, p_t9_1, xis_t11, g_t11_0, g_t11_1, p_t11_1, g_t11_2, p_t11_2, xis_t12, g_t12_0, g_t12_1, p_t12_1, hi, a_t2, s_t2, a_t3, s_t3, a_t4, s_t4, a_t6, s_t6, a_t8, s_t8, a_t10, s_t10, a_t13, s_t13, hc, hn0, hcl, hj, nI_add1, bf_a (show 6 ≠ 7 from by decide)]
    rw [bf_step c 7 i j (c 6 i)]
    exact ih f (j + 1) (by omega) (by omega)
theorem cf_copyM {b0 n i : Nat} {c m : xc} {wk : Nat → Int64} (hi : i < n) : f_X4_copyFrom b0 [.inr (.inr (some (tA b0 i 12))), .inr (.inr (some (tA b0 i 7)))] (hp b0 n c m wk) = some (none, hp b0 n (u3 (bf c 7 i 40 (c 6 i)) 0 i 26 (c 0 i 22)) m wk) := by
  have h := lp_copyM (b0 := b0) (m := m) (wk := wk) (c := c) hi 40 64 0 rfl (by decide)
  rw [bf_0] at h
  simp [f_X4_copyFrom, k_X4_copyFrom_0, xfun, xok, xnth, xset, oCst, oILd, oALd, oISt, oInc, oC2ge, oGetI, oGetR, oPutI, oIal, oIas, oRetV]
  exact h
theorem lp_rem {b0 n i : Nat} {c m : xc} {wk : Nat → Int64} {z : Nat} {v : Int32} {g : Nat → Int32} (hi : i < n) (hz : c 0 i 21 = nI z) (hz6 : z < 6) (hg : ∀ k, g k = c 4 i (k + 1)) : ∀ (d f j : Nat), d + j = z → d < f → r_X2_removeEldest b0 f 0 [some (.inr (.inr (some (tA b0 i 5)))), some (.inl v), some (.inl (nI j))] [] (hp b0 n (bf c 4 i j g) m wk) = some (some (.inl v), hp b0 n (bf c 4 i z g) m wk) := by
  intro d
  induction d with
  | zero =>
    intro f j h1 h2
    obtain ⟨f, rfl⟩ : ∃ g, f = g + 1 := ⟨f - 1, by omega⟩
    have hj : j = z := by omega
    subst hj
    change k_X2_removeEldest_28 b0 (r_X2_removeEldest b0 f) _ _ _ = _
    simp [k_X2_removeEldest_28, xfun, xok, xnth, xset, oCst, oILd, oALd, oISt, oInc, oAdd, oSub, oDup, oC2ge, oC1gt, oGetI, oGetR, oPutI, oIal, oIas, oRetI, xis_t0, g_t0_0, p_t0_0, g_t0_1, p_t0_1, g_t0_2, p_t0_2, g_t0_3, g_t0_4, g_t0_5, g_t0_6, g_t0_7, g_t0_8, p_t0_8, g_t0_9, p_t0_9, g_t0_10, p_t0_10, g_t0_11, p_t0_11, g_t0_12, p_t0_12, g_t0_13, p_t0_13, g_t0_14, p_t0_14, g_t0_15, p_t0_15, g_t0_16, p_t0_16, g_t0_17, p_t0_17, g_t0_18, p_t0_18, xis_t1, g_t1_0, g_t1_1, g_t1_2, g_t1_3, p_t1_3, xis_t5, g_t5_0, g_t5_1, p_t5_1, xis_t7, g_t7_0, g_t7_1, p_t7_1, xis_t9, g_t9_0, g_t9_1, p_t9_1, xis_t11, g_t11_0, g_t11_1, p_t11_1, g_t11_2, p_t11_2, xis_t12, g_t12_0, g_t12_1, p_t12_1, hi, hz, bf_a (show 0 ≠ 4 from by decide)]
  | succ d ih =>
    intro f j h1 h2
    obtain ⟨f, rfl⟩ : ∃ g, f = g + 1 := ⟨f - 1, by omega⟩
    have hj : j < z := by omega
    have hb : j < 2 ^ 31 := by omega
    have hn0 := nI_nn hb
    have hcl := nI_clamp hb
    have hc : ¬ nI z ≤ nI j := nI_ge hj (by omega)
    have hb1 : j + 1 < 2 ^ 31 := by omega
    have hn1 := nI_nn hb1
    have hcl1 := nI_clamp hb1
    have h6 : j < 6 := by omega
    have h61 : j + 1 < 6 := by omega
    change k_X2_removeEldest_28 b0 (r_X2_removeEldest b0 f) _ _ _ = _
    simp [k_X2_removeEldest_28, xfun, xok, xnth, xset, oCst, oILd, oALd, oISt, oInc, oAdd, oSub, oDup, oC2ge, oC1gt, oGetI, oGetR, oPutI, oIal, oIas, oRetI, xis_t0, g_t0_0, p_t0_0, g_t0_1, p_t0_1, g_t0_2, p_t0_2, g_t0_3, g_t0_4, g_t0_5, g_t0_6, g_t0_7, g_t0_8, p_t0_8, g_t0_9, p_t0_9, g_t0_10, p_t0_10, g_t0_11, p_t0_11, g_t0_12, p_t0_12, g_t0_13, p_t0_13, g_t0_14, p_t0_14, g_t0_15, p_t0_15, g_t0_16, p_t0_16, g_t0_17, p_t0_17, g_t0_18, p_t0_18, xis_t1, g_t1_0, g_t1_1, g_t1_2, g_t1_3, p_t1_3, xis_t5, g_t5_0, g_t5_1, p_t5_1, xis_t7, g_t7_0, g_t7_1, p_t7_1, xis_t9, g_t9_0, g_t9_1, p_t9_1, xis_t11, g_t11_0, g_t11_1, p_t11_1, g_t11_2, p_t11_2, xis_t12, g_t12_0, g_t12_1, p_t12_1, hi, a_t2, s_t2, a_t3, s_t3, a_t4, s_t4, a_t6, s_t6, a_t8, s_t8, a_t10, s_t10, a_t13, s_t13, hc, hn0, hcl, hj, nI_add1, hz, hn1, hcl1, h6, h61, bf_a (show 0 ≠ 4 from by decide), bf_k (show ¬ j + 1 < j from by omega)]
    rw [← hg j, bf_step c 4 i j g]
    exact ih f (j + 1) (by omega) (by omega)
theorem cf_rem {b0 n i : Nat} {c m : xc} {wk : Nat → Int64} {z : Nat} (hi : i < n) (hz : c 0 i 21 = nI (z + 1)) (hz6 : z < 6) : f_X2_removeEldest b0 [.inr (.inr (some (tA b0 i 5)))] (hp b0 n c m wk) = some (some (.inl (c 4 i 0)), hp b0 n (bf (u3 c 0 i 21 (nI z)) 4 i z (fun k => c 4 i (k + 1))) m wk) := by
  have hp0 : (0 : Int32) < nI (z + 1) := nI_lt (a := 0) (by omega) (by omega)
  have h := lp_rem (b0 := b0) (m := m) (wk := wk) (c := u3 c 0 i 21 (nI z)) (z := z) (v := c 4 i 0) (g := fun k => c 4 i (k + 1)) hi (by simp [u3]) hz6 (fun k => by simp [u3]) z 64 0 rfl (by omega)
  rw [bf_0] at h
  have hs : nI (z + 1) - 1 = nI z := nI_pred z
  have hn : ¬ (0 : Int32) < 0 := by decide
  have hc0 : (0 : Int32).toNatClampNeg < 6 := by decide
  simp [f_X2_removeEldest, k_X2_removeEldest_0, xfun, xok, xnth, xset, oCst, oILd, oALd, oISt, oInc, oAdd, oSub, oDup, oC2ge, oC1gt, oGetI, oGetR, oPutI, oIal, oIas, oRetI, xis_t0, g_t0_0, p_t0_0, g_t0_1, p_t0_1, g_t0_2, p_t0_2, g_t0_3, g_t0_4, g_t0_5, g_t0_6, g_t0_7, g_t0_8, p_t0_8, g_t0_9, p_t0_9, g_t0_10, p_t0_10, g_t0_11, p_t0_11, g_t0_12, p_t0_12, g_t0_13, p_t0_13, g_t0_14, p_t0_14, g_t0_15, p_t0_15, g_t0_16, p_t0_16, g_t0_17, p_t0_17, g_t0_18, p_t0_18, xis_t1, g_t1_0, g_t1_1, g_t1_2, g_t1_3, p_t1_3, xis_t5, g_t5_0, g_t5_1, p_t5_1, xis_t7, g_t7_0, g_t7_1, p_t7_1, xis_t9, g_t9_0, g_t9_1, p_t9_1, xis_t11, g_t11_0, g_t11_1, p_t11_1, g_t11_2, p_t11_2, xis_t12, g_t12_0, g_t12_1, p_t12_1, hi, a_t2, s_t2, a_t3, s_t3, a_t4, s_t4, a_t6, s_t6, a_t8, s_t8, a_t10, s_t10, a_t13, s_t13, hz, hp0, hs, cl0]
  exact h
theorem lp_ctb {b0 n i : Nat} {c m : xc} {wk : Nat → Int64} {z : Nat} (hi : i < n) (hz3 : z ≤ 3) : ∀ (d f j : Nat), d + j = z → d < f → r_X5_copyToBox b0 f 0 [some (.inr (.inr (some (tA b0 i 0)))), some (.inl (nI z)), some (.inl (nI j))] [] (hp b0 n (bf c 5 i j (c 6 i)) m wk) = some (some (.inl 0), hp b0 n (bf c 5 i z (c 6 i)) m wk) := by
  intro d
  induction d with
  | zero =>
    intro f j h1 h2
    obtain ⟨f, rfl⟩ : ∃ g, f = g + 1 := ⟨f - 1, by omega⟩
    have hj : j = z := by omega
    subst hj
    change k_X5_copyToBox_58 b0 (r_X5_copyToBox b0 f) _ _ _ = _
    simp [k_X5_copyToBox_58, xfun, xok, xnth, xset, oCst, oILd, oALd, oISt, oInc, oC1eq, oC1ne, oC1lt, oC2ge, oC2gt, oC2le, oGetI, oGetR, oIal, oIas, oCallV, oRetI, xis_t0, g_t0_0, p_t0_0, g_t0_1, p_t0_1, g_t0_2, p_t0_2, g_t0_3, g_t0_4, g_t0_5, g_t0_6, g_t0_7, g_t0_8, p_t0_8, g_t0_9, p_t0_9, g_t0_10, p_t0_10, g_t0_11, p_t0_11, g_t0_12, p_t0_12, g_t0_13, p_t0_13, g_t0_14, p_t0_14, g_t0_15, p_t0_15, g_t0_16, p_t0_16, g_t0_17, p_t0_17, g_t0_18, p_t0_18, xis_t1, g_t1_0, g_t1_1, g_t1_2, g_t1_3, p_t1_3, xis_t5, g_t5_0, g_t5_1, p_t5_1, xis_t7, g_t7_0, g_t7_1, p_t7_1, xis_t9, g_t9_0, g_t9_1, p_t9_1, xis_t11, g_t11_0, g_t11_1, p_t11_1, g_t11_2, p_t11_2, xis_t12, g_t12_0, g_t12_1, p_t12_1, hi]
  | succ d ih =>
    intro f j h1 h2
    obtain ⟨f, rfl⟩ : ∃ g, f = g + 1 := ⟨f - 1, by omega⟩
    have hj : j < z := by omega
    have hb : j < 2 ^ 31 := by omega
    have hn0 := nI_nn hb
    have hcl := nI_clamp hb
    have hc : ¬ nI z ≤ nI j := nI_ge hj (by omega)
    have h3 : j < 3 := by omega
    have h40 : j < 40 := by omega
    change k_X5_copyToBox_58 b0 (r_X5_copyToBox b0 f) _ _ _ = _
    simp [k_X5_copyToBox_58, xfun, xok, xnth, xset, oCst, oILd, oALd, oISt, oInc, oC1eq, oC1ne, oC1lt, oC2ge, oC2gt, oC2le, oGetI, oGetR, oIal, oIas, oCallV, oRetI, xis_t0, g_t0_0, p_t0_0, g_t0_1, p_t0_1, g_t0_2, p_t0_2, g_t0_3, g_t0_4, g_t0_5, g_t0_6, g_t0_7, g_t0_8, p_t0_8, g_t0_9, p_t0_9, g_t0_10, p_t0_10, g_t0_11, p_t0_11, g_t0_12, p_t0_12, g_t0_13, p_t0_13, g_t0_14, p_t0_14, g_t0_15, p_t0_15, g_t0_16, p_t0_16, g_t0_17, p_t0_17, g_t0_18, p_t0_18, xis_t1, g_t1_0, g_t1_1, g_t1_2, g_t1_3, p_t1_3, xis_t5, g_t5_0, g_t5_1, p_t5_1, xis_t7, g_t7_0, g_t7_1, p_t7_1, xis_t9, g_t9_0, g_t9_1, p_t9_1, xis_t11, g_t11_0, g_t11_1, p_t11_1, g_t11_2, p_t11_2, xis_t12, g_t12_0, g_t12_1, p_t12_1, hi, a_t2, s_t2, a_t3, s_t3, a_t4, s_t4, a_t6, s_t6, a_t8, s_t8, a_t10, s_t10, a_t13, s_t13, hc, hn0, hcl, hj, nI_add1, h3, h40, bf_a (show 6 ≠ 5 from by decide)]
    rw [bf_step c 5 i j (c 6 i)]
    exact ih f (j + 1) (by omega) (by omega)
theorem cf_ctbNo {b0 n i : Nat} {c m : xc} {wk : Nat → Int64} {v : Int32} (hi : i < n) (h : c 0 i 22 = -4 ∨ c 0 i 23 = -4) : f_X5_copyToBox b0 [.inr (.inr (some (tA b0 i 0))), .inl v] (hp b0 n c m wk) = some (some (.inl 1), (hp b0 n c m wk)) := by
  simp [f_X5_copyToBox, k_X5_copyToBox_0, xfun, xok, xnth, xset, oCst, oILd, oALd, oISt, oInc, oC1eq, oC1ne, oC1lt, oC2ge, oC2gt, oC2le, oGetI, oGetR, oIal, oIas, oCallV, oRetI, xis_t0, g_t0_0, p_t0_0, g_t0_1, p_t0_1, g_t0_2, p_t0_2, g_t0_3, g_t0_4, g_t0_5, g_t0_6, g_t0_7, g_t0_8, p_t0_8, g_t0_9, p_t0_9, g_t0_10, p_t0_10, g_t0_11, p_t0_11, g_t0_12, p_t0_12, g_t0_13, p_t0_13, g_t0_14, p_t0_14, g_t0_15, p_t0_15, g_t0_16, p_t0_16, g_t0_17, p_t0_17, g_t0_18, p_t0_18, xis_t1, g_t1_0, g_t1_1, g_t1_2, g_t1_3, p_t1_3, xis_t5, g_t5_0, g_t5_1, p_t5_1, xis_t7, g_t7_0, g_t7_1, p_t7_1, xis_t9, g_t9_0, g_t9_1, p_t9_1, xis_t11, g_t11_0, g_t11_1, p_t11_1, g_t11_2, p_t11_2, xis_t12, g_t12_0, g_t12_1, p_t12_1, hi, cf_rowNo, cf_boxNo]
  (repeat' split) <;> first | (simp_all; done) | grind
theorem cf_ctbStore {b0 n i : Nat} {c m : xc} {wk : Nat → Int64} {v : Int32} (hi : i < n) (h : ¬ c 0 i 22 = -4) (h1 : ¬ c 0 i 23 = -4) (h2 : ¬ c 0 i 23 = 0) : f_X5_copyToBox b0 [.inr (.inr (some (tA b0 i 0))), .inl v] (hp b0 n c m wk) = some (some (.inl 3), (hp b0 n c m wk)) := by
  simp [f_X5_copyToBox, k_X5_copyToBox_0, xfun, xok, xnth, xset, oCst, oILd, oALd, oISt, oInc, oC1eq, oC1ne, oC1lt, oC2ge, oC2gt, oC2le, oGetI, oGetR, oIal, oIas, oCallV, oRetI, xis_t0, g_t0_0, p_t0_0, g_t0_1, p_t0_1, g_t0_2, p_t0_2, g_t0_3, g_t0_4, g_t0_5, g_t0_6, g_t0_7, g_t0_8, p_t0_8, g_t0_9, p_t0_9, g_t0_10, p_t0_10, g_t0_11, p_t0_11, g_t0_12, p_t0_12, g_t0_13, p_t0_13, g_t0_14, p_t0_14, g_t0_15, p_t0_15, g_t0_16, p_t0_16, g_t0_17, p_t0_17, g_t0_18, p_t0_18, xis_t1, g_t1_0, g_t1_1, g_t1_2, g_t1_3, p_t1_3, xis_t5, g_t5_0, g_t5_1, p_t5_1, xis_t7, g_t7_0, g_t7_1, p_t7_1, xis_t9, g_t9_0, g_t9_1, p_t9_1, xis_t11, g_t11_0, g_t11_1, p_t11_1, g_t11_2, p_t11_2, xis_t12, g_t12_0, g_t12_1, p_t12_1, hi, cf_rowNo, cf_boxNo, h, h1, h2]
theorem cf_ctbIdx {b0 n i : Nat} {c m : xc} {wk : Nat → Int64} {v : Int32} (hi : i < n) (h : ¬ c 0 i 22 = -4) (h2 : c 0 i 23 = 0) (h3 : v < 0 ∨ c 0 i 22 < v ∨ 3 < v) : f_X5_copyToBox b0 [.inr (.inr (some (tA b0 i 0))), .inl v] (hp b0 n c m wk) = some (some (.inl 2), (hp b0 n c m wk)) := by
  simp [f_X5_copyToBox, k_X5_copyToBox_0, xfun, xok, xnth, xset, oCst, oILd, oALd, oISt, oInc, oC1eq, oC1ne, oC1lt, oC2ge, oC2gt, oC2le, oGetI, oGetR, oIal, oIas, oCallV, oRetI, xis_t0, g_t0_0, p_t0_0, g_t0_1, p_t0_1, g_t0_2, p_t0_2, g_t0_3, g_t0_4, g_t0_5, g_t0_6, g_t0_7, g_t0_8, p_t0_8, g_t0_9, p_t0_9, g_t0_10, p_t0_10, g_t0_11, p_t0_11, g_t0_12, p_t0_12, g_t0_13, p_t0_13, g_t0_14, p_t0_14, g_t0_15, p_t0_15, g_t0_16, p_t0_16, g_t0_17, p_t0_17, g_t0_18, p_t0_18, xis_t1, g_t1_0, g_t1_1, g_t1_2, g_t1_3, p_t1_3, xis_t5, g_t5_0, g_t5_1, p_t5_1, xis_t7, g_t7_0, g_t7_1, p_t7_1, xis_t9, g_t9_0, g_t9_1, p_t9_1, xis_t11, g_t11_0, g_t11_1, p_t11_1, g_t11_2, p_t11_2, xis_t12, g_t12_0, g_t12_1, p_t12_1, hi, cf_rowNo, cf_boxNo, h, h2]
  (repeat' split) <;> first | (simp_all; done) | grind
theorem cf_ctb {b0 n i : Nat} {c m : xc} {wk : Nat → Int64} {z : Nat} (hi : i < n) (h : ¬ c 0 i 22 = -4) (h2 : c 0 i 23 = 0) (h3 : ¬ c 0 i 22 < nI z) (hz : z ≤ 3) : f_X5_copyToBox b0 [.inr (.inr (some (tA b0 i 0))), .inl (nI z)] (hp b0 n c m wk) = some (some (.inl 0), hp b0 n (bf c 5 i z (c 6 i)) m wk) := by
  have hl := lp_ctb (b0 := b0) (m := m) (wk := wk) (c := c) (z := z) hi hz z 64 0 rfl (by omega)
  rw [bf_0] at hl
  have hn := nI_nn (k := z) (by omega)
  have h4 : nI z ≤ 3 := nI_le (b := 3) hz (by decide)
  simp [f_X5_copyToBox, k_X5_copyToBox_0, xfun, xok, xnth, xset, oCst, oILd, oALd, oISt, oInc, oC1eq, oC1ne, oC1lt, oC2ge, oC2gt, oC2le, oGetI, oGetR, oIal, oIas, oCallV, oRetI, xis_t0, g_t0_0, p_t0_0, g_t0_1, p_t0_1, g_t0_2, p_t0_2, g_t0_3, g_t0_4, g_t0_5, g_t0_6, g_t0_7, g_t0_8, p_t0_8, g_t0_9, p_t0_9, g_t0_10, p_t0_10, g_t0_11, p_t0_11, g_t0_12, p_t0_12, g_t0_13, p_t0_13, g_t0_14, p_t0_14, g_t0_15, p_t0_15, g_t0_16, p_t0_16, g_t0_17, p_t0_17, g_t0_18, p_t0_18, xis_t1, g_t1_0, g_t1_1, g_t1_2, g_t1_3, p_t1_3, xis_t5, g_t5_0, g_t5_1, p_t5_1, xis_t7, g_t7_0, g_t7_1, p_t7_1, xis_t9, g_t9_0, g_t9_1, p_t9_1, xis_t11, g_t11_0, g_t11_1, p_t11_1, g_t11_2, p_t11_2, xis_t12, g_t12_0, g_t12_1, p_t12_1, hi, cf_rowNo, cf_boxNo, h, h2, h3, hn, h4]
  exact hl
theorem cf_boxRenew {b0 n i : Nat} {c m : xc} {wk : Nat → Int64} {v : Int32} (hi : i < n) : f_X1_renew b0 [.inr (.inr (some (tA b0 i 9))), .inl v] (hp b0 n c m wk) = some (none, hp b0 n (bf (u3 c 0 i 23 (if v = 0 ∨ v = 1 then v else -4)) 5 i 3 (fun _ => if v = 1 then -4 else 0)) m wk) := by
  have hn0 : ¬ (0 : Int32) < 0 := by decide
  have hn1 : ¬ (1 : Int32) < 0 := by decide
  have hn2 : ¬ (2 : Int32) < 0 := by decide
  have e : ∀ (y : Int32) (d : xc), u3 (u3 (u3 d 5 i 0 y) 5 i 1 y) 5 i 2 y = bf d 5 i 3 (fun _ => y) := by
    intro y d
    rw [← bf_step d 5 i 2 (fun _ => y), ← bf_step d 5 i 1 (fun _ => y), ← bf_step d 5 i 0 (fun _ => y), bf_0]
  by_cases h0 : v = 0
  · subst h0
    simp [f_X1_renew, k_X1_renew_0, k_X1_renew_10, k_X1_renew_21, r_X1_renew, xfun, xok, xnth, xset, oCst, oILd, oALd, oISt, oInc, oC1eq, oC2ne, oC2ge, oGetI, oGetR, oPutI, oIas, oRetV, xis_t0, g_t0_0, p_t0_0, g_t0_1, p_t0_1, g_t0_2, p_t0_2, g_t0_3, g_t0_4, g_t0_5, g_t0_6, g_t0_7, g_t0_8, p_t0_8, g_t0_9, p_t0_9, g_t0_10, p_t0_10, g_t0_11, p_t0_11, g_t0_12, p_t0_12, g_t0_13, p_t0_13, g_t0_14, p_t0_14, g_t0_15, p_t0_15, g_t0_16, p_t0_16, g_t0_17, p_t0_17, g_t0_18, p_t0_18, xis_t1, g_t1_0, g_t1_1, g_t1_2, g_t1_3, p_t1_3, xis_t5, g_t5_0, g_t5_1, p_t5_1, xis_t7, g_t7_0, g_t7_1, p_t7_1, xis_t9, g_t9_0, g_t9_1, p_t9_1, xis_t11, g_t11_0, g_t11_1, p_t11_1, g_t11_2, p_t11_2, xis_t12, g_t12_0, g_t12_1, p_t12_1, hi, a_t2, s_t2, a_t3, s_t3, a_t4, s_t4, a_t6, s_t6, a_t8, s_t8, a_t10, s_t10, a_t13, s_t13, cl0, cl1, cl2, u3_same, u3_a, e]
  · by_cases h1 : v = 1
    · subst h1
      simp [f_X1_renew, k_X1_renew_0, k_X1_renew_10, k_X1_renew_21, r_X1_renew, xfun, xok, xnth, xset, oCst, oILd, oALd, oISt, oInc, oC1eq, oC2ne, oC2ge, oGetI, oGetR, oPutI, oIas, oRetV, xis_t0, g_t0_0, p_t0_0, g_t0_1, p_t0_1, g_t0_2, p_t0_2, g_t0_3, g_t0_4, g_t0_5, g_t0_6, g_t0_7, g_t0_8, p_t0_8, g_t0_9, p_t0_9, g_t0_10, p_t0_10, g_t0_11, p_t0_11, g_t0_12, p_t0_12, g_t0_13, p_t0_13, g_t0_14, p_t0_14, g_t0_15, p_t0_15, g_t0_16, p_t0_16, g_t0_17, p_t0_17, g_t0_18, p_t0_18, xis_t1, g_t1_0, g_t1_1, g_t1_2, g_t1_3, p_t1_3, xis_t5, g_t5_0, g_t5_1, p_t5_1, xis_t7, g_t7_0, g_t7_1, p_t7_1, xis_t9, g_t9_0, g_t9_1, p_t9_1, xis_t11, g_t11_0, g_t11_1, p_t11_1, g_t11_2, p_t11_2, xis_t12, g_t12_0, g_t12_1, p_t12_1, hi, a_t2, s_t2, a_t3, s_t3, a_t4, s_t4, a_t6, s_t6, a_t8, s_t8, a_t10, s_t10, a_t13, s_t13, cl0, cl1, cl2, u3_same, u3_a, e]
    · simp [f_X1_renew, k_X1_renew_0, k_X1_renew_10, k_X1_renew_21, r_X1_renew, xfun, xok, xnth, xset, oCst, oILd, oALd, oISt, oInc, oC1eq, oC2ne, oC2ge, oGetI, oGetR, oPutI, oIas, oRetV, xis_t0, g_t0_0, p_t0_0, g_t0_1, p_t0_1, g_t0_2, p_t0_2, g_t0_3, g_t0_4, g_t0_5, g_t0_6, g_t0_7, g_t0_8, p_t0_8, g_t0_9, p_t0_9, g_t0_10, p_t0_10, g_t0_11, p_t0_11, g_t0_12, p_t0_12, g_t0_13, p_t0_13, g_t0_14, p_t0_14, g_t0_15, p_t0_15, g_t0_16, p_t0_16, g_t0_17, p_t0_17, g_t0_18, p_t0_18, xis_t1, g_t1_0, g_t1_1, g_t1_2, g_t1_3, p_t1_3, xis_t5, g_t5_0, g_t5_1, p_t5_1, xis_t7, g_t7_0, g_t7_1, p_t7_1, xis_t9, g_t9_0, g_t9_1, p_t9_1, xis_t11, g_t11_0, g_t11_1, p_t11_1, g_t11_2, p_t11_2, xis_t12, g_t12_0, g_t12_1, p_t12_1, hi, a_t2, s_t2, a_t3, s_t3, a_t4, s_t4, a_t6, s_t6, a_t8, s_t8, a_t10, s_t10, a_t13, s_t13, cl0, cl1, cl2, u3_same, u3_a, e, h0, h1]
theorem cf_boxPut {b0 n i : Nat} {c m : xc} {wk : Nat → Int64} {u v y : Int32} (hi : i < n) (h0 : ¬ v < 0) (h3 : v < 3) (hk : c 0 i 23 = u) (hu : ¬ u = -4) : f_X1_put b0 [.inr (.inr (some (tA b0 i 9))), .inl u, .inl v, .inl y] (hp b0 n c m wk) = some (some (.inl 0), hp b0 n (u3 c 5 i v.toNatClampNeg y) m wk) := by
  have h1 : v.toNatClampNeg < 3 := cl_lt h0 h3 (by decide)
  have h4 : ¬ 3 ≤ v := k2_nle h3
  simp [f_X1_put, k_X1_put_0, xfun, xok, xnth, xset, oILd, oALd, oISt, oC1ne, oGetR, oIas, oCallV, oRetI, xis_t0, g_t0_0, p_t0_0, g_t0_1, p_t0_1, g_t0_2, p_t0_2, g_t0_3, g_t0_4, g_t0_5, g_t0_6, g_t0_7, g_t0_8, p_t0_8, g_t0_9, p_t0_9, g_t0_10, p_t0_10, g_t0_11, p_t0_11, g_t0_12, p_t0_12, g_t0_13, p_t0_13, g_t0_14, p_t0_14, g_t0_15, p_t0_15, g_t0_16, p_t0_16, g_t0_17, p_t0_17, g_t0_18, p_t0_18, xis_t1, g_t1_0, g_t1_1, g_t1_2, g_t1_3, p_t1_3, xis_t5, g_t5_0, g_t5_1, p_t5_1, xis_t7, g_t7_0, g_t7_1, p_t7_1, xis_t9, g_t9_0, g_t9_1, p_t9_1, xis_t11, g_t11_0, g_t11_1, p_t11_1, g_t11_2, p_t11_2, xis_t12, g_t12_0, g_t12_1, p_t12_1, hi, a_t2, s_t2, a_t3, s_t3, a_t4, s_t4, a_t6, s_t6, a_t8, s_t8, a_t10, s_t10, a_t13, s_t13, cf_look, h0, h1, h4, hk, hu]
theorem cf_boxPutF {b0 n i : Nat} {c m : xc} {wk : Nat → Int64} {u v y : Int32} (hi : i < n) (hf : ¬ (if ¬ c 0 i 23 = u ∧ ¬ c 0 i 23 = -4 then (4 : Int32) else if c 0 i 23 = -4 then 1 else if ¬ v < 0 ∧ ¬ 3 ≤ v then 0 else 2) = 0) : f_X1_put b0 [.inr (.inr (some (tA b0 i 9))), .inl u, .inl v, .inl y] (hp b0 n c m wk) = some (some (.inl (if ¬ c 0 i 23 = u ∧ ¬ c 0 i 23 = -4 then (4 : Int32) else if c 0 i 23 = -4 then 1 else if ¬ v < 0 ∧ ¬ 3 ≤ v then 0 else 2)), (hp b0 n c m wk)) := by
  have hl := cf_look (b0 := b0) (m := m) (wk := wk) (c := c) (u := u) (v := v) hi
  generalize (if ¬ c 0 i 23 = u ∧ ¬ c 0 i 23 = -4 then (4 : Int32) else if c 0 i 23 = -4 then 1 else if ¬ v < 0 ∧ ¬ 3 ≤ v then 0 else 2) = r at hl hf
  simp [f_X1_put, k_X1_put_0, xfun, xok, xnth, xset, oILd, oALd, oISt, oC1ne, oGetR, oIas, oCallV, oRetI, xis_t0, g_t0_0, p_t0_0, g_t0_1, p_t0_1, g_t0_2, p_t0_2, g_t0_3, g_t0_4, g_t0_5, g_t0_6, g_t0_7, g_t0_8, p_t0_8, g_t0_9, p_t0_9, g_t0_10, p_t0_10, g_t0_11, p_t0_11, g_t0_12, p_t0_12, g_t0_13, p_t0_13, g_t0_14, p_t0_14, g_t0_15, p_t0_15, g_t0_16, p_t0_16, g_t0_17, p_t0_17, g_t0_18, p_t0_18, xis_t1, g_t1_0, g_t1_1, g_t1_2, g_t1_3, p_t1_3, xis_t5, g_t5_0, g_t5_1, p_t5_1, xis_t7, g_t7_0, g_t7_1, p_t7_1, xis_t9, g_t9_0, g_t9_1, p_t9_1, xis_t11, g_t11_0, g_t11_1, p_t11_1, g_t11_2, p_t11_2, xis_t12, g_t12_0, g_t12_1, p_t12_1, hi, hl, hf]
