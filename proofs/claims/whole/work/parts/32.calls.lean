theorem mf_of {b0 n i : Nat} {c m : xc} {wk : Nat → Int64} {v : Int32} (hn : n ≤ 12) (hm : m 8 0 2 = nI n) (hi : i < n) : f_X7_of b0 [.inr (.inr (some (hA b0 3))), .inl (nI i), .inl v] (hp b0 n c m wk) = some (some (.inl (if v < 0 then -1 else tel m i v.toNatClampNeg)), (hp b0 n c m wk)) := by
  by_cases h0 : v < 0
  · simp (maxSteps := 1000000) (disch := omega) [f_X7_of, k_X7_of_68, k_X7_of_75, k_X7_of_82, k_X7_of_89, k_X7_of_96, k_X7_of_103, k_X7_of_110, k_X7_of_117, k_X7_of_124, k_X7_of_131, k_X7_of_138, k_X7_of_145, sw_X7_of_11, k_X7_of_0, xfun, xok, xnth, xset, oCst, oILd, oALd, oC1ne, oTab, oGetR, oIal, oCallV, oRetI, g_h3_4, an_h7, sn_h7, g_h3_10, an_h13, sn_h13, g_h3_9, an_h12, sn_h12, g_h3_19, an_h22, sn_h22, g_h3_3, an_h6, sn_h6, g_h3_22, an_h25, sn_h25, g_h3_23, an_h26, sn_h26, g_h3_11, an_h14, sn_h14, g_h3_17, an_h20, sn_h20, g_h3_25, an_h28, sn_h28, g_h3_24, an_h27, sn_h27, xis_h3, xis_h3, mf_isTaskYes hn hm hi, h0]
  · by_cases h1 : v.toNatClampNeg < 11
    · simp (maxSteps := 1000000) (disch := omega) [f_X7_of, k_X7_of_0, xfun, xok, xnth, xset, oCst, oILd, oALd, oC1ne, oTab, oGetR, oIal, oCallV, oRetI, xis_h3, mf_isTaskYes hn hm hi, h0, h1]
      generalize v.toNatClampNeg = k at h1 ⊢
      match k, h1 with
      | 0, _ => simp (maxSteps := 1000000) (disch := omega) [k_X7_of_68, k_X7_of_75, k_X7_of_82, k_X7_of_89, k_X7_of_96, k_X7_of_103, k_X7_of_110, k_X7_of_117, k_X7_of_124, k_X7_of_131, k_X7_of_138, k_X7_of_145, sw_X7_of_11, k_X7_of_0, xfun, xok, xnth, xset, oCst, oILd, oALd, oC1ne, oTab, oGetR, oIal, oCallV, oRetI, g_h3_4, an_h7, sn_h7, g_h3_10, an_h13, sn_h13, g_h3_9, an_h12, sn_h12, g_h3_19, an_h22, sn_h22, g_h3_3, an_h6, sn_h6, g_h3_22, an_h25, sn_h25, g_h3_23, an_h26, sn_h26, g_h3_11, an_h14, sn_h14, g_h3_17, an_h20, sn_h20, g_h3_25, an_h28, sn_h28, g_h3_24, an_h27, sn_h27, xis_h3, tel]
      | 1, _ => simp (maxSteps := 1000000) (disch := omega) [k_X7_of_68, k_X7_of_75, k_X7_of_82, k_X7_of_89, k_X7_of_96, k_X7_of_103, k_X7_of_110, k_X7_of_117, k_X7_of_124, k_X7_of_131, k_X7_of_138, k_X7_of_145, sw_X7_of_11, k_X7_of_0, xfun, xok, xnth, xset, oCst, oILd, oALd, oC1ne, oTab, oGetR, oIal, oCallV, oRetI, g_h3_4, an_h7, sn_h7, g_h3_10, an_h13, sn_h13, g_h3_9, an_h12, sn_h12, g_h3_19, an_h22, sn_h22, g_h3_3, an_h6, sn_h6, g_h3_22, an_h25, sn_h25, g_h3_23, an_h26, sn_h26, g_h3_11, an_h14, sn_h14, g_h3_17, an_h20, sn_h20, g_h3_25, an_h28, sn_h28, g_h3_24, an_h27, sn_h27, xis_h3, tel]
      | 2, _ => simp (maxSteps := 1000000) (disch := omega) [k_X7_of_68, k_X7_of_75, k_X7_of_82, k_X7_of_89, k_X7_of_96, k_X7_of_103, k_X7_of_110, k_X7_of_117, k_X7_of_124, k_X7_of_131, k_X7_of_138, k_X7_of_145, sw_X7_of_11, k_X7_of_0, xfun, xok, xnth, xset, oCst, oILd, oALd, oC1ne, oTab, oGetR, oIal, oCallV, oRetI, g_h3_4, an_h7, sn_h7, g_h3_10, an_h13, sn_h13, g_h3_9, an_h12, sn_h12, g_h3_19, an_h22, sn_h22, g_h3_3, an_h6, sn_h6, g_h3_22, an_h25, sn_h25, g_h3_23, an_h26, sn_h26, g_h3_11, an_h14, sn_h14, g_h3_17, an_h20, sn_h20, g_h3_25, an_h28, sn_h28, g_h3_24, an_h27, sn_h27, xis_h3, tel]
      | 3, _ => simp (maxSteps := 1000000) (disch := omega) [k_X7_of_68, k_X7_of_75, k_X7_of_82, k_X7_of_89, k_X7_of_96, k_X7_of_103, k_X7_of_110, k_X7_of_117, k_X7_of_124, k_X7_of_131, k_X7_of_138, k_X7_of_145, sw_X7_of_11, k_X7_of_0, xfun, xok, xnth, xset, oCst, oILd, oALd, oC1ne, oTab, oGetR, oIal, oCallV, oRetI, g_h3_4, an_h7, sn_h7, g_h3_10, an_h13, sn_h13, g_h3_9, an_h12, sn_h12, g_h3_19, an_h22, sn_h22, g_h3_3, an_h6, sn_h6, g_h3_22, an_h25, sn_h25, g_h3_23, an_h26, sn_h26, g_h3_11, an_h14, sn_h14, g_h3_17, an_h20, sn_h20, g_h3_25, an_h28, sn_h28, g_h3_24, an_h27, sn_h27, xis_h3, tel]
      | 4, _ => simp (maxSteps := 1000000) (disch := omega) [k_X7_of_68, k_X7_of_75, k_X7_of_82, k_X7_of_89, k_X7_of_96, k_X7_of_103, k_X7_of_110, k_X7_of_117, k_X7_of_124, k_X7_of_131, k_X7_of_138, k_X7_of_145, sw_X7_of_11, k_X7_of_0, xfun, xok, xnth, xset, oCst, oILd, oALd, oC1ne, oTab, oGetR, oIal, oCallV, oRetI, g_h3_4, an_h7, sn_h7, g_h3_10, an_h13, sn_h13, g_h3_9, an_h12, sn_h12, g_h3_19, an_h22, sn_h22, g_h3_3, an_h6, sn_h6, g_h3_22, an_h25, sn_h25, g_h3_23, an_h26, sn_h26, g_h3_11, an_h14, sn_h14, g_h3_17, an_h20, sn_h20, g_h3_25, an_h28, sn_h28, g_h3_24, an_h27, sn_h27, xis_h3, tel]
      | 5, _ => simp (maxSteps := 1000000) (disch := omega) [k_X7_of_68, k_X7_of_75, k_X7_of_82, k_X7_of_89, k_X7_of_96, k_X7_of_103, k_X7_of_110, k_X7_of_117, k_X7_of_124, k_X7_of_131, k_X7_of_138, k_X7_of_145, sw_X7_of_11, k_X7_of_0, xfun, xok, xnth, xset, oCst, oILd, oALd, oC1ne, oTab, oGetR, oIal, oCallV, oRetI, g_h3_4, an_h7, sn_h7, g_h3_10, an_h13, sn_h13, g_h3_9, an_h12, sn_h12, g_h3_19, an_h22, sn_h22, g_h3_3, an_h6, sn_h6, g_h3_22, an_h25, sn_h25, g_h3_23, an_h26, sn_h26, g_h3_11, an_h14, sn_h14, g_h3_17, an_h20, sn_h20, g_h3_25, an_h28, sn_h28, g_h3_24, an_h27, sn_h27, xis_h3, tel]
      | 6, _ => simp (maxSteps := 1000000) (disch := omega) [k_X7_of_68, k_X7_of_75, k_X7_of_82, k_X7_of_89, k_X7_of_96, k_X7_of_103, k_X7_of_110, k_X7_of_117, k_X7_of_124, k_X7_of_131, k_X7_of_138, k_X7_of_145, sw_X7_of_11, k_X7_of_0, xfun, xok, xnth, xset, oCst, oILd, oALd, oC1ne, oTab, oGetR, oIal, oCallV, oRetI, g_h3_4, an_h7, sn_h7, g_h3_10, an_h13, sn_h13, g_h3_9, an_h12, sn_h12, g_h3_19, an_h22, sn_h22, g_h3_3, an_h6, sn_h6, g_h3_22, an_h25, sn_h25, g_h3_23, an_h26, sn_h26, g_h3_11, an_h14, sn_h14, g_h3_17, an_h20, sn_h20, g_h3_25, an_h28, sn_h28, g_h3_24, an_h27, sn_h27, xis_h3, tel]
      | 7, _ => simp (maxSteps := 1000000) (disch := omega) [k_X7_of_68, k_X7_of_75, k_X7_of_82, k_X7_of_89, k_X7_of_96, k_X7_of_103, k_X7_of_110, k_X7_of_117, k_X7_of_124, k_X7_of_131, k_X7_of_138, k_X7_of_145, sw_X7_of_11, k_X7_of_0, xfun, xok, xnth, xset, oCst, oILd, oALd, oC1ne, oTab, oGetR, oIal, oCallV, oRetI, g_h3_4, an_h7, sn_h7, g_h3_10, an_h13, sn_h13, g_h3_9, an_h12, sn_h12, g_h3_19, an_h22, sn_h22, g_h3_3, an_h6, sn_h6, g_h3_22, an_h25, sn_h25, g_h3_23, an_h26, sn_h26, g_h3_11, an_h14, sn_h14, g_h3_17, an_h20, sn_h20, g_h3_25, an_h28, sn_h28, g_h3_24, an_h27, sn_h27, xis_h3, tel]
      | 8, _ => simp (maxSteps := 1000000) (disch := omega) [k_X7_of_68, k_X7_of_75, k_X7_of_82, k_X7_of_89, k_X7_of_96, k_X7_of_103, k_X7_of_110, k_X7_of_117, k_X7_of_124, k_X7_of_131, k_X7_of_138, k_X7_of_145, sw_X7_of_11, k_X7_of_0, xfun, xok, xnth, xset, oCst, oILd, oALd, oC1ne, oTab, oGetR, oIal, oCallV, oRetI, g_h3_4, an_h7, sn_h7, g_h3_10, an_h13, sn_h13, g_h3_9, an_h12, sn_h12, g_h3_19, an_h22, sn_h22, g_h3_3, an_h6, sn_h6, g_h3_22, an_h25, sn_h25, g_h3_23, an_h26, sn_h26, g_h3_11, an_h14, sn_h14, g_h3_17, an_h20, sn_h20, g_h3_25, an_h28, sn_h28, g_h3_24, an_h27, sn_h27, xis_h3, tel]
      | 9, _ => simp (maxSteps := 1000000) (disch := omega) [k_X7_of_68, k_X7_of_75, k_X7_of_82, k_X7_of_89, k_X7_of_96, k_X7_of_103, k_X7_of_110, k_X7_of_117, k_X7_of_124, k_X7_of_131, k_X7_of_138, k_X7_of_145, sw_X7_of_11, k_X7_of_0, xfun, xok, xnth, xset, oCst, oILd, oALd, oC1ne, oTab, oGetR, oIal, oCallV, oRetI, g_h3_4, an_h7, sn_h7, g_h3_10, an_h13, sn_h13, g_h3_9, an_h12, sn_h12, g_h3_19, an_h22, sn_h22, g_h3_3, an_h6, sn_h6, g_h3_22, an_h25, sn_h25, g_h3_23, an_h26, sn_h26, g_h3_11, an_h14, sn_h14, g_h3_17, an_h20, sn_h20, g_h3_25, an_h28, sn_h28, g_h3_24, an_h27, sn_h27, xis_h3, tel]
      | 10, _ => simp (maxSteps := 1000000) (disch := omega) [k_X7_of_68, k_X7_of_75, k_X7_of_82, k_X7_of_89, k_X7_of_96, k_X7_of_103, k_X7_of_110, k_X7_of_117, k_X7_of_124, k_X7_of_131, k_X7_of_138, k_X7_of_145, sw_X7_of_11, k_X7_of_0, xfun, xok, xnth, xset, oCst, oILd, oALd, oC1ne, oTab, oGetR, oIal, oCallV, oRetI, g_h3_4, an_h7, sn_h7, g_h3_10, an_h13, sn_h13, g_h3_9, an_h12, sn_h12, g_h3_19, an_h22, sn_h22, g_h3_3, an_h6, sn_h6, g_h3_22, an_h25, sn_h25, g_h3_23, an_h26, sn_h26, g_h3_11, an_h14, sn_h14, g_h3_17, an_h20, sn_h20, g_h3_25, an_h28, sn_h28, g_h3_24, an_h27, sn_h27, xis_h3, tel]
      | q + 11, h => omega
    · have e : tel m i v.toNatClampNeg = -1 := by
        generalize v.toNatClampNeg = k at h1 ⊢
        match k, h1 with
        | 0, h => omega
        | 1, h => omega
        | 2, h => omega
        | 3, h => omega
        | 4, h => omega
        | 5, h => omega
        | 6, h => omega
        | 7, h => omega
        | 8, h => omega
        | 9, h => omega
        | 10, h => omega
        | q + 11, _ => rfl
      simp (maxSteps := 1000000) (disch := omega) [f_X7_of, k_X7_of_0, k_X7_of_145, xfun, xok, xnth, xset, oCst, oILd, oALd, oC1ne, oTab, oGetR, oIal, oCallV, oRetI, xis_h3, mf_isTaskYes hn hm hi, h0, h1, e]
theorem TJ.tel {n i : Nat} {c m : xc} (h : TJ n c m i) (k : Nat) : tel m i k = tel c i k := by
  have h1 := fun k a b d => (h.1 k a b d).symm
  match k with
  | 0 => exact h1 8 (by decide) (by decide) (by decide)
  | 1 => exact h1 10 (by decide) (by decide) (by decide)
  | 2 => exact h1 11 (by decide) (by decide) (by decide)
  | 3 => exact h1 21 (by decide) (by decide) (by decide)
  | 4 => exact h1 9 (by decide) (by decide) (by decide)
  | 5 => exact h1 15 (by decide) (by decide) (by decide)
  | 6 => exact h1 16 (by decide) (by decide) (by decide)
  | 7 => exact h1 22 (by decide) (by decide) (by decide)
  | 8 => exact h1 23 (by decide) (by decide) (by decide)
  | 9 => exact h1 18 (by decide) (by decide) (by decide)
  | 10 => exact h1 17 (by decide) (by decide) (by decide)
  | q + 11 => rfl
theorem pr_of {b0 : Nat} {v u : Int32} : Pr b0 (f_X6_of b0) (f_X7_of b0) [.inl v, .inl u] := by
  intro n T c m wk hX hT
  obtain ⟨hn, hm, hc2, hJ⟩ := hX.n
  by_cases hv : 0 ≤ v ∧ v < nI n
  case neg =>
    refine Pr.same (v := -1) hX ?_ ?_
    · simp (maxSteps := 1000000) (disch := omega) [f_X6_of, k_X6_of_0, xfun, xok, xnth, xset, oCst, oILd, oALd, oASt, oCnonnull, oCallV, oRetI, xis_h0, xis_t0, xis_h0, cf_findNo hn hv]
    · simp (maxSteps := 1000000) (disch := omega) [f_X7_of, k_X7_of_68, k_X7_of_75, k_X7_of_82, k_X7_of_89, k_X7_of_96, k_X7_of_103, k_X7_of_110, k_X7_of_117, k_X7_of_124, k_X7_of_131, k_X7_of_138, k_X7_of_145, sw_X7_of_11, k_X7_of_0, xfun, xok, xnth, xset, oCst, oILd, oALd, oC1ne, oTab, oGetR, oIal, oCallV, oRetI, g_h3_4, an_h7, sn_h7, g_h3_10, an_h13, sn_h13, g_h3_9, an_h12, sn_h12, g_h3_19, an_h22, sn_h22, g_h3_3, an_h6, sn_h6, g_h3_22, an_h25, sn_h25, g_h3_23, an_h26, sn_h26, g_h3_11, an_h14, sn_h14, g_h3_17, an_h20, sn_h20, g_h3_25, an_h28, sn_h28, g_h3_24, an_h27, sn_h27, xis_h3, xis_h3, mf_isTaskNo hn hm hv]
  obtain ⟨i, hib, rfl⟩ := nI_of (x := v) (k2_nlt hv.1)
  have hi : i < n := (nI_ltI hib (by omega)).mp hv.2
  refine Pr.same hX ?_ (mf_of hn hm hi)
  simp (maxSteps := 1000000) (disch := omega) [f_X6_of, k_X6_of_0, xfun, xok, xnth, xset, oCst, oILd, oALd, oASt, oCnonnull, oCallV, oRetI, xis_h0, xis_t0, xis_h0, xis_t0, hi, cf_findYes hn hi, cf_tell hi, (hJ i hi).tel]
theorem pr_letterAt {b0 : Nat} {v u : Int32} : Pr b0 (f_X6_letterAt b0) (f_X7_letterAt b0) [.inl v, .inl u] := by
  intro n T c m wk hX hT
  obtain ⟨hn, hm, hc2, hJ⟩ := hX.n
  by_cases hv : 0 ≤ v ∧ v < nI n
  case neg =>
    refine Pr.same (v := -1) hX ?_ ?_
    · simp (maxSteps := 1000000) (disch := omega) [f_X6_letterAt, k_X6_letterAt_0, xfun, xok, xnth, xset, oCst, oILd, oALd, oASt, oC1eq, oCnull, oGetR, oIal, oCallV, oRetI, g_t0_4, g_t5_0, an_t6, sn_t6, xis_h0, xis_t5, xis_h0, cf_findNo hn hv]
    · simp (maxSteps := 1000000) (disch := omega) [f_X7_letterAt, k_X7_letterAt_0, xfun, xok, xnth, xset, oCst, oILd, oALd, oAdd, oSub, oMul, oC1eq, oGetR, oIal, oCallV, oCallS, oRetI, g_h3_19, an_h22, sn_h22, g_h3_20, an_h23, sn_h23, xis_h3, xis_h3, mf_isTaskNo hn hm hv]
  obtain ⟨i, hib, rfl⟩ := nI_of (x := v) (k2_nlt hv.1)
  have hi : i < n := (nI_ltI hib (by omega)).mp hv.2
  obtain ⟨z, hz6, hz⟩ := (hJ i hi).2.2.2.1
  have hzm : m 0 i 21 = nI z := ((hJ i hi).1 21 (by decide) (by decide) (by decide)).symm.trans hz
  have hpr := le_pred (v := u) (k := z) (by omega)
  by_cases hu : 0 ≤ u ∧ u < nI z
  · have hin : ∀ h, f_X7_in b0 [.inl u, .inl 0, .inl (nI z - 1)] h = some (some (.inl 1), h) := fun h => by rw [mf_in, if_pos ⟨hu.1, hpr.mpr hu.2⟩]
    have hha : f_X2_has b0 [.inr (.inr (some (tA b0 i 5))), .inl u] (hp b0 n c m wk) = some (some (.inl 1), hp b0 n c m wk) := by rw [cf_letHas hi, hz, if_pos ⟨k2_nlt hu.1, k2_nle hu.2⟩]
    obtain ⟨y, hyb, rfl⟩ := nI_of (x := u) (k2_nlt hu.1)
    have hy : y < z := (nI_ltI hyb (by omega)).mp hu.2
    have e4 : m 4 i y = c 4 i y := ((hJ i hi).2.1 4 y (by decide) (by decide)).symm
    refine Pr.same (v := c 4 i y) hX ?_ ?_
    · simp (maxSteps := 1000000) (disch := omega) [f_X6_letterAt, k_X6_letterAt_0, xfun, xok, xnth, xset, oCst, oILd, oALd, oASt, oC1eq, oCnull, oGetR, oIal, oCallV, oRetI, g_t0_4, g_t5_0, an_t6, sn_t6, xis_h0, xis_t5, xis_h0, xis_t0, xis_t5, hi, cf_findYes hn hi, hha]
    · simp (maxSteps := 1000000) (disch := omega) [f_X7_letterAt, k_X7_letterAt_0, xfun, xok, xnth, xset, oCst, oILd, oALd, oAdd, oSub, oMul, oC1eq, oGetR, oIal, oCallV, oCallS, oRetI, g_h3_19, an_h22, sn_h22, g_h3_20, an_h23, sn_h23, xis_h3, dv16, md16, dv100, md100, dv6, md6, dv3, md3, dv60, md60, ml16, ml100, ml6, ml3, ad0, ad1, ad2, nI_add, Nat.mod_eq_of_lt, xis_h3, mf_isTaskYes hn hm hi, hin, hzm, e4]
  · have hin : ∀ h, f_X7_in b0 [.inl u, .inl 0, .inl (nI z - 1)] h = some (some (.inl 0), h) := fun h => by rw [mf_in, if_neg (fun q => hu ⟨q.1, hpr.mp q.2⟩)]
    have hha : f_X2_has b0 [.inr (.inr (some (tA b0 i 5))), .inl u] (hp b0 n c m wk) = some (some (.inl 0), hp b0 n c m wk) := by rw [cf_letHas hi, hz, if_neg (fun q => hu ⟨k2_le q.1, k2_lt q.2⟩)]
    refine Pr.same (v := -1) hX ?_ ?_
    · simp (maxSteps := 1000000) (disch := omega) [f_X6_letterAt, k_X6_letterAt_0, xfun, xok, xnth, xset, oCst, oILd, oALd, oASt, oC1eq, oCnull, oGetR, oIal, oCallV, oRetI, g_t0_4, g_t5_0, an_t6, sn_t6, xis_h0, xis_t5, xis_h0, xis_t0, xis_t5, hi, cf_findYes hn hi, hha]
    · simp (maxSteps := 1000000) (disch := omega) [f_X7_letterAt, k_X7_letterAt_0, xfun, xok, xnth, xset, oCst, oILd, oALd, oAdd, oSub, oMul, oC1eq, oGetR, oIal, oCallV, oCallS, oRetI, g_h3_19, an_h22, sn_h22, g_h3_20, an_h23, sn_h23, xis_h3, xis_h3, mf_isTaskYes hn hm hi, hin, hzm]
theorem pr_at {b0 : Nat} {v x u : Int32} : Pr b0 (f_X6_at b0) (f_X7_at b0) [.inl v, .inl x, .inl u] := by
  intro n T c m wk hX hT
  obtain ⟨hn, hm, hc2, hJ⟩ := hX.n
  by_cases hv : 0 ≤ v ∧ v < nI n
  case neg =>
    refine Pr.same (v := -1) hX ?_ ?_
    · simp (maxSteps := 1000000) (disch := omega) [f_X6_at, k_X6_at_0, xfun, xok, xnth, xset, oCst, oILd, oALd, oASt, oC1eq, oCnonnull, oGetR, oIal, oCallV, oRetI, g_t0_5, g_t7_0, g_t12_0, an_t8, sn_t8, g_t0_6, g_t9_0, an_t10, sn_t10, xis_h0, xis_t7, xis_t12, xis_t9, xis_h0, cf_findNo hn hv]
    · simp (maxSteps := 1000000) (disch := omega) [f_X7_at, k_X7_at_0, xfun, xok, xnth, xset, oCst, oILd, oALd, oAdd, oSub, oMul, oC2eq, oC1eq, oC1ne, oGetR, oIal, oCallV, oCallS, oRetI, g_h3_11, an_h14, sn_h14, g_h3_12, an_h15, sn_h15, g_h3_17, an_h20, sn_h20, g_h3_18, an_h21, sn_h21, xis_h3, xis_h3, mf_isTaskNo hn hm hv]
  obtain ⟨i, hib, rfl⟩ := nI_of (x := v) (k2_nlt hv.1)
  have hi : i < n := (nI_ltI hib (by omega)).mp hv.2
  have e22 := ((hJ i hi).1 22 (by decide) (by decide) (by decide))
  have e23 := ((hJ i hi).1 23 (by decide) (by decide) (by decide)).symm
  by_cases hx : x = 0
  · subst hx
    have hR : ∃ z, z ≤ 40 ∧ (∀ q : Int32, 0 ≤ q → (q ≤ m 0 i 22 - 1 ↔ q < nI z)) ∧ (∀ q : Int32, 0 ≤ q → (c 0 i 22 ≤ q ↔ nI z ≤ q)) ∧ ∀ k, k < z → c 6 i k = m 6 i k := by
      rcases (hJ i hi).2.2.2.2.1 with g0 | ⟨z, g1, g2, g3⟩
      · refine ⟨0, by omega, fun q hq => ?_, fun q hq => ?_, fun k hk => absurd hk (by omega)⟩
        · rw [← e22, g0, nI_0]
          have e5 : (-4 : Int32) - 1 = -5 := by decide
          rw [e5]
          grind
        · rw [g0, nI_0]
          grind
      · exact ⟨z, g1, fun q _ => by rw [← e22, g2]; exact le_pred (by omega), fun q _ => by rw [g2], g3⟩
    obtain ⟨z, hz40, hz1, hz2, hz3⟩ := hR
    by_cases hu : 0 ≤ u ∧ u < nI z
    · have hin : ∀ h, f_X7_in b0 [.inl u, .inl 0, .inl (m 0 i 22 - 1)] h = some (some (.inl 1), h) := fun h => by rw [mf_in, if_pos ⟨hu.1, (hz1 u hu.1).mpr hu.2⟩]
      have h40 : ¬ (40 : Int32) ≤ u := by
        have : nI z ≤ 40 := nI_le (b := 40) hz40 (by decide)
        grind
      have hha : f_X4_has b0 [.inr (.inr (some (tA b0 i 7))), .inl u] (hp b0 n c m wk) = some (some (.inl 1), hp b0 n c m wk) := by rw [cf_rowHas hi, if_pos ⟨k2_nlt hu.1, fun q => absurd ((hz2 u hu.1).mp q) (k2_nle hu.2), h40⟩]
      obtain ⟨y, hyb, rfl⟩ := nI_of (x := u) (k2_nlt hu.1)
      have hy : y < z := (nI_ltI hyb (by omega)).mp hu.2
      have e6 := (hz3 y hy).symm
      refine Pr.same (v := c 6 i y) hX ?_ ?_
      · simp (maxSteps := 1000000) (disch := omega) [f_X6_at, k_X6_at_0, xfun, xok, xnth, xset, oCst, oILd, oALd, oASt, oC1eq, oCnonnull, oGetR, oIal, oCallV, oRetI, g_t0_5, g_t7_0, g_t12_0, an_t8, sn_t8, g_t0_6, g_t9_0, an_t10, sn_t10, xis_h0, xis_t7, xis_t12, xis_t9, xis_h0, xis_t0, xis_t7, hi, cf_findYes hn hi, hha]
      · simp (maxSteps := 1000000) (disch := omega) [f_X7_at, k_X7_at_0, xfun, xok, xnth, xset, oCst, oILd, oALd, oAdd, oSub, oMul, oC2eq, oC1eq, oC1ne, oGetR, oIal, oCallV, oCallS, oRetI, g_h3_11, an_h14, sn_h14, g_h3_12, an_h15, sn_h15, g_h3_17, an_h20, sn_h20, g_h3_18, an_h21, sn_h21, xis_h3, dv16, md16, dv100, md100, dv6, md6, dv3, md3, dv60, md60, ml16, ml100, ml6, ml3, ad0, ad1, ad2, nI_add, Nat.mod_eq_of_lt, xis_h3, mf_isTaskYes hn hm hi, hin, e6]
    · have hin : ∀ h, f_X7_in b0 [.inl u, .inl 0, .inl (m 0 i 22 - 1)] h = some (some (.inl 0), h) := fun h => by rw [mf_in, if_neg (fun q => hu ⟨q.1, (hz1 u q.1).mp q.2⟩)]
      have hha : f_X4_has b0 [.inr (.inr (some (tA b0 i 7))), .inl u] (hp b0 n c m wk) = some (some (.inl 0), hp b0 n c m wk) := by rw [cf_rowHas hi, if_neg (fun q => hu ⟨k2_le q.1, k2_lt (fun r => q.2.1 ((hz2 u (k2_le q.1)).mpr r))⟩)]
      refine Pr.same (v := -1) hX ?_ ?_
      · simp (maxSteps := 1000000) (disch := omega) [f_X6_at, k_X6_at_0, xfun, xok, xnth, xset, oCst, oILd, oALd, oASt, oC1eq, oCnonnull, oGetR, oIal, oCallV, oRetI, g_t0_5, g_t7_0, g_t12_0, an_t8, sn_t8, g_t0_6, g_t9_0, an_t10, sn_t10, xis_h0, xis_t7, xis_t12, xis_t9, xis_h0, xis_t0, xis_t7, hi, cf_findYes hn hi, hha]
      · simp (maxSteps := 1000000) (disch := omega) [f_X7_at, k_X7_at_0, xfun, xok, xnth, xset, oCst, oILd, oALd, oAdd, oSub, oMul, oC2eq, oC1eq, oC1ne, oGetR, oIal, oCallV, oCallS, oRetI, g_h3_11, an_h14, sn_h14, g_h3_12, an_h15, sn_h15, g_h3_17, an_h20, sn_h20, g_h3_18, an_h21, sn_h21, xis_h3, xis_h3, mf_isTaskYes hn hm hi, hin]
  · by_cases hk : c 0 i 23 = -4
    · have hha : f_X1_has b0 [.inr (.inr (some (tA b0 i 9))), .inl u] (hp b0 n c m wk) = some (some (.inl 0), hp b0 n c m wk) := by rw [cf_boxHas hi, if_neg (fun q => q.1 hk)]
      have hkm := e23.trans hk
      refine Pr.same (v := -1) hX ?_ ?_
      · simp (maxSteps := 1000000) (disch := omega) [f_X6_at, k_X6_at_0, xfun, xok, xnth, xset, oCst, oILd, oALd, oASt, oC1eq, oCnonnull, oGetR, oIal, oCallV, oRetI, g_t0_5, g_t7_0, g_t12_0, an_t8, sn_t8, g_t0_6, g_t9_0, an_t10, sn_t10, xis_h0, xis_t7, xis_t12, xis_t9, xis_h0, xis_t0, xis_t9, hi, cf_findYes hn hi, hx, hha]
      · simp (maxSteps := 1000000) (disch := omega) [f_X7_at, k_X7_at_0, xfun, xok, xnth, xset, oCst, oILd, oALd, oAdd, oSub, oMul, oC2eq, oC1eq, oC1ne, oGetR, oIal, oCallV, oCallS, oRetI, g_h3_11, an_h14, sn_h14, g_h3_12, an_h15, sn_h15, g_h3_17, an_h20, sn_h20, g_h3_18, an_h21, sn_h21, xis_h3, xis_h3, mf_isTaskYes hn hm hi, hx, hkm]
    · have hkm : ¬ m 0 i 23 = -4 := fun q => hk (e23.symm.trans q)
      by_cases hu : 0 ≤ u ∧ u < 3
      · have hin : ∀ h, f_X7_in b0 [.inl u, .inl 0, .inl 2] h = some (some (.inl 1), h) := fun h => by rw [mf_in, if_pos ⟨hu.1, by grind⟩]
        have hha : f_X1_has b0 [.inr (.inr (some (tA b0 i 9))), .inl u] (hp b0 n c m wk) = some (some (.inl 1), hp b0 n c m wk) := by rw [cf_boxHas hi, if_pos ⟨hk, k2_nlt hu.1, k2_nle hu.2⟩]
        obtain ⟨y, hyb, rfl⟩ := nI_of (x := u) (k2_nlt hu.1)
        have hy : y < 3 := (nI_ltI (b := 3) hyb (by decide)).mp hu.2
        have e5 : m 5 i y = c 5 i y := ((hJ i hi).2.1 5 y (by decide) (by decide)).symm
        refine Pr.same (v := c 5 i y) hX ?_ ?_
        · simp (maxSteps := 1000000) (disch := omega) [f_X6_at, k_X6_at_0, xfun, xok, xnth, xset, oCst, oILd, oALd, oASt, oC1eq, oCnonnull, oGetR, oIal, oCallV, oRetI, g_t0_5, g_t7_0, g_t12_0, an_t8, sn_t8, g_t0_6, g_t9_0, an_t10, sn_t10, xis_h0, xis_t7, xis_t12, xis_t9, xis_h0, xis_t0, xis_t9, hi, cf_findYes hn hi, hx, hha]
        · simp (maxSteps := 1000000) (disch := omega) [f_X7_at, k_X7_at_0, xfun, xok, xnth, xset, oCst, oILd, oALd, oAdd, oSub, oMul, oC2eq, oC1eq, oC1ne, oGetR, oIal, oCallV, oCallS, oRetI, g_h3_11, an_h14, sn_h14, g_h3_12, an_h15, sn_h15, g_h3_17, an_h20, sn_h20, g_h3_18, an_h21, sn_h21, xis_h3, dv16, md16, dv100, md100, dv6, md6, dv3, md3, dv60, md60, ml16, ml100, ml6, ml3, ad0, ad1, ad2, nI_add, Nat.mod_eq_of_lt, xis_h3, mf_isTaskYes hn hm hi, hin, hx, hkm, e5]
      · have hin : ∀ h, f_X7_in b0 [.inl u, .inl 0, .inl 2] h = some (some (.inl 0), h) := fun h => by rw [mf_in, if_neg (fun q => hu ⟨q.1, by have := q.2; grind⟩)]
        have hha : f_X1_has b0 [.inr (.inr (some (tA b0 i 9))), .inl u] (hp b0 n c m wk) = some (some (.inl 0), hp b0 n c m wk) := by rw [cf_boxHas hi, if_neg (fun q => hu ⟨k2_le q.2.1, k2_lt q.2.2⟩)]
        refine Pr.same (v := -1) hX ?_ ?_
        · simp (maxSteps := 1000000) (disch := omega) [f_X6_at, k_X6_at_0, xfun, xok, xnth, xset, oCst, oILd, oALd, oASt, oC1eq, oCnonnull, oGetR, oIal, oCallV, oRetI, g_t0_5, g_t7_0, g_t12_0, an_t8, sn_t8, g_t0_6, g_t9_0, an_t10, sn_t10, xis_h0, xis_t7, xis_t12, xis_t9, xis_h0, xis_t0, xis_t9, hi, cf_findYes hn hi, hx, hha]
        · simp (maxSteps := 1000000) (disch := omega) [f_X7_at, k_X7_at_0, xfun, xok, xnth, xset, oCst, oILd, oALd, oAdd, oSub, oMul, oC2eq, oC1eq, oC1ne, oGetR, oIal, oCallV, oCallS, oRetI, g_h3_11, an_h14, sn_h14, g_h3_12, an_h15, sn_h15, g_h3_17, an_h20, sn_h20, g_h3_18, an_h21, sn_h21, xis_h3, xis_h3, mf_isTaskYes hn hm hi, hin, hx, hkm]
theorem pr_done {b0 : Nat} {u : Int32} : Pr b0 (f_X6_done b0) (f_X7_done b0) [.inl u] := by
  intro n T c m wk hX hT
  obtain ⟨W, A, ⟨M1, M2, M3, M4, M5, M6, M7, M8, M9, M10, M11, M12, M13⟩, hA⟩ := id hX
  have hz := M11
  have hz12 : cnt c n ≤ 12 := Nat.le_trans (cnt_le c n) M1
  generalize cnt c n = z at hz hz12
  have hzm : m 8 0 3 = nI z := (M5 3 (by decide)).symm.trans hz
  have hpr := le_pred (v := u) (k := z) (by omega)
  by_cases hu : 0 ≤ u ∧ u < nI z
  · have hin : ∀ h, f_X7_in b0 [.inl u, .inl 0, .inl (nI z - 1)] h = some (some (.inl 1), h) := fun h => by rw [mf_in, if_pos ⟨hu.1, hpr.mpr hu.2⟩]
    obtain ⟨y, hyb, rfl⟩ := nI_of (x := u) (k2_nlt hu.1)
    have hy : y < z := (nI_ltI hyb (by omega)).mp hu.2
    have q1 : ¬ nI y < 0 := nI_pos (by omega)
    have q2 : ¬ nI z ≤ nI y := nI_ge hy (by omega)
    have q3 : ¬ nI 12 ≤ nI y := nI_ge (by omega) (by decide)
    have e4 : m 9 0 y = c 9 0 y := (M6 y).symm
    refine Pr.same (v := c 9 0 y) hX ?_ ?_
    · simp (maxSteps := 1000000) (disch := omega) [f_X6_done, k_X6_done_0, xfun, xok, xnth, xset, oCst, oILd, oALd, oC1lt, oC2ge, oGetI, oGetR, oIal, oLen, oRetI, g_h0_3, g_h0_1, l_h2, an_h2, sn_h2, l_h2, an_h2, hz, q1, q2, q3]
    · simp (maxSteps := 1000000) (disch := omega) [f_X7_done, k_X7_done_0, xfun, xok, xnth, xset, oCst, oILd, oALd, oSub, oC1eq, oGetI, oGetR, oIal, oCallS, oRetI, g_h3_29, g_h3_28, an_h31, sn_h31, hin, hzm, e4]
  · have hin : ∀ h, f_X7_in b0 [.inl u, .inl 0, .inl (nI z - 1)] h = some (some (.inl 0), h) := fun h => by rw [mf_in, if_neg (fun q => hu ⟨q.1, hpr.mp q.2⟩)]
    refine Pr.same (v := -4) hX ?_ ?_
    · by_cases q1 : u < 0
      · simp (maxSteps := 1000000) (disch := omega) [f_X6_done, k_X6_done_0, xfun, xok, xnth, xset, oCst, oILd, oALd, oC1lt, oC2ge, oGetI, oGetR, oIal, oLen, oRetI, g_h0_3, g_h0_1, l_h2, an_h2, sn_h2, q1]
      · have q2 : nI z ≤ u := Classical.not_not.mp (fun r => hu ⟨k2_le q1, k2_lt r⟩)
        simp (maxSteps := 1000000) (disch := omega) [f_X6_done, k_X6_done_0, xfun, xok, xnth, xset, oCst, oILd, oALd, oC1lt, oC2ge, oGetI, oGetR, oIal, oLen, oRetI, g_h0_3, g_h0_1, l_h2, an_h2, sn_h2, hz, q1, q2]
    · simp (maxSteps := 1000000) (disch := omega) [f_X7_done, k_X7_done_0, xfun, xok, xnth, xset, oCst, oILd, oALd, oSub, oC1eq, oGetI, oGetR, oIal, oCallS, oRetI, g_h3_29, g_h3_28, an_h31, sn_h31, hin, hzm]

