theorem cw_none {b0 n : Nat} {c m : xc} {wk : Nat → Int64} {j wn fu : Nat} {l2 : Option xV} (hw : c 8 0 4 = nI wn) (hj : ¬ nI wn ≤ nI j) (hp1 : f_X6_findNextToWork b0 [.inr (.inr (some (hA b0 0)))] (hp b0 n c m wk) = some (some (.inr (.inr none)), (hp b0 n c m wk))) : r_X6_doTurn b0 (fu + 1) 0 [some (.inr (.inr (some (hA b0 0)))), some (.inl (nI j)), l2] [] (hp b0 n c m wk) = r_X6_doTurn b0 fu 0 [some (.inr (.inr (some (hA b0 0)))), some (.inl (nI (j + 1))), some (.inr (.inr none))] [] (hp b0 n c m wk) := by
  change k_X6_doTurn_16 b0 (r_X6_doTurn b0 fu) _ _ _ = _
  simp [k_X6_doTurn_16, xfun, xok, xnth, xset, oCst, oILd, oALd, oISt, oASt, oInc, oAdd, oDup, oC2ge, oCnull, oGetI, oPutI, oCallV, oRetV, g_h0_5, p_h0_5, g_h0_4, xis_h0, hw, hj, hp1, nI_add1]
theorem cw_some {b0 n i : Nat} {c m : xc} {wk : Nat → Int64} {j wn fu : Nat} {l2 : Option xV} {c' : xc} (hw : c 8 0 4 = nI wn) (hj : ¬ nI wn ≤ nI j) (hp1 : f_X6_findNextToWork b0 [.inr (.inr (some (hA b0 0)))] (hp b0 n c m wk) = some (some (.inr (.inr (some (tA b0 i 0)))), (hp b0 n c m wk))) (hg : f_X6_giveTurn b0 [.inr (.inr (some (hA b0 0))), .inr (.inr (some (tA b0 i 0)))] (hp b0 n c m wk) = some (none, hp b0 n c' m wk)) : r_X6_doTurn b0 (fu + 1) 0 [some (.inr (.inr (some (hA b0 0)))), some (.inl (nI j)), l2] [] (hp b0 n c m wk) = r_X6_doTurn b0 fu 0 [some (.inr (.inr (some (hA b0 0)))), some (.inl (nI (j + 1))), some (.inr (.inr (some (tA b0 i 0))))] [] (hp b0 n c' m wk) := by
  change k_X6_doTurn_16 b0 (r_X6_doTurn b0 fu) _ _ _ = _
  simp [k_X6_doTurn_16, xfun, xok, xnth, xset, oCst, oILd, oALd, oISt, oASt, oInc, oAdd, oDup, oC2ge, oCnull, oGetI, oPutI, oCallV, oRetV, g_h0_5, p_h0_5, g_h0_4, xis_h0, hw, hj, hp1, hg, nI_add1]
theorem cw_end {b0 n : Nat} {c m : xc} {wk : Nat → Int64} {j wn fu : Nat} {l2 : Option xV} {h' : xH} (hw : c 8 0 4 = nI wn) (hj : nI wn ≤ nI j) (hg : f_X6_ageTasks b0 [.inr (.inr (some (hA b0 0)))] (hp b0 n c m wk) = some (none, h')) : r_X6_doTurn b0 (fu + 1) 0 [some (.inr (.inr (some (hA b0 0)))), some (.inl (nI j)), l2] [] (hp b0 n c m wk) = some (none, h') := by
  change k_X6_doTurn_16 b0 (r_X6_doTurn b0 fu) _ _ _ = _
  simp [k_X6_doTurn_16, xfun, xok, xnth, xset, oCst, oILd, oALd, oISt, oASt, oInc, oAdd, oDup, oC2ge, oCnull, oGetI, oPutI, oCallV, oRetV, g_h0_5, p_h0_5, g_h0_4, xis_h0, hw, hj, hg]
theorem mw_none {b0 n : Nat} {c m : xc} {wk : Nat → Int64} {j wn fu : Nat} {l2 : Option xV} (hw : m 8 0 4 = nI wn) (hj : ¬ nI wn ≤ nI j) (hp1 : f_X7_pick b0 [.inr (.inr (some (hA b0 3)))] (hp b0 n c m wk) = some (some (.inl (-1)), (hp b0 n c m wk))) : r_X7_oneTurn b0 (fu + 1) 1 [some (.inr (.inr (some (hA b0 3)))), some (.inl (nI j)), l2] [] (hp b0 n c m wk) = r_X7_oneTurn b0 fu 1 [some (.inr (.inr (some (hA b0 3)))), some (.inl (nI (j + 1))), some (.inl (-1))] [] (hp b0 n c m wk) := by
  change k_X7_oneTurn_95 b0 (r_X7_oneTurn b0 fu) _ _ _ = _
  have h1 : (-1 : Int32) < 0 := by decide
  simp [k_X7_oneTurn_95, k_X7_oneTurn_146, xfun, xok, xnth, xset, oCst, oILd, oALd, oISt, oInc, oAdd, oI2L, oLcmp, oDup, oDup2, oC1eq, oC2ne, oC1ne, oC1lt, oC2ge, oC1le, oGetI, oGetR, oPutI, oIal, oZal, oJal, oIas, oZas, oCallV, oRetV, g_h3_4, an_h7, sn_h7, g_h3_19, an_h22, sn_h22, g_h3_0, g_h3_27, an_h30, sn_h30, g_h3_21, an_h24, sn_h24, g_h3_31, g_h3_30, g_h3_3, an_h6, sn_h6, g_h3_9, an_h12, sn_h12, g_h3_5, an_h8, sn_h8, p_h3_31, xis_h3, hw, hj, hp1, h1, nI_add1]
theorem mw_some {b0 n i : Nat} {c m : xc} {wk : Nat → Int64} {j wn fu : Nat} {l2 : Option xV} {m2 m' : xc} {wk' : Nat → Int64} (hi : i < 12) (hw : m 8 0 4 = nI wn) (hj : ¬ nI wn ≤ nI j) (hp1 : f_X7_pick b0 [.inr (.inr (some (hA b0 3)))] (hp b0 n c m wk) = some (some (.inl (nI i)), (hp b0 n c m wk)))
    (hg : (¬ m 0 i 20 ≤ m 0 i 11 ∧ f_X7_acts b0 [.inr (.inr (some (hA b0 3))), .inl (nI i)] (hp b0 n c (hm1 m i) wk) = some (none, hp b0 n c m2 wk')) ∨ (m 0 i 20 ≤ m 0 i 11 ∧ m2 = hm1 m i ∧ wk' = wk))
    (hd : f_X7_maybeDone b0 [.inr (.inr (some (hA b0 3))), .inl (nI i)] (hp b0 n c m2 wk') = some (none, hp b0 n c m' wk')) : r_X7_oneTurn b0 (fu + 1) 1 [some (.inr (.inr (some (hA b0 3)))), some (.inl (nI j)), l2] [] (hp b0 n c m wk) = r_X7_oneTurn b0 fu 1 [some (.inr (.inr (some (hA b0 3)))), some (.inl (nI (j + 1))), some (.inl (nI i))] [] (hp b0 n c m' wk') := by
  change k_X7_oneTurn_95 b0 (r_X7_oneTurn b0 fu) _ _ _ = _
  have hpp : ¬ nI i < 0 := nI_nn (by omega)
  have e1 : u3 (u3 m 0 i 13 1) 0 i 9 0 = hm1 m i := rfl
  have e11 : hm1 m i 0 i 11 = m 0 i 11 := by simp [hm1, u3]
  have e20 : hm1 m i 0 i 20 = m 0 i 20 := by simp [hm1, u3]
  rcases hg with ⟨h1, h2⟩ | ⟨h1, rfl, rfl⟩
  · simp (disch := omega) [k_X7_oneTurn_95, k_X7_oneTurn_146, xfun, xok, xnth, xset, oCst, oILd, oALd, oISt, oInc, oAdd, oI2L, oLcmp, oDup, oDup2, oC1eq, oC2ne, oC1ne, oC1lt, oC2ge, oC1le, oGetI, oGetR, oPutI, oIal, oZal, oJal, oIas, oZas, oCallV, oRetV, g_h3_4, an_h7, sn_h7, g_h3_19, an_h22, sn_h22, g_h3_0, g_h3_27, an_h30, sn_h30, g_h3_21, an_h24, sn_h24, g_h3_31, g_h3_30, g_h3_3, an_h6, sn_h6, g_h3_9, an_h12, sn_h12, g_h3_5, an_h8, sn_h8, p_h3_31, xis_h3, hw, hj, hp1, hpp, e1, e11, e20, h1, h2, hd, nI_add1]
  · simp (disch := omega) [k_X7_oneTurn_95, k_X7_oneTurn_146, xfun, xok, xnth, xset, oCst, oILd, oALd, oISt, oInc, oAdd, oI2L, oLcmp, oDup, oDup2, oC1eq, oC2ne, oC1ne, oC1lt, oC2ge, oC1le, oGetI, oGetR, oPutI, oIal, oZal, oJal, oIas, oZas, oCallV, oRetV, g_h3_4, an_h7, sn_h7, g_h3_19, an_h22, sn_h22, g_h3_0, g_h3_27, an_h30, sn_h30, g_h3_21, an_h24, sn_h24, g_h3_31, g_h3_30, g_h3_3, an_h6, sn_h6, g_h3_9, an_h12, sn_h12, g_h3_5, an_h8, sn_h8, p_h3_31, xis_h3, hw, hj, hp1, hpp, e1, e11, e20, h1, hd, nI_add1]
theorem mw_end {b0 n : Nat} {c m : xc} {wk : Nat → Int64} {j wn fu : Nat} {l2 : Option xV} (hw : m 8 0 4 = nI wn) (hj : nI wn ≤ nI j) : r_X7_oneTurn b0 (fu + 1) 1 [some (.inr (.inr (some (hA b0 3)))), some (.inl (nI j)), l2] [] (hp b0 n c m wk) = r_X7_oneTurn b0 fu 2 [some (.inr (.inr (some (hA b0 3)))), some (.inl (nI 0)), l2] [] (hp b0 n c m wk) := by
  change k_X7_oneTurn_95 b0 (r_X7_oneTurn b0 fu) _ _ _ = _
  simp [k_X7_oneTurn_95, k_X7_oneTurn_146, xfun, xok, xnth, xset, oCst, oILd, oALd, oISt, oInc, oAdd, oI2L, oLcmp, oDup, oDup2, oC1eq, oC2ne, oC1ne, oC1lt, oC2ge, oC1le, oGetI, oGetR, oPutI, oIal, oZal, oJal, oIas, oZas, oCallV, oRetV, g_h3_4, an_h7, sn_h7, g_h3_19, an_h22, sn_h22, g_h3_0, g_h3_27, an_h30, sn_h30, g_h3_21, an_h24, sn_h24, g_h3_31, g_h3_30, g_h3_3, an_h6, sn_h6, g_h3_9, an_h12, sn_h12, g_h3_5, an_h8, sn_h8, p_h3_31, xis_h3, hw, hj, nI_0]
/-- what the workers do in one turn -/
theorem work {b0 n T wn : Nat} (hT : T < 1000000) (hwn : wn ≤ 4) : ∀ (r fu fu2 j A : Nat) (c m : xc) (wk : Nat → Int64) (l2 l2' : Option xV), MT wn n T A c m wk → c 8 0 4 = nI wn → j + r = wn →
    ∃ (c' m' : xc) (wk' : Nat → Int64) (d : Nat) (l3 l3' : Option xV), (∀ (m0 : xc) (wk0 : Nat → Int64), r_X6_doTurn b0 (fu + r) 0 [some (.inr (.inr (some (hA b0 0)))), some (.inl (nI j)), l2] [] (hp b0 n c m0 wk0) = r_X6_doTurn b0 fu 0 [some (.inr (.inr (some (hA b0 0)))), some (.inl (nI wn)), l3] [] (hp b0 n c' m0 wk0)) ∧
      (∀ c0 : xc, r_X7_oneTurn b0 (fu2 + r) 1 [some (.inr (.inr (some (hA b0 3)))), some (.inl (nI j)), l2'] [] (hp b0 n c0 m wk) = r_X7_oneTurn b0 fu2 1 [some (.inr (.inr (some (hA b0 3)))), some (.inl (nI wn)), l3'] [] (hp b0 n c0 m' wk')) ∧
      MT wn n T (A + d) c' m' wk' ∧ d ≤ 17 * r ∧ c' 8 0 4 = nI wn := by
  intro r
  induction r with
  | zero =>
    intro fu fu2 j A c m wk l2 l2' hM hw hj
    obtain rfl : j = wn := by omega
    exact ⟨c, m, wk, 0, l2, l2', fun _ _ => rfl, fun _ => rfl, hM, by omega, hw⟩
  | succ r ih =>
    intro fu fu2 j A c m wk l2 l2' hM hw hj
    have hjw : ¬ nI wn ≤ nI j := nI_ge (by omega) (by omega)
    have hn := hM.1
    have hm2 := hM.2.1.2
    have hmw : m 8 0 4 = nI wn := (hM.2.2.2.2.1 4 (by decide)).symm.trans hw
    have hb := hM.bs hT
    cases hbs : bs (rdC n c) (kyT c) n with
    | none =>
      obtain ⟨c', m', wk', d, l3, l3', p1, p2, p3, p4, p5⟩ := ih fu fu2 (j + 1) A c m wk (some (.inr (.inr none))) (some (.inl (-1))) hM hw (by omega)
      refine ⟨c', m', wk', d, l3, l3', fun m0 wk0 => ?_, fun c0 => ?_, p3, by omega, p5⟩
      · have := cf_pick (b0 := b0) (c := c) (m := m0) (wk := wk0) hn
        rw [hbs] at this
        rw [← Nat.add_assoc, cw_none hw hjw this]
        exact p1 m0 wk0
      · have := mf_pick (b0 := b0) (c := c0) (m := m) (wk := wk) hn hm2
        rw [hb, hbs] at this
        rw [← Nat.add_assoc, mw_none hmw hjw this]
        exact p2 c0
    | some i =>
      obtain ⟨hin, hrd⟩ := bs_lt hbs
      have hs : c 0 i 8 = 0 := by simp [rdC] at hrd; exact hrd.2.1
      obtain ⟨c1, m1, m2, wk1, d1, g1, g2, g3, g4, g5⟩ := give (b0 := b0) hM hin hs
      have hw1 : c1 8 0 4 = nI wn := by
        exact g4.2.2.2.2.2.2.1.2.2
      obtain ⟨c', m', wk', d, l3, l3', p1, p2, p3, p4, p5⟩ := ih fu fu2 (j + 1) (A + d1) c1 m1 wk1 (some (.inr (.inr (some (tA b0 i 0))))) (some (.inl (nI i))) g4 hw1 (by omega)
      refine ⟨c', m', wk', d1 + d, l3, l3', fun m0 wk0 => ?_, fun c0 => ?_, by rw [← Nat.add_assoc]; exact p3, by omega, p5⟩
      · have := cf_pick (b0 := b0) (c := c) (m := m0) (wk := wk0) hn
        rw [hbs] at this
        rw [← Nat.add_assoc, cw_some hw hjw this (g1 m0 wk0)]
        exact p1 m0 wk0
      · have := mf_pick (b0 := b0) (c := c0) (m := m) (wk := wk) hn hm2
        rw [hb, hbs] at this
        rw [← Nat.add_assoc, mw_some (by omega) hmw hjw this (g2.imp (fun q => ⟨q.1, q.2 c0⟩) id) (g3 c0)]
        exact p2 c0
