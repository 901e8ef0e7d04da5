theorem cag_step {b0 n i : Nat} {c m : xc} {wk : Nat → Int64} {fu : Nat} {l2 : Option xV} (hn : n ≤ 12) (hi : i < n) : r_X6_ageTasks b0 (fu + 1) 0 [some (.inr (.inr (some (hA b0 0)))), some (.inl (nI i)), l2] [] (hp b0 n c m wk) = r_X6_ageTasks b0 fu 0 [some (.inr (.inr (some (hA b0 0)))), some (.inl (nI (i + 1))), some (.inr (.inr (some (tA b0 i 0))))] [] (hp b0 n (if c 0 i 8 = 0 ∧ ¬ c 0 i 13 = c 8 0 5 then u3 c 0 i 9 (c 0 i 9 + 1) else c) m wk) := by
  have hj12 : ¬ nI 12 ≤ nI i := nI_ge (by omega) (by decide)
  change k_X6_ageTasks_2 b0 (r_X6_ageTasks b0 fu) _ _ _ = _
  by_cases h1 : c 0 i 8 = 0
  · by_cases h2 : c 0 i 13 = c 8 0 5
    · simp (disch := omega) [k_X6_ageTasks_2, xfun, xok, xnth, xset, oCst, oILd, oALd, oISt, oASt, oInc, oAdd, oDup, oC1eq, oC2ge, oCnull, oGetI, oGetR, oPutI, oQal, oLen, oCallV, oRetV, g_h0_0, l_h1, an_h1, g_h0_5, g_t0_9, p_t0_9, xis_t0, cf_isReadyIn, hj12, hi, h1, h2, nI_add1]
    · simp (disch := omega) [k_X6_ageTasks_2, xfun, xok, xnth, xset, oCst, oILd, oALd, oISt, oASt, oInc, oAdd, oDup, oC1eq, oC2ge, oCnull, oGetI, oGetR, oPutI, oQal, oLen, oCallV, oRetV, g_h0_0, l_h1, an_h1, g_h0_5, g_t0_9, p_t0_9, xis_t0, cf_isReadyIn, hj12, hi, h1, h2, nI_add1]
  · simp (disch := omega) [k_X6_ageTasks_2, xfun, xok, xnth, xset, oCst, oILd, oALd, oISt, oASt, oInc, oAdd, oDup, oC1eq, oC2ge, oCnull, oGetI, oGetR, oPutI, oQal, oLen, oCallV, oRetV, g_h0_0, l_h1, an_h1, g_h0_5, g_t0_9, p_t0_9, xis_t0, cf_isReadyIn, hj12, hi, h1, nI_add1]
theorem cag_end {b0 n : Nat} {c m : xc} {wk : Nat → Int64} (hn : n ≤ 12) : ∀ (r fu j : Nat) (l2 : Option xV), n ≤ j → j + r = 12 → r < fu → r_X6_ageTasks b0 fu 0 [some (.inr (.inr (some (hA b0 0)))), some (.inl (nI j)), l2] [] (hp b0 n c m wk) = some (none, (hp b0 n c m wk)) := by
  intro r
  induction r with
  | zero =>
    intro fu j l2 hnj hj hf
    obtain ⟨fu, rfl⟩ : ∃ q, fu = q + 1 := ⟨fu - 1, by omega⟩
    obtain rfl : j = 12 := by omega
    change k_X6_ageTasks_2 b0 (r_X6_ageTasks b0 fu) _ _ _ = _
    simp (disch := omega) [k_X6_ageTasks_2, xfun, xok, xnth, xset, oCst, oILd, oALd, oISt, oASt, oInc, oAdd, oDup, oC1eq, oC2ge, oCnull, oGetI, oGetR, oPutI, oQal, oLen, oCallV, oRetV, g_h0_0, l_h1, an_h1, g_h0_5, g_t0_9, p_t0_9, xis_t0, cf_isReadyIn, Int32.le_refl]
  | succ r ih =>
    intro fu j l2 hnj hj hf
    obtain ⟨fu, rfl⟩ : ∃ q, fu = q + 1 := ⟨fu - 1, by omega⟩
    have hj12 : ¬ nI 12 ≤ nI j := nI_ge (by omega) (by decide)
    have hnn : ¬ j < n := by omega
    change k_X6_ageTasks_2 b0 (r_X6_ageTasks b0 fu) _ _ _ = _
    have IH := fun l2 => ih fu (j + 1) l2 (by omega) (by omega) (by omega)
    simp (disch := omega) [k_X6_ageTasks_2, xfun, xok, xnth, xset, oCst, oILd, oALd, oISt, oASt, oInc, oAdd, oDup, oC1eq, oC2ge, oCnull, oGetI, oGetR, oPutI, oQal, oLen, oCallV, oRetV, g_h0_0, l_h1, an_h1, g_h0_5, g_t0_9, p_t0_9, xis_t0, cf_isReadyIn, hj12, hnn, nI_add1, IH]
theorem mag_step {b0 n i : Nat} {c m : xc} {wk : Nat → Int64} {fu : Nat} {l2 : Option xV} (hn : n ≤ 12) (hi : i < n) (h2 : m 8 0 2 = nI n) : r_X7_oneTurn b0 (fu + 1) 2 [some (.inr (.inr (some (hA b0 3)))), some (.inl (nI i)), l2] [] (hp b0 n c m wk) = r_X7_oneTurn b0 fu 2 [some (.inr (.inr (some (hA b0 3)))), some (.inl (nI (i + 1))), l2] [] (hp b0 n c (if m 0 i 8 = 0 ∧ m 0 i 13 = 0 then u3 m 0 i 9 (m 0 i 9 + 1) else m) wk) := by
  have hjn : ¬ nI n ≤ nI i := nI_ge (by omega) (by omega)
  have es : u3 m 0 i 9 (m 0 i 9) = m := u3_self rfl
  change k_X7_oneTurn_159 b0 (r_X7_oneTurn b0 fu) _ _ _ = _
  by_cases h8 : m 0 i 8 = 0
  · by_cases h13 : m 0 i 13 = 0
    · simp (disch := omega) [k_X7_oneTurn_159, k_X7_oneTurn_196, k_X7_oneTurn_197, xfun, xok, xnth, xset, oCst, oILd, oALd, oISt, oInc, oAdd, oI2L, oLcmp, oDup, oDup2, oC1eq, oC2ne, oC1ne, oC1lt, oC2ge, oC1le, oGetI, oGetR, oPutI, oIal, oZal, oJal, oIas, oZas, oCallV, oRetV, g_h3_3, an_h6, sn_h6, g_h3_4, an_h7, g_h3_27, an_h30, g_h3_0, g_h3_31, p_h3_31, h2, hjn, h8, h13, nI_add1]
    · simp (disch := omega) [k_X7_oneTurn_159, k_X7_oneTurn_196, k_X7_oneTurn_197, xfun, xok, xnth, xset, oCst, oILd, oALd, oISt, oInc, oAdd, oI2L, oLcmp, oDup, oDup2, oC1eq, oC2ne, oC1ne, oC1lt, oC2ge, oC1le, oGetI, oGetR, oPutI, oIal, oZal, oJal, oIas, oZas, oCallV, oRetV, g_h3_3, an_h6, sn_h6, g_h3_4, an_h7, g_h3_27, an_h30, g_h3_0, g_h3_31, p_h3_31, h2, hjn, h8, h13, nI_add1, es]
  · simp (disch := omega) [k_X7_oneTurn_159, k_X7_oneTurn_196, k_X7_oneTurn_197, xfun, xok, xnth, xset, oCst, oILd, oALd, oISt, oInc, oAdd, oI2L, oLcmp, oDup, oDup2, oC1eq, oC2ne, oC1ne, oC1lt, oC2ge, oC1le, oGetI, oGetR, oPutI, oIal, oZal, oJal, oIas, oZas, oCallV, oRetV, g_h3_3, an_h6, sn_h6, g_h3_4, an_h7, g_h3_27, an_h30, g_h3_0, g_h3_31, p_h3_31, h2, hjn, h8, nI_add1, es]
theorem mag_end {b0 n : Nat} {c m : xc} {wk : Nat → Int64} {fu : Nat} {l2 : Option xV} (h2 : m 8 0 2 = nI n) : r_X7_oneTurn b0 (fu + 1) 2 [some (.inr (.inr (some (hA b0 3)))), some (.inl (nI n)), l2] [] (hp b0 n c m wk) = some (none, hp b0 n c (u3 m 8 0 5 (m 8 0 5 + 1)) wk) := by
  change k_X7_oneTurn_159 b0 (r_X7_oneTurn b0 fu) _ _ _ = _
  simp [k_X7_oneTurn_159, xfun, xok, xnth, xset, oCst, oILd, oALd, oISt, oInc, oAdd, oI2L, oLcmp, oDup, oDup2, oC1eq, oC2ne, oC1ne, oC1lt, oC2ge, oC1le, oGetI, oGetR, oPutI, oIal, oZal, oJal, oIas, oZas, oCallV, oRetV, g_h3_0, g_h3_31, p_h3_31, h2, Int32.le_refl]
theorem MT.age1 {W n T A i : Nat} {c m : xc} {wk : Nat → Int64} {v : Int32} (hM : MT W n T A c m wk) (hi : i < n) : MT W n T A (u3 c 0 i 9 v) (u3 m 0 i 9 v) wk := by
  obtain ⟨M1, M2, M3, M4, M5, M6, M7, M8, M9, M10, M11, M12, M13⟩ := hM
  refine ⟨M1, ⟨by simpa [u3] using M2.1, by simpa [u3] using M2.2⟩, fun t ht => (M3 t ht).num (by decide), ⟨by simpa [u3] using M4.1, by simpa [u3] using M4.2⟩, fun k hk => by simpa [u3] using M5 k hk, fun k => by simpa [u3] using M6 k, ⟨M7.1, M7.2.1, by simpa [u3] using M7.2.2⟩, by simpa [u3] using M8, fun t ht => by simpa [u3] using M9 t ht, fun t ht h1 => ?_, ?_, fun a t k h1 h2 => ?_, by simpa [u3] using M13⟩
  · have e8 : u3 c 0 i 9 v 0 t 8 = c 0 t 8 := by simp [u3]
    have e12 : u3 c 0 i 9 v 0 t 12 = c 0 t 12 := by simp [u3]
    rw [e8] at h1
    rw [e12]
    exact M10 t ht h1
  · have := cnt_congr (c := c) (c' := u3 c 0 i 9 v) (n := n) (fun t ht => by simp [u3])
    rw [u3_a (by decide), M11, this]
  · rw [u3_i (by omega), u3_i (by omega)]; exact M12 a t k h1 h2
theorem MT.age {W n T A i : Nat} {c m : xc} {wk : Nat → Int64} (hT : T < 1000000) (hM : MT W n T A c m wk) (hi : i < n) : MT W n T A (if c 0 i 8 = 0 ∧ ¬ c 0 i 13 = c 8 0 5 then u3 c 0 i 9 (c 0 i 9 + 1) else c) (if m 0 i 8 = 0 ∧ m 0 i 13 = 0 then u3 m 0 i 9 (m 0 i 9 + 1) else m) wk := by
  have h1 := hM.rd hT hi
  have e8 := (hM.2.2.1 i hi).1 8 (by decide) (by decide) (by decide)
  have e9 := (hM.2.2.1 i hi).1 9 (by decide) (by decide) (by decide)
  have hiff : (c 0 i 8 = 0 ∧ ¬ c 0 i 13 = c 8 0 5) ↔ (m 0 i 8 = 0 ∧ m 0 i 13 = 0) := by
    rw [e8, h1, Classical.not_not]
  by_cases h : c 0 i 8 = 0 ∧ ¬ c 0 i 13 = c 8 0 5
  · rw [if_pos h, if_pos (hiff.mp h), ← e9]
    exact hM.age1 hi
  · rw [if_neg h, if_neg (fun q => h (hiff.mpr q))]
    exact hM
theorem ageL {b0 W n T A : Nat} (hT : T < 1000000) : ∀ (r j : Nat) (c m : xc) (wk : Nat → Int64), MT W n T A c m wk → j + r = n → ∃ c' m', 
    (∀ (m0 : xc) (wk0 : Nat → Int64) (fu : Nat) (l2 : Option xV), ∃ l3, r_X6_ageTasks b0 (fu + r) 0 [some (.inr (.inr (some (hA b0 0)))), some (.inl (nI j)), l2] [] (hp b0 n c m0 wk0) = r_X6_ageTasks b0 fu 0 [some (.inr (.inr (some (hA b0 0)))), some (.inl (nI n)), l3] [] (hp b0 n c' m0 wk0)) ∧
    (∀ (c0 : xc) (fu : Nat) (l2 : Option xV), r_X7_oneTurn b0 (fu + r) 2 [some (.inr (.inr (some (hA b0 3)))), some (.inl (nI j)), l2] [] (hp b0 n c0 m wk) = r_X7_oneTurn b0 fu 2 [some (.inr (.inr (some (hA b0 3)))), some (.inl (nI n)), l2] [] (hp b0 n c0 m' wk)) ∧ MT W n T A c' m' wk := by
  intro r
  induction r with
  | zero =>
    intro j c m wk hX hj
    obtain rfl : j = n := by omega
    exact ⟨c, m, fun m0 wk0 fu l2 => ⟨l2, rfl⟩, fun c0 fu l2 => rfl, hX⟩
  | succ r ih =>
    intro j c m wk hX hj
    obtain ⟨c', m', p1, p2, p3⟩ := ih (j + 1) _ _ wk (hX.age hT (i := j) (by omega)) (by omega)
    refine ⟨c', m', fun m0 wk0 fu l2 => ?_, fun c0 fu l2 => ?_, p3⟩
    · rw [← Nat.add_assoc, cag_step hX.1 (by omega)]
      exact p1 m0 wk0 fu _
    · rw [← Nat.add_assoc, mag_step hX.1 (by omega) hX.2.1.2]
      exact p2 c0 fu l2
theorem MT.xt {W n T A : Nat} {c m : xc} {wk : Nat → Int64} (hT : T < 1000000) (h : MT W n T A c m wk) : XT W n (T + 1) A 0 (T + 1) c (u3 m 8 0 5 (m 8 0 5 + 1)) wk := by
  obtain ⟨M1, M2, M3, M4, M5, M6, M7, M8, M9, M10, M11, M12, M13⟩ := h
  refine ⟨M1, ⟨M2.1, by simpa [u3] using M2.2⟩, fun t ht => (M3 t ht).globm, ⟨M4.1, by rw [u3_same, M4.2, nI_add1]⟩, fun k hk => ?_, fun k => by simpa [u3] using M6 k, M7, by simpa [u3] using M8, fun t ht => ?_, fun t ht h1 => ?_, M11, fun a t k h1 h2 => ?_, M13⟩
  · rw [u3_k (by omega)]; exact M5 k hk
  · obtain ⟨q, q1, q2, q3⟩ := M9 t ht
    exact ⟨q, q1, q2, fun h => absurd h (by omega)⟩
  · obtain ⟨w1, w2⟩ := M10 t ht h1
    exact ⟨w1, fun h => absurd h (by omega), fun _ => wk_end hT w2⟩
  · rw [u3_a (a := 8) (by omega)]; exact M12 a t k h1 h2
theorem cd_start {b0 n : Nat} {c m : xc} {wk : Nat → Int64} {c1 : xc} (h : f_X6_wakeTasks b0 [.inr (.inr (some (hA b0 0)))] (hp b0 n (u3 c 8 0 5 (c 8 0 5 + 1)) m wk) = some (none, hp b0 n c1 m wk)) : f_X6_doTurn b0 [.inr (.inr (some (hA b0 0)))] (hp b0 n c m wk) = r_X6_doTurn b0 64 0 [some (.inr (.inr (some (hA b0 0)))), some (.inl (nI 0)), none] [] (hp b0 n c1 m wk) := by
  simp [f_X6_doTurn, k_X6_doTurn_0, xfun, xok, xnth, xset, oCst, oILd, oALd, oISt, oASt, oInc, oAdd, oDup, oC2ge, oCnull, oGetI, oPutI, oCallV, oRetV, g_h0_5, p_h0_5, g_h0_4, xis_h0, h, nI_0]
/-- ONE TURN -/
theorem turn1 {b0 W n T A : Nat} {c m : xc} {wk : Nat → Int64} (hT : T < 1000000) (hX : XT W n T A 0 T c m wk) : ∃ (c' m' : xc) (wk' : Nat → Int64) (d : Nat),
    (∀ (m0 : xc) (wk0 : Nat → Int64), f_X6_doTurn b0 [.inr (.inr (some (hA b0 0)))] (hp b0 n c m0 wk0) = some (none, hp b0 n c' m0 wk0)) ∧
    (∀ c0 : xc, f_X7_oneTurn b0 [.inr (.inr (some (hA b0 3)))] (hp b0 n c0 m wk) = some (none, hp b0 n c0 m' wk')) ∧ XT W n (T + 1) (A + d) 0 (T + 1) c' m' wk' ∧ d ≤ 68 := by
  have hn := hX.1
  have hc5 := hX.2.2.2.1.1
  obtain ⟨c1, m1, p1, p2, p3⟩ := wakeL (b0 := b0) hT n 0 _ m wk hX.go (by omega)
  have hM := p3.mt
  obtain ⟨W1, W2, W3⟩ := hM.2.2.2.2.2.2.1
  obtain ⟨l3, hwk⟩ := p2 none
  obtain ⟨c2, m2, wk2, d, l4, l4', q1, q2, q3, q4, q5⟩ := work (b0 := b0) hT W2 W (64 - W) (63 - n - W) 0 A c1 m1 wk none l3 hM W3 (by omega)
  obtain ⟨c3, m3, r1, r2, r3⟩ := ageL (b0 := b0) hT n 0 c2 m2 wk2 q3 (by omega)
  refine ⟨c3, u3 m3 8 0 5 (m3 8 0 5 + 1), wk2, d, fun m0 wk0 => ?_, fun c0 => ?_, r3.xt hT, by omega⟩
  · have hwake : f_X6_wakeTasks b0 [.inr (.inr (some (hA b0 0)))] (hp b0 n (u3 c 8 0 5 (c 8 0 5 + 1)) m0 wk0) = some (none, hp b0 n c1 m0 wk0) := by
      obtain ⟨l5, h5⟩ := p1 m0 wk0 (64 - n) none
      rw [show 64 - n + n = 64 by omega, cwk_end hn (12 - n) (64 - n) n l5 (Nat.le_refl _) (by omega) (by omega)] at h5
      rw [hc5, nI_add1]
      exact h5
    have hage : f_X6_ageTasks b0 [.inr (.inr (some (hA b0 0)))] (hp b0 n c2 m0 wk0) = some (none, hp b0 n c3 m0 wk0) := by
      obtain ⟨l5, h5⟩ := r1 m0 wk0 (64 - n) none
      rw [show 64 - n + n = 64 by omega, cag_end hn (12 - n) (64 - n) n l5 (Nat.le_refl _) (by omega) (by omega)] at h5
      exact h5
    have h6 := q1 m0 wk0
    rw [show 64 - W + W = 64 by omega, show 64 - W = (63 - W) + 1 by omega, cw_end q5 (Int32.le_refl _) hage] at h6
    rw [cd_start hwake]
    exact h6
  · have h0 : f_X7_oneTurn b0 [.inr (.inr (some (hA b0 3)))] (hp b0 n c0 m wk) = r_X7_oneTurn b0 64 0 [some (.inr (.inr (some (hA b0 3)))), some (.inl (nI 0)), none] [] (hp b0 n c0 m wk) := rfl
    have h1 := hwk c0 (64 - n)
    rw [show 64 - n + n = 64 by omega, show 64 - n = (63 - n - W + W) + 1 by omega, mwk_end p3.2.1.2, q2 c0, show 63 - n - W = (62 - n - W - n + n) + 1 by omega, mw_end ((q3.2.2.2.2.1 4 (by decide)).symm.trans q5) (Int32.le_refl _), r2 c0 (62 - n - W - n) l4', show 62 - n - W - n = (61 - n - W - n) + 1 by omega, mag_end r3.2.1.2] at h1
    rw [h0]
    exact h1
/-- many turns -/
theorem ct_idle {b0 n : Nat} {c m : xc} {wk : Nat → Int64} {v B N : Int32} {fu : Nat} {l5 : Option xV} {x : Int32} (h : ¬ x = 0) : r_X6_turn b0 (fu + 1) 0 [some (.inr (.inr (some (hA b0 0)))), some (.inl N), some (.inl B), some (.inl x), some (.inl v), l5] [] (hp b0 n c m wk) = some (some (.inl (c 8 0 6 - B)), (hp b0 n c m wk)) := by
  change k_X6_turn_23 b0 (r_X6_turn b0 fu) _ _ _ = _
  by_cases hv : N ≤ v <;> simp [k_X6_turn_23, k_X6_turn_64, xfun, xok, xnth, xset, oCst, oILd, oALd, oISt, oInc, oSub, oC2ne, oC1ne, oC2lt, oC2ge, oC2le, oGetI, oCallV, oRetI, g_h0_6, xis_h0, h, hv]
theorem ct_end {b0 n : Nat} {c m : xc} {wk : Nat → Int64} {v B N : Int32} {fu : Nat} {l3 l5 : Option xV} (h : N ≤ v) : r_X6_turn b0 (fu + 1) 0 [some (.inr (.inr (some (hA b0 0)))), some (.inl N), some (.inl B), l3, some (.inl v), l5] [] (hp b0 n c m wk) = some (some (.inl (c 8 0 6 - B)), (hp b0 n c m wk)) := by
  change k_X6_turn_23 b0 (r_X6_turn b0 fu) _ _ _ = _
  simp [k_X6_turn_23, k_X6_turn_64, xfun, xok, xnth, xset, oCst, oILd, oALd, oISt, oInc, oSub, oC2ne, oC1ne, oC2lt, oC2ge, oC2le, oGetI, oCallV, oRetI, g_h0_6, xis_h0, h]
theorem ct_step {b0 n : Nat} {c m : xc} {wk : Nat → Int64} {B N : Int32} {j fu : Nat} {l5 : Option xV} {c' : xc} (h : ¬ N ≤ nI j) (hd : f_X6_doTurn b0 [.inr (.inr (some (hA b0 0)))] (hp b0 n c m wk) = some (none, hp b0 n c' m wk)) : r_X6_turn b0 (fu + 1) 0 [some (.inr (.inr (some (hA b0 0)))), some (.inl N), some (.inl B), some (.inl 0), some (.inl (nI j)), l5] [] (hp b0 n c m wk) = r_X6_turn b0 fu 0 [some (.inr (.inr (some (hA b0 0)))), some (.inl N), some (.inl B), some (.inl (if c' 8 0 6 = c 8 0 6 then 1 else 0)), some (.inl (nI (j + 1))), some (.inl (c 8 0 6))] [] (hp b0 n c' m wk) := by
  change k_X6_turn_23 b0 (r_X6_turn b0 fu) _ _ _ = _
  by_cases he : c' 8 0 6 = c 8 0 6
  · simp [k_X6_turn_23, k_X6_turn_64, xfun, xok, xnth, xset, oCst, oILd, oALd, oISt, oInc, oSub, oC2ne, oC1ne, oC2lt, oC2ge, oC2le, oGetI, oCallV, oRetI, g_h0_6, xis_h0, h, hd, he, nI_add1]
  · simp [k_X6_turn_23, k_X6_turn_64, xfun, xok, xnth, xset, oCst, oILd, oALd, oISt, oInc, oSub, oC2ne, oC1ne, oC2lt, oC2ge, oC2le, oGetI, oCallV, oRetI, g_h0_6, xis_h0, h, hd, he, nI_add1]
theorem mt_idle {b0 n : Nat} {c m : xc} {wk : Nat → Int64} {v B N : Int32} {fu : Nat} {l5 : Option xV} : r_X7_turn b0 (fu + 1) 0 [some (.inr (.inr (some (hA b0 3)))), some (.inl N), some (.inl B), some (.inl 0), some (.inl v), l5] [] (hp b0 n c m wk) = some (some (.inl (m 8 0 6 - B)), (hp b0 n c m wk)) := by
  change k_X7_turn_22 b0 (r_X7_turn b0 fu) _ _ _ = _
  by_cases hv : N ≤ v <;> simp [k_X7_turn_22, k_X7_turn_63, xfun, xok, xnth, xset, oCst, oILd, oALd, oISt, oInc, oSub, oC1eq, oC1ne, oC2ge, oC2le, oGetI, oCallV, oCallS, oRetI, g_h3_32, xis_h3, hv]
theorem mt_end {b0 n : Nat} {c m : xc} {wk : Nat → Int64} {v B N : Int32} {fu : Nat} {l3 l5 : Option xV} (h : N ≤ v) : r_X7_turn b0 (fu + 1) 0 [some (.inr (.inr (some (hA b0 3)))), some (.inl N), some (.inl B), l3, some (.inl v), l5] [] (hp b0 n c m wk) = some (some (.inl (m 8 0 6 - B)), (hp b0 n c m wk)) := by
  change k_X7_turn_22 b0 (r_X7_turn b0 fu) _ _ _ = _
  simp [k_X7_turn_22, k_X7_turn_63, xfun, xok, xnth, xset, oCst, oILd, oALd, oISt, oInc, oSub, oC1eq, oC1ne, oC2ge, oC2le, oGetI, oCallV, oCallS, oRetI, g_h3_32, xis_h3, h]
theorem mt_step {b0 n : Nat} {c m : xc} {wk : Nat → Int64} {B N : Int32} {j fu : Nat} {l5 : Option xV} {m' : xc} {wk' : Nat → Int64} (h : ¬ N ≤ nI j) (hd : f_X7_oneTurn b0 [.inr (.inr (some (hA b0 3)))] (hp b0 n c m wk) = some (none, hp b0 n c m' wk')) : r_X7_turn b0 (fu + 1) 0 [some (.inr (.inr (some (hA b0 3)))), some (.inl N), some (.inl B), some (.inl 1), some (.inl (nI j)), l5] [] (hp b0 n c m wk) = r_X7_turn b0 fu 0 [some (.inr (.inr (some (hA b0 3)))), some (.inl N), some (.inl B), some (.inl (if m' 8 0 6 ≤ m 8 0 6 then 0 else 1)), some (.inl (nI (j + 1))), some (.inl (m 8 0 6))] [] (hp b0 n c m' wk') := by
  change k_X7_turn_22 b0 (r_X7_turn b0 fu) _ _ _ = _
  by_cases he : m' 8 0 6 ≤ m 8 0 6
  · simp [k_X7_turn_22, k_X7_turn_63, xfun, xok, xnth, xset, oCst, oILd, oALd, oISt, oInc, oSub, oC1eq, oC1ne, oC2ge, oC2le, oGetI, oCallV, oCallS, oRetI, g_h3_32, xis_h3, h, hd, he, nI_add1]
  · simp [k_X7_turn_22, k_X7_turn_63, xfun, xok, xnth, xset, oCst, oILd, oALd, oISt, oInc, oSub, oC1eq, oC1ne, oC2ge, oC2le, oGetI, oCallV, oCallS, oRetI, g_h3_32, xis_h3, h, hd, he, nI_add1]
theorem turnL {b0 W n N : Nat} {B : Int32} (hN : N ≤ 50) : ∀ (r j fu fu2 T A : Nat) (c m : xc) (wk : Nat → Int64) (l5 l5' : Option xV), XT W n T A 0 T c m wk → A ≤ 68 * T → T + r < 1000000 → j + r = N → r + 1 < fu → r + 1 < fu2 → ∃ (c' m' : xc) (wk' : Nat → Int64) (T' A' : Nat),
    (∀ (m0 : xc) (wk0 : Nat → Int64), r_X6_turn b0 fu 0 [some (.inr (.inr (some (hA b0 0)))), some (.inl (nI N)), some (.inl B), some (.inl 0), some (.inl (nI j)), l5] [] (hp b0 n c m0 wk0) = some (some (.inl (nI A' - B)), hp b0 n c' m0 wk0)) ∧
    (∀ c0 : xc, r_X7_turn b0 fu2 0 [some (.inr (.inr (some (hA b0 3)))), some (.inl (nI N)), some (.inl B), some (.inl 1), some (.inl (nI j)), l5'] [] (hp b0 n c0 m wk) = some (some (.inl (nI A' - B)), hp b0 n c0 m' wk')) ∧ XT W n T' A' 0 T' c' m' wk' ∧ A' ≤ 68 * T' ∧ T' ≤ T + r := by
  intro r
  induction r with
  | zero =>
    intro j fu fu2 T A c m wk l5 l5' hX hA hT hj hf hf2
    obtain ⟨fu, rfl⟩ : ∃ q, fu = q + 1 := ⟨fu - 1, by omega⟩
    obtain ⟨fu2, rfl⟩ : ∃ q, fu2 = q + 1 := ⟨fu2 - 1, by omega⟩
    obtain rfl : j = N := by omega
    have h6 := hX.2.2.2.2.2.2.2.2.2.2.2.2
    have h6m := (hX.2.2.2.2.1 6 (by decide)).symm.trans h6
    refine ⟨c, m, wk, T, A, fun m0 wk0 => ?_, fun c0 => ?_, hX, hA, by omega⟩
    · rw [ct_end (Int32.le_refl _), h6]
    · rw [mt_end (Int32.le_refl _), h6m]
  | succ r ih =>
    intro j fu fu2 T A c m wk l5 l5' hX hA hT hj hf hf2
    obtain ⟨fu, rfl⟩ : ∃ q, fu = q + 1 := ⟨fu - 1, by omega⟩
    obtain ⟨fu2, rfl⟩ : ∃ q, fu2 = q + 1 := ⟨fu2 - 1, by omega⟩
    have h6 := hX.2.2.2.2.2.2.2.2.2.2.2.2
    have h6m := (hX.2.2.2.2.1 6 (by decide)).symm.trans h6
    have hjN : ¬ nI N ≤ nI j := nI_ge (by omega) (by omega)
    obtain ⟨c1, m1, wk1, d, p1, p2, p3, p4⟩ := turn1 (b0 := b0) (by omega) hX
    have g6 := p3.2.2.2.2.2.2.2.2.2.2.2.2
    have g6m := (p3.2.2.2.2.1 6 (by decide)).symm.trans g6
    by_cases hd : d = 0
    · subst hd
      obtain ⟨fu, rfl⟩ : ∃ q, fu = q + 1 := ⟨fu - 1, by omega⟩
      obtain ⟨fu2, rfl⟩ : ∃ q, fu2 = q + 1 := ⟨fu2 - 1, by omega⟩
      refine ⟨c1, m1, wk1, T + 1, A + 0, fun m0 wk0 => ?_, fun c0 => ?_, p3, by omega, by omega⟩
      · rw [ct_step hjN (p1 m0 wk0), if_pos (by rw [g6, h6]; rfl), ct_idle (by decide), g6]
      · rw [mt_step hjN (p2 c0), if_pos (by rw [g6m, h6m]; exact Int32.le_refl _), mt_idle, g6m]
    · obtain ⟨c', m', wk', T', A', q1, q2, q3, q4, q5⟩ := ih (j + 1) fu fu2 (T + 1) (A + d) c1 m1 wk1 (some (.inl (c 8 0 6))) (some (.inl (m 8 0 6))) p3 (by omega) (by omega) (by omega) (by omega) (by omega)
      refine ⟨c', m', wk', T', A', fun m0 wk0 => ?_, fun c0 => ?_, q3, q4, by omega⟩
      · rw [ct_step hjN (p1 m0 wk0), if_neg (by rw [g6, h6, nI_eq (by omega) (by omega)]; omega)]
        exact q1 m0 wk0
      · rw [mt_step hjN (p2 c0), if_neg (by rw [g6m, h6m, nI_leI (by omega) (by omega)]; omega)]
        exact q2 c0
