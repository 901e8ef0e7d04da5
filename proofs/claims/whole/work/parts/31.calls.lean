/-- between two calls -/
def XB (n T : Nat) (c m : xc) (wk : Nat → Int64) : Prop := ∃ W A, XT W n T A 0 T c m wk ∧ A ≤ 68 * T
/-- class and reference answer a call alike -/
def Pr (b0 : Nat) (f g : List xV → xH → xR) (as : List xV) : Prop := ∀ (n T : Nat) (c m : xc) (wk : Nat → Int64), XB n T c m wk → T + 50 < 1000000 → ∃ (v : Int32) (n' T' : Nat) (c' m' : xc) (wk' : Nat → Int64), f ((.inr (.inr (some (hA b0 0)))) :: as) (hp b0 n c m wk) = some (some (.inl v), hp b0 n' c' m wk) ∧ g ((.inr (.inr (some (hA b0 3)))) :: as) (hp b0 n' c' m wk) = some (some (.inl v), hp b0 n' c' m' wk') ∧ XB n' T' c' m' wk' ∧ T' ≤ T + 50
theorem Pr.same {b0 n T : Nat} {c m : xc} {wk : Nat → Int64} {f g : List xV → xH → xR} {as : List xV} {v : Int32} (hX : XB n T c m wk) (h1 : f ((.inr (.inr (some (hA b0 0)))) :: as) (hp b0 n c m wk) = some (some (.inl v), hp b0 n c m wk)) (h2 : g ((.inr (.inr (some (hA b0 3)))) :: as) (hp b0 n c m wk) = some (some (.inl v), hp b0 n c m wk)) : ∃ (v : Int32) (n' T' : Nat) (c' m' : xc) (wk' : Nat → Int64), f ((.inr (.inr (some (hA b0 0)))) :: as) (hp b0 n c m wk) = some (some (.inl v), hp b0 n' c' m wk) ∧ g ((.inr (.inr (some (hA b0 3)))) :: as) (hp b0 n' c' m wk) = some (some (.inl v), hp b0 n' c' m' wk') ∧ XB n' T' c' m' wk' ∧ T' ≤ T + 50 :=
  ⟨v, n, T, c, m, wk, h1, h2, hX, by omega⟩
/-- a call that leaves the counts as they are -/
theorem XB.fr {n T : Nat} {c m c' m' : xc} {wk : Nat → Int64} (hX : XB n T c m wk) (hJ : ∀ t, t < n → TJ n c' m' t) (h8c : ∀ k, c' 8 0 k = c 8 0 k) (h8m : ∀ k, m' 8 0 k = m 8 0 k) (h9c : ∀ k, c' 9 0 k = c 9 0 k) (h9m : ∀ k, m' 9 0 k = m 9 0 k) (h13 : ∀ t, c' 0 t 13 = c 0 t 13) (hst : ∀ t, t < n → (c' 0 t 8 = 3 ↔ c 0 t 8 = 3)) (hw : ∀ t, t < n → c' 0 t 8 = 1 → c 0 t 8 = 1 ∧ c' 0 t 12 = c 0 t 12) (hz : ∀ a t k, n ≤ t → a ≤ 7 → c' a t k = c a t k ∧ m' a t k = m a t k) : XB n T c' m' wk := by
  obtain ⟨W, A, ⟨M1, M2, M3, M4, M5, M6, M7, M8, M9, M10, M11, M12, M13⟩, hA⟩ := hX
  refine ⟨W, A, ⟨M1, ⟨(h8c 2).trans M2.1, (h8m 2).trans M2.2⟩, hJ, ⟨(h8c 5).trans M4.1, (h8m 5).trans M4.2⟩, fun k hk => ?_, fun k => ?_, ⟨M7.1, M7.2.1, (h8c 4).trans M7.2.2⟩, (h8m 37).trans M8, fun t ht => ?_, fun t ht h1 => ?_, ?_, fun a t k h1 h2 => ?_, (h8c 6).trans M13⟩, hA⟩
  · rw [h8c, h8m]; exact M5 k hk
  · rw [h9c, h9m]; exact M6 k
  · obtain ⟨q, q1, q2, q3⟩ := M9 t ht
    exact ⟨q, q1, (h13 t).trans q2, fun h => absurd h (by omega)⟩
  · obtain ⟨w1, w2⟩ := hw t ht h1
    rw [w2]
    exact M10 t ht w1
  · rw [h8c, M11, cnt_congr hst]
  · rw [(hz a t k h1 h2).1, (hz a t k h1 h2).2]; exact M12 a t k h1 h2
theorem XB.n {n T : Nat} {c m : xc} {wk : Nat → Int64} (hX : XB n T c m wk) : n ≤ 12 ∧ m 8 0 2 = nI n ∧ c 8 0 2 = nI n ∧ ∀ t, t < n → TJ n c m t := by
  obtain ⟨W, A, ⟨M1, M2, M3, -⟩, -⟩ := hX
  exact ⟨M1, M2.2, M2.1, M3⟩
theorem ct_start {b0 n : Nat} {c m : xc} {wk : Nat → Int64} {N : Nat} (h1 : 1 ≤ N) (h2 : N ≤ 50) : f_X6_turn b0 [.inr (.inr (some (hA b0 0))), .inl (nI N)] (hp b0 n c m wk) = r_X6_turn b0 64 0 [some (.inr (.inr (some (hA b0 0)))), some (.inl (nI N)), some (.inl (c 8 0 6)), some (.inl 0), some (.inl (nI 0)), none] [] (hp b0 n c m wk) := by
  have e1 : ¬ nI N < 1 := nI_nlt (b := 1) h1 (by omega)
  have e2 : nI N ≤ 50 := nI_le (b := 50) h2 (by decide)
  simp [f_X6_turn, k_X6_turn_0, xfun, xok, xnth, xset, oCst, oILd, oALd, oISt, oInc, oSub, oC2ne, oC1ne, oC2lt, oC2ge, oC2le, oGetI, oCallV, oRetI, g_h0_6, xis_h0, e1, e2, nI_0]
theorem mt_start {b0 n : Nat} {c m : xc} {wk : Nat → Int64} {N : Nat} (h1 : 1 ≤ N) (h2 : N ≤ 50) : f_X7_turn b0 [.inr (.inr (some (hA b0 3))), .inl (nI N)] (hp b0 n c m wk) = r_X7_turn b0 64 0 [some (.inr (.inr (some (hA b0 3)))), some (.inl (nI N)), some (.inl (m 8 0 6)), some (.inl 1), some (.inl (nI 0)), none] [] (hp b0 n c m wk) := by
  have e1 : 1 ≤ nI N := nI_le (a := 1) h1 (by omega)
  have e2 : nI N ≤ 50 := nI_le (b := 50) h2 (by decide)
  simp [f_X7_turn, k_X7_turn_0, xfun, xok, xnth, xset, oCst, oILd, oALd, oISt, oInc, oSub, oC1eq, oC1ne, oC2ge, oC2le, oGetI, oCallV, oCallS, oRetI, g_h3_32, xis_h3, mf_in, e1, e2, nI_0]
theorem pr_turn {b0 : Nat} {v : Int32} : Pr b0 (f_X6_turn b0) (f_X7_turn b0) [.inl v] := by
  intro n T c m wk hX hT
  by_cases h1 : v < 1
  · have h2 : ¬ 1 ≤ v := k2_nle h1
    refine Pr.same (v := -1) hX ?_ ?_
    · simp [f_X6_turn, k_X6_turn_0, xfun, xok, xnth, xset, oCst, oILd, oALd, oISt, oInc, oSub, oC2ne, oC1ne, oC2lt, oC2ge, oC2le, oGetI, oCallV, oRetI, h1]
    · simp [f_X7_turn, k_X7_turn_0, xfun, xok, xnth, xset, oCst, oILd, oALd, oISt, oInc, oSub, oC1eq, oC1ne, oC2ge, oC2le, oGetI, oCallV, oCallS, oRetI, mf_in, h2]
  · have h1' : 1 ≤ v := k2_le h1
    by_cases h2 : v ≤ 50
    · have h0 : ¬ v < 0 := by grind
      obtain ⟨N, hNb, rfl⟩ := nI_of h0
      have hN1 : 1 ≤ N := (nI_leI (a := 1) (by decide) hNb).mp h1'
      have hN50 : N ≤ 50 := (nI_leI (b := 50) hNb (by decide)).mp h2
      obtain ⟨W, A, hX, hA⟩ := hX
      have h6m := (hX.2.2.2.2.1 6 (by decide)).symm
      obtain ⟨c', m', wk', T', A', p1, p2, p3, p4, p5⟩ := turnL (b0 := b0) (B := c 8 0 6) hN50 N 0 64 64 T A c m wk none none hX hA (by omega) (by omega) (by omega) (by omega)
      refine ⟨nI A' - c 8 0 6, n, T', c', m', wk', ?_, ?_, ⟨W, A', p3, p4⟩, by omega⟩
      · exact (ct_start hN1 hN50).trans (p1 m wk)
      · refine (mt_start hN1 hN50).trans ?_
        rw [h6m]
        exact p2 c'
    · refine Pr.same (v := -1) hX ?_ ?_
      · simp [f_X6_turn, k_X6_turn_0, xfun, xok, xnth, xset, oCst, oILd, oALd, oISt, oInc, oSub, oC2ne, oC1ne, oC2lt, oC2ge, oC2le, oGetI, oCallV, oRetI, h1, h2]
      · simp [f_X7_turn, k_X7_turn_0, xfun, xok, xnth, xset, oCst, oILd, oALd, oISt, oInc, oSub, oC1eq, oC1ne, oC2ge, oC2le, oGetI, oCallV, oCallS, oRetI, mf_in, h2]
theorem pr_workers {b0 : Nat} {v : Int32} : Pr b0 (f_X6_workers b0) (f_X7_workers b0) [.inl v] := by
  intro n T c m wk hX hT
  by_cases h1 : v < 1
  · have h2 : ¬ 1 ≤ v := k2_nle h1
    refine Pr.same (v := -1) hX ?_ ?_
    · simp [f_X6_workers, k_X6_workers_0, xfun, xok, xnth, xset, oCst, oILd, oALd, oISt, oC2lt, oC2le, oGetI, oPutI, oRetI, g_h0_4, p_h0_4, h1]
    · simp [f_X7_workers, k_X7_workers_0, xfun, xok, xnth, xset, oCst, oILd, oALd, oISt, oC1ne, oGetI, oPutI, oCallS, oRetI, g_h3_30, p_h3_30, mf_in, h2]
  · have h1' : 1 ≤ v := k2_le h1
    by_cases h2 : v ≤ 4
    · have h0 : ¬ v < 0 := by grind
      obtain ⟨N, hNb, rfl⟩ := nI_of h0
      have hN1 : 1 ≤ N := (nI_leI (a := 1) (by decide) hNb).mp h1'
      have hN4 : N ≤ 4 := (nI_leI (b := 4) hNb (by decide)).mp h2
      obtain ⟨W, A, ⟨M1, M2, M3, M4, M5, M6, M7, M8, M9, M10, M11, M12, M13⟩, hA⟩ := id hX
      have h4m := (M5 4 (by decide)).symm
      refine ⟨c 8 0 4, n, T, u3 c 8 0 4 (nI N), u3 m 8 0 4 (nI N), wk, ?_, ?_, ⟨N, A, ⟨M1, ⟨by simpa [u3] using M2.1, by simpa [u3] using M2.2⟩, fun t ht => (M3 t ht).glob, ⟨by simpa [u3] using M4.1, by simpa [u3] using M4.2⟩, fun k hk => ?_, fun k => by simpa [u3] using M6 k, ⟨hN1, hN4, u3_same⟩, by simpa [u3] using M8, fun t ht => by simpa [u3] using M9 t ht, fun t ht h1 => ?_, ?_, fun a t k h1 h2 => ?_, by simpa [u3] using M13⟩, hA⟩, by omega⟩
      · simp [f_X6_workers, k_X6_workers_0, xfun, xok, xnth, xset, oCst, oILd, oALd, oISt, oC2lt, oC2le, oGetI, oPutI, oRetI, g_h0_4, p_h0_4, h1, h2]
      · simp [f_X7_workers, k_X7_workers_0, xfun, xok, xnth, xset, oCst, oILd, oALd, oISt, oC1ne, oGetI, oPutI, oCallS, oRetI, g_h3_30, p_h3_30, mf_in, h1', h2, h4m]
      · by_cases q : k = 4
        · subst q; rw [u3_same, u3_same]
        · rw [u3_k q, u3_k q]; exact M5 k hk
      · rw [u3_a (by decide)] at h1 ⊢; exact M10 t ht h1
      · have := cnt_congr (c := c) (c' := u3 c 8 0 4 (nI N)) (n := n) (fun t ht => by rw [u3_a (by decide)])
        rw [u3_k (by decide), M11, this]
      · rw [u3_a (by omega), u3_a (by omega)]; exact M12 a t k h1 h2
    · refine Pr.same (v := -1) hX ?_ ?_
      · simp [f_X6_workers, k_X6_workers_0, xfun, xok, xnth, xset, oCst, oILd, oALd, oISt, oC2lt, oC2le, oGetI, oPutI, oRetI, g_h0_4, p_h0_4, h1, h2]
      · simp [f_X7_workers, k_X7_workers_0, xfun, xok, xnth, xset, oCst, oILd, oALd, oISt, oC1ne, oGetI, oPutI, oCallS, oRetI, g_h3_30, p_h3_30, mf_in, h2]
theorem TJ.over {n i : Nat} {c m : xc} (h : TJ n c m i) : (c 0 i 8 = 3 ∨ c 0 i 8 = 4 ∨ c 0 i 8 = 5) ↔ ¬ m 0 i 8 ≤ 2 := by
  obtain ⟨r1, r2, r3, r4, r5, r6, r7, r8, ⟨q, hq5, hq⟩, r10⟩ := h
  rw [← r1 8 (by decide) (by decide) (by decide), hq]
  rcases (show q = 0 ∨ q = 1 ∨ q = 2 ∨ q = 3 ∨ q = 4 ∨ q = 5 by omega) with rfl | rfl | rfl | rfl | rfl | rfl <;> decide
theorem pr_stop {b0 : Nat} {v : Int32} : Pr b0 (f_X6_stop b0) (f_X7_stop b0) [.inl v] := by
  intro n T c m wk hX hT
  obtain ⟨hn, hm, hc2, hJ⟩ := hX.n
  by_cases hv : 0 ≤ v ∧ v < nI n
  case neg =>
    refine Pr.same (v := -1) hX ?_ ?_
    · simp [f_X6_stop, k_X6_stop_0, xfun, xok, xnth, xset, oCst, oILd, oALd, oASt, oC1eq, oCnonnull, oPutI, oCallV, oRetI, p_t0_8, xis_h0, xis_t0, xis_h0, cf_findNo hn hv]
    · simp [f_X7_stop, k_X7_stop_0, xfun, xok, xnth, xset, oCst, oILd, oALd, oC1eq, oC1ne, oGetR, oIal, oIas, oCallV, oCallS, oRetI, g_h3_4, an_h7, sn_h7, xis_h3, xis_h3, mf_isTaskNo hn hm hv]
  obtain ⟨i, hib, rfl⟩ := nI_of (x := v) (k2_nlt hv.1)
  have hi : i < n := (nI_ltI hib (by omega)).mp hv.2
  have ho := (hJ i hi).over
  by_cases h3 : c 0 i 8 = 3 ∨ c 0 i 8 = 4 ∨ c 0 i 8 = 5
  · have h4 := ho.mp h3
    refine Pr.same (v := -2) hX ?_ ?_
    · simp (maxSteps := 1000000) (disch := omega) [f_X6_stop, k_X6_stop_0, xfun, xok, xnth, xset, oCst, oILd, oALd, oASt, oC1eq, oCnonnull, oPutI, oCallV, oRetI, p_t0_8, xis_h0, xis_t0, xis_h0, cf_findYes hn hi, cf_isOver hi, h3]
    · simp (maxSteps := 1000000) (disch := omega) [f_X7_stop, k_X7_stop_0, xfun, xok, xnth, xset, oCst, oILd, oALd, oC1eq, oC1ne, oGetR, oIal, oIas, oCallV, oCallS, oRetI, g_h3_4, an_h7, sn_h7, xis_h3, xis_h3, mf_isTaskYes hn hm hi, mf_isOver, h4]
  · have h4 : m 0 i 8 ≤ 2 := Classical.not_not.mp (fun q => h3 (ho.mpr q))
    have e : (5 : Int32) = nI 5 := rfl
    refine ⟨1, n, T, u3 c 0 i 8 5, u3 m 0 i 8 5, wk, ?_, ?_, hX.fr (fun t ht => by rw [e]; exact (hJ t ht).state (by decide)) (fun k => by simp [u3]) (fun k => by simp [u3]) (fun k => by simp [u3]) (fun k => by simp [u3]) (fun t => by simp [u3]) (fun t ht => ?_) (fun t ht h1 => ?_) (fun a t k h1 h2 => ⟨u3_i (by omega) a k, u3_i (by omega) a k⟩), by omega⟩
    · simp (maxSteps := 1000000) (disch := omega) [f_X6_stop, k_X6_stop_0, xfun, xok, xnth, xset, oCst, oILd, oALd, oASt, oC1eq, oCnonnull, oPutI, oCallV, oRetI, p_t0_8, xis_h0, xis_t0, xis_h0, cf_findYes hn hi, cf_isOver hi, h3]
    · simp (maxSteps := 1000000) (disch := omega) [f_X7_stop, k_X7_stop_0, xfun, xok, xnth, xset, oCst, oILd, oALd, oC1eq, oC1ne, oGetR, oIal, oIas, oCallV, oCallS, oRetI, g_h3_4, an_h7, sn_h7, xis_h3, xis_h3, mf_isTaskYes hn hm hi, mf_isOver, h4]
    · by_cases q : t = i
      · subst q; rw [u3_same]; exact ⟨fun h => absurd h (by decide), fun h => absurd (Or.inl h) h3⟩
      · rw [u3_i q]
    · by_cases q : t = i
      · subst q; rw [u3_same] at h1; exact absurd h1 (by decide)
      · rw [u3_i q] at h1; exact ⟨h1, u3_i q 0 12⟩
theorem pr_letter {b0 : Nat} {v u : Int32} : Pr b0 (f_X6_letter b0) (f_X7_letter b0) [.inl v, .inl u] := by
  intro n T c m wk hX hT
  obtain ⟨hn, hm, hc2, hJ⟩ := hX.n
  by_cases hv : 0 ≤ v ∧ v < nI n
  case neg =>
    refine Pr.same (v := -1) hX ?_ ?_
    · simp [f_X6_letter, k_X6_letter_0, xfun, xok, xnth, xset, oCst, oILd, oALd, oASt, oC1eq, oCnonnull, oGetI, oGetR, oCallV, oRetI, g_t0_4, g_t5_1, xis_h0, xis_t0, xis_t5, xis_h0, cf_findNo hn hv]
    · simp [f_X7_letter, k_X7_letter_0, xfun, xok, xnth, xset, oCst, oILd, oALd, oAdd, oMul, oDup2, oC1eq, oC2ne, oC1ne, oGetR, oIal, oIas, oCallV, oCallS, oRetI, g_h3_4, an_h7, sn_h7, g_h3_19, an_h22, sn_h22, g_h3_20, an_h23, sn_h23, xis_h3, xis_h3, mf_isTaskNo hn hm hv]
  obtain ⟨i, hib, rfl⟩ := nI_of (x := v) (k2_nlt hv.1)
  have hi : i < n := (nI_ltI hib (by omega)).mp hv.2
  have ho := (hJ i hi).over
  by_cases h3 : c 0 i 8 = 3 ∨ c 0 i 8 = 4 ∨ c 0 i 8 = 5
  · have h4 := ho.mp h3
    refine Pr.same (v := -2) hX ?_ ?_
    · simp (maxSteps := 1000000) (disch := omega) [f_X6_letter, k_X6_letter_0, xfun, xok, xnth, xset, oCst, oILd, oALd, oASt, oC1eq, oCnonnull, oGetI, oGetR, oCallV, oRetI, g_t0_4, g_t5_1, xis_h0, xis_t0, xis_t5, xis_h0, cf_findYes hn hi, cf_isOver hi, h3]
    · simp (maxSteps := 1000000) (disch := omega) [f_X7_letter, k_X7_letter_0, xfun, xok, xnth, xset, oCst, oILd, oALd, oAdd, oMul, oDup2, oC1eq, oC2ne, oC1ne, oGetR, oIal, oIas, oCallV, oCallS, oRetI, g_h3_4, an_h7, sn_h7, g_h3_19, an_h22, sn_h22, g_h3_20, an_h23, sn_h23, xis_h3, xis_h3, mf_isTaskYes hn hm hi, mf_isOver, h4]
  · have h4 : m 0 i 8 ≤ 2 := Classical.not_not.mp (fun q => h3 (ho.mpr q))
    obtain ⟨z, hz6, hz⟩ := (hJ i hi).2.2.2.1
    have hzm : m 0 i 21 = nI z := ((hJ i hi).1 21 (by decide) (by decide) (by decide)).symm.trans hz
    by_cases h6 : z < 6
    · have e1 : ¬ c 0 i 21 < 0 := by rw [hz]; exact nI_pos (by omega)
      have e2 : c 0 i 21 < 6 := by rw [hz]; exact nI_lt (b := 6) h6 (by decide)
      have e3 : ¬ nI z = 6 := fun q => by rw [show (6 : Int32) = nI 6 from rfl, nI_eq (by omega) (by decide)] at q; omega
      have ha := cf_letApp (b0 := b0) (c := c) (m := m) (wk := wk) (v := u) hi e1 e2
      rw [hz, nI_clamp (by omega), nI_add1] at ha
      refine ⟨nI (z + 1), n, T, u3 (u3 c 4 i z u) 0 i 21 (nI (z + 1)), u3 (u3 m 4 i z u) 0 i 21 (nI (z + 1)), wk, ?_, ?_, hX.fr (fun t ht => (hJ t ht).let h6) (fun k => by simp [u3]) (fun k => by simp [u3]) (fun k => by simp [u3]) (fun k => by simp [u3]) (fun t => by simp [u3]) (fun t ht => by simp [u3]) (fun t ht h1 => ⟨by simpa [u3] using h1, by simp [u3]⟩) (fun a t k h1 h2 => ⟨(u3_i (by omega) a k).trans (u3_i (by omega) a k), (u3_i (by omega) a k).trans (u3_i (by omega) a k)⟩), by omega⟩
      · simp (maxSteps := 1000000) (disch := omega) [f_X6_letter, k_X6_letter_0, xfun, xok, xnth, xset, oCst, oILd, oALd, oASt, oC1eq, oCnonnull, oGetI, oGetR, oCallV, oRetI, g_t0_4, g_t5_1, xis_h0, xis_t0, xis_t5, xis_h0, xis_t0, xis_t5, g_t0_4, g_t5_1, hi, cf_findYes hn hi, cf_isOver hi, h3, cf_letFull hi, e2, ha, u3_same]
      · simp (maxSteps := 1000000) (disch := omega) [f_X7_letter, k_X7_letter_0, xfun, xok, xnth, xset, oCst, oILd, oALd, oAdd, oMul, oDup2, oC1eq, oC2ne, oC1ne, oGetR, oIal, oIas, oCallV, oCallS, oRetI, g_h3_4, an_h7, sn_h7, g_h3_19, an_h22, sn_h22, g_h3_20, an_h23, sn_h23, xis_h3, dv16, md16, dv100, md100, dv6, md6, dv3, md3, dv60, md60, ml16, ml100, ml6, ml3, ad0, ad1, ad2, xis_h3, mf_isTaskYes hn hm hi, mf_isOver, h4, hzm, e3, nI_add, nI_add1, u3_a, u3_same, Nat.mod_eq_of_lt]
    · have hz6 : z = 6 := by omega
      subst hz6
      have e2 : ¬ c 0 i 21 < 6 := by rw [hz]; decide
      refine Pr.same (v := -3) hX ?_ ?_
      · simp (maxSteps := 1000000) (disch := omega) [f_X6_letter, k_X6_letter_0, xfun, xok, xnth, xset, oCst, oILd, oALd, oASt, oC1eq, oCnonnull, oGetI, oGetR, oCallV, oRetI, g_t0_4, g_t5_1, xis_h0, xis_t0, xis_t5, xis_h0, xis_t0, xis_t5, g_t0_4, g_t5_1, hi, cf_findYes hn hi, cf_isOver hi, h3, cf_letFull hi, e2]
      · simp (maxSteps := 1000000) (disch := omega) [f_X7_letter, k_X7_letter_0, xfun, xok, xnth, xset, oCst, oILd, oALd, oAdd, oMul, oDup2, oC1eq, oC2ne, oC1ne, oGetR, oIal, oIas, oCallV, oCallS, oRetI, g_h3_4, an_h7, sn_h7, g_h3_19, an_h22, sn_h22, g_h3_20, an_h23, sn_h23, xis_h3, xis_h3, mf_isTaskYes hn hm hi, mf_isOver, h4, hzm, show nI 6 = 6 from rfl]
theorem pr_again {b0 : Nat} {v : Int32} : Pr b0 (f_X6_again b0) (f_X7_again b0) [.inl v] := by
  intro n T c m wk hX hT
  obtain ⟨hn, hm, hc2, hJ⟩ := hX.n
  by_cases hv : 0 ≤ v ∧ v < nI n
  case neg =>
    refine Pr.same (v := -1) hX ?_ ?_
    · simp [f_X6_again, k_X6_again_31, k_X6_again_0, xfun, xok, xnth, xset, oCst, oILd, oALd, oASt, oC2eq, oCnonnull, oGetI, oPutI, oCallV, oRetI, p_t0_8, g_t0_8, xis_t0, xis_h0, xis_h0, cf_findNo hn hv]
    · simp [f_X7_again, k_X7_again_33, k_X7_again_0, xfun, xok, xnth, xset, oCst, oILd, oALd, oC2eq, oC1ne, oGetR, oIal, oIas, oCallV, oRetI, g_h3_4, an_h7, sn_h7, xis_h3, xis_h3, mf_isTaskNo hn hm hv]
  obtain ⟨i, hib, rfl⟩ := nI_of (x := v) (k2_nlt hv.1)
  have hi : i < n := (nI_ltI hib (by omega)).mp hv.2
  have e8 := ((hJ i hi).1 8 (by decide) (by decide) (by decide)).symm
  by_cases h3 : c 0 i 8 = 4 ∨ c 0 i 8 = 5
  · have h4 : m 0 i 8 = 4 ∨ m 0 i 8 = 5 := by rw [e8]; exact h3
    have e26 := ((hJ i hi).1 26 (by decide) (by decide) (by decide))
    have hN : ∃ N, (m 0 i 26 = -4 ∧ N = 0) ∨ (m 0 i 26 = nI N ∧ N ≤ 40) := by
      rcases (hJ i hi).2.2.2.2.2.1 with g0 | ⟨N, g1, g2, g3⟩
      · exact ⟨0, Or.inl ⟨e26.symm.trans g0, rfl⟩⟩
      · exact ⟨N, Or.inr ⟨e26.symm.trans g2, g1⟩⟩
    obtain ⟨N, hN⟩ := hN
    have hN2 : (u3 m 0 i 8 0 0 i 26 = -4 ∧ N = 0) ∨ (u3 m 0 i 8 0 0 i 26 = nI N ∧ N ≤ 40) := by
      rw [u3_k (by decide)]; exact hN
    have e : (0 : Int32) = nI 0 := rfl
    refine ⟨1, n, T, gbk (u3 c 0 i 8 0) i 40, bf (bk1 (u3 m 0 i 8 0) i) 6 i N (u3 m 0 i 8 0 7 i), wk, ?_, ?_, hX.fr (fun t ht => ((hJ t ht).state (z := 0) (by decide)).back hN2) (fun k => by simp [gbk, u3, bf]) (fun k => by simp [bk1, u3, bf]) (fun k => by simp [gbk, u3, bf]) (fun k => by simp [bk1, u3, bf]) (fun t => by simp [gbk, u3, bf]) (fun t ht => ?_) (fun t ht h1 => ?_) (fun a t k h1 h2 => ?_), by omega⟩
    · rcases h3 with q | q <;> simp (maxSteps := 1000000) (disch := omega) [f_X6_again, k_X6_again_31, k_X6_again_0, xfun, xok, xnth, xset, oCst, oILd, oALd, oASt, oC2eq, oCnonnull, oGetI, oPutI, oCallV, oRetI, p_t0_8, g_t0_8, xis_t0, xis_h0, xis_h0, xis_t0, hi, cf_findYes hn hi, q, cf_goBack hi]
    · rcases h4 with q | q <;> simp (maxSteps := 1000000) (disch := omega) [f_X7_again, k_X7_again_33, k_X7_again_0, xfun, xok, xnth, xset, oCst, oILd, oALd, oC2eq, oC1ne, oGetR, oIal, oIas, oCallV, oRetI, g_h3_4, an_h7, sn_h7, xis_h3, xis_h3, mf_isTaskYes hn hm hi, q, mf_back (show i < 12 by omega) hN2]
    · by_cases q : t = i
      · subst q
        have : gbk (u3 c 0 t 8 0) t 40 0 t 8 = 0 := by simp [gbk, u3, bf]
        rw [this]
        exact ⟨fun h => absurd h (by decide), fun h => by rw [h] at h3; exact absurd h3 (by decide)⟩
      · simp [gbk, u3, bf, q]
    · by_cases q : t = i
      · subst q
        have : gbk (u3 c 0 t 8 0) t 40 0 t 8 = 0 := by simp [gbk, u3, bf]
        rw [this] at h1
        exact absurd h1 (by decide)
      · exact ⟨by simpa [gbk, u3, bf, q] using h1, by simp [gbk, u3, bf, q]⟩
    · have q : t ≠ i := by omega
      exact ⟨by simp [gbk, u3, bf, q], by simp [bk1, u3, bf, q]⟩
  · have h4 : ¬ (m 0 i 8 = 4 ∨ m 0 i 8 = 5) := by rw [e8]; exact h3
    have h3a : ¬ c 0 i 8 = 4 := fun q => h3 (Or.inl q)
    have h3b : ¬ c 0 i 8 = 5 := fun q => h3 (Or.inr q)
    have h4a : ¬ m 0 i 8 = 4 := fun q => h4 (Or.inl q)
    have h4b : ¬ m 0 i 8 = 5 := fun q => h4 (Or.inr q)
    refine Pr.same (v := -2) hX ?_ ?_
    · simp (maxSteps := 1000000) (disch := omega) [f_X6_again, k_X6_again_31, k_X6_again_0, xfun, xok, xnth, xset, oCst, oILd, oALd, oASt, oC2eq, oCnonnull, oGetI, oPutI, oCallV, oRetI, p_t0_8, g_t0_8, xis_t0, xis_h0, xis_h0, xis_t0, hi, cf_findYes hn hi, h3a, h3b]
    · simp (maxSteps := 1000000) (disch := omega) [f_X7_again, k_X7_again_33, k_X7_again_0, xfun, xok, xnth, xset, oCst, oILd, oALd, oC2eq, oC1ne, oGetR, oIal, oIas, oCallV, oRetI, g_h3_4, an_h7, sn_h7, xis_h3, xis_h3, mf_isTaskYes hn hm hi, h4a, h4b]
