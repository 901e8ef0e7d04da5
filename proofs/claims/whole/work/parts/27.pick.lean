/-- the best of the first tasks -/
def bs (rd : Nat → Bool) (ky : Nat → Int32) : Nat → Option Nat
  | 0 => none
  | j + 1 => if rd j = true then (match bs rd ky j with
      | none => some j
      | some p => if ky j ≤ ky p then some p else some j) else bs rd ky j
theorem bs_lt {rd : Nat → Bool} {ky : Nat → Int32} {j p : Nat} (h : bs rd ky j = some p) : p < j ∧ rd p = true := by
  induction j with
  | zero => cases h
  | succ j ih =>
    unfold bs at h
    by_cases e : rd j = true
    · rw [if_pos e] at h
      cases hb : bs rd ky j with
      | none =>
        rw [hb] at h
        cases h
        exact ⟨by omega, e⟩
      | some q =>
        rw [hb] at h
        dsimp only at h
        by_cases hk : ky j ≤ ky q
        · rw [if_pos hk] at h
          cases h
          have := ih hb
          exact ⟨by omega, this.2⟩
        · rw [if_neg hk] at h
          cases h
          exact ⟨by omega, e⟩
    · rw [if_neg e] at h
      have := ih h
      exact ⟨by omega, this.2⟩
theorem bs_congr {rd rd' : Nat → Bool} {ky ky' : Nat → Int32} {n : Nat} (h : ∀ t, t < n → rd' t = rd t ∧ ky' t = ky t) : bs rd' ky' n = bs rd ky n := by
  induction n with
  | zero => rfl
  | succ n ih =>
    have h1 := ih (fun t ht => h t (by omega))
    obtain ⟨h2, h3⟩ := h n (by omega)
    unfold bs
    rw [h1, h2]
    cases hb : bs rd ky n with
    | none => rfl
    | some p =>
      have hp := (bs_lt hb).1
      dsimp only
      rw [h3, (h p (by omega)).2]
theorem bs_no {rd : Nat → Bool} {ky : Nat → Int32} {j : Nat} (h : rd j = false) : bs rd ky (j + 1) = bs rd ky j := by
  show (if rd j = true then _ else _) = _
  rw [if_neg (by rw [h]; decide)]
theorem bs_end {rd : Nat → Bool} {ky : Nat → Int32} {n r : Nat} (h : ∀ t, n ≤ t → rd t = false) : bs rd ky (n + r) = bs rd ky n := by
  induction r with
  | zero => rfl
  | succ r ih =>
    rw [← Nat.add_assoc, bs_no (h (n + r) (by omega)), ih]
def rdC (n : Nat) (c : xc) (t : Nat) : Bool := decide (t < n ∧ c 0 t 8 = 0 ∧ ¬ c 0 t 13 = c 8 0 5)
def rdM (m : xc) (t : Nat) : Bool := decide (m 0 t 8 = 0 ∧ m 0 t 13 = 0)
def kyT (c : xc) (t : Nat) : Int32 := c 0 t 2 + c 0 t 9
theorem cf_pickL {b0 n : Nat} {c m : xc} {wk : Nat → Int64} (hn : n ≤ 12) : ∀ (r fu j : Nat) (l3 : Option xV), j + r = 12 → r < fu → r_X6_findNextToWork b0 fu 0 [some (.inr (.inr (some (hA b0 0)))), some (.inr (.inr ((bs (rdC n c) (kyT c) j).map (fun p => tA b0 p 0)))), some (.inl (nI j)), l3] [] (hp b0 n c m wk) = some (some (.inr (.inr ((bs (rdC n c) (kyT c) 12).map (fun p => tA b0 p 0)))), (hp b0 n c m wk)) := by
  intro r
  induction r with
  | zero =>
    intro fu j l3 hj hf
    obtain ⟨fu, rfl⟩ : ∃ q, fu = q + 1 := ⟨fu - 1, by omega⟩
    obtain rfl : j = 12 := by omega
    change k_X6_findNextToWork_4 b0 (r_X6_findNextToWork b0 fu) _ _ _ = _
    simp (disch := omega) [k_X6_findNextToWork_4, k_X6_findNextToWork_60, xfun, xok, xnth, xset, oCst, oNul, oILd, oALd, oISt, oASt, oInc, oAdd, oC1eq, oC2ge, oC2le, oCnull, oGetI, oGetR, oQal, oLen, oCallV, oRetR, g_h0_0, l_h1, an_h1, g_h0_5, g_t0_2, g_t0_9, xis_t0, cf_isReadyIn, Int32.le_refl]
  | succ r ih =>
    intro fu j l3 hj hf
    obtain ⟨fu, rfl⟩ : ∃ q, fu = q + 1 := ⟨fu - 1, by omega⟩
    change k_X6_findNextToWork_4 b0 (r_X6_findNextToWork b0 fu) _ _ _ = _
    have hj12 : ¬ nI 12 ≤ nI j := nI_ge (by omega) (by decide)
    have IH := fun l3 => ih fu (j + 1) l3 (by omega) (by omega)
    by_cases hn1 : j < n
    · by_cases h1 : c 0 j 8 = 0
      · by_cases h2 : c 0 j 13 = c 8 0 5
        · have e : bs (rdC n c) (kyT c) (j + 1) = bs (rdC n c) (kyT c) j := bs_no (by simp [rdC, h2])
          rw [e] at IH
          simp (disch := omega) [k_X6_findNextToWork_4, k_X6_findNextToWork_60, xfun, xok, xnth, xset, oCst, oNul, oILd, oALd, oISt, oASt, oInc, oAdd, oC1eq, oC2ge, oC2le, oCnull, oGetI, oGetR, oQal, oLen, oCallV, oRetR, g_h0_0, l_h1, an_h1, g_h0_5, g_t0_2, g_t0_9, xis_t0, cf_isReadyIn, hj12, hn1, h1, h2, nI_add1, IH]
        · have hr : rdC n c j = true := by simp [rdC, hn1, h1, h2]
          cases hb : bs (rdC n c) (kyT c) j with
          | none =>
            have e : bs (rdC n c) (kyT c) (j + 1) = some j := by unfold bs; rw [if_pos hr]; change (match bs (rdC n c) (kyT c) j with | none => _ | some p => _) = _; rw [hb]
            rw [e] at IH
            simp at IH
            simp (disch := omega) [k_X6_findNextToWork_4, k_X6_findNextToWork_60, xfun, xok, xnth, xset, oCst, oNul, oILd, oALd, oISt, oASt, oInc, oAdd, oC1eq, oC2ge, oC2le, oCnull, oGetI, oGetR, oQal, oLen, oCallV, oRetR, g_h0_0, l_h1, an_h1, g_h0_5, g_t0_2, g_t0_9, xis_t0, cf_isReadyIn, hj12, hn1, h1, h2, nI_add1, IH]
          | some p =>
            have hpn : p < n := by have := bs_lt hb; simp [rdC] at this; exact this.2.1
            by_cases hk : kyT c j ≤ kyT c p
            · have e : bs (rdC n c) (kyT c) (j + 1) = some p := by unfold bs; rw [if_pos hr]; change (match bs (rdC n c) (kyT c) j with | none => _ | some p => _) = _; rw [hb]; exact if_pos hk
              rw [e] at IH
              simp at IH
              unfold kyT at hk
              simp (disch := omega) [k_X6_findNextToWork_4, k_X6_findNextToWork_60, xfun, xok, xnth, xset, oCst, oNul, oILd, oALd, oISt, oASt, oInc, oAdd, oC1eq, oC2ge, oC2le, oCnull, oGetI, oGetR, oQal, oLen, oCallV, oRetR, g_h0_0, l_h1, an_h1, g_h0_5, g_t0_2, g_t0_9, xis_t0, cf_isReadyIn, hj12, hn1, hpn, h1, h2, nI_add1, IH, hk]
            · have e : bs (rdC n c) (kyT c) (j + 1) = some j := by unfold bs; rw [if_pos hr]; change (match bs (rdC n c) (kyT c) j with | none => _ | some p => _) = _; rw [hb]; exact if_neg hk
              rw [e] at IH
              simp at IH
              unfold kyT at hk
              simp (disch := omega) [k_X6_findNextToWork_4, k_X6_findNextToWork_60, xfun, xok, xnth, xset, oCst, oNul, oILd, oALd, oISt, oASt, oInc, oAdd, oC1eq, oC2ge, oC2le, oCnull, oGetI, oGetR, oQal, oLen, oCallV, oRetR, g_h0_0, l_h1, an_h1, g_h0_5, g_t0_2, g_t0_9, xis_t0, cf_isReadyIn, hj12, hn1, hpn, h1, h2, nI_add1, IH, hk]
      · have e : bs (rdC n c) (kyT c) (j + 1) = bs (rdC n c) (kyT c) j := bs_no (by simp [rdC, h1])
        rw [e] at IH
        simp (disch := omega) [k_X6_findNextToWork_4, k_X6_findNextToWork_60, xfun, xok, xnth, xset, oCst, oNul, oILd, oALd, oISt, oASt, oInc, oAdd, oC1eq, oC2ge, oC2le, oCnull, oGetI, oGetR, oQal, oLen, oCallV, oRetR, g_h0_0, l_h1, an_h1, g_h0_5, g_t0_2, g_t0_9, xis_t0, cf_isReadyIn, hj12, hn1, h1, nI_add1, IH]
    · have e : bs (rdC n c) (kyT c) (j + 1) = bs (rdC n c) (kyT c) j := bs_no (by simp [rdC, hn1])
      rw [e] at IH
      simp (disch := omega) [k_X6_findNextToWork_4, k_X6_findNextToWork_60, xfun, xok, xnth, xset, oCst, oNul, oILd, oALd, oISt, oASt, oInc, oAdd, oC1eq, oC2ge, oC2le, oCnull, oGetI, oGetR, oQal, oLen, oCallV, oRetR, g_h0_0, l_h1, an_h1, g_h0_5, g_t0_2, g_t0_9, xis_t0, cf_isReadyIn, hj12, hn1, nI_add1, IH]
theorem cf_pick {b0 n : Nat} {c m : xc} {wk : Nat → Int64} (hn : n ≤ 12) : f_X6_findNextToWork b0 [.inr (.inr (some (hA b0 0)))] (hp b0 n c m wk) = some (some (.inr (.inr ((bs (rdC n c) (kyT c) n).map (fun p => tA b0 p 0)))), (hp b0 n c m wk)) := by
  have e : bs (rdC n c) (kyT c) n = bs (rdC n c) (kyT c) 12 := by
    have := bs_end (rd := rdC n c) (ky := kyT c) (n := n) (r := 12 - n) (fun t ht => by simp [rdC]; omega)
    rw [show n + (12 - n) = 12 by omega] at this
    exact this.symm
  rw [e, ← cf_pickL (b0 := b0) (m := m) (wk := wk) hn 12 64 0 none (by decide) (by decide)]
  rfl
theorem mf_pickL {b0 n : Nat} {c m : xc} {wk : Nat → Int64} (hn : n ≤ 12) (h2 : m 8 0 2 = nI n) : ∀ (r fu j : Nat) (l3 : Option xV), j + r = n → r < fu → r_X7_pick b0 fu 0 [some (.inr (.inr (some (hA b0 3)))), some (.inl ((bs (rdM m) (kyT m) j).elim (-1) nI)), some (.inl (nI j)), l3] [] (hp b0 n c m wk) = some (some (.inl ((bs (rdM m) (kyT m) n).elim (-1) nI)), (hp b0 n c m wk)) := by
  intro r
  induction r with
  | zero =>
    intro fu j l3 hj hf
    obtain ⟨fu, rfl⟩ : ∃ q, fu = q + 1 := ⟨fu - 1, by omega⟩
    obtain rfl : j = n := by omega
    change k_X7_pick_4 b0 (r_X7_pick b0 fu) _ _ _ = _
    simp (disch := omega) [k_X7_pick_4, k_X7_pick_34, k_X7_pick_35, k_X7_pick_73, xfun, xok, xnth, xset, oCst, oILd, oALd, oISt, oInc, oAdd, oC1eq, oC1ne, oC1lt, oC2ge, oC2le, oGetI, oGetR, oIal, oZal, oRetI, g_h3_2, an_h5, sn_h5, g_h3_3, an_h6, sn_h6, g_h3_0, g_h3_4, an_h7, sn_h7, g_h3_27, an_h30, sn_h30, h2, Int32.le_refl]
  | succ r ih =>
    intro fu j l3 hj hf
    obtain ⟨fu, rfl⟩ : ∃ q, fu = q + 1 := ⟨fu - 1, by omega⟩
    change k_X7_pick_4 b0 (r_X7_pick b0 fu) _ _ _ = _
    have hj12 : ¬ nI n ≤ nI j := nI_ge (by omega) (by omega)
    have IH := fun l3 => ih fu (j + 1) l3 (by omega) (by omega)
    by_cases h1 : m 0 j 8 = 0
    · by_cases h3 : m 0 j 13 = 0
      · have hr : rdM m j = true := by simp [rdM, h1, h3]
        cases hb : bs (rdM m) (kyT m) j with
        | none =>
          have e : bs (rdM m) (kyT m) (j + 1) = some j := by unfold bs; rw [if_pos hr]; change (match bs (rdM m) (kyT m) j with | none => _ | some p => _) = _; rw [hb]
          rw [e] at IH
          simp at IH
          simp (disch := omega) [k_X7_pick_4, k_X7_pick_34, k_X7_pick_35, k_X7_pick_73, xfun, xok, xnth, xset, oCst, oILd, oALd, oISt, oInc, oAdd, oC1eq, oC1ne, oC1lt, oC2ge, oC2le, oGetI, oGetR, oIal, oZal, oRetI, g_h3_2, an_h5, sn_h5, g_h3_3, an_h6, sn_h6, g_h3_0, g_h3_4, an_h7, sn_h7, g_h3_27, an_h30, sn_h30, h2, hj12, h1, h3, nI_add1, IH]
        | some p =>
          have hpj := (bs_lt hb).1
          have hpp : ¬ nI p < 0 := nI_nn (by omega)
          by_cases hk : kyT m j ≤ kyT m p
          · have e : bs (rdM m) (kyT m) (j + 1) = some p := by unfold bs; rw [if_pos hr]; change (match bs (rdM m) (kyT m) j with | none => _ | some p => _) = _; rw [hb]; exact if_pos hk
            rw [e] at IH
            simp at IH
            unfold kyT at hk
            simp (disch := omega) [k_X7_pick_4, k_X7_pick_34, k_X7_pick_35, k_X7_pick_73, xfun, xok, xnth, xset, oCst, oILd, oALd, oISt, oInc, oAdd, oC1eq, oC1ne, oC1lt, oC2ge, oC2le, oGetI, oGetR, oIal, oZal, oRetI, g_h3_2, an_h5, sn_h5, g_h3_3, an_h6, sn_h6, g_h3_0, g_h3_4, an_h7, sn_h7, g_h3_27, an_h30, sn_h30, h2, hj12, h1, h3, hpp, nI_add1, IH, hk]
          · have e : bs (rdM m) (kyT m) (j + 1) = some j := by unfold bs; rw [if_pos hr]; change (match bs (rdM m) (kyT m) j with | none => _ | some p => _) = _; rw [hb]; exact if_neg hk
            rw [e] at IH
            simp at IH
            unfold kyT at hk
            simp (disch := omega) [k_X7_pick_4, k_X7_pick_34, k_X7_pick_35, k_X7_pick_73, xfun, xok, xnth, xset, oCst, oILd, oALd, oISt, oInc, oAdd, oC1eq, oC1ne, oC1lt, oC2ge, oC2le, oGetI, oGetR, oIal, oZal, oRetI, g_h3_2, an_h5, sn_h5, g_h3_3, an_h6, sn_h6, g_h3_0, g_h3_4, an_h7, sn_h7, g_h3_27, an_h30, sn_h30, h2, hj12, h1, h3, hpp, nI_add1, IH, hk]
      · have e : bs (rdM m) (kyT m) (j + 1) = bs (rdM m) (kyT m) j := bs_no (by simp [rdM, h3])
        rw [e] at IH
        simp (disch := omega) [k_X7_pick_4, k_X7_pick_34, k_X7_pick_35, k_X7_pick_73, xfun, xok, xnth, xset, oCst, oILd, oALd, oISt, oInc, oAdd, oC1eq, oC1ne, oC1lt, oC2ge, oC2le, oGetI, oGetR, oIal, oZal, oRetI, g_h3_2, an_h5, sn_h5, g_h3_3, an_h6, sn_h6, g_h3_0, g_h3_4, an_h7, sn_h7, g_h3_27, an_h30, sn_h30, h2, hj12, h1, h3, nI_add1, IH]
    · have e : bs (rdM m) (kyT m) (j + 1) = bs (rdM m) (kyT m) j := bs_no (by simp [rdM, h1])
      rw [e] at IH
      simp (disch := omega) [k_X7_pick_4, k_X7_pick_34, k_X7_pick_35, k_X7_pick_73, xfun, xok, xnth, xset, oCst, oILd, oALd, oISt, oInc, oAdd, oC1eq, oC1ne, oC1lt, oC2ge, oC2le, oGetI, oGetR, oIal, oZal, oRetI, g_h3_2, an_h5, sn_h5, g_h3_3, an_h6, sn_h6, g_h3_0, g_h3_4, an_h7, sn_h7, g_h3_27, an_h30, sn_h30, h2, hj12, h1, nI_add1, IH]
theorem mf_pick {b0 n : Nat} {c m : xc} {wk : Nat → Int64} (hn : n ≤ 12) (h2 : m 8 0 2 = nI n) : f_X7_pick b0 [.inr (.inr (some (hA b0 3)))] (hp b0 n c m wk) = some (some (.inl ((bs (rdM m) (kyT m) n).elim (-1) nI)), (hp b0 n c m wk)) := by
  rw [← mf_pickL (b0 := b0) (c := c) (wk := wk) hn h2 n 64 0 none (by omega) (by omega)]
  rfl
theorem MT.rd {W n T A : Nat} {c m : xc} {wk : Nat → Int64} (hM : MT W n T A c m wk) (hT : T < 1000000) {t : Nat} (ht : t < n) : (c 0 t 13 = c 8 0 5 ↔ ¬ m 0 t 13 = 0) := by
  obtain ⟨M1, M2, M3, M4, M5, M6, M7, M8, M9, M10, M11, M12, M13⟩ := hM
  obtain ⟨q, q1, q2, q3⟩ := M9 t ht
  rw [q2, q3, M4.1, nI_eq (by omega) (by omega)]
  by_cases e : q = T + 1 <;> simp [e]
theorem MT.bs {W n T A : Nat} {c m : xc} {wk : Nat → Int64} (hM : MT W n T A c m wk) (hT : T < 1000000) : bs (rdM m) (kyT m) n = bs (rdC n c) (kyT c) n := by
  refine bs_congr fun t ht => ?_
  have h1 := hM.rd hT ht
  have e8 := (hM.2.2.1 t ht).1 8 (by decide) (by decide) (by decide)
  have e2 := (hM.2.2.1 t ht).1 2 (by decide) (by decide) (by decide)
  have e9 := (hM.2.2.1 t ht).1 9 (by decide) (by decide) (by decide)
  refine ⟨?_, by simp [kyT, e2, e9]⟩
  by_cases q : m 0 t 13 = 0 <;> simp [rdM, rdC, ht, e8, h1, q]
