/-- how many of the first are so -/
def gon (p : Nat → Bool) : Nat → Nat
  | 0 => 0
  | j + 1 => gon p j + if p j = true then 1 else 0
theorem gon_congr {p q : Nat → Bool} {n : Nat} (h : ∀ t, t < n → p t = q t) : gon p n = gon q n := by
  induction n with
  | zero => rfl
  | succ n ih => simp only [gon]; rw [ih (fun t ht => h t (by omega)), h n (by omega)]
theorem gon_end {p : Nat → Bool} {n r : Nat} (h : ∀ t, n ≤ t → p t = false) : gon p (n + r) = gon p n := by
  induction r with
  | zero => rfl
  | succ r ih =>
    rw [← Nat.add_assoc]
    show gon p (n + r) + _ = _
    rw [h (n + r) (by omega), ih]
    rfl
def gC (n : Nat) (c : xc) (t : Nat) : Bool := decide (t < n ∧ ¬ (c 0 t 8 = 3 ∨ c 0 t 8 = 4 ∨ c 0 t 8 = 5))
def gM (m : xc) (t : Nat) : Bool := decide (m 0 t 8 ≤ 2)
theorem cf_gonL {b0 n : Nat} {c m : xc} {wk : Nat → Int64} (hn : n ≤ 12) : ∀ (r fu j : Nat) (l3 : Option xV), j + r = 12 → r < fu → r_X6_countGoingOn b0 fu 0 [some (.inr (.inr (some (hA b0 0)))), some (.inl (nI (gon (gC n c) j))), some (.inl (nI j)), l3] [] (hp b0 n c m wk) = some (some (.inl (nI (gon (gC n c) 12))), (hp b0 n c m wk)) := by
  intro r
  induction r with
  | zero =>
    intro fu j l3 hj hf
    obtain ⟨fu, rfl⟩ : ∃ q, fu = q + 1 := ⟨fu - 1, by omega⟩
    obtain rfl : j = 12 := by omega
    change k_X6_countGoingOn_4 b0 (r_X6_countGoingOn b0 fu) _ _ _ = _
    simp (maxSteps := 1000000) (disch := omega) [k_X6_countGoingOn_4, xfun, xok, xnth, xset, oCst, oILd, oALd, oISt, oASt, oInc, oC1ne, oC2ge, oCnull, oGetR, oQal, oLen, oCallV, oRetI, g_h0_0, l_h1, an_h1, xis_t0, Int32.le_refl]
  | succ r ih =>
    intro fu j l3 hj hf
    obtain ⟨fu, rfl⟩ : ∃ q, fu = q + 1 := ⟨fu - 1, by omega⟩
    change k_X6_countGoingOn_4 b0 (r_X6_countGoingOn b0 fu) _ _ _ = _
    have hj12 : ¬ nI 12 ≤ nI j := nI_ge (by omega) (by decide)
    have IH := fun l3 => ih fu (j + 1) l3 (by omega) (by omega)
    by_cases hn1 : j < n
    · by_cases h1 : c 0 j 8 = 3 ∨ c 0 j 8 = 4 ∨ c 0 j 8 = 5
      · have e : gon (gC n c) (j + 1) = gon (gC n c) j := by
          show gon (gC n c) j + _ = _
          rw [if_neg (by simp [gC]; intro _ h2 h3; exact h1.elim (fun q => absurd q h2) (fun q => q.elim (fun q => absurd q h3) id))]
          rfl
        have ho : f_X5_isOver b0 [.inr (.inr (some (tA b0 j 0)))] (hp b0 n c m wk) = some (some (.inl 1), (hp b0 n c m wk)) := by rw [cf_isOver hn1, if_pos h1]
        rw [e] at IH
        simp (maxSteps := 1000000) (disch := omega) [k_X6_countGoingOn_4, xfun, xok, xnth, xset, oCst, oILd, oALd, oISt, oASt, oInc, oC1ne, oC2ge, oCnull, oGetR, oQal, oLen, oCallV, oRetI, g_h0_0, l_h1, an_h1, xis_t0, hj12, hn1, ho, nI_add1, IH]
      · have e : gon (gC n c) (j + 1) = gon (gC n c) j + 1 := by
          show gon (gC n c) j + _ = _
          rw [if_pos (show gC n c j = true from decide_eq_true ⟨hn1, h1⟩)]
        have ho : f_X5_isOver b0 [.inr (.inr (some (tA b0 j 0)))] (hp b0 n c m wk) = some (some (.inl 0), (hp b0 n c m wk)) := by rw [cf_isOver hn1, if_neg h1]
        rw [e] at IH
        simp (maxSteps := 1000000) (disch := omega) [k_X6_countGoingOn_4, xfun, xok, xnth, xset, oCst, oILd, oALd, oISt, oASt, oInc, oC1ne, oC2ge, oCnull, oGetR, oQal, oLen, oCallV, oRetI, g_h0_0, l_h1, an_h1, xis_t0, hj12, hn1, ho, nI_add1, IH]
    · have e : gon (gC n c) (j + 1) = gon (gC n c) j := by
        show gon (gC n c) j + _ = _
        rw [if_neg (by simp [gC, hn1])]
        rfl
      rw [e] at IH
      simp (maxSteps := 1000000) (disch := omega) [k_X6_countGoingOn_4, xfun, xok, xnth, xset, oCst, oILd, oALd, oISt, oASt, oInc, oC1ne, oC2ge, oCnull, oGetR, oQal, oLen, oCallV, oRetI, g_h0_0, l_h1, an_h1, xis_t0, hj12, hn1, nI_add1, IH]
theorem cf_gon {b0 n : Nat} {c m : xc} {wk : Nat → Int64} (hn : n ≤ 12) : f_X6_countGoingOn b0 [.inr (.inr (some (hA b0 0)))] (hp b0 n c m wk) = some (some (.inl (nI (gon (gC n c) n))), (hp b0 n c m wk)) := by
  have e : gon (gC n c) n = gon (gC n c) 12 := by
    have := gon_end (p := gC n c) (n := n) (r := 12 - n) (fun t ht => by simp [gC]; intro h; omega)
    rw [show n + (12 - n) = 12 by omega] at this
    exact this.symm
  rw [e, ← cf_gonL (b0 := b0) (m := m) (wk := wk) hn 12 64 0 none (by decide) (by decide)]
  rfl
def cnv (c : xc) (g : Int32) : Nat → Int32
  | 0 => c 8 0 2
  | 1 => c 8 0 5
  | 2 => c 8 0 6
  | 3 => c 8 0 7
  | 4 => c 8 0 8
  | 5 => c 8 0 9
  | 6 => g
  | _ => -1
theorem cf_count {b0 n : Nat} {c m : xc} {wk : Nat → Int64} {u : Int32} (hn : n ≤ 12) : f_X6_count b0 [.inr (.inr (some (hA b0 0))), .inl u] (hp b0 n c m wk) = some (some (.inl (if u < 0 then -1 else cnv c (nI (gon (gC n c) n)) u.toNatClampNeg)), (hp b0 n c m wk)) := by
  by_cases h0 : u < 0
  · simp (maxSteps := 1000000) (disch := omega) [f_X6_count, k_X6_count_44, k_X6_count_51, k_X6_count_58, k_X6_count_65, k_X6_count_72, k_X6_count_79, k_X6_count_86, k_X6_count_93, sw_X6_count_1, k_X6_count_0, xfun, xok, xnth, xset, oCst, oILd, oALd, oTab, oGetI, oCallV, oRetI, g_h0_2, g_h0_5, g_h0_6, g_h0_7, g_h0_8, g_h0_9, xis_h0, h0]
  · by_cases h1 : u.toNatClampNeg < 7
    · simp (maxSteps := 1000000) (disch := omega) [f_X6_count, k_X6_count_0, xfun, xok, xnth, xset, oCst, oILd, oALd, oTab, oGetI, oCallV, oRetI, h0, h1]
      generalize u.toNatClampNeg = k at h1 ⊢
      match k, h1 with
      | 0, _ => simp (maxSteps := 1000000) (disch := omega) [k_X6_count_44, k_X6_count_51, k_X6_count_58, k_X6_count_65, k_X6_count_72, k_X6_count_79, k_X6_count_86, k_X6_count_93, sw_X6_count_1, k_X6_count_0, xfun, xok, xnth, xset, oCst, oILd, oALd, oTab, oGetI, oCallV, oRetI, g_h0_2, g_h0_5, g_h0_6, g_h0_7, g_h0_8, g_h0_9, xis_h0, xis_h0, cf_gon hn, cnv]
      | 1, _ => simp (maxSteps := 1000000) (disch := omega) [k_X6_count_44, k_X6_count_51, k_X6_count_58, k_X6_count_65, k_X6_count_72, k_X6_count_79, k_X6_count_86, k_X6_count_93, sw_X6_count_1, k_X6_count_0, xfun, xok, xnth, xset, oCst, oILd, oALd, oTab, oGetI, oCallV, oRetI, g_h0_2, g_h0_5, g_h0_6, g_h0_7, g_h0_8, g_h0_9, xis_h0, xis_h0, cf_gon hn, cnv]
      | 2, _ => simp (maxSteps := 1000000) (disch := omega) [k_X6_count_44, k_X6_count_51, k_X6_count_58, k_X6_count_65, k_X6_count_72, k_X6_count_79, k_X6_count_86, k_X6_count_93, sw_X6_count_1, k_X6_count_0, xfun, xok, xnth, xset, oCst, oILd, oALd, oTab, oGetI, oCallV, oRetI, g_h0_2, g_h0_5, g_h0_6, g_h0_7, g_h0_8, g_h0_9, xis_h0, xis_h0, cf_gon hn, cnv]
      | 3, _ => simp (maxSteps := 1000000) (disch := omega) [k_X6_count_44, k_X6_count_51, k_X6_count_58, k_X6_count_65, k_X6_count_72, k_X6_count_79, k_X6_count_86, k_X6_count_93, sw_X6_count_1, k_X6_count_0, xfun, xok, xnth, xset, oCst, oILd, oALd, oTab, oGetI, oCallV, oRetI, g_h0_2, g_h0_5, g_h0_6, g_h0_7, g_h0_8, g_h0_9, xis_h0, xis_h0, cf_gon hn, cnv]
      | 4, _ => simp (maxSteps := 1000000) (disch := omega) [k_X6_count_44, k_X6_count_51, k_X6_count_58, k_X6_count_65, k_X6_count_72, k_X6_count_79, k_X6_count_86, k_X6_count_93, sw_X6_count_1, k_X6_count_0, xfun, xok, xnth, xset, oCst, oILd, oALd, oTab, oGetI, oCallV, oRetI, g_h0_2, g_h0_5, g_h0_6, g_h0_7, g_h0_8, g_h0_9, xis_h0, xis_h0, cf_gon hn, cnv]
      | 5, _ => simp (maxSteps := 1000000) (disch := omega) [k_X6_count_44, k_X6_count_51, k_X6_count_58, k_X6_count_65, k_X6_count_72, k_X6_count_79, k_X6_count_86, k_X6_count_93, sw_X6_count_1, k_X6_count_0, xfun, xok, xnth, xset, oCst, oILd, oALd, oTab, oGetI, oCallV, oRetI, g_h0_2, g_h0_5, g_h0_6, g_h0_7, g_h0_8, g_h0_9, xis_h0, xis_h0, cf_gon hn, cnv]
      | 6, _ => simp (maxSteps := 1000000) (disch := omega) [k_X6_count_44, k_X6_count_51, k_X6_count_58, k_X6_count_65, k_X6_count_72, k_X6_count_79, k_X6_count_86, k_X6_count_93, sw_X6_count_1, k_X6_count_0, xfun, xok, xnth, xset, oCst, oILd, oALd, oTab, oGetI, oCallV, oRetI, g_h0_2, g_h0_5, g_h0_6, g_h0_7, g_h0_8, g_h0_9, xis_h0, xis_h0, cf_gon hn, cnv]
      | q + 7, h => omega
    · have e : cnv c (nI (gon (gC n c) n)) u.toNatClampNeg = -1 := by
        generalize u.toNatClampNeg = k at h1 ⊢
        match k, h1 with
        | 0, h => omega
        | 1, h => omega
        | 2, h => omega
        | 3, h => omega
        | 4, h => omega
        | 5, h => omega
        | 6, h => omega
        | q + 7, _ => rfl
      simp (maxSteps := 1000000) (disch := omega) [f_X6_count, k_X6_count_0, k_X6_count_93, xfun, xok, xnth, xset, oCst, oILd, oALd, oTab, oGetI, oCallV, oRetI, h0, h1, e]
theorem mf_countE {b0 n : Nat} {c m : xc} {wk : Nat → Int64} {u g : Int32} {fu : Nat} (h2 : m 8 0 2 = nI n) : r_X7_count b0 (fu + 1) 0 [some (.inr (.inr (some (hA b0 3)))), some (.inl u), some (.inl g), some (.inl (nI n))] [] (hp b0 n c m wk) = some (some (.inl (if u < 0 then -1 else cnv m g u.toNatClampNeg)), (hp b0 n c m wk)) := by
  change k_X7_count_4 b0 (r_X7_count b0 fu) _ _ _ = _
  by_cases h0 : u < 0
  · simp (maxSteps := 1000000) (disch := omega) [k_X7_count_4, k_X7_count_112, xfun, xok, xnth, xset, oCst, oILd, oALd, oISt, oInc, oAdd, oC1eq, oC2ge, oTab, oGetI, oGetR, oIal, oCallS, oRetI, g_h3_0, h2, Int32.le_refl, h0]
  · by_cases h1 : u.toNatClampNeg < 7
    · simp (maxSteps := 1000000) (disch := omega) [k_X7_count_4, xfun, xok, xnth, xset, oCst, oILd, oALd, oISt, oInc, oAdd, oC1eq, oC2ge, oTab, oGetI, oGetR, oIal, oCallS, oRetI, g_h3_0, h2, Int32.le_refl, h0, h1]
      generalize u.toNatClampNeg = k at h1 ⊢
      match k, h1 with
      | 0, _ => simp (maxSteps := 1000000) (disch := omega) [k_X7_count_0, k_X7_count_80, k_X7_count_85, k_X7_count_90, k_X7_count_95, k_X7_count_100, k_X7_count_105, k_X7_count_110, k_X7_count_112, k_X7_count_30, sw_X7_count_39, k_X7_count_4, xfun, xok, xnth, xset, oCst, oILd, oALd, oISt, oInc, oAdd, oC1eq, oC2ge, oTab, oGetI, oGetR, oIal, oCallS, oRetI, g_h3_0, g_h3_31, g_h3_32, g_h3_33, g_h3_34, g_h3_35, g_h3_4, an_h7, sn_h7, h2, cnv]
      | 1, _ => simp (maxSteps := 1000000) (disch := omega) [k_X7_count_0, k_X7_count_80, k_X7_count_85, k_X7_count_90, k_X7_count_95, k_X7_count_100, k_X7_count_105, k_X7_count_110, k_X7_count_112, k_X7_count_30, sw_X7_count_39, k_X7_count_4, xfun, xok, xnth, xset, oCst, oILd, oALd, oISt, oInc, oAdd, oC1eq, oC2ge, oTab, oGetI, oGetR, oIal, oCallS, oRetI, g_h3_0, g_h3_31, g_h3_32, g_h3_33, g_h3_34, g_h3_35, g_h3_4, an_h7, sn_h7, h2, cnv]
      | 2, _ => simp (maxSteps := 1000000) (disch := omega) [k_X7_count_0, k_X7_count_80, k_X7_count_85, k_X7_count_90, k_X7_count_95, k_X7_count_100, k_X7_count_105, k_X7_count_110, k_X7_count_112, k_X7_count_30, sw_X7_count_39, k_X7_count_4, xfun, xok, xnth, xset, oCst, oILd, oALd, oISt, oInc, oAdd, oC1eq, oC2ge, oTab, oGetI, oGetR, oIal, oCallS, oRetI, g_h3_0, g_h3_31, g_h3_32, g_h3_33, g_h3_34, g_h3_35, g_h3_4, an_h7, sn_h7, h2, cnv]
      | 3, _ => simp (maxSteps := 1000000) (disch := omega) [k_X7_count_0, k_X7_count_80, k_X7_count_85, k_X7_count_90, k_X7_count_95, k_X7_count_100, k_X7_count_105, k_X7_count_110, k_X7_count_112, k_X7_count_30, sw_X7_count_39, k_X7_count_4, xfun, xok, xnth, xset, oCst, oILd, oALd, oISt, oInc, oAdd, oC1eq, oC2ge, oTab, oGetI, oGetR, oIal, oCallS, oRetI, g_h3_0, g_h3_31, g_h3_32, g_h3_33, g_h3_34, g_h3_35, g_h3_4, an_h7, sn_h7, h2, cnv]
      | 4, _ => simp (maxSteps := 1000000) (disch := omega) [k_X7_count_0, k_X7_count_80, k_X7_count_85, k_X7_count_90, k_X7_count_95, k_X7_count_100, k_X7_count_105, k_X7_count_110, k_X7_count_112, k_X7_count_30, sw_X7_count_39, k_X7_count_4, xfun, xok, xnth, xset, oCst, oILd, oALd, oISt, oInc, oAdd, oC1eq, oC2ge, oTab, oGetI, oGetR, oIal, oCallS, oRetI, g_h3_0, g_h3_31, g_h3_32, g_h3_33, g_h3_34, g_h3_35, g_h3_4, an_h7, sn_h7, h2, cnv]
      | 5, _ => simp (maxSteps := 1000000) (disch := omega) [k_X7_count_0, k_X7_count_80, k_X7_count_85, k_X7_count_90, k_X7_count_95, k_X7_count_100, k_X7_count_105, k_X7_count_110, k_X7_count_112, k_X7_count_30, sw_X7_count_39, k_X7_count_4, xfun, xok, xnth, xset, oCst, oILd, oALd, oISt, oInc, oAdd, oC1eq, oC2ge, oTab, oGetI, oGetR, oIal, oCallS, oRetI, g_h3_0, g_h3_31, g_h3_32, g_h3_33, g_h3_34, g_h3_35, g_h3_4, an_h7, sn_h7, h2, cnv]
      | 6, _ => simp (maxSteps := 1000000) (disch := omega) [k_X7_count_0, k_X7_count_80, k_X7_count_85, k_X7_count_90, k_X7_count_95, k_X7_count_100, k_X7_count_105, k_X7_count_110, k_X7_count_112, k_X7_count_30, sw_X7_count_39, k_X7_count_4, xfun, xok, xnth, xset, oCst, oILd, oALd, oISt, oInc, oAdd, oC1eq, oC2ge, oTab, oGetI, oGetR, oIal, oCallS, oRetI, g_h3_0, g_h3_31, g_h3_32, g_h3_33, g_h3_34, g_h3_35, g_h3_4, an_h7, sn_h7, h2, cnv]
      | q + 7, h => omega
    · have e : cnv m g u.toNatClampNeg = -1 := by
        generalize u.toNatClampNeg = k at h1 ⊢
        match k, h1 with
        | 0, h => omega
        | 1, h => omega
        | 2, h => omega
        | 3, h => omega
        | 4, h => omega
        | 5, h => omega
        | 6, h => omega
        | q + 7, _ => rfl
      simp (maxSteps := 1000000) (disch := omega) [k_X7_count_4, k_X7_count_112, xfun, xok, xnth, xset, oCst, oILd, oALd, oISt, oInc, oAdd, oC1eq, oC2ge, oTab, oGetI, oGetR, oIal, oCallS, oRetI, g_h3_0, h2, Int32.le_refl, h0, h1, e]
theorem mf_countL {b0 n : Nat} {c m : xc} {wk : Nat → Int64} {u : Int32} (hn : n ≤ 12) (h2 : m 8 0 2 = nI n) : ∀ (r fu j : Nat), j + r = n → r < fu → r_X7_count b0 fu 0 [some (.inr (.inr (some (hA b0 3)))), some (.inl u), some (.inl (nI (gon (gM m) j))), some (.inl (nI j))] [] (hp b0 n c m wk) = some (some (.inl (if u < 0 then -1 else cnv m (nI (gon (gM m) n)) u.toNatClampNeg)), (hp b0 n c m wk)) := by
  intro r
  induction r with
  | zero =>
    intro fu j hj hf
    obtain ⟨fu, rfl⟩ : ∃ q, fu = q + 1 := ⟨fu - 1, by omega⟩
    obtain rfl : j = n := by omega
    exact mf_countE h2
  | succ r ih =>
    intro fu j hj hf
    obtain ⟨fu, rfl⟩ : ∃ q, fu = q + 1 := ⟨fu - 1, by omega⟩
    change k_X7_count_4 b0 (r_X7_count b0 fu) _ _ _ = _
    have hj12 : ¬ nI n ≤ nI j := nI_ge (by omega) (by omega)
    have IH := ih fu (j + 1) (by omega) (by omega)
    generalize (if u < 0 then -1 else cnv m (nI (gon (gM m) n)) u.toNatClampNeg) = res at IH ⊢
    by_cases h1 : m 0 j 8 ≤ 2
    · have e : gon (gM m) (j + 1) = gon (gM m) j + 1 := by
        show gon (gM m) j + _ = _
        rw [if_pos (show gM m j = true from decide_eq_true h1)]
      have ho : ∀ h, f_X7_isOver b0 [.inl (m 0 j 8)] h = some (some (.inl 0), h) := fun h => by rw [mf_isOver, if_pos h1]
      rw [e] at IH
      simp (maxSteps := 1000000) (disch := omega) [k_X7_count_4, k_X7_count_30, xfun, xok, xnth, xset, oCst, oILd, oALd, oISt, oInc, oAdd, oC1eq, oC2ge, oTab, oGetI, oGetR, oIal, oCallS, oRetI, g_h3_0, g_h3_4, an_h7, h2, hj12, ho, nI_add1, IH]
    · have e : gon (gM m) (j + 1) = gon (gM m) j := by
        show gon (gM m) j + _ = _
        rw [if_neg (by simp [gM]; exact k2_lt h1)]
        rfl
      have ho : ∀ h, f_X7_isOver b0 [.inl (m 0 j 8)] h = some (some (.inl 1), h) := fun h => by rw [mf_isOver, if_neg h1]
      rw [e] at IH
      simp (maxSteps := 1000000) (disch := omega) [k_X7_count_4, k_X7_count_30, xfun, xok, xnth, xset, oCst, oILd, oALd, oISt, oInc, oAdd, oC1eq, oC2ge, oTab, oGetI, oGetR, oIal, oCallS, oRetI, g_h3_0, g_h3_4, an_h7, h2, hj12, ho, nI_add1, IH]
theorem pr_count {b0 : Nat} {u : Int32} : Pr b0 (f_X6_count b0) (f_X7_count b0) [.inl u] := by
  intro n T c m wk hX hT
  obtain ⟨hn, hm, hc2, hJ⟩ := hX.n
  obtain ⟨W, A, ⟨M1, M2, M3, M4, M5, M6, M7, M8, M9, M10, M11, M12, M13⟩, hA⟩ := id hX
  have eg : gon (gC n c) n = gon (gM m) n := by
    refine gon_congr fun t ht => ?_
    have ho := (hJ t ht).over
    by_cases h : m 0 t 8 ≤ 2
    · have h3 : ¬ (c 0 t 8 = 3 ∨ c 0 t 8 = 4 ∨ c 0 t 8 = 5) := fun q => ho.mp q h
      rw [show gM m t = true from decide_eq_true h]
      exact decide_eq_true ⟨ht, h3⟩
    · have h3 := ho.mpr h
      rw [show gM m t = false from decide_eq_false h]
      exact decide_eq_false (fun q => q.2 h3)
  have ec : ∀ k, cnv m (nI (gon (gM m) n)) k = cnv c (nI (gon (gC n c) n)) k := by
    intro k
    rw [eg]
    match k with
    | 0 => exact M2.2.trans M2.1.symm
    | 1 => exact M4.2.trans M4.1.symm
    | 2 => exact (M5 6 (by decide)).symm
    | 3 => exact (M5 7 (by decide)).symm
    | 4 => exact (M5 8 (by decide)).symm
    | 5 => exact (M5 9 (by decide)).symm
    | 6 => rfl
    | q + 7 => rfl
  refine Pr.same hX (cf_count hn) ?_
  rw [← ec, ← mf_countL (b0 := b0) (c := c) (wk := wk) hn hm n 64 0 (by omega) (by omega)]
  rfl
theorem TJ.act {n t i z kd : Nat} {c m : xc} {a b : Int32} (hz : c 0 i 20 = nI z) (hz16 : z < 16) (hk : kd < 16) (h2 : kd = 2 → a ≤ 40) (h : TJ n c m t) : TJ n (u3 (u3 (u3 (u3 c 1 i z (nI kd)) 2 i z a) 3 i z b) 0 i 20 (nI (z + 1))) (u3 (u3 (u3 (u3 m 1 i z (nI kd)) 2 i z a) 3 i z b) 0 i 20 (nI (z + 1))) t := by
  by_cases e : t = i
  case neg => exact TJ_congr (fun a k _ => by simp [u3, e]) (fun a k _ => by simp [u3, e]) h
  subst e
  obtain ⟨s1, s2, ⟨z1, x1, y1, h1, h2', h3, h4, h5, h6⟩, s4, s5, s6, s7, s8, s9, s10⟩ := h
  have hzz : z1 = z := (nI_eq (by omega) (by omega)).mp (h4.symm.trans hz)
  subst hzz
  refine ⟨fun k a b d => u3_eq (u3_eq (u3_eq (u3_eq (s1 k a b d)))), fun a k h1 h2 => u3_eq (u3_eq (u3_eq (u3_eq (s2 a k h1 h2)))), ⟨z1 + 1, x1, y1, by omega, by omega, by omega, u3_same, by simpa [u3] using h5, by simpa [u3] using h6⟩, by simpa [u3] using s4, by simpa [RowOk, u3] using s5, by simpa [RowOk, u3] using s6, by simpa [BoxOk, u3] using s7, ⟨fun k hk16 => ?_, fun k hk16 => ?_⟩, by simpa [u3] using s9, by simpa [u3] using s10⟩
  · by_cases q : k = z1
    · exact ⟨kd, hk, by simp [u3, q]⟩
    · simpa [u3, q] using s8.1 k hk16
  · by_cases q : k = z1
    · intro hq
      have hq : nI kd = 2 := by simpa [u3, q] using hq
      have := h2 ((nI_eq (b := 2) (by omega) (by decide)).mp hq)
      simpa [u3, q] using this
    · simpa [u3, q] using s8.2 k hk16
set_option maxHeartbeats 8000000 in
theorem pr_act {b0 : Nat} {v x a b : Int32} : Pr b0 (f_X6_act b0) (f_X7_act b0) [.inl v, .inl x, .inl a, .inl b] := by
  intro n T c m wk hX hT
  obtain ⟨hn, hm, hc2, hJ⟩ := hX.n
  by_cases hv : 0 ≤ v ∧ v < nI n
  case neg =>
    refine Pr.same (v := -1) hX ?_ ?_
    · simp (maxSteps := 1000000) (disch := omega) [f_X6_act, k_X6_act_0, xfun, xok, xnth, xset, oCst, oILd, oALd, oASt, oC1eq, oC2ne, oC1ne, oC1lt, oC2gt, oC2le, oCnull, oGetI, oGetR, oCallV, oRetI, xis_h0, cf_findNo hn hv]
    · simp (maxSteps := 1000000) (disch := omega) [f_X7_act, k_X7_act_0, xfun, xok, xnth, xset, oCst, oILd, oALd, oISt, oAdd, oSub, oMul, oDup2, oC1eq, oC2ne, oC1ne, oC2le, oGetR, oIal, oZal, oIas, oCallV, oCallS, oRetI, xis_h3, mf_isTaskNo hn hm hv]
  obtain ⟨i, hib, rfl⟩ := nI_of (x := v) (k2_nlt hv.1)
  have hi : i < n := (nI_ltI hib (by omega)).mp hv.2
  have e8 := ((hJ i hi).1 8 (by decide) (by decide) (by decide)).symm
  have e14 := ((hJ i hi).1 14 (by decide) (by decide) (by decide)).symm
  have e20 := ((hJ i hi).1 20 (by decide) (by decide) (by decide)).symm
  by_cases hx : 0 ≤ x ∧ x ≤ 15
  case neg =>
    have hin : ∀ h, f_X7_in b0 [.inl x, .inl 0, .inl 15] h = some (some (.inl 0), h) := fun h => by rw [mf_in, if_neg hx]
    refine Pr.same (v := -1) hX ?_ ?_
    · by_cases hx0 : x < 0
      · simp (maxSteps := 1000000) (disch := omega) [f_X6_act, k_X6_act_0, xfun, xok, xnth, xset, oCst, oILd, oALd, oASt, oC1eq, oC2ne, oC1ne, oC1lt, oC2gt, oC2le, oCnull, oGetI, oGetR, oCallV, oRetI, xis_h0, cf_findYes hn hi, hx0]
      · have hx1 : ¬ x ≤ 15 := fun q => hx ⟨k2_le hx0, q⟩
        simp (maxSteps := 1000000) (disch := omega) [f_X6_act, k_X6_act_0, xfun, xok, xnth, xset, oCst, oILd, oALd, oASt, oC1eq, oC2ne, oC1ne, oC1lt, oC2gt, oC2le, oCnull, oGetI, oGetR, oCallV, oRetI, xis_h0, cf_findYes hn hi, hx0, hx1, k2_lt hx1]
    · simp (maxSteps := 1000000) (disch := omega) [f_X7_act, k_X7_act_0, xfun, xok, xnth, xset, oCst, oILd, oALd, oISt, oAdd, oSub, oMul, oDup2, oC1eq, oC2ne, oC1ne, oC2le, oGetR, oIal, oZal, oIas, oCallV, oCallS, oRetI, xis_h3, mf_isTaskYes hn hm hi, hin]
  have hin : ∀ h, f_X7_in b0 [.inl x, .inl 0, .inl 15] h = some (some (.inl 1), h) := fun h => by rw [mf_in, if_pos hx]
  have hx0 : ¬ x < 0 := k2_nlt hx.1
  have hx15 : ¬ 15 < x := k2_nlt hx.2
  by_cases h2 : x = 2 ∧ ¬ a ≤ 40
  · obtain ⟨rfl, h2⟩ := h2
    refine Pr.same (v := -1) hX ?_ ?_
    · simp (maxSteps := 1000000) (disch := omega) [f_X6_act, k_X6_act_0, xfun, xok, xnth, xset, oCst, oILd, oALd, oASt, oC1eq, oC2ne, oC1ne, oC1lt, oC2gt, oC2le, oCnull, oGetI, oGetR, oCallV, oRetI, xis_h0, cf_findYes hn hi, hx0, hx15, h2]
    · simp (maxSteps := 1000000) (disch := omega) [f_X7_act, k_X7_act_0, xfun, xok, xnth, xset, oCst, oILd, oALd, oISt, oAdd, oSub, oMul, oDup2, oC1eq, oC2ne, oC1ne, oC2le, oGetR, oIal, oZal, oIas, oCallV, oCallS, oRetI, xis_h3, mf_isTaskYes hn hm hi, hin, h2]
  have hcl : f_X6_act b0 [.inr (.inr (some (hA b0 0))), .inl (nI i), .inl x, .inl a, .inl b] (hp b0 n c m wk) = k_X6_act_35 b0 [some (.inr (.inr (some (hA b0 0)))), some (.inl (nI i)), some (.inl x), some (.inl a), some (.inl b), some (.inr (.inr (some (tA b0 i 0))))] [] (hp b0 n c m wk) := by
    by_cases q : x = 2
    · subst q
      have h2 : a ≤ 40 := Classical.not_not.mp (fun r => h2 ⟨rfl, r⟩)
      simp (maxSteps := 1000000) (disch := omega) [f_X6_act, k_X6_act_0, xfun, xok, xnth, xset, oCst, oILd, oALd, oASt, oC1eq, oC2ne, oC1ne, oC1lt, oC2gt, oC2le, oCnull, oGetI, oGetR, oCallV, oRetI, xis_h0, cf_findYes hn hi, hx0, hx15, h2]
    · simp (maxSteps := 1000000) (disch := omega) [f_X6_act, k_X6_act_0, xfun, xok, xnth, xset, oCst, oILd, oALd, oASt, oC1eq, oC2ne, oC1ne, oC1lt, oC2gt, oC2le, oCnull, oGetI, oGetR, oCallV, oRetI, xis_h0, cf_findYes hn hi, hx0, hx15, q]
  have hmo : ∀ c0 : xc, f_X7_act b0 [.inr (.inr (some (hA b0 3))), .inl (nI i), .inl x, .inl a, .inl b] (hp b0 n c0 m wk) = k_X7_act_31 b0 [some (.inr (.inr (some (hA b0 3)))), some (.inl (nI i)), some (.inl x), some (.inl a), some (.inl b), none] [] (hp b0 n c0 m wk) := by
    intro c0
    by_cases q : x = 2
    · subst q
      have h2 : a ≤ 40 := Classical.not_not.mp (fun r => h2 ⟨rfl, r⟩)
      simp (maxSteps := 1000000) (disch := omega) [f_X7_act, k_X7_act_0, xfun, xok, xnth, xset, oCst, oILd, oALd, oISt, oAdd, oSub, oMul, oDup2, oC1eq, oC2ne, oC1ne, oC2le, oGetR, oIal, oZal, oIas, oCallV, oCallS, oRetI, xis_h3, mf_isTaskYes hn hm hi, hin, h2]
    · simp (maxSteps := 1000000) (disch := omega) [f_X7_act, k_X7_act_0, xfun, xok, xnth, xset, oCst, oILd, oALd, oISt, oAdd, oSub, oMul, oDup2, oC1eq, oC2ne, oC1ne, oC2le, oGetR, oIal, oZal, oIas, oCallV, oCallS, oRetI, xis_h3, mf_isTaskYes hn hm hi, hin, q]
  by_cases h8 : c 0 i 8 = 0
  case neg =>
    have h8m : ¬ m 0 i 8 = 0 := by rw [e8]; exact h8
    refine Pr.same (v := -2) hX (hcl.trans ?_) ((hmo c).trans ?_)
    · simp (maxSteps := 1000000) (disch := omega) [k_X6_act_35, xfun, xok, xnth, xset, oCst, oILd, oALd, oASt, oC1eq, oC2ne, oC1ne, oC1lt, oC2gt, oC2le, oCnull, oGetI, oGetR, oCallV, oRetI, g_t0_8, g_t0_14, g_t0_3, xis_t1, xis_h0, hi, h8]
    · simp (maxSteps := 1000000) (disch := omega) [k_X7_act_31, xfun, xok, xnth, xset, oCst, oILd, oALd, oISt, oAdd, oSub, oMul, oDup2, oC1eq, oC2ne, oC1ne, oC2le, oGetR, oIal, oZal, oIas, oCallV, oCallS, oRetI, g_h3_4, an_h7, sn_h7, g_h3_26, an_h29, sn_h29, g_h3_5, an_h8, sn_h8, g_h3_6, an_h9, sn_h9, g_h3_7, an_h10, sn_h10, g_h3_8, an_h11, sn_h11, xis_h3, h8m]
  have h8m : m 0 i 8 = 0 := by rw [e8]; exact h8
  by_cases h14 : c 0 i 14 = 0
  case neg =>
    have h14m : ¬ m 0 i 14 = 0 := by rw [e14]; exact h14
    refine Pr.same (v := -2) hX (hcl.trans ?_) ((hmo c).trans ?_)
    · simp (maxSteps := 1000000) (disch := omega) [k_X6_act_35, xfun, xok, xnth, xset, oCst, oILd, oALd, oASt, oC1eq, oC2ne, oC1ne, oC1lt, oC2gt, oC2le, oCnull, oGetI, oGetR, oCallV, oRetI, g_t0_8, g_t0_14, g_t0_3, xis_t1, xis_h0, hi, h8, h14]
    · simp (maxSteps := 1000000) (disch := omega) [k_X7_act_31, xfun, xok, xnth, xset, oCst, oILd, oALd, oISt, oAdd, oSub, oMul, oDup2, oC1eq, oC2ne, oC1ne, oC2le, oGetR, oIal, oZal, oIas, oCallV, oCallS, oRetI, g_h3_4, an_h7, sn_h7, g_h3_26, an_h29, sn_h29, g_h3_5, an_h8, sn_h8, g_h3_6, an_h9, sn_h9, g_h3_7, an_h10, sn_h10, g_h3_8, an_h11, sn_h11, xis_h3, h8m, h14m]
  have h14m : m 0 i 14 = 0 := by rw [e14]; exact h14
  obtain ⟨z, x1, y1, hz16, -, -, hz, -, -⟩ := (hJ i hi).2.2.1
  have hzm : m 0 i 20 = nI z := e20.trans hz
  by_cases h16 : z < 16
  · obtain ⟨kd, hkb, rfl⟩ := nI_of hx0
    have hk : kd < 16 := by
      have := (nI_leI (b := 15) hkb (by decide)).mp hx.2
      omega
    have q1 : ¬ c 0 i 20 < 0 := by rw [hz]; exact nI_pos (by omega)
    have q2 : c 0 i 20 < 16 := by rw [hz]; exact nI_lt (b := 16) h16 (by decide)
    have q3 : ¬ nI z = 16 := fun q => by rw [show (16 : Int32) = nI 16 from rfl, nI_eq (by omega) (by decide)] at q; omega
    have ha := cf_actOk (b0 := b0) (c := c) (m := m) (wk := wk) (x1 := nI kd) (x2 := a) (x3 := b) hi q1 q2
    rw [hz, nI_clamp (by omega), nI_add1] at ha
    have h40 : kd = 2 → a ≤ 40 := fun q => Classical.not_not.mp (fun r => h2 ⟨by rw [q]; rfl, r⟩)
    refine ⟨nI z, n, T, u3 (u3 (u3 (u3 c 1 i z (nI kd)) 2 i z a) 3 i z b) 0 i 20 (nI (z + 1)), u3 (u3 (u3 (u3 m 1 i z (nI kd)) 2 i z a) 3 i z b) 0 i 20 (nI (z + 1)), wk, hcl.trans ?_, (hmo _).trans ?_, hX.fr (fun t ht => (hJ t ht).act hz h16 hk h40) (fun k => by simp [u3]) (fun k => by simp [u3]) (fun k => by simp [u3]) (fun k => by simp [u3]) (fun t => by simp [u3]) (fun t ht => by simp [u3]) (fun t ht h1 => ⟨by simpa [u3] using h1, by simp [u3]⟩) (fun a t k h1 h2 => ?_), by omega⟩
    · simp (maxSteps := 1000000) (disch := omega) [k_X6_act_35, xfun, xok, xnth, xset, oCst, oILd, oALd, oASt, oC1eq, oC2ne, oC1ne, oC1lt, oC2gt, oC2le, oCnull, oGetI, oGetR, oCallV, oRetI, g_t0_8, g_t0_14, g_t0_3, xis_t1, xis_h0, xis_t0, xis_t1, g_t0_3, hi, h8, h14, ha]
    · simp (maxSteps := 1000000) (disch := omega) [k_X7_act_31, xfun, xok, xnth, xset, oCst, oILd, oALd, oISt, oAdd, oSub, oMul, oDup2, oC1eq, oC2ne, oC1ne, oC2le, oGetR, oIal, oZal, oIas, oCallV, oCallS, oRetI, g_h3_4, an_h7, sn_h7, g_h3_26, an_h29, sn_h29, g_h3_5, an_h8, sn_h8, g_h3_6, an_h9, sn_h9, g_h3_7, an_h10, sn_h10, g_h3_8, an_h11, sn_h11, xis_h3, ml16, nI_add, dv16, md16, Nat.mod_eq_of_lt, h8m, h14m, hzm, q3, nI_add1, nI_pred, u3_a, u3_same]
    · have q : t ≠ i := by omega
      exact ⟨by simp [u3, q], by simp [u3, q]⟩
  · have hz16 : z = 16 := by omega
    subst hz16
    have q2 : ¬ c 0 i 20 < 16 := by rw [hz]; decide
    refine Pr.same (v := -3) hX (hcl.trans ?_) ((hmo c).trans ?_)
    · simp (maxSteps := 1000000) (disch := omega) [k_X6_act_35, xfun, xok, xnth, xset, oCst, oILd, oALd, oASt, oC1eq, oC2ne, oC1ne, oC1lt, oC2gt, oC2le, oCnull, oGetI, oGetR, oCallV, oRetI, g_t0_8, g_t0_14, g_t0_3, xis_t1, xis_h0, xis_t0, xis_t1, g_t0_3, hi, h8, h14, cf_actFull hi q2]
    · simp (maxSteps := 1000000) (disch := omega) [k_X7_act_31, xfun, xok, xnth, xset, oCst, oILd, oALd, oISt, oAdd, oSub, oMul, oDup2, oC1eq, oC2ne, oC1ne, oC2le, oGetR, oIal, oZal, oIas, oCallV, oCallS, oRetI, g_h3_4, an_h7, sn_h7, g_h3_26, an_h29, sn_h29, g_h3_5, an_h8, sn_h8, g_h3_6, an_h9, sn_h9, g_h3_7, an_h10, sn_h10, g_h3_8, an_h11, sn_h11, xis_h3, h8m, h14m, hzm, show nI 16 = 16 from rfl]

