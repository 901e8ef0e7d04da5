theorem lgc {x y : Int64} : lg_cmp x y < 0 ↔ x < y := by
  unfold lg_cmp
  by_cases h1 : x > y
  · rw [if_pos h1]
    exact ⟨fun h => absurd h (by decide), fun h => absurd h (Int64.not_lt.mpr (Int64.le_of_lt h1))⟩
  · rw [if_neg h1]
    by_cases h2 : x = y
    · rw [if_pos h2]
      exact ⟨fun h => absurd h (by decide), fun h => absurd h (by rw [h2]; exact Int64.lt_irrefl)⟩
    · rw [if_neg h2]
      exact ⟨fun _ => Int64.lt_of_le_of_ne (Int64.not_lt.mp h1) h2, fun _ => by decide⟩
theorem wk_lt {T : Nat} {w : Int32} {x : Int64} (hT : T < 1000000) (h0 : 0 ≤ w) (h : x + 1 = (nI T).toInt64 + w.toInt64) : x < (nI T).toInt64 ↔ w ≤ 0 := by
  have e1 : ((nI T).toInt64).toInt = T := by rw [Int32.toInt_toInt64, nI_toInt (by omega)]
  have e2 : w.toInt64.toInt = w.toInt := Int32.toInt_toInt64 w
  have e3 := congrArg Int64.toInt h
  rw [Int64.toInt_add, Int64.toInt_add, e1, e2] at e3
  have e4 : (1 : Int64).toInt = 1 := by decide
  have e5 : (0 : Int32).toInt = 0 := by decide
  rw [e4] at e3
  have b1 := Int32.le_iff_toInt_le.mp h0
  rw [e5] at b1
  have b2 := w.toInt_lt
  have b3 := x.le_toInt
  have b4 := x.toInt_lt
  rw [Int64.lt_iff_toInt_lt, Int32.le_iff_toInt_le, e1, e5]
  simp only [Int.bmod_def] at e3
  omega
theorem wk_dec {T : Nat} {w : Int32} {x : Int64} (hT : T < 1000000) (h0 : ¬ w ≤ 0) (h : x + 1 = (nI T).toInt64 + w.toInt64) : 0 ≤ w - 1 ∧ x = (nI T).toInt64 + (w - 1).toInt64 := by
  have e1 : ((nI T).toInt64).toInt = T := by rw [Int32.toInt_toInt64, nI_toInt (by omega)]
  have e2 : w.toInt64.toInt = w.toInt := Int32.toInt_toInt64 w
  have e3 := congrArg Int64.toInt h
  rw [Int64.toInt_add, Int64.toInt_add, e1, e2] at e3
  have e4 : (1 : Int64).toInt = 1 := by decide
  have e5 : (0 : Int32).toInt = 0 := by decide
  have e6 : (1 : Int32).toInt = 1 := by decide
  rw [e4] at e3
  have b1 : ¬ w.toInt ≤ 0 := fun q => h0 (Int32.le_iff_toInt_le.mpr (by rw [e5]; exact q))
  have b2 := w.toInt_lt
  have b3 := x.le_toInt
  have b4 := x.toInt_lt
  have e7 : (w - 1).toInt = w.toInt - 1 := by
    rw [Int32.toInt_sub, e6]
    simp only [Int.bmod_def]
    omega
  have e8 : (w - 1).toInt64.toInt = w.toInt - 1 := (Int32.toInt_toInt64 (w - 1)).trans e7
  refine ⟨Int32.le_iff_toInt_le.mpr (by rw [e5, e7]; omega), Int64.toInt_inj.mp ?_⟩
  rw [Int64.toInt_add, e1, e8]
  simp only [Int.bmod_def] at e3 ⊢
  omega
theorem wk_end {T : Nat} {w : Int32} {x : Int64} (hT : T < 1000000) (h : x = (nI T).toInt64 + w.toInt64) : x + 1 = (nI (T + 1)).toInt64 + w.toInt64 := by
  have e : (nI (T + 1)).toInt64 = (nI T).toInt64 + 1 := by
    refine Int64.toInt_inj.mp ?_
    have e4 : (1 : Int64).toInt = 1 := by decide
    rw [Int64.toInt_add, Int32.toInt_toInt64, Int32.toInt_toInt64, nI_toInt (by omega), nI_toInt (by omega), e4]
    simp only [Int.bmod_def]
    omega
  rw [h, e, Int64.add_assoc, Int64.add_comm w.toInt64 1, Int64.add_assoc]
/-- between two turns; as a turn begins, the first j tasks were looked at -/
def XT (W n T A j tc : Nat) (c m : xc) (wk : Nat → Int64) : Prop :=
  n ≤ 12 ∧ (c 8 0 2 = nI n ∧ m 8 0 2 = nI n) ∧ (∀ t, t < n → TJ n c m t) ∧ (c 8 0 5 = nI tc ∧ m 8 0 5 = nI T) ∧
  (∀ k, (k = 3 ∨ k = 4 ∨ k = 6 ∨ k = 7 ∨ k = 8 ∨ k = 9) → c 8 0 k = m 8 0 k) ∧ (∀ k, c 9 0 k = m 9 0 k) ∧
  (1 ≤ W ∧ W ≤ 4 ∧ c 8 0 4 = nI W) ∧ m 8 0 37 = 0 ∧
  (∀ t, t < n → ∃ q, q ≤ T ∧ c 0 t 13 = nI q ∧ (t < j → m 0 t 13 = 0)) ∧
  (∀ t, t < n → c 0 t 8 = 1 → 0 ≤ c 0 t 12 ∧ (t < j → wk t = (nI T).toInt64 + (c 0 t 12).toInt64) ∧ (j ≤ t → wk t + 1 = (nI T).toInt64 + (c 0 t 12).toInt64)) ∧
  c 8 0 3 = nI (cnt c n) ∧
  (∀ a t k, n ≤ t → a ≤ 7 → c a t k = 0 ∧ m a t k = 0) ∧
  c 8 0 6 = nI A
theorem XT.step {W n T A j tc : Nat} {c m c1 m1 : xc} {wk : Nat → Int64} (hX : XT W n T A j tc c m wk) (hj : j < n) (hc : ∀ a t k, ¬ (a = 0 ∧ t = j ∧ (k = 8 ∨ k = 12)) → c1 a t k = c a t k) (hm : ∀ a t k, ¬ (a = 0 ∧ t = j ∧ (k = 8 ∨ k = 13)) → m1 a t k = m a t k) (hJ : ∀ t, t < n → TJ n c1 m1 t) (h3 : c1 0 j 8 = 3 ↔ c 0 j 8 = 3) (h13 : m1 0 j 13 = 0) (hw : c1 0 j 8 = 1 → 0 ≤ c1 0 j 12 ∧ wk j = (nI T).toInt64 + (c1 0 j 12).toInt64) : XT W n T A (j + 1) tc c1 m1 wk := by
  obtain ⟨M1, M2, M3, M4, M5, M6, M7, M8, M9, M10, M11, M12, M13⟩ := hX
  have c8 : ∀ k, c1 8 0 k = c 8 0 k := fun k => hc 8 0 k (by omega)
  have m8 : ∀ k, m1 8 0 k = m 8 0 k := fun k => hm 8 0 k (by omega)
  refine ⟨M1, ⟨(c8 2).trans M2.1, (m8 2).trans M2.2⟩, hJ, ⟨(c8 5).trans M4.1, (m8 5).trans M4.2⟩, fun k hk => ?_, fun k => ?_, ⟨M7.1, M7.2.1, (c8 4).trans M7.2.2⟩, (m8 37).trans M8, fun t ht => ?_, fun t ht h1 => ?_, ?_, fun a t k h1 h2 => ?_, (c8 6).trans M13⟩
  · rw [c8, m8]; exact M5 k hk
  · rw [hc 9 0 k (by omega), hm 9 0 k (by omega)]; exact M6 k
  · obtain ⟨q, q1, q2, q3⟩ := M9 t ht
    refine ⟨q, q1, (hc 0 t 13 (by omega)).trans q2, fun h => ?_⟩
    by_cases e : t = j
    · rw [e]; exact h13
    · rw [hm 0 t 13 (by omega)]; exact q3 (by omega)
  · by_cases e : t = j
    · subst e
      obtain ⟨w1, w2⟩ := hw h1
      exact ⟨w1, fun _ => w2, fun h => absurd h (by omega)⟩
    · rw [hc 0 t 8 (by omega)] at h1
      rw [hc 0 t 12 (by omega)]
      obtain ⟨w1, w2, w3⟩ := M10 t ht h1
      exact ⟨w1, fun h => w2 (by omega), fun h => w3 (by omega)⟩
  · rw [c8, M11]
    congr 1
    refine (cnt_congr fun t ht => ?_).symm
    by_cases e : t = j
    · subst e; exact h3
    · rw [hc 0 t 8 (by omega)]
  · rw [hc a t k (by omega), hm a t k (by omega)]; exact M12 a t k h1 h2
theorem TJ.lastm {n t i : Nat} {c m : xc} {v : Int32} (h : TJ n c m t) : TJ n c (u3 m 0 i 13 v) t := by
  have := h.last (i := i) (v := c 0 i 13) (v' := v)
  rw [u3_self rfl] at this
  exact this
def wkc (c : xc) (i : Nat) : xc := if c 0 i 8 = 1 ∧ ¬ c 0 i 12 ≤ 0 then u3 c 0 i 12 (c 0 i 12 - 1) else if c 0 i 8 = 1 ∨ (c 0 i 8 = 2 ∧ ¬ c 0 i 21 ≤ 0) then u3 c 0 i 8 0 else c
theorem cwk_step {b0 n i : Nat} {c m : xc} {wk : Nat → Int64} {fu : Nat} {l2 : Option xV} (hn : n ≤ 12) (hi : i < n) : r_X6_wakeTasks b0 (fu + 1) 0 [some (.inr (.inr (some (hA b0 0)))), some (.inl (nI i)), l2] [] (hp b0 n c m wk) = r_X6_wakeTasks b0 fu 0 [some (.inr (.inr (some (hA b0 0)))), some (.inl (nI (i + 1))), some (.inr (.inr (some (tA b0 i 0))))] [] (hp b0 n (wkc c i) m wk) := by
  have hj12 : ¬ nI 12 ≤ nI i := nI_ge (by omega) (by decide)
  have hw : f_X5_wake b0 [.inr (.inr (some (tA b0 i 0)))] (hp b0 n c m wk) = some (none, hp b0 n (wkc c i) m wk) := cf_wake hi
  change k_X6_wakeTasks_2 b0 (r_X6_wakeTasks b0 fu) _ _ _ = _
  simp (disch := omega) [k_X6_wakeTasks_2, xfun, xok, xnth, xset, oCst, oILd, oALd, oISt, oASt, oInc, oC2ge, oCnull, oGetR, oQal, oLen, oCallV, oRetV, g_h0_0, l_h1, an_h1, xis_t0, hj12, hi, hw, nI_add1]
theorem cwk_end {b0 n : Nat} {c m : xc} {wk : Nat → Int64} (hn : n ≤ 12) : ∀ (r fu j : Nat) (l2 : Option xV), n ≤ j → j + r = 12 → r < fu → r_X6_wakeTasks b0 fu 0 [some (.inr (.inr (some (hA b0 0)))), some (.inl (nI j)), l2] [] (hp b0 n c m wk) = some (none, (hp b0 n c m wk)) := by
  intro r
  induction r with
  | zero =>
    intro fu j l2 hnj hj hf
    obtain ⟨fu, rfl⟩ : ∃ q, fu = q + 1 := ⟨fu - 1, by omega⟩
    obtain rfl : j = 12 := by omega
    change k_X6_wakeTasks_2 b0 (r_X6_wakeTasks b0 fu) _ _ _ = _
    simp (disch := omega) [k_X6_wakeTasks_2, xfun, xok, xnth, xset, oCst, oILd, oALd, oISt, oASt, oInc, oC2ge, oCnull, oGetR, oQal, oLen, oCallV, oRetV, g_h0_0, l_h1, an_h1, xis_t0, Int32.le_refl]
  | succ r ih =>
    intro fu j l2 hnj hj hf
    obtain ⟨fu, rfl⟩ : ∃ q, fu = q + 1 := ⟨fu - 1, by omega⟩
    have hj12 : ¬ nI 12 ≤ nI j := nI_ge (by omega) (by decide)
    have hnn : ¬ j < n := by omega
    change k_X6_wakeTasks_2 b0 (r_X6_wakeTasks b0 fu) _ _ _ = _
    have IH := fun l2 => ih fu (j + 1) l2 (by omega) (by omega) (by omega)
    simp (disch := omega) [k_X6_wakeTasks_2, xfun, xok, xnth, xset, oCst, oILd, oALd, oISt, oASt, oInc, oC2ge, oCnull, oGetR, oQal, oLen, oCallV, oRetV, g_h0_0, l_h1, an_h1, xis_t0, hj12, hnn, nI_add1, IH]
theorem mwk_step {b0 n i : Nat} {c m : xc} {wk : Nat → Int64} {fu : Nat} {l2 : Option xV} (hn : n ≤ 12) (hi : i < n) (h2 : m 8 0 2 = nI n) : r_X7_oneTurn b0 (fu + 1) 0 [some (.inr (.inr (some (hA b0 3)))), some (.inl (nI i)), l2] [] (hp b0 n c m wk) = r_X7_oneTurn b0 fu 0 [some (.inr (.inr (some (hA b0 3)))), some (.inl (nI (i + 1))), some (.inl (if (m 0 i 8 = 1 ∧ wk i < (m 8 0 5).toInt64) ∨ (m 0 i 8 = 2 ∧ ¬ m 0 i 21 ≤ 0) then 1 else 0))] [] (hp b0 n c (if (m 0 i 8 = 1 ∧ wk i < (m 8 0 5).toInt64) ∨ (m 0 i 8 = 2 ∧ ¬ m 0 i 21 ≤ 0) then u3 (u3 m 0 i 13 0) 0 i 8 0 else u3 m 0 i 13 0) wk) := by
  have hjn : ¬ nI n ≤ nI i := nI_ge (by omega) (by omega)
  have e8 : u3 m 0 i 13 0 0 i 8 = m 0 i 8 := u3_k (by decide)
  have e21 : u3 m 0 i 13 0 0 i 21 = m 0 i 21 := u3_k (by decide)
  have e5 : u3 m 0 i 13 0 8 0 5 = m 8 0 5 := u3_a (by decide) _ _
  have es : ∀ q : Int32, m 0 i 8 = q → u3 (u3 m 0 i 13 0) 0 i 8 q = u3 m 0 i 13 0 := fun q hq => u3_self (e8.trans hq)
  change k_X7_oneTurn_2 b0 (r_X7_oneTurn b0 fu) _ _ _ = _
  by_cases h8 : m 0 i 8 = 1
  · by_cases hw : wk i < (m 8 0 5).toInt64
    · simp (maxSteps := 1000000) (disch := omega) [k_X7_oneTurn_2, k_X7_oneTurn_42, k_X7_oneTurn_61, k_X7_oneTurn_65, k_X7_oneTurn_66, xfun, xok, xnth, xset, oCst, oILd, oALd, oISt, oInc, oAdd, oI2L, oLcmp, oDup, oDup2, oC1eq, oC2ne, oC1ne, oC1lt, oC2ge, oC1le, oGetI, oGetR, oPutI, oIal, oZal, oJal, oIas, oZas, oCallV, oRetV, g_h3_4, an_h7, sn_h7, g_h3_19, an_h22, sn_h22, g_h3_0, g_h3_27, an_h30, sn_h30, g_h3_21, an_h24, sn_h24, g_h3_31, g_h3_30, g_h3_3, an_h6, sn_h6, g_h3_9, an_h12, sn_h12, g_h3_5, an_h8, sn_h8, p_h3_31, xis_h3, h2, hjn, e8, e21, e5, h8, lgc, hw, nI_add1]
    · simp (maxSteps := 1000000) (disch := omega) [k_X7_oneTurn_2, k_X7_oneTurn_42, k_X7_oneTurn_61, k_X7_oneTurn_65, k_X7_oneTurn_66, xfun, xok, xnth, xset, oCst, oILd, oALd, oISt, oInc, oAdd, oI2L, oLcmp, oDup, oDup2, oC1eq, oC2ne, oC1ne, oC1lt, oC2ge, oC1le, oGetI, oGetR, oPutI, oIal, oZal, oJal, oIas, oZas, oCallV, oRetV, g_h3_4, an_h7, sn_h7, g_h3_19, an_h22, sn_h22, g_h3_0, g_h3_27, an_h30, sn_h30, g_h3_21, an_h24, sn_h24, g_h3_31, g_h3_30, g_h3_3, an_h6, sn_h6, g_h3_9, an_h12, sn_h12, g_h3_5, an_h8, sn_h8, p_h3_31, xis_h3, h2, hjn, e8, e21, e5, h8, lgc, hw, nI_add1, es 1 h8]
  · by_cases h8b : m 0 i 8 = 2
    · by_cases h21 : m 0 i 21 ≤ 0
      · simp (maxSteps := 1000000) (disch := omega) [k_X7_oneTurn_2, k_X7_oneTurn_42, k_X7_oneTurn_61, k_X7_oneTurn_65, k_X7_oneTurn_66, xfun, xok, xnth, xset, oCst, oILd, oALd, oISt, oInc, oAdd, oI2L, oLcmp, oDup, oDup2, oC1eq, oC2ne, oC1ne, oC1lt, oC2ge, oC1le, oGetI, oGetR, oPutI, oIal, oZal, oJal, oIas, oZas, oCallV, oRetV, g_h3_4, an_h7, sn_h7, g_h3_19, an_h22, sn_h22, g_h3_0, g_h3_27, an_h30, sn_h30, g_h3_21, an_h24, sn_h24, g_h3_31, g_h3_30, g_h3_3, an_h6, sn_h6, g_h3_9, an_h12, sn_h12, g_h3_5, an_h8, sn_h8, p_h3_31, xis_h3, h2, hjn, e8, e21, e5, h8b, h21, nI_add1, es 2 h8b]
      · simp (maxSteps := 1000000) (disch := omega) [k_X7_oneTurn_2, k_X7_oneTurn_42, k_X7_oneTurn_61, k_X7_oneTurn_65, k_X7_oneTurn_66, xfun, xok, xnth, xset, oCst, oILd, oALd, oISt, oInc, oAdd, oI2L, oLcmp, oDup, oDup2, oC1eq, oC2ne, oC1ne, oC1lt, oC2ge, oC1le, oGetI, oGetR, oPutI, oIal, oZal, oJal, oIas, oZas, oCallV, oRetV, g_h3_4, an_h7, sn_h7, g_h3_19, an_h22, sn_h22, g_h3_0, g_h3_27, an_h30, sn_h30, g_h3_21, an_h24, sn_h24, g_h3_31, g_h3_30, g_h3_3, an_h6, sn_h6, g_h3_9, an_h12, sn_h12, g_h3_5, an_h8, sn_h8, p_h3_31, xis_h3, h2, hjn, e8, e21, e5, h8b, h21, nI_add1]
    · simp (maxSteps := 1000000) (disch := omega) [k_X7_oneTurn_2, k_X7_oneTurn_42, k_X7_oneTurn_61, k_X7_oneTurn_65, k_X7_oneTurn_66, xfun, xok, xnth, xset, oCst, oILd, oALd, oISt, oInc, oAdd, oI2L, oLcmp, oDup, oDup2, oC1eq, oC2ne, oC1ne, oC1lt, oC2ge, oC1le, oGetI, oGetR, oPutI, oIal, oZal, oJal, oIas, oZas, oCallV, oRetV, g_h3_4, an_h7, sn_h7, g_h3_19, an_h22, sn_h22, g_h3_0, g_h3_27, an_h30, sn_h30, g_h3_21, an_h24, sn_h24, g_h3_31, g_h3_30, g_h3_3, an_h6, sn_h6, g_h3_9, an_h12, sn_h12, g_h3_5, an_h8, sn_h8, p_h3_31, xis_h3, h2, hjn, e8, e21, e5, h8, h8b, nI_add1, es _ rfl]
theorem mwk_end {b0 n : Nat} {c m : xc} {wk : Nat → Int64} {fu : Nat} {l2 : Option xV} (h2 : m 8 0 2 = nI n) : r_X7_oneTurn b0 (fu + 1) 0 [some (.inr (.inr (some (hA b0 3)))), some (.inl (nI n)), l2] [] (hp b0 n c m wk) = r_X7_oneTurn b0 fu 1 [some (.inr (.inr (some (hA b0 3)))), some (.inl (nI 0)), l2] [] (hp b0 n c m wk) := by
  change k_X7_oneTurn_2 b0 (r_X7_oneTurn b0 fu) _ _ _ = _
  simp [k_X7_oneTurn_2, xfun, xok, xnth, xset, oCst, oILd, oALd, oISt, oInc, oAdd, oI2L, oLcmp, oDup, oDup2, oC1eq, oC2ne, oC1ne, oC1lt, oC2ge, oC1le, oGetI, oGetR, oPutI, oIal, oZal, oJal, oIas, oZas, oCallV, oRetV, g_h3_0, h2, Int32.le_refl, nI_0]
/-- one task as a turn begins -/
theorem XT.wake1 {b0 W n T A j : Nat} {c m : xc} {wk : Nat → Int64} (hT : T < 1000000) (hX : XT W n T A j (T + 1) c m wk) (hj : j < n) : XT W n T A (j + 1) (T + 1) (wkc c j) (if (m 0 j 8 = 1 ∧ wk j < (m 8 0 5).toInt64) ∨ (m 0 j 8 = 2 ∧ ¬ m 0 j 21 ≤ 0) then u3 (u3 m 0 j 13 0) 0 j 8 0 else u3 m 0 j 13 0) wk := by
  obtain ⟨M1, M2, M3, M4, M5, M6, M7, M8, M9, M10, M11, M12, M13⟩ := id hX
  have e8 := ((M3 j hj).1 8 (by decide) (by decide) (by decide)).symm
  have e21 := ((M3 j hj).1 21 (by decide) (by decide) (by decide)).symm
  rw [M4.2, e8, e21]
  have hc0 : ∀ (z q : Nat) (v : Int32), (q = 8 ∨ q = 12) → ∀ a t k, ¬ (a = 0 ∧ t = j ∧ (k = 8 ∨ k = 12)) → u3 c 0 j q v a t k = c a t k := by
    intro z q v hq a t k hn
    simp only [u3]; split; (split; (split; (exfalso; omega); rfl); rfl); rfl
  have hm0 : ∀ a t k, ¬ (a = 0 ∧ t = j ∧ (k = 8 ∨ k = 13)) → u3 m 0 j 13 0 a t k = m a t k := by
    intro a t k hn
    simp only [u3]; split; (split; (split; (exfalso; omega); rfl); rfl); rfl
  have hm1 : ∀ a t k, ¬ (a = 0 ∧ t = j ∧ (k = 8 ∨ k = 13)) → u3 (u3 m 0 j 13 0) 0 j 8 0 a t k = m a t k := by
    intro a t k hn
    rw [← hm0 a t k hn]
    rw [u3]; split; (split; (split; (exfalso; omega); rfl); rfl); rfl
  have hJ0 : ∀ t, t < n → TJ n c (u3 m 0 j 13 0) t := fun t ht => (M3 t ht).lastm
  have hready : ∀ q, c 0 j 8 = q → ¬ q = 3 → XT W n T A (j + 1) (T + 1) (u3 c 0 j 8 0) (u3 (u3 m 0 j 13 0) 0 j 8 0) wk := fun q hq h3 =>
    hX.step hj (hc0 0 8 0 (Or.inl rfl)) hm1 (fun t ht => (hJ0 t ht).state (z := 0) (by decide)) (by rw [u3_same, hq]; exact ⟨fun h => absurd h (by decide), fun h => absurd h h3⟩) (by rw [u3_k (by decide), u3_same]) (fun h => by rw [u3_same] at h; exact absurd h (by decide))
  unfold wkc
  by_cases h1 : c 0 j 8 = 1
  · obtain ⟨w1, w2, w3⟩ := M10 j hj h1
    have w3 := w3 (Nat.le_refl _)
    have hlt := wk_lt hT w1 w3
    by_cases h0 : c 0 j 12 ≤ 0
    · rw [if_neg (fun h => h.2 h0), if_pos (Or.inl h1), if_pos (Or.inl ⟨h1, hlt.mpr h0⟩)]
      exact hready 1 h1 (by decide)
    · rw [if_pos ⟨h1, h0⟩, if_neg (fun h => h.elim (fun h => h0 (hlt.mp h.2)) (fun h => absurd (h1.symm.trans h.1) (by decide)))]
      refine hX.step hj (hc0 0 12 _ (Or.inr rfl)) hm0 (fun t ht => (hJ0 t ht).wait) (by rw [u3_k (by decide)]) u3_same (fun _ => ?_)
      rw [u3_same]
      exact wk_dec hT h0 w3
  · rw [if_neg (fun h => h1 h.1)]
    by_cases h2 : c 0 j 8 = 2 ∧ ¬ c 0 j 21 ≤ 0
    · rw [if_pos (Or.inr h2), if_pos (Or.inr h2)]
      exact hready 2 h2.1 (by decide)
    · rw [if_neg (fun h => h.elim h1 h2), if_neg (fun h => h.elim (fun h => h1 h.1) h2)]
      exact hX.step hj (fun _ _ _ _ => rfl) hm0 hJ0 Iff.rfl u3_same (fun h => absurd h h1)
theorem wakeL {b0 W n T A : Nat} (hT : T < 1000000) : ∀ (r j : Nat) (c m : xc) (wk : Nat → Int64), XT W n T A j (T + 1) c m wk → j + r = n → ∃ c' m', 
    (∀ (m0 : xc) (wk0 : Nat → Int64) (fu : Nat) (l2 : Option xV), ∃ l3, r_X6_wakeTasks b0 (fu + r) 0 [some (.inr (.inr (some (hA b0 0)))), some (.inl (nI j)), l2] [] (hp b0 n c m0 wk0) = r_X6_wakeTasks b0 fu 0 [some (.inr (.inr (some (hA b0 0)))), some (.inl (nI n)), l3] [] (hp b0 n c' m0 wk0)) ∧
    (∀ l2 : Option xV, ∃ l3, ∀ (c0 : xc) (fu : Nat), r_X7_oneTurn b0 (fu + r) 0 [some (.inr (.inr (some (hA b0 3)))), some (.inl (nI j)), l2] [] (hp b0 n c0 m wk) = r_X7_oneTurn b0 fu 0 [some (.inr (.inr (some (hA b0 3)))), some (.inl (nI n)), l3] [] (hp b0 n c0 m' wk)) ∧ XT W n T A n (T + 1) c' m' wk := by
  intro r
  induction r with
  | zero =>
    intro j c m wk hX hj
    obtain rfl : j = n := by omega
    exact ⟨c, m, fun m0 wk0 fu l2 => ⟨l2, rfl⟩, fun l2 => ⟨l2, fun c0 fu => rfl⟩, hX⟩
  | succ r ih =>
    intro j c m wk hX hj
    obtain ⟨c', m', p1, p2, p3⟩ := ih (j + 1) _ _ wk (hX.wake1 (b0 := b0) hT (by omega)) (by omega)
    refine ⟨c', m', fun m0 wk0 fu l2 => ?_, fun l2 => ?_, p3⟩
    · rw [← Nat.add_assoc, cwk_step hX.1 (by omega)]
      exact p1 m0 wk0 fu _
    · obtain ⟨l3, h3⟩ := p2 (some (.inl (if (m 0 j 8 = 1 ∧ wk j < (m 8 0 5).toInt64) ∨ (m 0 j 8 = 2 ∧ ¬ m 0 j 21 ≤ 0) then 1 else 0)))
      refine ⟨l3, fun c0 fu => ?_⟩
      rw [← Nat.add_assoc, mwk_step hX.1 (by omega) hX.2.1.2]
      exact h3 c0 fu
theorem XT.mt {W n T A : Nat} {c m : xc} {wk : Nat → Int64} (h : XT W n T A n (T + 1) c m wk) : MT W n T A c m wk := by
  obtain ⟨M1, M2, M3, M4, M5, M6, M7, M8, M9, M10, M11, M12, M13⟩ := h
  refine ⟨M1, M2, M3, M4, M5, M6, M7, M8, fun t ht => ?_, fun t ht h1 => ?_, M11, M12, M13⟩
  · obtain ⟨q, q1, q2, q3⟩ := M9 t ht
    exact ⟨q, by omega, q2, by rw [if_neg (by omega)]; exact q3 ht⟩
  · obtain ⟨w1, w2, w3⟩ := M10 t ht h1
    exact ⟨w1, w2 ht⟩
theorem XT.go {W n T A : Nat} {c m : xc} {wk : Nat → Int64} (h : XT W n T A 0 T c m wk) : XT W n T A 0 (T + 1) (u3 c 8 0 5 (nI (T + 1))) m wk := by
  obtain ⟨M1, M2, M3, M4, M5, M6, M7, M8, M9, M10, M11, M12, M13⟩ := h
  refine ⟨M1, ⟨by simpa [u3] using M2.1, M2.2⟩, fun t ht => (M3 t ht).globc, ⟨u3_same, M4.2⟩, fun k hk => ?_, fun k => by simpa [u3] using M6 k, ⟨M7.1, M7.2.1, by simpa [u3] using M7.2.2⟩, M8, fun t ht => by simpa [u3] using M9 t ht, fun t ht h1 => ?_, ?_, fun a t k h1 h2 => ?_, by simpa [u3] using M13⟩
  · rw [u3_k (by omega)]; exact M5 k hk
  · rw [u3_a (by decide)] at h1 ⊢; exact M10 t ht h1
  · have := cnt_congr (c := c) (c' := u3 c 8 0 5 (nI (T + 1))) (n := n) (fun t ht => by rw [u3_a (by decide)])
    rw [u3_k (by decide), M11, this]
  · rw [u3_a (by omega)]; exact M12 a t k h1 h2
