theorem cg_end {b0 n i : Nat} {c m : xc} {wk : Nat → Int64} {G v : Int32} {fu : Nat} (h : G ≤ v) : r_X6_doGuard b0 (fu + 1) 0 [some (.inr (.inr (some (hA b0 0)))), some (.inr (.inr (some (tA b0 i 0)))), some (.inl G), some (.inl 0), some (.inl v)] [] (hp b0 n c m wk) = some (some (.inl 0), hp b0 n (u3 c 8 0 8 (c 8 0 8 + 1)) m wk) := by
  change k_X6_doGuard_60 b0 (r_X6_doGuard b0 fu) _ _ _ = _
  simp [k_X6_doGuard_60, k_X6_doGuard_83, xfun, xok, xnth, xset, oCst, oILd, oALd, oISt, oInc, oAdd, oSub, oDup, oC1ne, oC2ge, oGetI, oGetR, oPutI, oPutZ, oIal, oCallV, oMin, oRetI, g_t0_3, g_t1_1, an_t3, sn_t3, g_t0_11, g_t1_3, g_h0_6, p_h0_6, p_t0_14, p_t0_11, g_h0_8, p_h0_8, xis_h0, h]
theorem cg_fail {b0 n i : Nat} {c m : xc} {wk : Nat → Int64} {G v f : Int32} {fu : Nat} (h : ¬ f = 0) : r_X6_doGuard b0 (fu + 1) 0 [some (.inr (.inr (some (hA b0 0)))), some (.inr (.inr (some (tA b0 i 0)))), some (.inl G), some (.inl f), some (.inl v)] [] (hp b0 n c m wk) = some (some (.inl f), hp b0 n (u3 c 8 0 8 (c 8 0 8 + 1)) m wk) := by
  change k_X6_doGuard_60 b0 (r_X6_doGuard b0 fu) _ _ _ = _
  by_cases hv : G ≤ v <;> simp [k_X6_doGuard_60, k_X6_doGuard_83, xfun, xok, xnth, xset, oCst, oILd, oALd, oISt, oInc, oAdd, oSub, oDup, oC1ne, oC2ge, oGetI, oGetR, oPutI, oPutZ, oIal, oCallV, oMin, oRetI, g_t0_3, g_t1_1, an_t3, sn_t3, g_t0_11, g_t1_3, g_h0_6, p_h0_6, p_t0_14, p_t0_11, g_h0_8, p_h0_8, xis_h0, h, hv]
theorem cg_step {b0 n i : Nat} {c m : xc} {wk : Nat → Int64} {G f : Int32} {fu j : Nat} {c' : xc} (hi : i < n) (h : ¬ G ≤ nI j) (hd : f_X6_doAct b0 [.inr (.inr (some (hA b0 0))), .inr (.inr (some (tA b0 i 0))), .inl 1] (hp b0 n c m wk) = some (some (.inl f), hp b0 n c' m wk)) : r_X6_doGuard b0 (fu + 1) 0 [some (.inr (.inr (some (hA b0 0)))), some (.inr (.inr (some (tA b0 i 0)))), some (.inl G), some (.inl 0), some (.inl (nI j))] [] (hp b0 n c m wk) = r_X6_doGuard b0 fu 0 [some (.inr (.inr (some (hA b0 0)))), some (.inr (.inr (some (tA b0 i 0)))), some (.inl G), some (.inl f), some (.inl (nI (j + 1)))] [] (hp b0 n c' m wk) := by
  change k_X6_doGuard_60 b0 (r_X6_doGuard b0 fu) _ _ _ = _
  simp [k_X6_doGuard_60, k_X6_doGuard_83, xfun, xok, xnth, xset, oCst, oILd, oALd, oISt, oInc, oAdd, oSub, oDup, oC1ne, oC2ge, oGetI, oGetR, oPutI, oPutZ, oIal, oCallV, oMin, oRetI, g_t0_3, g_t1_1, an_t3, sn_t3, g_t0_11, g_t1_3, g_h0_6, p_h0_6, p_t0_14, p_t0_11, g_h0_8, p_h0_8, xis_h0, h, hd, nI_add1]
theorem mg_end {b0 n i : Nat} {c m : xc} {wk : Nat → Int64} {v : Int32} {fu : Nat} {many : Int32} {l5 : Option xV} (hi : i < 12) (h : many ≤ v ∨ m 0 i 20 ≤ m 0 i 11) : r_X7_guard b0 (fu + 1) 0 [some (.inr (.inr (some (hA b0 3)))), some (.inl (nI i)), some (.inl many), some (.inl 0), some (.inl v), l5] [] (hp b0 n c m wk) = some (some (.inl 0), hp b0 n c (u3 (u3 m 8 0 37 0) 8 0 8 (m 8 0 8 + 1)) wk) := by
  change k_X7_guard_10 b0 (r_X7_guard b0 fu) _ _ _ = _
  by_cases h1 : many ≤ v
  · simp (disch := omega) [k_X7_guard_10, k_X7_guard_107, k_X7_guard_82, k_X7_guard_99, xfun, xok, xnth, xset, oCst, oILd, oALd, oISt, oInc, oAdd, oMul, oDup, oDup2, oC2ne, oC1ne, oC2ge, oGetI, oGetR, oPutI, oPutZ, oIal, oIas, oCallV, oRetI, p_h3_37, g_h3_34, p_h3_34, g_h3_9, an_h12, sn_h12, g_h3_5, an_h8, sn_h8, g_h3_32, p_h3_32, g_h3_6, an_h9, sn_h9, xis_h3, ml16, nI_add, h1, u3_k]
  · have h2 : m 0 i 20 ≤ m 0 i 11 := h.resolve_left h1
    simp (disch := omega) [k_X7_guard_10, k_X7_guard_107, k_X7_guard_82, k_X7_guard_99, xfun, xok, xnth, xset, oCst, oILd, oALd, oISt, oInc, oAdd, oMul, oDup, oDup2, oC2ne, oC1ne, oC2ge, oGetI, oGetR, oPutI, oPutZ, oIal, oIas, oCallV, oRetI, p_h3_37, g_h3_34, p_h3_34, g_h3_9, an_h12, sn_h12, g_h3_5, an_h8, sn_h8, g_h3_32, p_h3_32, g_h3_6, an_h9, sn_h9, xis_h3, ml16, nI_add, h1, h2, u3_k]
theorem mg_fail {b0 n i : Nat} {c m : xc} {wk : Nat → Int64} {v f : Int32} {fu : Nat} {many : Int32} {l5 : Option xV} (hi : i < 12) (h : ¬ f = 0) : r_X7_guard b0 (fu + 1) 0 [some (.inr (.inr (some (hA b0 3)))), some (.inl (nI i)), some (.inl many), some (.inl f), some (.inl v), l5] [] (hp b0 n c m wk) = some (some (.inl f), hp b0 n c (u3 (u3 m 8 0 37 0) 8 0 8 (m 8 0 8 + 1)) wk) := by
  change k_X7_guard_10 b0 (r_X7_guard b0 fu) _ _ _ = _
  by_cases h1 : many ≤ v <;> simp (disch := omega) [k_X7_guard_10, k_X7_guard_107, k_X7_guard_82, k_X7_guard_99, xfun, xok, xnth, xset, oCst, oILd, oALd, oISt, oInc, oAdd, oMul, oDup, oDup2, oC2ne, oC1ne, oC2ge, oGetI, oGetR, oPutI, oPutZ, oIal, oIas, oCallV, oRetI, p_h3_37, g_h3_34, p_h3_34, g_h3_9, an_h12, sn_h12, g_h3_5, an_h8, sn_h8, g_h3_32, p_h3_32, g_h3_6, an_h9, sn_h9, xis_h3, ml16, nI_add, h, h1, u3_k]
theorem mg_step {b0 n i : Nat} {c m : xc} {wk : Nat → Int64} {f : Int32} {fu j y kd : Nat} {many : Int32} {l5 : Option xV} {m2 : xc} (hi : i < 12) (h1 : ¬ many ≤ nI j) (h2 : ¬ m 0 i 20 ≤ m 0 i 11) (hy : m 0 i 11 = nI y) (hy16 : y < 16) (hkd : m 1 i y = nI kd) (hk16 : kd < 16) (hk9 : kd ≠ 9) (hs : f_X7_simple b0 [.inr (.inr (some (hA b0 3))), .inl (nI i), .inl (nI (16 * i + y))] (hp b0 n c (u3 m 8 0 6 (m 8 0 6 + 1)) wk) = some (some (.inl f), hp b0 n c m2 wk)) : r_X7_guard b0 (fu + 1) 0 [some (.inr (.inr (some (hA b0 3)))), some (.inl (nI i)), some (.inl many), some (.inl 0), some (.inl (nI j)), l5] [] (hp b0 n c m wk) = r_X7_guard b0 fu 0 [some (.inr (.inr (some (hA b0 3)))), some (.inl (nI i)), some (.inl many), some (.inl f), some (.inl (nI (j + 1))), some (.inl (nI (16 * i + y)))] [] (hp b0 n c (u3 m2 0 i 11 (m2 0 i 11 + if f = 0 then 1 else 0)) wk) := by
  have h9 : ¬ nI kd = 9 := fun e => hk9 ((nI_eq (b := 9) (by omega) (by decide)).mp e)
  rw [hy] at h2
  change k_X7_guard_10 b0 (r_X7_guard b0 fu) _ _ _ = _
  by_cases hf : f = 0
  · simp (disch := omega) [k_X7_guard_10, k_X7_guard_107, k_X7_guard_82, k_X7_guard_99, xfun, xok, xnth, xset, oCst, oILd, oALd, oISt, oInc, oAdd, oMul, oDup, oDup2, oC2ne, oC1ne, oC2ge, oGetI, oGetR, oPutI, oPutZ, oIal, oIas, oCallV, oRetI, p_h3_37, g_h3_34, p_h3_34, g_h3_9, an_h12, sn_h12, g_h3_5, an_h8, sn_h8, g_h3_32, p_h3_32, g_h3_6, an_h9, sn_h9, xis_h3, ml16, nI_add, h1, h2, hy, hkd, h9, hs, dv16, md16, Nat.mod_eq_of_lt, u3_a, hf, nI_add1]
  · simp (disch := omega) [k_X7_guard_10, k_X7_guard_107, k_X7_guard_82, k_X7_guard_99, xfun, xok, xnth, xset, oCst, oILd, oALd, oISt, oInc, oAdd, oMul, oDup, oDup2, oC2ne, oC1ne, oC2ge, oGetI, oGetR, oPutI, oPutZ, oIal, oIas, oCallV, oRetI, p_h3_37, g_h3_34, p_h3_34, g_h3_9, an_h12, sn_h12, g_h3_5, an_h8, sn_h8, g_h3_32, p_h3_32, g_h3_6, an_h9, sn_h9, xis_h3, ml16, nI_add, h1, h2, hy, hkd, h9, hs, dv16, md16, Nat.mod_eq_of_lt, u3_a, hf, nI_add1]
theorem mg_step9 {b0 n i : Nat} {c m : xc} {wk : Nat → Int64} {fu j y : Nat} {many : Int32} {l5 : Option xV} (hi : i < 12) (h1 : ¬ many ≤ nI j) (h2 : ¬ m 0 i 20 ≤ m 0 i 11) (hy : m 0 i 11 = nI y) (hy16 : y < 16) (hkd : m 1 i y = nI 9) : r_X7_guard b0 (fu + 1) 0 [some (.inr (.inr (some (hA b0 3)))), some (.inl (nI i)), some (.inl many), some (.inl 0), some (.inl (nI j)), l5] [] (hp b0 n c m wk) = r_X7_guard b0 fu 0 [some (.inr (.inr (some (hA b0 3)))), some (.inl (nI i)), some (.inl many), some (.inl 8), some (.inl (nI (j + 1))), some (.inl (nI (16 * i + y)))] [] (hp b0 n c (u3 m 8 0 6 (m 8 0 6 + 1)) wk) := by
  have h9 : nI 9 = 9 := rfl
  have e : u3 (u3 m 8 0 6 (m 8 0 6 + 1)) 0 i 11 (nI y) = u3 m 8 0 6 (m 8 0 6 + 1) := u3_self (by simpa [u3] using hy)
  rw [hy] at h2
  change k_X7_guard_10 b0 (r_X7_guard b0 fu) _ _ _ = _
  simp (disch := omega) [k_X7_guard_10, k_X7_guard_107, k_X7_guard_82, k_X7_guard_99, xfun, xok, xnth, xset, oCst, oILd, oALd, oISt, oInc, oAdd, oMul, oDup, oDup2, oC2ne, oC1ne, oC2ge, oGetI, oGetR, oPutI, oPutZ, oIal, oIas, oCallV, oRetI, p_h3_37, g_h3_34, p_h3_34, g_h3_9, an_h12, sn_h12, g_h3_5, an_h8, sn_h8, g_h3_32, p_h3_32, g_h3_6, an_h9, sn_h9, xis_h3, ml16, nI_add, h1, h2, hy, hkd, h9, dv16, md16, Nat.mod_eq_of_lt, u3_a, nI_add1, e]
/-- the acts of a guard -/
theorem gl {b0 n i z Rr : Nat} {G many : Int32} (hG : ∀ k, k ≤ 16 → (G ≤ nI k ↔ (many ≤ nI k ∨ Rr ≤ k))) (hz16 : z ≤ 16) : ∀ (r fu1 fu2 j y : Nat) (c m : xc) (l5 : Option xV), AR n i c m → m 8 0 37 = 1 → c 0 i 8 = 0 → c 0 i 11 = nI y → c 0 i 20 = nI z → r + y = z → j + r = Rr → r + 1 < fu1 → r + 1 < fu2 → j + r ≤ 16 →
    ∃ (f : Int32) (c' m' : xc) (d : Nat), (∀ (m0 : xc) (wk0 : Nat → Int64), r_X6_doGuard b0 fu1 0 [some (.inr (.inr (some (hA b0 0)))), some (.inr (.inr (some (tA b0 i 0)))), some (.inl G), some (.inl 0), some (.inl (nI j))] [] (hp b0 n c m0 wk0) = some (some (.inl f), hp b0 n (u3 c' 8 0 8 (c' 8 0 8 + 1)) m0 wk0)) ∧
      (∀ (c0 : xc) (wk0 : Nat → Int64), r_X7_guard b0 fu2 0 [some (.inr (.inr (some (hA b0 3)))), some (.inl (nI i)), some (.inl many), some (.inl 0), some (.inl (nI j)), l5] [] (hp b0 n c0 m wk0) = some (some (.inl f), hp b0 n c0 (u3 (u3 m' 8 0 37 0) 8 0 8 (m' 8 0 8 + 1)) wk0)) ∧
      AR n i c' m' ∧ KA n i c c' ∧ KA n i m m' ∧ c' 0 i 8 = 0 ∧ (∃ y', y' ≤ z ∧ c' 0 i 11 = nI y' ∧ (f ≠ 0 → y' < z)) ∧ d ≤ r ∧ c' 8 0 6 = c 8 0 6 + nI d := by
  intro r
  induction r with
  | zero =>
    intro fu1 fu2 j y c m l5 hA h37 hs hy hz hr hj hf1 hf2 h16
    obtain ⟨fu1, rfl⟩ : ∃ q, fu1 = q + 1 := ⟨fu1 - 1, by omega⟩
    obtain ⟨fu2, rfl⟩ : ∃ q, fu2 = q + 1 := ⟨fu2 - 1, by omega⟩
    have hi := hA.2.2.1
    have hn := hA.1
    have hT := (hA.2.2.2.1 i hi).1
    have e11 := hT 11 (by decide) (by decide) (by decide)
    have e20 := hT 20 (by decide) (by decide) (by decide)
    have hle : m 0 i 20 ≤ m 0 i 11 := by
      rw [← e11, ← e20, hy, hz, show y = z by omega]
      exact nI_le (Nat.le_refl _) (by omega)
    exact ⟨0, c, m, 0, fun m0 wk0 => cg_end ((hG j (by omega)).mpr (Or.inr (by omega))), fun c0 wk0 => mg_end (by omega) (Or.inr hle), hA, KA.rf, KA.rf, hs, ⟨y, by omega, hy, fun h => absurd rfl h⟩, Nat.le_refl _, by rw [nI_0]; simp⟩
  | succ r ih =>
    intro fu1 fu2 j y c m l5 hA h37 hs hy hz hr hj hf1 hf2 h16
    obtain ⟨fu1, rfl⟩ : ∃ q, fu1 = q + 1 := ⟨fu1 - 1, by omega⟩
    obtain ⟨fu2, rfl⟩ : ∃ q, fu2 = q + 1 := ⟨fu2 - 1, by omega⟩
    have hi := hA.2.2.1
    have hn := hA.1
    have hT := (hA.2.2.2.1 i hi)
    have e11 := (hT.1 11 (by decide) (by decide) (by decide)).symm
    have e20 := (hT.1 20 (by decide) (by decide) (by decide)).symm
    by_cases hc : G ≤ nI j
    · have hmany : many ≤ nI j := by
        rcases (hG j (by omega)).mp hc with h | h
        · exact h
        · omega
      exact ⟨0, c, m, 0, fun m0 wk0 => cg_end hc, fun c0 wk0 => mg_end (by omega) (Or.inl hmany), hA, KA.rf, KA.rf, hs, ⟨y, by omega, hy, fun h => absurd rfl h⟩, Nat.zero_le _, by rw [nI_0]; simp⟩
    · have hmany : ¬ many ≤ nI j := fun h => hc ((hG j (by omega)).mpr (Or.inl h))
      have hlt : ¬ m 0 i 20 ≤ m 0 i 11 := by
        rw [e11, e20, hy, hz]
        exact nI_ge (by omega) (by omega)
      obtain ⟨kd, hk16, hkd⟩ := hT.2.2.2.2.2.2.2.1.1 y (by omega)
      have hkm : m 1 i y = nI kd := (hT.2.1 1 y (by decide) (by decide)).symm.trans hkd
      by_cases hk9 : kd = 9
      · subst hk9
        obtain ⟨fu1, rfl⟩ : ∃ q, fu1 = q + 1 := ⟨fu1 - 1, by omega⟩
        obtain ⟨fu2, rfl⟩ : ∃ q, fu2 = q + 1 := ⟨fu2 - 1, by omega⟩
        obtain ⟨-, hm, -, hJ, hw, hl, h6, h8, h9, h14⟩ := id hA
        have hac : ac1 c i = u3 c 8 0 6 (c 8 0 6 + 1) := u3_self (by simpa [u3] using h14)
        refine ⟨8, u3 c 8 0 6 (c 8 0 6 + 1), u3 m 8 0 6 (m 8 0 6 + 1), 1, fun m0 wk0 => ?_, fun c0 wk0 => ?_, ⟨hn, by simpa [u3] using hm, hi, fun t ht => (hJ t ht).glob, by simpa [u3] using hw, by simpa [u3] using hl, by simp [u3, h6], by simpa [u3] using h8, by simpa [u3] using h9, by simpa [u3] using h14⟩, KA.u 8 0 6 _ (Or.inr (Or.inl ⟨rfl, by decide, by decide, by decide, by decide⟩)) KA.rf, KA.u 8 0 6 _ (Or.inr (Or.inl ⟨rfl, by decide, by decide, by decide, by decide⟩)) KA.rf, by simpa [u3] using hs, ⟨y, by omega, by simpa [u3] using hy, fun _ => by omega⟩, by omega, by simp [u3]; rfl⟩
        · have hd := cf_doAct (b0 := b0) (m := m0) (wk := wk0) (g := 1) hi hy (by omega) hkd (by decide)
          rw [ck_guard hi, hac] at hd
          have et : tl1 (u3 c 8 0 6 (c 8 0 6 + 1)) i 8 = u3 c 8 0 6 (c 8 0 6 + 1) := by
            unfold tl1
            rw [if_neg (fun h => absurd h.1 (by decide))]
          rw [et] at hd
          rw [cg_step hi hc hd, cg_fail (by decide)]
        · rw [mg_step9 (by omega) hmany hlt (e11.trans hy) (by omega) hkm, mg_fail (by omega) (by decide)]
      · obtain ⟨f, c1, m2, o1, o2, o3, o4, o5, o6, o7, o8, o9, o10, o11, o12, o13⟩ := one (b0 := b0) hA h37.symm hs hy hz hz16 (by omega) hkd hk16 hk9
        have hs1 : c1 0 i 8 = 0 := by
          rcases o9 with h | h
          · exact h.trans hs
          · exact absurd h.2.1 (by decide)
        have ems : ∀ q : Int32, (if f = 0 ∧ ¬ m2 0 i 8 = 2 then q else 0) = if f = 0 then q else 0 := by
          intro q
          rw [o8, hs1]
          simp
        rw [ems 1] at o3
        have hA1 := o3
        have h371 : (u3 m2 0 i 11 (m2 0 i 11 + if f = 0 then 1 else 0)) 8 0 37 = 1 := by simpa [u3] using o6.trans h37
        have hKm1 : KA n i m (u3 m2 0 i 11 (m2 0 i 11 + if f = 0 then 1 else 0)) := KA.u 0 i 11 _ (Or.inl ⟨rfl, rfl, hi, by decide, by decide, by decide⟩) o5
        by_cases hf : f = 0
        · subst hf
          have hy1 := o11 rfl (by rw [hs1]; decide)
          have hz1 : c1 0 i 20 = nI z := ((o4.2.2.1 i).2.2).trans hz
          obtain ⟨f', c', m', d, p1, p2, p3, p4, p5, p6, p7, p8, p9⟩ := ih fu1 fu2 (j + 1) (y + 1) c1 _ (some (.inl (nI (16 * i + y)))) hA1 h371 hs1 hy1 hz1 (by omega) (by omega) (by omega) (by omega) (by omega)
          refine ⟨f', c', m', d + 1, fun m0 wk0 => ?_, fun c0 wk0 => ?_, p3, o4.tr p4, hKm1.tr p5, p6, p7, by omega, ?_⟩
          · rw [cg_step hi hc (o1 m0 wk0)]; exact p1 m0 wk0
          · rw [mg_step (by omega) hmany hlt (e11.trans hy) (by omega) hkm hk16 hk9 (o2 c0 wk0)]; exact p2 c0 wk0
          · rw [p9, o13, ← nI_add1]; grind
        · obtain ⟨fu1, rfl⟩ : ∃ q, fu1 = q + 1 := ⟨fu1 - 1, by omega⟩
          obtain ⟨fu2, rfl⟩ : ∃ q, fu2 = q + 1 := ⟨fu2 - 1, by omega⟩
          have hy1 : c1 0 i 11 = nI y := by
            rcases o10 with h | h
            · exact h
            · exact absurd h.2 hf
          refine ⟨f, c1, _, 1, fun m0 wk0 => ?_, fun c0 wk0 => ?_, hA1, o4, hKm1, hs1, ⟨y, by omega, hy1, fun _ => by omega⟩, by omega, o13⟩
          · rw [cg_step hi hc (o1 m0 wk0), cg_fail hf]
          · rw [mg_step (by omega) hmany hlt (e11.trans hy) (by omega) hkm hk16 hk9 (o2 c0 wk0), mg_fail (by omega) hf]
