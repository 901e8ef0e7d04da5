def nt (c : xc) (n : Nat) (s r : Int32) : xc := u3 (u3 (u3 (u3 (u3 (u3 (u3 c 0 n 0 (nI n)) 0 n 1 s) 0 n 2 r) 0 n 17 (-4)) 0 n 22 (-4)) 0 n 23 (-4)) 0 n 26 (-4)
def ntm (m : xc) (n : Nat) (s r : Int32) : xc := u3 (u3 (u3 (u3 (u3 (u3 m 0 n 1 s) 0 n 2 r) 0 n 22 (-4)) 0 n 26 (-4)) 0 n 23 (-4)) 0 n 17 (-4)
theorem rngz {α : Type} {N : Nat} {f : Nat → α} {z : α} (h : ∀ k, f k = z) : (List.range N).map f = List.replicate N z := by
  apply List.ext_getElem?
  intro j
  by_cases hj : j < N
  · rw [rng_get hj, h, List.getElem?_replicate, if_pos hj]
  · rw [List.getElem?_eq_none (by simp; omega), List.getElem?_eq_none (by simp; omega)]
theorem tB_new {b0 n : Nat} {c : xc} {s r : Int32} (hz : ∀ a k, a ≤ 7 → c a n k = 0) : tB b0 (nt c n s r) n = N5 b0 (32 + 14 * n) (nI n) s r := by
  have e0 : ∀ k, k ≠ 0 → k ≠ 1 → k ≠ 2 → k ≠ 17 → k ≠ 22 → k ≠ 23 → k ≠ 26 → nt c n s r 0 n k = 0 := fun k h0 h1 h2 h3 h4 h5 h6 => by
    rw [← hz 0 k (by decide)]
    simp [nt, u3, h0, h1, h2, h3, h4, h5, h6]
  have ea : ∀ a, a ≠ 0 → a ≤ 7 → ∀ N, (List.range N).map (nt c n s r a n) = List.replicate N 0 := fun a h0 h7 N => rngz (fun k => by rw [← hz a k h7]; simp [nt, u3, h0])
  have f0 : nt c n s r 0 n 0 = nI n := by simp [nt, u3]
  have f1 : nt c n s r 0 n 1 = s := by simp [nt, u3]
  have f2 : nt c n s r 0 n 2 = r := by simp [nt, u3]
  have f17 : nt c n s r 0 n 17 = -4 := by simp [nt, u3]
  have f22 : nt c n s r 0 n 22 = -4 := by simp [nt, u3]
  have f23 : nt c n s r 0 n 23 = -4 := by simp [nt, u3]
  have f26 : nt c n s r 0 n 26 = -4 := by simp [nt, u3]
  simp only [tB, f0, f1, f2, f17, f22, f23, f26, e0 8 (by decide) (by decide) (by decide) (by decide) (by decide) (by decide) (by decide), e0 9 (by decide) (by decide) (by decide) (by decide) (by decide) (by decide) (by decide), e0 10 (by decide) (by decide) (by decide) (by decide) (by decide) (by decide) (by decide), e0 11 (by decide) (by decide) (by decide) (by decide) (by decide) (by decide) (by decide), e0 12 (by decide) (by decide) (by decide) (by decide) (by decide) (by decide) (by decide), e0 13 (by decide) (by decide) (by decide) (by decide) (by decide) (by decide) (by decide), e0 14 (by decide) (by decide) (by decide) (by decide) (by decide) (by decide) (by decide), e0 15 (by decide) (by decide) (by decide) (by decide) (by decide) (by decide) (by decide), e0 16 (by decide) (by decide) (by decide) (by decide) (by decide) (by decide) (by decide), e0 18 (by decide) (by decide) (by decide) (by decide) (by decide) (by decide) (by decide), e0 20 (by decide) (by decide) (by decide) (by decide) (by decide) (by decide) (by decide), e0 21 (by decide) (by decide) (by decide) (by decide) (by decide) (by decide) (by decide), e0 24 (by decide) (by decide) (by decide) (by decide) (by decide) (by decide) (by decide), e0 25 (by decide) (by decide) (by decide) (by decide) (by decide) (by decide) (by decide), ea 1 (by decide) (by decide), ea 2 (by decide) (by decide), ea 3 (by decide) (by decide), ea 4 (by decide) (by decide), ea 5 (by decide) (by decide), ea 6 (by decide) (by decide), ea 7 (by decide) (by decide)]
  simp [-List.reduceReplicate, N5, N0, N1, N2, N3, N4, tA]
theorem hp_new {b0 n : Nat} {c m : xc} {wk : Nat → Int64} {s r : Int32} (hz : ∀ a k, a ≤ 7 → c a n k = 0) : hp b0 n c m wk ++ N5 b0 (32 + 14 * n) (nI n) s r = hd b0 n (nt c n s r) m wk ++ fb (n + 1) (tB b0 (nt c n s r)) := by
  have e1 : hd b0 n (nt c n s r) m wk = hd b0 n c m wk := rfl
  have e2 : fb n (tB b0 (nt c n s r)) = fb n (tB b0 c) := fb_congr fun i hi => by
    have : i ≠ n := by omega
    simp [tB, nt, u3, this]
  rw [fb_succ, tB_new hz, e1, e2, hp, List.append_assoc]
theorem xsq_new {b0 n : Nat} {c m : xc} {wk : Nat → Int64} (hn : n < 12) : xsq b0 (hd b0 n c m wk ++ fb (n + 1) (tB b0 c)) (hA b0 1) (nI n) (tA b0 n 0) = some (hp b0 (n + 1) c m wk) := by
  have e1 : (hd b0 n c m wk ++ fb (n + 1) (tB b0 c))[1]? = some (.inr (.inr (.inr ((List.range 12).map (fun i => if i < n then some (tA b0 i 0) else none))))) := rfl
  unfold xsq
  rw [show hA b0 1 = b0 + 1 from rfl, xat_k, e1]
  dsimp only
  rw [if_pos ⟨nI_nn (by omega), by rw [nI_clamp (by omega)]; simpa using hn⟩, show b0 + 1 - b0 = 1 by omega, nI_clamp (by omega), rng_set (g := fun i => if i < n + 1 then some (tA b0 i 0) else none) (fun _ => if_pos (by omega)) (fun j hj _ => by by_cases q : j < n; (rw [if_pos q, if_pos (by omega)]); rw [if_neg q, if_neg (by omega)])]
  rfl
theorem cf_taskNew {b0 n : Nat} {c m : xc} {wk : Nat → Int64} {s r : Int32} (hn : n < 12) (hc2 : c 8 0 2 = nI n) (hz : ∀ a k, a ≤ 7 → c a n k = 0) (h1 : ¬ s < 0) (h2 : ¬ 4 < s) (h3 : ¬ r < 0) (h4 : r ≤ 9) : f_X6_task b0 [.inr (.inr (some (hA b0 0))), .inl s, .inl r] (hp b0 n c m wk) = some (some (.inl (nI n)), hp b0 (n + 1) (u3 (nt c n s r) 8 0 2 (nI (n + 1))) m wk) := by
  have hlen : (hp b0 n c m wk).length = 32 + 14 * n := hp_len b0 n c m wk
  have hinit := i5 (b0 := b0) (v1 := nI n) (v2 := s) (v3 := r) (hp b0 n c m wk)
  rw [hlen, hp_new hz] at hinit
  have hxis : xis b0 (hd b0 n (nt c n s r) m wk ++ fb (n + 1) (tB b0 (nt c n s r))) (b0 + (32 + 14 * n)) 5 = true := by
    rw [← hp_new hz]
    unfold xis
    rw [xat_k, ← hlen, List.getElem?_append_right (Nat.le_refl _), Nat.sub_self]
    rfl
  have hxsq := xsq_new (b0 := b0) (n := n) (c := nt c n s r) (m := m) (wk := wk) hn
  rw [show tA b0 n 0 = b0 + (32 + 14 * n) from rfl] at hxsq
  have hlt : nI n < nI 12 := nI_lt hn (by decide)
  have e2 : nt c n s r 8 0 2 = nI n := hc2
  simp (maxSteps := 1000000) [f_X6_task, k_X6_task_0, xfun, xok, xnth, xset, oCst, oILd, oALd, oISt, oAdd, oDup, oC2lt, oC1lt, oC2gt, oC2le, oGetI, oGetR, oPutI, oLen, oQas, oNew, oCallI, oRetI, g_h0_2, p_h0_2, g_h0_0, l_h1, h1, h2, h3, h4, hc2, hlt, hlen, hinit, hxis, hxsq, e2, nI_add1]
theorem mf_taskNew {b0 n : Nat} {c m : xc} {wk : Nat → Int64} {q : Nat} {s r : Int32} (hq : q < 12) (hm : m 8 0 2 = nI q) (h1 : 0 ≤ s ∧ s ≤ 4) (h2 : 0 ≤ r ∧ r ≤ 9) : f_X7_task b0 [.inr (.inr (some (hA b0 3))), .inl s, .inl r] (hp b0 n c m wk) = some (some (.inl (nI q)), hp b0 n c (u3 (ntm m q s r) 8 0 2 (nI (q + 1))) wk) := by
  have i1 : ∀ h, f_X7_in b0 [.inl s, .inl 0, .inl 4] h = some (some (.inl 1), h) := fun h => by rw [mf_in, if_pos h1]
  have i2 : ∀ h, f_X7_in b0 [.inl r, .inl 0, .inl 9] h = some (some (.inl 1), h) := fun h => by rw [mf_in, if_pos h2]
  have e12 : ¬ nI q = 12 := fun h => by rw [show (12 : Int32) = nI 12 from rfl, nI_eq (by omega) (by decide)] at h; omega
  have e2 : ntm m q s r 8 0 2 = nI q := hm
  have ef : u3 (u3 (u3 (u3 (u3 (u3 m 0 q 1 s) 0 q 2 r) 0 q 22 (-4)) 0 q 26 (-4)) 0 q 23 (-4)) 0 q 17 (-4) = ntm m q s r := rfl
  simp (maxSteps := 1000000) (disch := omega) [f_X7_task, k_X7_task_0, xfun, xok, xnth, xset, oCst, oILd, oALd, oISt, oAdd, oDup, oC1eq, oC2ne, oC1ne, oGetI, oGetR, oPutI, oIas, oCallS, oRetI, g_h3_0, g_h3_1, an_h4, sn_h4, g_h3_2, an_h5, sn_h5, g_h3_11, an_h14, sn_h14, g_h3_15, an_h18, sn_h18, g_h3_17, an_h20, sn_h20, g_h3_24, an_h27, sn_h27, p_h3_0, i1, i2, hm, e12, ef, e2, nI_add1]
theorem pr_task {b0 : Nat} {s r : Int32} : Pr b0 (f_X6_task b0) (f_X7_task b0) [.inl s, .inl r] := by
  intro n T c m wk hX hT
  obtain ⟨hn, hm, hc2, hJ⟩ := hX.n
  by_cases h1 : 0 ≤ s ∧ s ≤ 4
  case neg =>
    have i1 : ∀ h, f_X7_in b0 [.inl s, .inl 0, .inl 4] h = some (some (.inl 0), h) := fun h => by rw [mf_in, if_neg h1]
    refine Pr.same (v := -1) hX ?_ ?_
    · by_cases q : s < 0
      · simp (maxSteps := 1000000) (disch := omega) [f_X6_task, k_X6_task_0, xfun, xok, xnth, xset, oCst, oILd, oALd, oISt, oAdd, oDup, oC2lt, oC1lt, oC2gt, oC2le, oGetI, oGetR, oPutI, oLen, oQas, oNew, oCallI, oRetI, q]
      · have q2 : ¬ s ≤ 4 := fun r => h1 ⟨k2_le q, r⟩
        simp (maxSteps := 1000000) (disch := omega) [f_X6_task, k_X6_task_0, xfun, xok, xnth, xset, oCst, oILd, oALd, oISt, oAdd, oDup, oC2lt, oC1lt, oC2gt, oC2le, oGetI, oGetR, oPutI, oLen, oQas, oNew, oCallI, oRetI, q, k2_lt q2]
    · simp (maxSteps := 1000000) (disch := omega) [f_X7_task, k_X7_task_0, xfun, xok, xnth, xset, oCst, oILd, oALd, oISt, oAdd, oDup, oC1eq, oC2ne, oC1ne, oGetI, oGetR, oPutI, oIas, oCallS, oRetI, i1]
  have i1 : ∀ h, f_X7_in b0 [.inl s, .inl 0, .inl 4] h = some (some (.inl 1), h) := fun h => by rw [mf_in, if_pos h1]
  have s1 : ¬ s < 0 := k2_nlt h1.1
  have s2 : ¬ 4 < s := k2_nlt h1.2
  by_cases h2 : 0 ≤ r ∧ r ≤ 9
  case neg =>
    have i2 : ∀ h, f_X7_in b0 [.inl r, .inl 0, .inl 9] h = some (some (.inl 0), h) := fun h => by rw [mf_in, if_neg h2]
    refine Pr.same (v := -1) hX ?_ ?_
    · by_cases q : r < 0
      · simp (maxSteps := 1000000) (disch := omega) [f_X6_task, k_X6_task_0, xfun, xok, xnth, xset, oCst, oILd, oALd, oISt, oAdd, oDup, oC2lt, oC1lt, oC2gt, oC2le, oGetI, oGetR, oPutI, oLen, oQas, oNew, oCallI, oRetI, s1, s2, q]
      · have q2 : ¬ r ≤ 9 := fun r => h2 ⟨k2_le q, r⟩
        simp (maxSteps := 1000000) (disch := omega) [f_X6_task, k_X6_task_0, xfun, xok, xnth, xset, oCst, oILd, oALd, oISt, oAdd, oDup, oC2lt, oC1lt, oC2gt, oC2le, oGetI, oGetR, oPutI, oLen, oQas, oNew, oCallI, oRetI, s1, s2, q, q2]
    · simp (maxSteps := 1000000) (disch := omega) [f_X7_task, k_X7_task_0, xfun, xok, xnth, xset, oCst, oILd, oALd, oISt, oAdd, oDup, oC1eq, oC2ne, oC1ne, oGetI, oGetR, oPutI, oIas, oCallS, oRetI, i1, i2]
  have i2 : ∀ h, f_X7_in b0 [.inl r, .inl 0, .inl 9] h = some (some (.inl 1), h) := fun h => by rw [mf_in, if_pos h2]
  have s3 : ¬ r < 0 := k2_nlt h2.1
  by_cases hn12 : n < 12
  case neg =>
    have e : n = 12 := by omega
    have hlt : ¬ nI n < nI 12 := by rw [e]; decide
    have hm12 : m 8 0 2 = 12 := by rw [hm, e]; rfl
    refine Pr.same (v := -3) hX ?_ ?_
    · simp (maxSteps := 1000000) (disch := omega) [f_X6_task, k_X6_task_0, xfun, xok, xnth, xset, oCst, oILd, oALd, oISt, oAdd, oDup, oC2lt, oC1lt, oC2gt, oC2le, oGetI, oGetR, oPutI, oLen, oQas, oNew, oCallI, oRetI, g_h0_2, g_h0_0, l_h1, s1, s2, s3, h2.2, hc2, hlt]
    · simp (maxSteps := 1000000) (disch := omega) [f_X7_task, k_X7_task_0, xfun, xok, xnth, xset, oCst, oILd, oALd, oISt, oAdd, oDup, oC1eq, oC2ne, oC1ne, oGetI, oGetR, oPutI, oIas, oCallS, oRetI, g_h3_0, i1, i2, hm12]
  obtain ⟨W, A, ⟨M1, M2, M3, M4, M5, M6, M7, M8, M9, M10, M11, M12, M13⟩, hA⟩ := id hX
  have zc : ∀ a k, a ≤ 7 → c a n k = 0 := fun a k h => (M12 a n k (Nat.le_refl _) h).1
  have zm : ∀ a k, a ≤ 7 → m a n k = 0 := fun a k h => (M12 a n k (Nat.le_refl _) h).2
  have o8 : ∀ k, k ≠ 2 → u3 (nt c n s r) 8 0 2 (nI (n + 1)) 8 0 k = c 8 0 k := fun k hk => by rw [u3_k hk]; rfl
  have p8 : ∀ k, k ≠ 2 → u3 (ntm m n s r) 8 0 2 (nI (n + 1)) 8 0 k = m 8 0 k := fun k hk => by rw [u3_k hk]; rfl
  have oo : ∀ a t k, t ≠ n → a ≠ 8 → u3 (nt c n s r) 8 0 2 (nI (n + 1)) a t k = c a t k := fun a t k h h' => by simp [nt, u3, h, h']
  have pp : ∀ a t k, t ≠ n → a ≠ 8 → u3 (ntm m n s r) 8 0 2 (nI (n + 1)) a t k = m a t k := fun a t k h h' => by simp [ntm, u3, h, h']
  have n0 : ∀ k, k ≠ 0 → k ≠ 1 → k ≠ 2 → k ≠ 17 → k ≠ 22 → k ≠ 23 → k ≠ 26 → u3 (nt c n s r) 8 0 2 (nI (n + 1)) 0 n k = 0 := fun k a0 a1 a2 a3 a4 a5 a6 => by
    rw [← zc 0 k (by decide)]
    simp [nt, u3, a0, a1, a2, a3, a4, a5, a6]
  have na : ∀ a k, a ≠ 0 → a ≤ 7 → u3 (nt c n s r) 8 0 2 (nI (n + 1)) a n k = 0 := fun a k a0 a7 => by
    have : a ≠ 8 := by omega
    rw [← zc a k a7]
    simp [nt, u3, a0, this]
  have ma : ∀ a k, a ≠ 0 → a ≤ 7 → u3 (ntm m n s r) 8 0 2 (nI (n + 1)) a n k = 0 := fun a k a0 a7 => by
    have : a ≠ 8 := by omega
    rw [← zm a k a7]
    simp [ntm, u3, a0, this]
  have hnew : TJ (n + 1) (u3 (nt c n s r) 8 0 2 (nI (n + 1))) (u3 (ntm m n s r) 8 0 2 (nI (n + 1))) n := by
    refine ⟨fun k a b d => ?_, fun a k h1 h2 => ?_, ⟨0, 0, 0, by omega, by omega, by omega, ?_, ?_, ?_⟩, ⟨0, by omega, ?_⟩, Or.inl ?_, Or.inl ?_, Or.inl ?_, ⟨fun k hk => ⟨0, by omega, ?_⟩, fun k hk h => ?_⟩, ⟨0, by omega, ?_⟩, ?_⟩
    · have e1 := zc 0 k (by decide)
      have e2 := zm 0 k (by decide)
      simp only [nt, ntm, u3]
      by_cases q1 : k = 1 <;> by_cases q2 : k = 2 <;> by_cases q3 : k = 17 <;> by_cases q4 : k = 22 <;> by_cases q5 : k = 23 <;> by_cases q6 : k = 26 <;> simp [a, q1, q2, q3, q4, q5, q6, e1, e2] <;> omega
    · rw [na a k (by omega) (by omega), ma a k (by omega) (by omega)]
    · exact n0 20 (by decide) (by decide) (by decide) (by decide) (by decide) (by decide) (by decide)
    · exact n0 11 (by decide) (by decide) (by decide) (by decide) (by decide) (by decide) (by decide)
    · exact n0 25 (by decide) (by decide) (by decide) (by decide) (by decide) (by decide) (by decide)
    · exact n0 21 (by decide) (by decide) (by decide) (by decide) (by decide) (by decide) (by decide)
    · simp [nt, u3]
    · simp [nt, u3]
    · simp [nt, u3]
    · exact na 1 k (by decide) (by decide)
    · rw [na 1 k (by decide) (by decide)] at h; exact absurd h (by decide)
    · exact n0 8 (by decide) (by decide) (by decide) (by decide) (by decide) (by decide) (by decide)
    · simp [nt, u3]
  have hold : ∀ t, t < n → TJ (n + 1) (u3 (nt c n s r) 8 0 2 (nI (n + 1))) (u3 (ntm m n s r) 8 0 2 (nI (n + 1))) t := fun t ht => by
    refine TJ_congr (fun a k h => oo a t k (by omega) (by omega)) (fun a k h => pp a t k (by omega) (by omega)) ?_
    obtain ⟨s1, s2, s3, s4, s5, s6, s7, s8, s9, s10⟩ := hJ t ht
    refine ⟨s1, s2, s3, s4, s5, s6, ?_, s8, s9, s10⟩
    rcases s7 with q | q | ⟨q1, q2⟩
    · exact Or.inl q
    · exact Or.inr (Or.inl q)
    · refine Or.inr (Or.inr ⟨q1, fun k hk => ?_⟩)
      rcases q2 k hk with q | ⟨j, j1, j2⟩
      · exact Or.inl q
      · exact Or.inr ⟨j, by omega, j2⟩
  have st0 : u3 (nt c n s r) 8 0 2 (nI (n + 1)) 0 n 8 = 0 := n0 8 (by decide) (by decide) (by decide) (by decide) (by decide) (by decide) (by decide)
  refine ⟨nI n, n + 1, T, _, _, wk, cf_taskNew hn12 hc2 zc s1 s2 s3 h2.2, mf_taskNew hn12 hm h1 h2, ⟨W, A, ⟨by omega, ⟨u3_same, u3_same⟩, fun t ht => ?_, ⟨(o8 5 (by decide)).trans M4.1, (p8 5 (by decide)).trans M4.2⟩, fun k hk => ?_, fun k => ?_, ⟨M7.1, M7.2.1, (o8 4 (by decide)).trans M7.2.2⟩, (p8 37 (by decide)).trans M8, fun t ht => ?_, fun t ht h1 => ?_, ?_, fun a t k h1 h2 => ?_, (o8 6 (by decide)).trans M13⟩, hA⟩, by omega⟩
  · by_cases q : t = n
    · rw [q]; exact hnew
    · exact hold t (by omega)
  · rw [o8 k (by omega), p8 k (by omega)]; exact M5 k hk
  · rw [u3_a (by decide), u3_a (by decide)]; exact M6 k
  · by_cases q : t = n
    · subst q
      exact ⟨0, by omega, n0 13 (by decide) (by decide) (by decide) (by decide) (by decide) (by decide) (by decide), fun h => absurd h (by omega)⟩
    · obtain ⟨z, z1, z2, z3⟩ := M9 t (by omega)
      exact ⟨z, z1, (oo 0 t 13 q (by decide)).trans z2, fun h => absurd h (by omega)⟩
  · by_cases q : t = n
    · subst q
      rw [st0] at h1
      exact absurd h1 (by decide)
    · rw [oo 0 t 8 q (by decide)] at h1
      rw [oo 0 t 12 q (by decide)]
      exact M10 t (by omega) h1
  · rw [o8 3 (by decide), M11]
    have e := cnt_congr (c := c) (c' := u3 (nt c n s r) 8 0 2 (nI (n + 1))) (n := n) (fun t ht => by rw [oo 0 t 8 (by omega) (by decide)])
    show nI (cnt c n) = nI (cnt _ n + if _ then 1 else 0)
    rw [e, st0, if_neg (by decide)]
    rfl
  · rw [oo a t k (by omega) (by omega), pp a t k (by omega) (by omega)]; exact M12 a t k (by omega) h2
