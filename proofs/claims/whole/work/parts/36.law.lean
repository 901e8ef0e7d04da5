def zz : xc := fun _ _ _ => 0
def z4 : xc := u3 zz 8 0 4 1
def zk : Nat → Int64 := fun _ => 0
theorem hp_0 {b0 : Nat} : N6 b0 0 ++ N7 b0 3 = hp b0 0 z4 z4 zk := by
  have e0 : ∀ (a : Nat), a ≠ 8 → ∀ (i k : Nat), z4 a i k = 0 := fun a ha i k => by simp [z4, zz, u3, ha]
  have e8 : ∀ k, k ≠ 4 → z4 8 0 k = 0 := fun k hk => by simp [z4, zz, u3, hk]
  have e4 : z4 8 0 4 = 1 := by simp [z4, u3]
  have r1 : (List.range 12).map (fun i => if i < 0 then some (tA b0 i 0) else none) = List.replicate 12 none := rngz (fun k => if_neg (by omega))
  have r2 : ∀ N, (List.range N).map (z4 9 0) = List.replicate N 0 := fun N => rngz (fun k => e0 9 (by decide) 0 k)
  have r3 : ∀ k, (List.range 12).map (fun i => z4 0 i k) = List.replicate 12 0 := fun k => rngz (fun i => e0 0 (by decide) i k)
  have r4 : ∀ (N d a : Nat), a ≠ 8 → (List.range N).map (fun q => z4 a (q / d) (q % d)) = List.replicate N 0 := fun N d a ha => rngz (fun q => e0 a ha _ _)
  have r5 : (List.range 12).map zk = List.replicate 12 0 := rngz (fun k => rfl)
  simp only [hp, hd, fb, List.range_zero, List.flatMap_nil, List.append_nil, r1, r2, r3, r4 192 16 1 (by decide), r4 192 16 2 (by decide), r4 192 16 3 (by decide), r4 1200 100 6 (by decide), r4 1200 100 7 (by decide), r4 36 3 5 (by decide), r4 72 6 4 (by decide), r5, e4, e8 2 (by decide), e8 3 (by decide), e8 5 (by decide), e8 6 (by decide), e8 7 (by decide), e8 8 (by decide), e8 9 (by decide), e8 36 (by decide), e8 37 (by decide)]
  simp [-List.reduceReplicate, N6, N7, hA]
theorem xb_0 : XB 0 0 z4 z4 zk := by
  have e0 : ∀ (a : Nat), a ≠ 8 → ∀ (i k : Nat), z4 a i k = 0 := fun a ha i k => by simp [z4, zz, u3, ha]
  have e8 : ∀ k, k ≠ 4 → z4 8 0 k = 0 := fun k hk => by simp [z4, zz, u3, hk]
  have e4 : z4 8 0 4 = 1 := by simp [z4, u3]
  exact ⟨1, 0, ⟨by omega, ⟨e8 2 (by decide), e8 2 (by decide)⟩, fun t ht => absurd ht (by omega), ⟨e8 5 (by decide), e8 5 (by decide)⟩, fun k hk => rfl, fun k => rfl, ⟨by omega, by omega, e4⟩, e8 37 (by decide), fun t ht => absurd ht (by omega), fun t ht => absurd ht (by omega), e8 3 (by decide), fun a t k h1 h2 => ⟨e0 a (by omega) t k, e0 a (by omega) t k⟩, e8 6 (by decide)⟩, by omega⟩
theorem law_start {b0 b L : Nat} {xs : Nat → Int32} {k : Nat → xK} : k_L_law_0 b0 b L xs k [some (.inr (.inr (some b))), none, none, none] [] [] = k 0 [some (.inr (.inr (some b))), some (.inr (.inr (some (hA b0 0)))), some (.inr (.inr (some (hA b0 3)))), some (.inl (nI 0))] [] (hp b0 0 z4 z4 zk) := by
  have h6 : f_X6_init b0 [.inr (.inr (some b0))] [.inr (.inr (.inl (6, n_X6)))] = some (none, N6 b0 0) := i6 []
  have h7 : f_X7_init b0 [.inr (.inr (some (b0 + 3)))] (N6 b0 0 ++ [.inr (.inr (.inl (7, n_X7)))]) = some (none, N6 b0 0 ++ N7 b0 3) := i7 (N6 b0 0)
  have hl : (N6 b0 0).length = 3 := rfl
  rw [hp_0] at h7
  simp [k_L_law_0, oNew, oDup, oCallI, oASt, oISt, oCst, xset, h6, hl, h7, hA, nI_0]
theorem law_idx {L q : Nat} (hL : L ≤ 2560) (hq : q ≤ 3000) : nI L - 5 < nI q ↔ L < q + 5 := by
  have e1 : (nI L).toInt = L := nI_toInt (by omega)
  have e2 : (nI q).toInt = q := nI_toInt (by omega)
  have e5 : (5 : Int32).toInt = 5 := by decide
  rw [Int32.lt_iff_toInt_lt, Int32.toInt_sub, e1, e2, e5]
  simp only [Int.bmod_def]
  omega
theorem sal {b L q : Nat} {xs : Nat → Int32} {T : xK} {ls : List (Option xV)} {st : List xV} {h : xH} (hq : q < L) (hL : L ≤ 2560) : oSal b L xs T ls (.inl (nI q) :: .inr (.inr (some b)) :: st) h = T ls (.inl (xs q) :: st) h := by
  have e := nI_clamp (n := q) (by omega)
  unfold oSal
  dsimp only
  rw [if_pos ⟨rfl, nI_nn (by omega), by rw [e]; exact hq⟩, e]
theorem ad3 {k : Nat} : nI k + 3 = nI (k + 3) := nI_add k 3
theorem ad4 {k : Nat} : nI k + 4 = nI (k + 4) := nI_add k 4
theorem ad5 {k : Nat} : nI k + 5 = nI (k + 5) := nI_add k 5
theorem law_task {b0 b L q n T : Nat} {xs : Nat → Int32} {k : Nat → xK} {c m : xc} {wk : Nat → Int64} (hL : L ≤ 2560) (hq : q + 4 < L) (hX : XB n T c m wk) (hT : T + 50 < 1000000) : ∃ n' T' c' m' wk', XB n' T' c' m' wk' ∧ T' ≤ T + 50 ∧ k_L_law_96 b0 b L xs k [some (.inr (.inr (some b))), some (.inr (.inr (some (hA b0 0)))), some (.inr (.inr (some (hA b0 3)))), some (.inl (nI q))] [] (hp b0 n c m wk) = k 0 [some (.inr (.inr (some b))), some (.inr (.inr (some (hA b0 0)))), some (.inr (.inr (some (hA b0 3)))), some (.inl (nI (q + 5)))] [] (hp b0 n' c' m' wk') := by
  obtain ⟨v, n', T', c', m', wk', p1, p2, p3, p4⟩ := pr_task (b0 := b0) (s := (xs (q + 1))) (r := (xs (q + 2))) n T c m wk hX hT
  refine ⟨n', T', c', m', wk', p3, p4, ?_⟩
  simp (maxSteps := 1000000) (disch := omega) [k_L_law_96, k_L_law_478, oALd, oILd, oCst, oAdd, oCallV, oC2eq, oInc, xnth, xset, sal, nI_add1, ad2, ad3, ad4, ad5, xis_h0, xis_h3, p1, p2]
theorem law_act {b0 b L q n T : Nat} {xs : Nat → Int32} {k : Nat → xK} {c m : xc} {wk : Nat → Int64} (hL : L ≤ 2560) (hq : q + 4 < L) (hX : XB n T c m wk) (hT : T + 50 < 1000000) : ∃ n' T' c' m' wk', XB n' T' c' m' wk' ∧ T' ≤ T + 50 ∧ k_L_law_129 b0 b L xs k [some (.inr (.inr (some b))), some (.inr (.inr (some (hA b0 0)))), some (.inr (.inr (some (hA b0 3)))), some (.inl (nI q))] [] (hp b0 n c m wk) = k 0 [some (.inr (.inr (some b))), some (.inr (.inr (some (hA b0 0)))), some (.inr (.inr (some (hA b0 3)))), some (.inl (nI (q + 5)))] [] (hp b0 n' c' m' wk') := by
  obtain ⟨v, n', T', c', m', wk', p1, p2, p3, p4⟩ := pr_act (b0 := b0) (v := (xs (q + 1))) (x := (xs (q + 2))) (a := (xs (q + 3))) (b := (xs (q + 4))) n T c m wk hX hT
  refine ⟨n', T', c', m', wk', p3, p4, ?_⟩
  simp (maxSteps := 1000000) (disch := omega) [k_L_law_129, k_L_law_478, oALd, oILd, oCst, oAdd, oCallV, oC2eq, oInc, xnth, xset, sal, nI_add1, ad2, ad3, ad4, ad5, xis_h0, xis_h3, p1, p2]
theorem law_workers {b0 b L q n T : Nat} {xs : Nat → Int32} {k : Nat → xK} {c m : xc} {wk : Nat → Int64} (hL : L ≤ 2560) (hq : q + 4 < L) (hX : XB n T c m wk) (hT : T + 50 < 1000000) : ∃ n' T' c' m' wk', XB n' T' c' m' wk' ∧ T' ≤ T + 50 ∧ k_L_law_182 b0 b L xs k [some (.inr (.inr (some b))), some (.inr (.inr (some (hA b0 0)))), some (.inr (.inr (some (hA b0 3)))), some (.inl (nI q))] [] (hp b0 n c m wk) = k 0 [some (.inr (.inr (some b))), some (.inr (.inr (some (hA b0 0)))), some (.inr (.inr (some (hA b0 3)))), some (.inl (nI (q + 5)))] [] (hp b0 n' c' m' wk') := by
  obtain ⟨v, n', T', c', m', wk', p1, p2, p3, p4⟩ := pr_workers (b0 := b0) (v := (xs (q + 1))) n T c m wk hX hT
  refine ⟨n', T', c', m', wk', p3, p4, ?_⟩
  simp (maxSteps := 1000000) (disch := omega) [k_L_law_182, k_L_law_478, oALd, oILd, oCst, oAdd, oCallV, oC2eq, oInc, xnth, xset, sal, nI_add1, ad2, ad3, ad4, ad5, xis_h0, xis_h3, p1, p2]
theorem law_turn {b0 b L q n T : Nat} {xs : Nat → Int32} {k : Nat → xK} {c m : xc} {wk : Nat → Int64} (hL : L ≤ 2560) (hq : q + 4 < L) (hX : XB n T c m wk) (hT : T + 50 < 1000000) : ∃ n' T' c' m' wk', XB n' T' c' m' wk' ∧ T' ≤ T + 50 ∧ k_L_law_205 b0 b L xs k [some (.inr (.inr (some b))), some (.inr (.inr (some (hA b0 0)))), some (.inr (.inr (some (hA b0 3)))), some (.inl (nI q))] [] (hp b0 n c m wk) = k 0 [some (.inr (.inr (some b))), some (.inr (.inr (some (hA b0 0)))), some (.inr (.inr (some (hA b0 3)))), some (.inl (nI (q + 5)))] [] (hp b0 n' c' m' wk') := by
  obtain ⟨v, n', T', c', m', wk', p1, p2, p3, p4⟩ := pr_turn (b0 := b0) (v := (xs (q + 1))) n T c m wk hX hT
  refine ⟨n', T', c', m', wk', p3, p4, ?_⟩
  simp (maxSteps := 1000000) (disch := omega) [k_L_law_205, k_L_law_478, oALd, oILd, oCst, oAdd, oCallV, oC2eq, oInc, xnth, xset, sal, nI_add1, ad2, ad3, ad4, ad5, xis_h0, xis_h3, p1, p2]
theorem law_letter {b0 b L q n T : Nat} {xs : Nat → Int32} {k : Nat → xK} {c m : xc} {wk : Nat → Int64} (hL : L ≤ 2560) (hq : q + 4 < L) (hX : XB n T c m wk) (hT : T + 50 < 1000000) : ∃ n' T' c' m' wk', XB n' T' c' m' wk' ∧ T' ≤ T + 50 ∧ k_L_law_228 b0 b L xs k [some (.inr (.inr (some b))), some (.inr (.inr (some (hA b0 0)))), some (.inr (.inr (some (hA b0 3)))), some (.inl (nI q))] [] (hp b0 n c m wk) = k 0 [some (.inr (.inr (some b))), some (.inr (.inr (some (hA b0 0)))), some (.inr (.inr (some (hA b0 3)))), some (.inl (nI (q + 5)))] [] (hp b0 n' c' m' wk') := by
  obtain ⟨v, n', T', c', m', wk', p1, p2, p3, p4⟩ := pr_letter (b0 := b0) (v := (xs (q + 1))) (u := (xs (q + 2))) n T c m wk hX hT
  refine ⟨n', T', c', m', wk', p3, p4, ?_⟩
  simp (maxSteps := 1000000) (disch := omega) [k_L_law_228, k_L_law_478, oALd, oILd, oCst, oAdd, oCallV, oC2eq, oInc, xnth, xset, sal, nI_add1, ad2, ad3, ad4, ad5, xis_h0, xis_h3, p1, p2]
theorem law_stop {b0 b L q n T : Nat} {xs : Nat → Int32} {k : Nat → xK} {c m : xc} {wk : Nat → Int64} (hL : L ≤ 2560) (hq : q + 4 < L) (hX : XB n T c m wk) (hT : T + 50 < 1000000) : ∃ n' T' c' m' wk', XB n' T' c' m' wk' ∧ T' ≤ T + 50 ∧ k_L_law_261 b0 b L xs k [some (.inr (.inr (some b))), some (.inr (.inr (some (hA b0 0)))), some (.inr (.inr (some (hA b0 3)))), some (.inl (nI q))] [] (hp b0 n c m wk) = k 0 [some (.inr (.inr (some b))), some (.inr (.inr (some (hA b0 0)))), some (.inr (.inr (some (hA b0 3)))), some (.inl (nI (q + 5)))] [] (hp b0 n' c' m' wk') := by
  obtain ⟨v, n', T', c', m', wk', p1, p2, p3, p4⟩ := pr_stop (b0 := b0) (v := (xs (q + 1))) n T c m wk hX hT
  refine ⟨n', T', c', m', wk', p3, p4, ?_⟩
  simp (maxSteps := 1000000) (disch := omega) [k_L_law_261, k_L_law_478, oALd, oILd, oCst, oAdd, oCallV, oC2eq, oInc, xnth, xset, sal, nI_add1, ad2, ad3, ad4, ad5, xis_h0, xis_h3, p1, p2]
theorem law_again {b0 b L q n T : Nat} {xs : Nat → Int32} {k : Nat → xK} {c m : xc} {wk : Nat → Int64} (hL : L ≤ 2560) (hq : q + 4 < L) (hX : XB n T c m wk) (hT : T + 50 < 1000000) : ∃ n' T' c' m' wk', XB n' T' c' m' wk' ∧ T' ≤ T + 50 ∧ k_L_law_284 b0 b L xs k [some (.inr (.inr (some b))), some (.inr (.inr (some (hA b0 0)))), some (.inr (.inr (some (hA b0 3)))), some (.inl (nI q))] [] (hp b0 n c m wk) = k 0 [some (.inr (.inr (some b))), some (.inr (.inr (some (hA b0 0)))), some (.inr (.inr (some (hA b0 3)))), some (.inl (nI (q + 5)))] [] (hp b0 n' c' m' wk') := by
  obtain ⟨v, n', T', c', m', wk', p1, p2, p3, p4⟩ := pr_again (b0 := b0) (v := (xs (q + 1))) n T c m wk hX hT
  refine ⟨n', T', c', m', wk', p3, p4, ?_⟩
  simp (maxSteps := 1000000) (disch := omega) [k_L_law_284, k_L_law_478, oALd, oILd, oCst, oAdd, oCallV, oC2eq, oInc, xnth, xset, sal, nI_add1, ad2, ad3, ad4, ad5, xis_h0, xis_h3, p1, p2]
theorem law_of {b0 b L q n T : Nat} {xs : Nat → Int32} {k : Nat → xK} {c m : xc} {wk : Nat → Int64} (hL : L ≤ 2560) (hq : q + 4 < L) (hX : XB n T c m wk) (hT : T + 50 < 1000000) : ∃ n' T' c' m' wk', XB n' T' c' m' wk' ∧ T' ≤ T + 50 ∧ k_L_law_307 b0 b L xs k [some (.inr (.inr (some b))), some (.inr (.inr (some (hA b0 0)))), some (.inr (.inr (some (hA b0 3)))), some (.inl (nI q))] [] (hp b0 n c m wk) = k 0 [some (.inr (.inr (some b))), some (.inr (.inr (some (hA b0 0)))), some (.inr (.inr (some (hA b0 3)))), some (.inl (nI (q + 5)))] [] (hp b0 n' c' m' wk') := by
  obtain ⟨v, n', T', c', m', wk', p1, p2, p3, p4⟩ := pr_of (b0 := b0) (v := (xs (q + 1))) (u := (xs (q + 2))) n T c m wk hX hT
  refine ⟨n', T', c', m', wk', p3, p4, ?_⟩
  simp (maxSteps := 1000000) (disch := omega) [k_L_law_307, k_L_law_478, oALd, oILd, oCst, oAdd, oCallV, oC2eq, oInc, xnth, xset, sal, nI_add1, ad2, ad3, ad4, ad5, xis_h0, xis_h3, p1, p2]
theorem law_at {b0 b L q n T : Nat} {xs : Nat → Int32} {k : Nat → xK} {c m : xc} {wk : Nat → Int64} (hL : L ≤ 2560) (hq : q + 4 < L) (hX : XB n T c m wk) (hT : T + 50 < 1000000) : ∃ n' T' c' m' wk', XB n' T' c' m' wk' ∧ T' ≤ T + 50 ∧ k_L_law_340 b0 b L xs k [some (.inr (.inr (some b))), some (.inr (.inr (some (hA b0 0)))), some (.inr (.inr (some (hA b0 3)))), some (.inl (nI q))] [] (hp b0 n c m wk) = k 0 [some (.inr (.inr (some b))), some (.inr (.inr (some (hA b0 0)))), some (.inr (.inr (some (hA b0 3)))), some (.inl (nI (q + 5)))] [] (hp b0 n' c' m' wk') := by
  obtain ⟨v, n', T', c', m', wk', p1, p2, p3, p4⟩ := pr_at (b0 := b0) (v := (xs (q + 1))) (x := (if xs (q + 2) = 0 then 0 else 1)) (u := (xs (q + 3))) n T c m wk hX hT
  refine ⟨n', T', c', m', wk', p3, p4, ?_⟩
  by_cases hx : xs (q + 2) = 0
  · rw [if_pos hx] at p1 p2
    simp (maxSteps := 1000000) (disch := omega) [k_L_law_340, k_L_law_359, k_L_law_386, k_L_law_478, oALd, oILd, oCst, oAdd, oCallV, oC2eq, oInc, xnth, xset, oC1eq, sal, nI_add1, ad2, ad3, ad4, ad5, xis_h0, xis_h3, hx, p1, p2]
  · rw [if_neg hx] at p1 p2
    simp (maxSteps := 1000000) (disch := omega) [k_L_law_340, k_L_law_359, k_L_law_386, k_L_law_478, oALd, oILd, oCst, oAdd, oCallV, oC2eq, oInc, xnth, xset, oC1eq, sal, nI_add1, ad2, ad3, ad4, ad5, xis_h0, xis_h3, hx, p1, p2]
theorem law_letterAt {b0 b L q n T : Nat} {xs : Nat → Int32} {k : Nat → xK} {c m : xc} {wk : Nat → Int64} (hL : L ≤ 2560) (hq : q + 4 < L) (hX : XB n T c m wk) (hT : T + 50 < 1000000) : ∃ n' T' c' m' wk', XB n' T' c' m' wk' ∧ T' ≤ T + 50 ∧ k_L_law_399 b0 b L xs k [some (.inr (.inr (some b))), some (.inr (.inr (some (hA b0 0)))), some (.inr (.inr (some (hA b0 3)))), some (.inl (nI q))] [] (hp b0 n c m wk) = k 0 [some (.inr (.inr (some b))), some (.inr (.inr (some (hA b0 0)))), some (.inr (.inr (some (hA b0 3)))), some (.inl (nI (q + 5)))] [] (hp b0 n' c' m' wk') := by
  obtain ⟨v, n', T', c', m', wk', p1, p2, p3, p4⟩ := pr_letterAt (b0 := b0) (v := (xs (q + 1))) (u := (xs (q + 2))) n T c m wk hX hT
  refine ⟨n', T', c', m', wk', p3, p4, ?_⟩
  simp (maxSteps := 1000000) (disch := omega) [k_L_law_399, k_L_law_478, oALd, oILd, oCst, oAdd, oCallV, oC2eq, oInc, xnth, xset, sal, nI_add1, ad2, ad3, ad4, ad5, xis_h0, xis_h3, p1, p2]
theorem law_count {b0 b L q n T : Nat} {xs : Nat → Int32} {k : Nat → xK} {c m : xc} {wk : Nat → Int64} (hL : L ≤ 2560) (hq : q + 4 < L) (hX : XB n T c m wk) (hT : T + 50 < 1000000) : ∃ n' T' c' m' wk', XB n' T' c' m' wk' ∧ T' ≤ T + 50 ∧ k_L_law_432 b0 b L xs k [some (.inr (.inr (some b))), some (.inr (.inr (some (hA b0 0)))), some (.inr (.inr (some (hA b0 3)))), some (.inl (nI q))] [] (hp b0 n c m wk) = k 0 [some (.inr (.inr (some b))), some (.inr (.inr (some (hA b0 0)))), some (.inr (.inr (some (hA b0 3)))), some (.inl (nI (q + 5)))] [] (hp b0 n' c' m' wk') := by
  obtain ⟨v, n', T', c', m', wk', p1, p2, p3, p4⟩ := pr_count (b0 := b0) (u := (xs (q + 1))) n T c m wk hX hT
  refine ⟨n', T', c', m', wk', p3, p4, ?_⟩
  simp (maxSteps := 1000000) (disch := omega) [k_L_law_432, k_L_law_478, oALd, oILd, oCst, oAdd, oCallV, oC2eq, oInc, xnth, xset, sal, nI_add1, ad2, ad3, ad4, ad5, xis_h0, xis_h3, p1, p2]
theorem law_done {b0 b L q n T : Nat} {xs : Nat → Int32} {k : Nat → xK} {c m : xc} {wk : Nat → Int64} (hL : L ≤ 2560) (hq : q + 4 < L) (hX : XB n T c m wk) (hT : T + 50 < 1000000) : ∃ n' T' c' m' wk', XB n' T' c' m' wk' ∧ T' ≤ T + 50 ∧ k_L_law_455 b0 b L xs k [some (.inr (.inr (some b))), some (.inr (.inr (some (hA b0 0)))), some (.inr (.inr (some (hA b0 3)))), some (.inl (nI q))] [] (hp b0 n c m wk) = k 0 [some (.inr (.inr (some b))), some (.inr (.inr (some (hA b0 0)))), some (.inr (.inr (some (hA b0 3)))), some (.inl (nI (q + 5)))] [] (hp b0 n' c' m' wk') := by
  obtain ⟨v, n', T', c', m', wk', p1, p2, p3, p4⟩ := pr_done (b0 := b0) (u := (xs (q + 1))) n T c m wk hX hT
  refine ⟨n', T', c', m', wk', p3, p4, ?_⟩
  simp (maxSteps := 1000000) (disch := omega) [k_L_law_455, k_L_law_478, oALd, oILd, oCst, oAdd, oCallV, oC2eq, oInc, xnth, xset, sal, nI_add1, ad2, ad3, ad4, ad5, xis_h0, xis_h3, p1, p2]
theorem law_one {b0 b L q n T fu : Nat} {xs : Nat → Int32} {c m : xc} {wk : Nat → Int64} (hL : L ≤ 2560) (hq : q + 4 < L) (hX : XB n T c m wk) (hT : T + 50 < 1000000) : ∃ n' T' c' m' wk', XB n' T' c' m' wk' ∧ T' ≤ T + 50 ∧ r_L_law b0 b L xs (fu + 1) 0 [some (.inr (.inr (some b))), some (.inr (.inr (some (hA b0 0)))), some (.inr (.inr (some (hA b0 3)))), some (.inl (nI q))] [] (hp b0 n c m wk) = r_L_law b0 b L xs fu 0 [some (.inr (.inr (some b))), some (.inr (.inr (some (hA b0 0)))), some (.inr (.inr (some (hA b0 3)))), some (.inl (nI (q + 5)))] [] (hp b0 n' c' m' wk') := by
  have hi : ¬ nI L - 5 < nI q := fun h => by have := (law_idx hL (by omega)).mp h; omega
  have h478 : k_L_law_478 b0 b L xs (r_L_law b0 b L xs fu) [some (.inr (.inr (some b))), some (.inr (.inr (some (hA b0 0)))), some (.inr (.inr (some (hA b0 3)))), some (.inl (nI q))] [] (hp b0 n c m wk) = r_L_law b0 b L xs fu 0 [some (.inr (.inr (some b))), some (.inr (.inr (some (hA b0 0)))), some (.inr (.inr (some (hA b0 3)))), some (.inl (nI (q + 5)))] [] (hp b0 n c m wk) := by
    simp [k_L_law_478, oInc, xnth, xset, ad5]
  have hstep : r_L_law b0 b L xs (fu + 1) 0 [some (.inr (.inr (some b))), some (.inr (.inr (some (hA b0 0)))), some (.inr (.inr (some (hA b0 3)))), some (.inl (nI q))] [] (hp b0 n c m wk) = (if xs q &&& 15 < 0 then k_L_law_478 b0 b L xs (r_L_law b0 b L xs fu) [some (.inr (.inr (some b))), some (.inr (.inr (some (hA b0 0)))), some (.inr (.inr (some (hA b0 3)))), some (.inl (nI q))] [] (hp b0 n c m wk) else if (xs q &&& 15).toNatClampNeg < 12 then sw_L_law_32 b0 b L xs (r_L_law b0 b L xs fu) (xs q &&& 15).toNatClampNeg [some (.inr (.inr (some b))), some (.inr (.inr (some (hA b0 0)))), some (.inr (.inr (some (hA b0 3)))), some (.inl (nI q))] [] (hp b0 n c m wk) else k_L_law_478 b0 b L xs (r_L_law b0 b L xs fu) [some (.inr (.inr (some b))), some (.inr (.inr (some (hA b0 0)))), some (.inr (.inr (some (hA b0 3)))), some (.inl (nI q))] [] (hp b0 n c m wk)) := by
    change k_L_law_18 b0 b L xs (r_L_law b0 b L xs fu) _ _ _ = _
    simp (disch := omega) [k_L_law_18, oILd, oALd, oSln, oCst, oSub, oC2gt, oAnd, oTab, xnth, sal, hi]
  rw [hstep]
  by_cases h0 : xs q &&& 15 < 0
  · rw [if_pos h0]
    exact ⟨n, T, c, m, wk, hX, by omega, h478⟩
  rw [if_neg h0]
  by_cases h12 : (xs q &&& 15).toNatClampNeg < 12
  · rw [if_pos h12]
    generalize (xs q &&& 15).toNatClampNeg = k at h12
    match k, h12 with
    | 0, _ => exact law_task hL hq hX hT
    | 1, _ => exact law_act hL hq hX hT
    | 2, _ => exact law_workers hL hq hX hT
    | 3, _ => exact law_turn hL hq hX hT
    | 4, _ => exact law_letter hL hq hX hT
    | 5, _ => exact law_stop hL hq hX hT
    | 6, _ => exact law_again hL hq hX hT
    | 7, _ => exact law_of hL hq hX hT
    | 8, _ => exact law_at hL hq hX hT
    | 9, _ => exact law_letterAt hL hq hX hT
    | 10, _ => exact law_count hL hq hX hT
    | 11, _ => exact law_done hL hq hX hT
    | k + 12, h => omega
  · rw [if_neg h12]
    exact ⟨n, T, c, m, wk, hX, by omega, h478⟩
theorem lawL {b0 b L : Nat} {xs : Nat → Int32} (hL : L ≤ 2560) : ∀ (r fu j n T : Nat) (c m : xc) (wk : Nat → Int64), XB n T c m wk → T ≤ 50 * j → L ≤ 5 * (j + r) → j + r ≤ 512 → r < fu → ∃ (n' : Nat) (c' m' : xc) (wk' : Nat → Int64), n' ≤ 12 ∧ r_L_law b0 b L xs fu 0 [some (.inr (.inr (some b))), some (.inr (.inr (some (hA b0 0)))), some (.inr (.inr (some (hA b0 3)))), some (.inl (nI (5 * j)))] [] (hp b0 n c m wk) = some (some (.inl 1), hp b0 n' c' m' wk') := by
  have hend : ∀ (fu j n : Nat) (c m : xc) (wk : Nat → Int64), j ≤ 512 → L < 5 * j + 5 → r_L_law b0 b L xs (fu + 1) 0 [some (.inr (.inr (some b))), some (.inr (.inr (some (hA b0 0)))), some (.inr (.inr (some (hA b0 3)))), some (.inl (nI (5 * j)))] [] (hp b0 n c m wk) = some (some (.inl 1), hp b0 n c m wk) := by
    intro fu j n c m wk hj h
    have hi : nI L - 5 < nI (5 * j) := (law_idx hL (by omega)).mpr h
    change k_L_law_18 b0 b L xs (r_L_law b0 b L xs fu) _ _ _ = _
    simp (disch := omega) [k_L_law_18, oILd, oALd, oSln, oCst, oSub, oC2gt, xnth, oRetL, hi]
  intro r
  induction r with
  | zero =>
    intro fu j n T c m wk hX hT h1 h2 hf
    obtain ⟨fu, rfl⟩ : ∃ g, fu = g + 1 := ⟨fu - 1, by omega⟩
    exact ⟨n, c, m, wk, hX.n.1, hend fu j n c m wk (by omega) (by omega)⟩
  | succ r ih =>
    intro fu j n T c m wk hX hT h1 h2 hf
    obtain ⟨fu, rfl⟩ : ∃ g, fu = g + 1 := ⟨fu - 1, by omega⟩
    by_cases h : 5 * j + 4 < L
    · obtain ⟨n', T', c', m', wk', q1, q2, q3⟩ := law_one (b0 := b0) (b := b) (xs := xs) (fu := fu) hL h hX (by omega)
      obtain ⟨n2, c2, m2, wk2, r1, r2⟩ := ih fu (j + 1) n' T' c' m' wk' q1 (by omega) (by omega) (by omega) (by omega)
      refine ⟨n2, c2, m2, wk2, r1, ?_⟩
      rw [q3]
      exact r2
    · exact ⟨n, c, m, wk, hX.n.1, hend fu j n c m wk (by omega) (by omega)⟩
theorem xsl_fb {b0 : Nat} {c : xc} (n : Nat) : xsl (fb n (tB b0 c)) ≤ 200 * n := by
  induction n with
  | zero => simp [fb, xsl]
  | succ n ih =>
    have e4 : xsl (tB b0 c n) ≤ 200 := by simp [xsl, tB, xsz]
    have e5 : xsl (fb (n + 1) (tB b0 c)) = xsl (fb n (tB b0 c)) + xsl (tB b0 c n) := by rw [fb_succ]; simp [xsl]
    omega
theorem xsl_hp {b0 n : Nat} {c m : xc} {wk : Nat → Int64} : xsl (hp b0 n c m wk) ≤ 5000 + 200 * n := by
  have e1 : xsl (hp b0 n c m wk) = xsl (hd b0 n c m wk) + xsl (fb n (tB b0 c)) := by simp [xsl, hp]
  have e2 : xsl (hd b0 n c m wk) ≤ 5000 := by simp [xsl, hd, xsz]
  have e3 := xsl_fb (b0 := b0) (c := c) n
  omega
/-- the law of the small machine -/
theorem pure_law (b0 b L : Nat) (xs : Nat → Int32) (hL : L ≤ 2560) : ∃ h1 : xH, k_L_law_0 b0 b L xs (r_L_law b0 b L xs 600) [some (.inr (.inr (some b))), none, none, none] [] [] = some (some (.inl 1), h1) ∧ h1.length ≤ 600000 ∧ xsl h1 ≤ 7302250 := by
  obtain ⟨n', c', m', wk', h1, h2⟩ := lawL (b0 := b0) (b := b) (xs := xs) hL 512 600 0 0 0 z4 z4 zk xb_0 (by omega) (by omega) (by omega) (by omega)
  refine ⟨hp b0 n' c' m' wk', law_start.trans h2, ?_, ?_⟩
  · rw [hp_len]; omega
  · have := xsl_hp (b0 := b0) (n := n') (c := c') (m := m') (wk := wk')
    omega
