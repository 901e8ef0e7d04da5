theorem minG {v : Int32} {r : Nat} (hr : r ≤ 16) : ∀ k, k ≤ 16 → ((if nI r < v then nI r else v) ≤ nI k ↔ (v ≤ nI k ∨ r ≤ k)) := by
  intro k hk
  have e := nI_leI (a := r) (b := k) (by omega) (by omega)
  by_cases h : nI r < v
  · rw [if_pos h]
    constructor
    · intro h1; exact Or.inr (e.mp h1)
    · rintro (h1 | h1)
      · grind
      · exact e.mpr h1
  · rw [if_neg h]
    constructor
    · intro h1; exact Or.inl h1
    · rintro (h1 | h1)
      · exact h1
      · have := e.mpr h1
        grind
/-- a task's acts of one turn -/
theorem phase {b0 n i y z kd : Nat} {c m : xc} (hn : n ≤ 12) (hm : m 8 0 2 = nI n) (hi : i < n) (hJ : ∀ t, t < n → TJ n c m t) (hw : c 0 i 12 = 0) (hg : ∀ k, (k = 6 ∨ k = 7 ∨ k = 8 ∨ k = 9) → c 8 0 k = m 8 0 k) (h37 : m 8 0 37 = 0) (hs : c 0 i 8 = 0) (hy : c 0 i 11 = nI y) (hz : c 0 i 20 = nI z) (hyz : y < z) (hz16 : z ≤ 16) (hkd : c 1 i y = nI kd) (hk16 : kd < 16) :
    ∃ (f : Int32) (c2 m2 : xc) (d : Nat), (∀ (m0 : xc) (wk0 : Nat → Int64), (kd ≠ 9 → f_X6_doAct b0 [.inr (.inr (some (hA b0 0))), .inr (.inr (some (tA b0 i 0))), .inl 0] (hp b0 n c m0 wk0) = some (some (.inl f), hp b0 n c2 m0 wk0)) ∧ (kd = 9 → f_X6_doGuard b0 [.inr (.inr (some (hA b0 0))), .inr (.inr (some (tA b0 i 0)))] (hp b0 n c m0 wk0) = some (some (.inl f), hp b0 n c2 m0 wk0))) ∧
      (∀ (c0 : xc) (wk0 : Nat → Int64), f_X7_acts b0 [.inr (.inr (some (hA b0 3))), .inl (nI i)] (hp b0 n c0 m wk0) = k_X7_acts_105 b0 [some (.inr (.inr (some (hA b0 3)))), some (.inl (nI i)), some (.inl (nI (16 * i + y))), some (.inl f)] [] (hp b0 n c0 m2 wk0)) ∧
      AR n i c2 m2 ∧ KA n i c c2 ∧ KA n i m m2 ∧ m2 8 0 37 = 0 ∧ (c2 0 i 8 = 0 ∨ (c2 0 i 8 = 2 ∧ f = 0)) ∧ (∃ y', y' ≤ z ∧ c2 0 i 11 = nI y' ∧ (f ≠ 0 → y' < z) ∧ (c2 0 i 8 = 2 → y' < z)) ∧ d ≤ 17 ∧ 1 ≤ d ∧ c2 8 0 6 = c 8 0 6 + nI d := by
  have hi12 : i < 12 := by omega
  have hTi := hJ i hi
  have e11 : m 0 i 11 = nI y := (hTi.1 11 (by decide) (by decide) (by decide)).symm.trans hy
  have ek : m 1 i y = nI kd := (hTi.2.1 1 y (by decide) (by decide)).symm.trans hkd
  have e2 : m 2 i y = c 2 i y := (hTi.2.1 2 y (by decide) (by decide)).symm
  by_cases hk9 : kd = 9
  · subst hk9
    -- a guard
    have hA : AR n i (u3 (ac1 c i) 0 i 11 (nI (y + 1))) (u3 (u3 (am1 m i) 0 i 11 (nI (y + 1))) 8 0 37 1) := by
      refine ⟨hn, by simpa [am1, u3] using hm, hi, fun t ht => ?_, by simpa [ac1, am1, u3] using hw, by simpa [ac1, am1, u3] using hg 7 (by decide), by simp [ac1, am1, u3, hg 6 (by decide)], by simpa [ac1, am1, u3] using hg 8 (by decide), by simpa [ac1, am1, u3] using hg 9 (by decide), by simp [ac1, u3]⟩
      have q0 := hJ t ht
      have q1 : TJ n (ac1 c i) (am1 m i) t := ((q0.glob (k := 6) (k' := 6) (v := c 8 0 6 + 1) (v' := m 8 0 6 + 1)).num (i := i) (q := 14) (v := 1) (by decide)).globm
      exact (q1.next (z := z) (by simpa [ac1, u3] using hz) hz16 (by omega)).globm
    obtain ⟨f, c', m', d, p1, p2, p3, p4, p5, p6, ⟨y', q1, q2, q3⟩, p8, p9⟩ := gl (b0 := b0) (n := n) (i := i) (z := z) (Rr := z - (y + 1)) (G := if nI (z - (y + 1)) < c 2 i y then nI (z - (y + 1)) else c 2 i y) (many := c 2 i y) (minG (by omega)) hz16 (z - (y + 1)) 64 64 0 (y + 1) _ _ none hA (by simp [u3]) (by simpa [ac1, u3] using hs) u3_same (by simpa [ac1, u3] using hz) (by omega) (by omega) (by omega) (by omega) (by omega)
    obtain ⟨a1, a2, a3, a4, a5, a6, a7, a8, a9, a10⟩ := p3
    have K1 : KA n i c (u3 (ac1 c i) 0 i 11 (nI (y + 1))) := KA.u 0 i 11 _ (Or.inl ⟨rfl, rfl, hi, by decide, by decide, by decide⟩) (KA.u 0 i 14 _ (Or.inl ⟨rfl, rfl, hi, by decide, by decide, by decide⟩) (KA.u 8 0 6 _ (Or.inr (Or.inl ⟨rfl, by decide, by decide, by decide, by decide⟩)) KA.rf))
    have K2 : KA n i m (u3 (u3 (am1 m i) 0 i 11 (nI (y + 1))) 8 0 37 1) := KA.u 8 0 37 _ (Or.inr (Or.inl ⟨rfl, by decide, by decide, by decide, by decide⟩)) (KA.u 0 i 11 _ (Or.inl ⟨rfl, rfl, hi, by decide, by decide, by decide⟩) (KA.u 8 0 36 _ (Or.inr (Or.inl ⟨rfl, by decide, by decide, by decide, by decide⟩)) (KA.u 0 i 14 _ (Or.inl ⟨rfl, rfl, hi, by decide, by decide, by decide⟩) (KA.u 8 0 6 _ (Or.inr (Or.inl ⟨rfl, by decide, by decide, by decide, by decide⟩)) KA.rf))))
    refine ⟨f, u3 c' 8 0 8 (c' 8 0 8 + 1), u3 (u3 m' 8 0 37 0) 8 0 8 (m' 8 0 8 + 1), d + 1, fun m0 wk0 => ⟨fun h => absurd rfl h, fun _ => ?_⟩, fun c0 wk0 => ?_, ⟨a1, by simpa [u3] using a2, a3, fun t ht => (a4 t ht).globm.glob, by simpa [u3] using a5, by simpa [u3] using a6, by simpa [u3] using a7, by simp [u3, a8], by simpa [u3] using a9, by simpa [u3] using a10⟩, KA.u 8 0 8 _ (Or.inr (Or.inl ⟨rfl, by decide, by decide, by decide, by decide⟩)) (K1.tr p4), KA.u 8 0 8 _ (Or.inr (Or.inl ⟨rfl, by decide, by decide, by decide, by decide⟩)) (KA.u 8 0 37 _ (Or.inr (Or.inl ⟨rfl, by decide, by decide, by decide, by decide⟩)) (K2.tr p5)), by simp [u3], Or.inl (by simpa [u3] using p6), ⟨y', q1, by simpa [u3] using q2, q3, fun h => ?_⟩, by omega, by omega, ?_⟩
    · rw [cv_guard hi hy hz hyz hz16]
      exact p1 m0 wk0
    · refine ma_guard hi12 e11 (by omega) ek ?_
      rw [ma_gd, e2]
      exact p2 c0 wk0
    · have h : c' 0 i 8 = 2 := by simpa [u3] using h
      rw [p6] at h; exact absurd h (by decide)
    · have h6 : c' 8 0 6 = c 8 0 6 + 1 + nI d := by simpa [ac1, u3] using p9
      have h7 : u3 c' 8 0 8 (c' 8 0 8 + 1) 8 0 6 = c' 8 0 6 := by simp [u3]
      rw [h7, h6, ← nI_add1]
      grind
  · -- any other act
    have hA : AR n i (u3 c 0 i 14 1) (u3 (u3 m 0 i 14 1) 8 0 36 0) := by
      refine ⟨hn, by simpa [u3] using hm, hi, fun t ht => ?_, by simpa [u3] using hw, by simpa [u3] using hg 7 (by decide), by simpa [u3] using hg 6 (by decide), by simpa [u3] using hg 8 (by decide), by simpa [u3] using hg 9 (by decide), by simp [u3]⟩
      exact ((hJ t ht).num (i := i) (q := 14) (v := 1) (by decide)).globm
    obtain ⟨f, c', m2, o1, o2, o3, o4, o5, o6, o7, o8, o9, o10, o11, o12, o13⟩ := one (b0 := b0) (g := 0) hA (by simpa [u3] using h37.symm) (by simpa [u3] using hs) (by simpa [u3] using hy) (by simpa [u3] using hz) hz16 hyz (by simpa [u3] using hkd) hk16 hk9
    have hac : ac1 (u3 c 0 i 14 1) i = ac1 c i := by
      funext a1 i1 k1
      simp only [ac1, u3]
      by_cases q1 : a1 = 0 <;> by_cases q2 : i1 = i <;> by_cases q3 : k1 = 14 <;> simp [q1, q2, q3]
    have ham : u3 (u3 (u3 m 0 i 14 1) 8 0 36 0) 8 0 6 ((u3 (u3 m 0 i 14 1) 8 0 36 0) 8 0 6 + 1) = am1 m i := by
      funext a1 i1 k1
      simp only [am1, u3]
      by_cases q1 : a1 = 0 <;> by_cases q2 : a1 = 8 <;> by_cases q3 : k1 = 14 <;> by_cases q4 : k1 = 6 <;> by_cases q5 : k1 = 36 <;> simp [q1, q2, q3, q4, q5]
    rw [ham] at o2
    have hs0 : (u3 c 0 i 14 1) 0 i 8 = 0 := by simpa [u3] using hs
    have K1 : KA n i c (u3 c 0 i 14 1) := KA.u 0 i 14 _ (Or.inl ⟨rfl, rfl, hi, by decide, by decide, by decide⟩) KA.rf
    have K2 : KA n i m (u3 (u3 m 0 i 14 1) 8 0 36 0) := KA.u 8 0 36 _ (Or.inr (Or.inl ⟨rfl, by decide, by decide, by decide, by decide⟩)) (KA.u 0 i 14 _ (Or.inl ⟨rfl, rfl, hi, by decide, by decide, by decide⟩) KA.rf)
    refine ⟨f, c', _, 1, fun m0 wk0 => ⟨fun _ => ?_, fun h => absurd h hk9⟩, fun c0 wk0 => ma_simple hi12 e11 (by omega) ek hk16 hk9 (o2 c0 wk0), o3, K1.tr o4, KA.u 0 i 11 _ (Or.inl ⟨rfl, rfl, hi, by decide, by decide, by decide⟩) (K2.tr o5), ?_, ?_, ?_, by decide, by decide, ?_⟩
    · have h1 := cf_doAct (b0 := b0) (m := m0) (wk := wk0) (g := 0) hi hy (by omega) hkd hk16
      have h2 := cf_doAct (b0 := b0) (m := m0) (wk := wk0) (c := u3 c 0 i 14 1) (g := 0) (x := y) (kd := kd) hi (by simpa [u3] using hy) (by omega) (by simpa [u3] using hkd) hk16
      rw [hac] at h2
      have e5 : (u3 c 0 i 14 1) 2 i y = c 2 i y := by simp [u3]
      have e6 : (u3 c 0 i 14 1) 3 i y = c 3 i y := by simp [u3]
      rw [e5, e6] at h2
      rw [h1, ← h2]
      exact o1 m0 wk0
    · simpa [u3] using o6.trans (by simpa [u3] using h37)
    · rcases o9 with h | h
      · exact Or.inl (h.trans hs0)
      · exact Or.inr ⟨h.1, h.2.2⟩
    · rcases o10 with h | h
      · exact ⟨y, by omega, h, fun _ => by omega, fun _ => by omega⟩
      · refine ⟨y + 1, by omega, h.1, fun hf => absurd h.2 hf, fun h2 => ?_⟩
        have := (o12 h2).symm.trans h.1
        have := (nI_eq (by omega) (by omega)).mp this
        omega
    · rw [o13]
      simp [u3]
      rfl
