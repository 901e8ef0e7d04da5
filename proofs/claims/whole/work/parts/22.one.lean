/-- while a task does its acts -/
def AR (n i : Nat) (c m : xc) : Prop := n ≤ 12 ∧ m 8 0 2 = nI n ∧ i < n ∧ (∀ t, t < n → TJ n c m t) ∧ c 0 i 12 = m 8 0 36 ∧ c 8 0 7 = m 8 0 7 ∧ c 8 0 6 = m 8 0 6 ∧ c 8 0 8 = m 8 0 8 ∧ c 8 0 9 = m 8 0 9 ∧ c 0 i 14 = 1
/-- what a task's turn may change -/
def KA (n i : Nat) (c c' : xc) : Prop :=
  (∀ a t k, n ≤ t → a ≤ 7 → c' a t k = c a t k) ∧
  (∀ t, t ≠ i → c' 0 t 8 = c 0 t 8 ∧ c' 0 t 12 = c 0 t 12 ∧ c' 0 t 9 = c 0 t 9) ∧
  (∀ t, c' 0 t 13 = c 0 t 13 ∧ c' 0 t 2 = c 0 t 2 ∧ c' 0 t 20 = c 0 t 20) ∧
  (∀ k, (k = 2 ∨ k = 3 ∨ k = 4 ∨ k = 5) → c' 8 0 k = c 8 0 k) ∧ (∀ k, c' 9 0 k = c 9 0 k) ∧
  (∀ a t k, 1 ≤ a → a ≤ 3 → c' a t k = c a t k)
theorem KA.rf {n i : Nat} {c : xc} : KA n i c c := ⟨fun _ _ _ _ _ => rfl, fun _ _ => ⟨rfl, rfl, rfl⟩, fun _ => ⟨rfl, rfl, rfl⟩, fun _ _ => rfl, fun _ => rfl, fun _ _ _ _ _ => rfl⟩
theorem KA.tr {n i : Nat} {c c1 c2 : xc} (h : KA n i c c1) (h' : KA n i c1 c2) : KA n i c c2 := by
  obtain ⟨k1, k2, k3, k4, k5, k6⟩ := h
  obtain ⟨j1, j2, j3, j4, j5, j6⟩ := h'
  exact ⟨fun a t k h1 h2 => (j1 a t k h1 h2).trans (k1 a t k h1 h2), fun t ht => ⟨(j2 t ht).1.trans (k2 t ht).1, (j2 t ht).2.1.trans (k2 t ht).2.1, (j2 t ht).2.2.trans (k2 t ht).2.2⟩, fun t => ⟨(j3 t).1.trans (k3 t).1, (j3 t).2.1.trans (k3 t).2.1, (j3 t).2.2.trans (k3 t).2.2⟩, fun k hk => (j4 k hk).trans (k4 k hk), fun k => (j5 k).trans (k5 k), fun a t k h1 h2 => (j6 a t k h1 h2).trans (k6 a t k h1 h2)⟩
theorem Kp.ka {n i : Nat} {c c1 : xc} (h : Kp n i c c1) : KA n i c c1 := by
  obtain ⟨k1, k2, k3, k4, k5, k6, k7⟩ := h
  exact ⟨k1, fun t ht => ⟨(k3 t ht).1, (k3 t ht).2, k2 t 9 (by decide)⟩, fun t => ⟨k2 t 13 (by decide), k2 t 2 (by decide), k2 t 20 (by decide)⟩, fun k hk => k6 k (by omega) (by omega), k7, k5⟩
theorem KA.u {n i : Nat} {c c1 : xc} (a t k : Nat) (v : Int32) (hp : (a = 0 ∧ t = i ∧ i < n ∧ k ≠ 13 ∧ k ≠ 2 ∧ k ≠ 20) ∨ (a = 8 ∧ k ≠ 2 ∧ k ≠ 3 ∧ k ≠ 4 ∧ k ≠ 5) ∨ (4 ≤ a ∧ a ≤ 7 ∧ t < n)) (h : KA n i c c1) : KA n i c (u3 c1 a t k v) := by
  obtain ⟨k1, k2, k3, k4, k5, k6⟩ := h
  refine ⟨fun a1 t1 q h1 h2 => ?_, fun t1 ht => ⟨?_, ?_, ?_⟩, fun t1 => ⟨?_, ?_, ?_⟩, fun q hq => ?_, fun q => ?_, fun a1 t1 q h1 h2 => ?_⟩
  · rw [← k1 a1 t1 q h1 h2]; simp only [u3]; split; (split; (split; (exfalso; omega); rfl); rfl); rfl
  · rw [← (k2 t1 ht).1]; simp only [u3]; split; (split; (split; (exfalso; omega); rfl); rfl); rfl
  · rw [← (k2 t1 ht).2.1]; simp only [u3]; split; (split; (split; (exfalso; omega); rfl); rfl); rfl
  · rw [← (k2 t1 ht).2.2]; simp only [u3]; split; (split; (split; (exfalso; omega); rfl); rfl); rfl
  · rw [← (k3 t1).1]; simp only [u3]; split; (split; (split; (exfalso; omega); rfl); rfl); rfl
  · rw [← (k3 t1).2.1]; simp only [u3]; split; (split; (split; (exfalso; omega); rfl); rfl); rfl
  · rw [← (k3 t1).2.2]; simp only [u3]; split; (split; (split; (exfalso; omega); rfl); rfl); rfl
  · rw [← k4 q hq]; simp only [u3]; split; (split; (split; (exfalso; omega); rfl); rfl); rfl
  · rw [← k5 q]; simp only [u3]; split; (split; (split; (exfalso; omega); rfl); rfl); rfl
  · rw [← k6 a1 t1 q h1 h2]; simp only [u3]; split; (split; (split; (exfalso; omega); rfl); rfl); rfl
theorem KA.b {n i : Nat} {c c1 : xc} (a t N : Nat) (g : Nat → Int32) (hp : 4 ≤ a ∧ a ≤ 7 ∧ t < n) (h : KA n i c c1) : KA n i c (bf c1 a t N g) := by
  obtain ⟨k1, k2, k3, k4, k5, k6⟩ := h
  refine ⟨fun a1 t1 q h1 h2 => ?_, fun t1 ht => ⟨?_, ?_, ?_⟩, fun t1 => ⟨?_, ?_, ?_⟩, fun q hq => ?_, fun q => ?_, fun a1 t1 q h1 h2 => ?_⟩
  · rw [← k1 a1 t1 q h1 h2]; exact bf_i (by omega) a1 q
  · rw [← (k2 t1 ht).1]; exact bf_a (by omega) t1 8
  · rw [← (k2 t1 ht).2.1]; exact bf_a (by omega) t1 12
  · rw [← (k2 t1 ht).2.2]; exact bf_a (by omega) t1 9
  · rw [← (k3 t1).1]; exact bf_a (by omega) t1 13
  · rw [← (k3 t1).2.1]; exact bf_a (by omega) t1 2
  · rw [← (k3 t1).2.2]; exact bf_a (by omega) t1 20
  · rw [← k4 q hq]; exact bf_a (by omega) 0 q
  · rw [← k5 q]; exact bf_a (by omega) 0 q
  · rw [← k6 a1 t1 q h1 h2]; exact bf_a (by omega) t1 q
/-- the act that is next, class and reference, before what follows it: g is 1 within a guard, else 0 -/
def OneOk (b0 n i : Nat) (c m : xc) (g : Int32) (y : Nat) : Prop :=
  ∃ (f : Int32) (c' m2 : xc),
    (∀ (m0 : xc) (wk0 : Nat → Int64), f_X6_doAct b0 [.inr (.inr (some (hA b0 0))), .inr (.inr (some (tA b0 i 0))), .inl g] (hp b0 n c m0 wk0) = some (some (.inl f), hp b0 n c' m0 wk0)) ∧
    (∀ (c0 : xc) (wk0 : Nat → Int64), f_X7_simple b0 [.inr (.inr (some (hA b0 3))), .inl (nI i), .inl (nI (16 * i + y))] (hp b0 n c0 (u3 m 8 0 6 (m 8 0 6 + 1)) wk0) = some (some (.inl f), hp b0 n c0 m2 wk0)) ∧
    AR n i c' (u3 m2 0 i 11 (m2 0 i 11 + if f = 0 ∧ ¬ m2 0 i 8 = 2 then 1 else 0)) ∧ KA n i c c' ∧ KA n i m m2 ∧
    m2 8 0 37 = m 8 0 37 ∧ m2 0 i 11 = nI y ∧ m2 0 i 8 = c' 0 i 8 ∧ (c' 0 i 8 = c 0 i 8 ∨ (c' 0 i 8 = 2 ∧ g = 0 ∧ f = 0)) ∧
    (c' 0 i 11 = nI y ∨ (c' 0 i 11 = nI (y + 1) ∧ f = 0)) ∧ (f = 0 → ¬ c' 0 i 8 = 2 → c' 0 i 11 = nI (y + 1)) ∧ (c' 0 i 8 = 2 → c' 0 i 11 = nI y) ∧ c' 8 0 6 = c 8 0 6 + 1
theorem one {b0 n i y z kd : Nat} {c m : xc} {g : Int32} (hA : AR n i c m) (hg : g = m 8 0 37) (hs : c 0 i 8 = 0) (hy : c 0 i 11 = nI y) (hz : c 0 i 20 = nI z) (hz16 : z ≤ 16) (hyz : y < z) (hkd : c 1 i y = nI kd) (hk16 : kd < 16) (hk9 : kd ≠ 9) : OneOk b0 n i c m g y := by
  obtain ⟨hn, hm, hi, hJ, hw, hl, h6, h8, h9, h14⟩ := hA
  have hP : PreA n i (ac1 c i) (u3 m 8 0 6 (m 8 0 6 + 1)) g := by
    refine ⟨hn, by simpa [u3] using hm, hi, fun t ht => ?_, by simpa [ac1, u3] using hw, by simpa [ac1, u3] using hl, by simpa [u3] using hg⟩
    have e : ac1 c i = u3 c 8 0 6 (c 8 0 6 + 1) := u3_self (by simpa [u3] using h14)
    rw [e]
    exact (hJ t ht).glob
  have e1 : ∀ k, ac1 c i 1 i k = c 1 i k := fun k => by simp [ac1, u3]
  have e2 : ∀ k, ac1 c i 2 i k = c 2 i k := fun k => by simp [ac1, u3]
  have e3 : ∀ k, ac1 c i 3 i k = c 3 i k := fun k => by simp [ac1, u3]
  have e11 : ac1 c i 0 i 11 = c 0 i 11 := by simp [ac1, u3]
  have e20 : ac1 c i 0 i 20 = c 0 i 20 := by simp [ac1, u3]
  have e8 : ac1 c i 0 i 8 = c 0 i 8 := by simp [ac1, u3]
  have hcore := core (b0 := b0) (z := z) hP (e11.trans hy) (e20.trans hz) hz16 hyz ((e1 y).trans hkd) hk16 hk9
  rw [e2, e3] at hcore
  obtain ⟨f, c2, m2, hc, hmm, hJ2, hKc, hKm, hw2, hl2, hg8, hf8⟩ := hcore
  rw [e8] at hg8 hf8
  obtain ⟨k1, k2, k3, k4, k5, k6, k7⟩ := id hKc
  obtain ⟨j1, j2, j3, j4, j5, j6, j7⟩ := id hKm
  have c11 : c2 0 i 11 = nI y := (k2 i 11 (by decide)).trans (e11.trans hy)
  have m11 : m2 0 i 11 = nI y := by
    rw [← (hJ2 i hi).1 11 (by decide) (by decide) (by decide)]; exact c11
  have m8 : m2 0 i 8 = c2 0 i 8 := ((hJ2 i hi).1 8 (by decide) (by decide) (by decide)).symm
  have c20 : c2 0 i 20 = nI z := (k2 i 20 (by decide)).trans (e20.trans hz)
  have c6 : c2 8 0 6 = c 8 0 6 + 1 := (k6 6 (by decide) (by decide)).trans (by simp [ac1, u3])
  have m6 : m2 8 0 6 = m 8 0 6 + 1 := (j6 6 (by decide) (by decide)).trans (by simp [u3])
  have c14 : c2 0 i 14 = 1 := (k2 i 14 (by decide)).trans (by simp [ac1, u3])
  have hst : c2 0 i 8 = 0 ∨ c2 0 i 8 = 2 := by
    rcases k4 with h | h
    · exact Or.inl (h.trans (e8.trans hs))
    · exact Or.inr h
  have hsim : ∀ (c0 : xc) (wk0 : Nat → Int64), f_X7_simple b0 [.inr (.inr (some (hA b0 3))), .inl (nI i), .inl (nI (16 * i + y))] (hp b0 n c0 (u3 m 8 0 6 (m 8 0 6 + 1)) wk0) = some (some (.inl f), hp b0 n c0 m2 wk0) := by
    intro c0 wk0
    have q1 : (u3 m 8 0 6 (m 8 0 6 + 1)) 1 i y = nI kd := by
      rw [← hkd, (hJ i hi).2.1 1 y (by decide) (by decide)]; simp [u3]
    have q2 : (u3 m 8 0 6 (m 8 0 6 + 1)) 2 i y = c 2 i y := by
      rw [(hJ i hi).2.1 2 y (by decide) (by decide)]; simp [u3]
    have q3 : (u3 m 8 0 6 (m 8 0 6 + 1)) 3 i y = c 3 i y := by
      rw [(hJ i hi).2.1 3 y (by decide) (by decide)]; simp [u3]
    rw [mf_simple (by omega) (by omega) q1 hk16, q2, q3]
    exact hmm c0 wk0 _
  have hcl : ∀ (m0 : xc) (wk0 : Nat → Int64), f_X6_doAct b0 [.inr (.inr (some (hA b0 0))), .inr (.inr (some (tA b0 i 0))), .inl g] (hp b0 n c m0 wk0) = some (some (.inl f), hp b0 n (tl1 c2 i f) m0 wk0) := by
    intro m0 wk0
    rw [cf_doAct hi hy (by omega) hkd hk16]
    exact hc m0 wk0
  have K1 : KA n i c (ac1 c i) := KA.u 0 i 14 _ (Or.inl ⟨rfl, rfl, hi, by decide, by decide, by decide⟩) (KA.u 8 0 6 _ (Or.inr (Or.inl ⟨rfl, by decide, by decide, by decide, by decide⟩)) KA.rf)
  have K2 : KA n i m m2 := (KA.u 8 0 6 _ (Or.inr (Or.inl ⟨rfl, by decide, by decide, by decide, by decide⟩)) KA.rf).tr hKm.ka
  have m37 : m2 8 0 37 = m 8 0 37 := (j6 37 (by decide) (by decide)).trans (by simp [u3])
  have m2n : m2 8 0 2 = nI n := (j6 2 (by decide) (by decide)).trans (by simpa [u3] using hm)
  have x8 : c2 8 0 8 = m2 8 0 8 := by
    rw [k6 8 (by decide) (by decide), j6 8 (by decide) (by decide)]; simpa [ac1, u3] using h8
  have x9 : c2 8 0 9 = m2 8 0 9 := by
    rw [k6 9 (by decide) (by decide), j6 9 (by decide) (by decide)]; simpa [ac1, u3] using h9
  by_cases hf : f = 0 ∧ ¬ c2 0 i 8 = 2
  · have et : tl1 c2 i f = u3 c2 0 i 11 (nI (y + 1)) := by unfold tl1; rw [if_pos hf, c11, nI_add1]
    have em : u3 m2 0 i 11 (m2 0 i 11 + if f = 0 ∧ ¬ m2 0 i 8 = 2 then 1 else 0) = u3 m2 0 i 11 (nI (y + 1)) := by rw [m8, if_pos hf, m11, nI_add1]
    have h0 : c2 0 i 8 = 0 := by rcases hst with h | h; (exact h); exact absurd h hf.2
    refine ⟨f, u3 c2 0 i 11 (nI (y + 1)), m2, ?_, hsim, ?_, K1.tr (KA.u 0 i 11 _ (Or.inl ⟨rfl, rfl, hi, by decide, by decide, by decide⟩) hKc.ka), K2, m37, m11, ?_, Or.inl ?_, Or.inr ⟨u3_same, hf.1⟩, fun _ _ => u3_same, fun h => ?_, ?_⟩
    · intro m0 wk0; rw [hcl, et]
    · rw [em]
      exact ⟨hn, by simpa [u3] using m2n, hi, fun t ht => (hJ2 t ht).next c20 hz16 (by omega), by simpa [u3] using hw2, by simpa [u3] using hl2, by simp [u3, c6, m6, h6], by simpa [u3] using x8, by simpa [u3] using x9, by simpa [u3] using c14⟩
    · simpa [u3] using m8
    · rw [u3_k (by decide), h0, hs]
    · rw [u3_k (by decide), h0] at h; exact absurd h (by decide)
    · simpa [u3] using c6
  · have et : tl1 c2 i f = c2 := by unfold tl1; rw [if_neg hf]
    have em : u3 m2 0 i 11 (m2 0 i 11 + if f = 0 ∧ ¬ m2 0 i 8 = 2 then 1 else 0) = m2 := by
      rw [m8, if_neg hf]; exact u3_self (by simp)
    refine ⟨f, c2, m2, ?_, hsim, ?_, K1.tr hKc.ka, K2, m37, m11, m8, ?_, Or.inl c11, fun h1 h2 => absurd ⟨h1, h2⟩ hf, fun _ => c11, c6⟩
    · intro m0 wk0; rw [hcl, et]
    · rw [em]
      exact ⟨hn, m2n, hi, hJ2, hw2, hl2, by rw [c6, m6, h6], x8, x9, c14⟩
    · rcases hst with h | h
      · exact Or.inl (h.trans hs.symm)
      · refine Or.inr ⟨h, ?_, ?_⟩
        · apply Classical.byContradiction
          intro hg0
          have := hg8 hg0
          rw [h, hs] at this
          exact absurd this (by decide)
        · rcases hf8 h with h2 | h2
          · rw [hs] at h2; exact absurd h2 (by decide)
          · exact h2
