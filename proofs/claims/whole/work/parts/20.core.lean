/-- what an act may change -/
def Kp (n i : Nat) (c c' : xc) : Prop :=
  (∀ a t k, n ≤ t → a ≤ 7 → c' a t k = c a t k) ∧
  (∀ t k, (k = 0 ∨ k = 1 ∨ k = 2 ∨ k = 9 ∨ k = 11 ∨ k = 13 ∨ k = 14 ∨ k = 15 ∨ k = 16 ∨ k = 17 ∨ k = 18 ∨ k = 20) → c' 0 t k = c 0 t k) ∧
  (∀ t, t ≠ i → c' 0 t 8 = c 0 t 8 ∧ c' 0 t 12 = c 0 t 12) ∧
  (c' 0 i 8 = c 0 i 8 ∨ c' 0 i 8 = 2) ∧
  (∀ a t k, 1 ≤ a → a ≤ 3 → c' a t k = c a t k) ∧
  (∀ k, k ≠ 7 → k ≠ 36 → c' 8 0 k = c 8 0 k) ∧ (∀ k, c' 9 0 k = c 9 0 k)
theorem Kp.rf {n i : Nat} {c : xc} : Kp n i c c := ⟨fun _ _ _ _ _ => rfl, fun _ _ _ => rfl, fun _ _ => ⟨rfl, rfl⟩, Or.inl rfl, fun _ _ _ _ _ => rfl, fun _ _ _ => rfl, fun _ => rfl⟩
theorem Kp.u {n i : Nat} {c c1 : xc} (a t k : Nat) (v : Int32) (hp : (a = 0 ∧ t < n ∧ (k = 10 ∨ k = 21 ∨ k = 22 ∨ k = 23 ∨ k = 24 ∨ k = 25 ∨ k = 26)) ∨ (a = 0 ∧ t = i ∧ i < n ∧ k = 12) ∨ (4 ≤ a ∧ a ≤ 7 ∧ t < n) ∨ (a = 8 ∧ (k = 7 ∨ k = 36))) (h : Kp n i c c1) : Kp n i c (u3 c1 a t k v) := by
  obtain ⟨k1, k2, k3, k4, k5, k6, k7⟩ := h
  refine ⟨fun a1 t1 q h1 h2 => ?_, fun t1 q hq => ?_, fun t1 ht => ⟨?_, ?_⟩, ?_, fun a1 t1 q h1 h2 => ?_, fun q h1 h2 => ?_, fun q => ?_⟩
  · rw [← k1 a1 t1 q h1 h2]; simp only [u3]; split; (split; (split; (exfalso; omega); rfl); rfl); rfl
  · rw [← k2 t1 q hq]; simp only [u3]; split; (split; (split; (exfalso; omega); rfl); rfl); rfl
  · rw [← (k3 t1 ht).1]; simp only [u3]; split; (split; (split; (exfalso; omega); rfl); rfl); rfl
  · rw [← (k3 t1 ht).2]; simp only [u3]; split; (split; (split; (exfalso; omega); rfl); rfl); rfl
  · have e : u3 c1 a t k v 0 i 8 = c1 0 i 8 := by simp only [u3]; split; (split; (split; (exfalso; omega); rfl); rfl); rfl
    rw [e]; exact k4
  · rw [← k5 a1 t1 q h1 h2]; simp only [u3]; split; (split; (split; (exfalso; omega); rfl); rfl); rfl
  · rw [← k6 q h1 h2]; simp only [u3]; split; (split; (split; (exfalso; omega); rfl); rfl); rfl
  · rw [← k7 q]; simp only [u3]; split; (split; (split; (exfalso; omega); rfl); rfl); rfl
theorem Kp.b {n i : Nat} {c c1 : xc} (a t N : Nat) (g : Nat → Int32) (hp : 4 ≤ a ∧ a ≤ 7 ∧ t < n) (h : Kp n i c c1) : Kp n i c (bf c1 a t N g) := by
  obtain ⟨k1, k2, k3, k4, k5, k6, k7⟩ := h
  refine ⟨fun a1 t1 q h1 h2 => ?_, fun t1 q hq => ?_, fun t1 ht => ⟨?_, ?_⟩, ?_, fun a1 t1 q h1 h2 => ?_, fun q h1 h2 => ?_, fun q => ?_⟩
  · rw [← k1 a1 t1 q h1 h2]; exact bf_i (by omega) a1 q
  · rw [← k2 t1 q hq]; exact bf_a (by omega) t1 q
  · rw [← (k3 t1 ht).1]; exact bf_a (by omega) t1 8
  · rw [← (k3 t1 ht).2]; exact bf_a (by omega) t1 12
  · rw [bf_a (by omega) i 8]; exact k4
  · rw [← k5 a1 t1 q h1 h2]; exact bf_a (by omega) t1 q
  · rw [← k6 q h1 h2]; exact bf_a (by omega) 0 q
  · rw [← k7 q]; exact bf_a (by omega) 0 q
theorem Kp.st {n i : Nat} {c c1 : xc} (hi : i < n) (h : Kp n i c c1) : Kp n i c (u3 c1 0 i 8 2) := by
  obtain ⟨k1, k2, k3, k4, k5, k6, k7⟩ := h
  refine ⟨fun a1 t1 q h1 h2 => ?_, fun t1 q hq => ?_, fun t1 ht => ⟨?_, ?_⟩, Or.inr u3_same, fun a1 t1 q h1 h2 => ?_, fun q h1 h2 => ?_, fun q => ?_⟩
  · rw [← k1 a1 t1 q h1 h2]; exact u3_i (by omega) a1 q
  · rw [← k2 t1 q hq]; simp only [u3]; split; (split; (split; (exfalso; omega); rfl); rfl); rfl
  · rw [← (k3 t1 ht).1]; exact u3_i ht 0 8
  · rw [← (k3 t1 ht).2]; exact u3_i ht 0 12
  · rw [← k5 a1 t1 q h1 h2]; exact u3_a (by omega) t1 q
  · rw [← k6 q h1 h2]; exact u3_a (by decide) 0 q
  · rw [← k7 q]; exact u3_a (by decide) 0 q
/-- one act, but for what stands around it: class and reference answer alike, and stay alike -/
def CoreOk (b0 n i : Nat) (c m : xc) (g : Int32) (kd : Nat) (a b : Int32) : Prop :=
  ∃ (f : Int32) (c2 m2 : xc),
    (∀ (m0 : xc) (wk0 : Nat → Int64), sw_X6_doAct_54 b0 kd [some (.inr (.inr (some (hA b0 0)))), some (.inr (.inr (some (tA b0 i 0)))), some (.inl g), some (.inl a), some (.inl b), none] [] (hp b0 n c m0 wk0) = some (some (.inl f), hp b0 n (tl1 c2 i f) m0 wk0)) ∧
    (∀ (c0 : xc) (wk0 : Nat → Int64) (l2 : Option xV), sw_X7_simple_24 b0 kd [some (.inr (.inr (some (hA b0 3)))), some (.inl (nI i)), l2, some (.inl (nI kd)), some (.inl a), some (.inl b)] [] (hp b0 n c0 m wk0) = some (some (.inl f), hp b0 n c0 m2 wk0)) ∧
    (∀ t, t < n → TJ n c2 m2 t) ∧ Kp n i c c2 ∧ Kp n i m m2 ∧ c2 0 i 12 = m2 8 0 36 ∧ c2 8 0 7 = m2 8 0 7 ∧ (g ≠ 0 → c2 0 i 8 = c 0 i 8) ∧ (c2 0 i 8 = 2 → c 0 i 8 = 2 ∨ f = 0)
/-- as things stand before an act -/
def PreA (n i : Nat) (c m : xc) (g : Int32) : Prop := n ≤ 12 ∧ m 8 0 2 = nI n ∧ i < n ∧ (∀ t, t < n → TJ n c m t) ∧ c 0 i 12 = m 8 0 36 ∧ c 8 0 7 = m 8 0 7 ∧ g = m 8 0 37
theorem co_add {b0 n i : Nat} {c m : xc} {g a b : Int32} (hP : PreA n i c m g)  : CoreOk b0 n i c m g 0 a b := by
  obtain ⟨hn, hm, hi, hJ, hw, hl, hg⟩ := hP
  have hi12 : i < 12 := by omega
  obtain ⟨s1, s2, s3, s4, s5, s6, s7, s8, s9, s10⟩ := id (hJ i hi)
  have sh : ∀ k, k ≠ 0 → k ≠ 12 → k ≠ 13 → m 0 i k = c 0 i k := fun k h1 h2 h3 => (s1 k h1 h2 h3).symm
  have e1 := sh 1 (by decide) (by decide) (by decide)
  have e10 := sh 10 (by decide) (by decide) (by decide)
  refine ⟨0, _, _, fun m0 wk0 => ck_add hi, fun c0 wk0 l2 => mk_add hi12, fun t ht => (by rw [e10, e1]; exact (hJ t ht).sum), Kp.u 0 i 10 _ (Or.inl ⟨rfl, hi, by decide⟩) Kp.rf, Kp.u 0 i 10 _ (Or.inl ⟨rfl, hi, by decide⟩) Kp.rf, by simpa [u3, bf] using hw, by simpa [u3, bf] using hl, fun _ => by simp [u3, bf], fun h => Or.inr rfl⟩
theorem co_by {b0 n i : Nat} {c m : xc} {g a b : Int32} (hP : PreA n i c m g)  : CoreOk b0 n i c m g 1 a b := by
  obtain ⟨hn, hm, hi, hJ, hw, hl, hg⟩ := hP
  have hi12 : i < 12 := by omega
  obtain ⟨s1, s2, s3, s4, s5, s6, s7, s8, s9, s10⟩ := id (hJ i hi)
  have sh : ∀ k, k ≠ 0 → k ≠ 12 → k ≠ 13 → m 0 i k = c 0 i k := fun k h1 h2 h3 => (s1 k h1 h2 h3).symm
  have e10 := sh 10 (by decide) (by decide) (by decide)
  by_cases h0 : a = 0
  · refine ⟨6, c, m, fun m0 wk0 => ?_, fun c0 wk0 l2 => ?_, hJ, Kp.rf, Kp.rf, hw, hl, fun _ => rfl, fun h => Or.inl h⟩
    · rw [ck_by hi, if_pos h0, if_pos h0]
    · rw [mk_by hi12, if_pos h0, if_pos h0]
  · refine ⟨0, u3 c 0 i 10 (c 0 i 10 / a), u3 m 0 i 10 (m 0 i 10 / a), fun m0 wk0 => ?_, fun c0 wk0 l2 => ?_, fun t ht => (by rw [e10]; exact (hJ t ht).sum), Kp.u 0 i 10 _ (Or.inl ⟨rfl, hi, by decide⟩) Kp.rf, Kp.u 0 i 10 _ (Or.inl ⟨rfl, hi, by decide⟩) Kp.rf, by simpa [u3, bf] using hw, by simpa [u3, bf] using hl, fun _ => by simp [u3, bf], fun h => Or.inr rfl⟩
    · rw [ck_by hi, if_neg h0, if_neg h0]
    · rw [mk_by hi12, if_neg h0, if_neg h0]
theorem co_row {b0 n i : Nat} {c m : xc} {g a b : Int32} (hP : PreA n i c m g) (ha : a ≤ 40) : CoreOk b0 n i c m g 2 a b := by
  obtain ⟨hn, hm, hi, hJ, hw, hl, hg⟩ := hP
  have hi12 : i < 12 := by omega
  obtain ⟨s1, s2, s3, s4, s5, s6, s7, s8, s9, s10⟩ := id (hJ i hi)
  have sh : ∀ k, k ≠ 0 → k ≠ 12 → k ≠ 13 → m 0 i k = c 0 i k := fun k h1 h2 h3 => (s1 k h1 h2 h3).symm
  by_cases h0 : a < 0
  · refine ⟨5, c, m, fun m0 wk0 => ?_, fun c0 wk0 l2 => mk_rowNeg hi12 h0, hJ, Kp.rf, Kp.rf, hw, hl, fun _ => rfl, fun h => Or.inl h⟩
    rw [ck_row hi, if_pos h0, if_pos h0]
  · obtain ⟨z, hz, rfl⟩ := nI_of h0
    have hz40 : z ≤ 40 := (nI_leI (b := 40) hz (by decide)).mp ha
    refine ⟨0, u3 (bf c 6 i 40 (fun _ => 0)) 0 i 22 (nI z), _, fun m0 wk0 => ?_, fun c0 wk0 l2 => mk_row hi12 hz40, fun t ht => (hJ t ht).row hz40, Kp.u 0 i 22 _ (Or.inl ⟨rfl, hi, by decide⟩) (Kp.b 6 i 40 _ ⟨by decide, by decide, hi⟩ Kp.rf), Kp.b 6 i z _ ⟨by decide, by decide, hi⟩ (Kp.u 0 i 22 _ (Or.inl ⟨rfl, hi, by decide⟩) Kp.rf), by simpa [u3, bf] using hw, by simpa [u3, bf] using hl, fun _ => by simp [u3, bf], fun h => Or.inr rfl⟩
    rw [ck_row hi, if_neg h0, if_neg h0]
theorem co_put {b0 n i : Nat} {c m : xc} {g a b : Int32} (hP : PreA n i c m g)  : CoreOk b0 n i c m g 3 a b := by
  obtain ⟨hn, hm, hi, hJ, hw, hl, hg⟩ := hP
  have hi12 : i < 12 := by omega
  obtain ⟨s1, s2, s3, s4, s5, s6, s7, s8, s9, s10⟩ := id (hJ i hi)
  have sh : ∀ k, k ≠ 0 → k ≠ 12 → k ≠ 13 → m 0 i k = c 0 i k := fun k h1 h2 h3 => (s1 k h1 h2 h3).symm
  have e22 := sh 22 (by decide) (by decide) (by decide)
  have e10 := sh 10 (by decide) (by decide) (by decide)
  rcases s5 with g0 | ⟨z, g1, g2, g3⟩
  · refine ⟨1, c, m, fun m0 wk0 => ?_, fun c0 wk0 l2 => mk_putNo1 hi12 (e22.trans g0), hJ, Kp.rf, Kp.rf, hw, hl, fun _ => rfl, fun h => Or.inl h⟩
    have hno : ¬ (0 ≤ a ∧ a < c 0 i 22 ∧ a < 40) := by
      rintro ⟨q1, q2, -⟩
      rw [g0] at q2
      grind
    rw [ck_putNo hi hno, if_pos g0]
  · have hn4 : ¬ c 0 i 22 = -4 := fun e => absurd (show nI z < 0 by rw [← g2, e]; decide) (nI_pos (by omega))
    by_cases hv : 0 ≤ a ∧ a < nI z
    · obtain ⟨y, hyb, rfl⟩ := nI_of (x := a) (k2_nlt hv.1)
      have hyz : y < z := (nI_ltI hyb (by omega)).mp hv.2
      have h40 : nI y < 40 := nI_lt (b := 40) (by omega) (by decide)
      refine ⟨0, u3 c 6 i y (c 0 i 10), u3 m 6 i y (m 0 i 10), fun m0 wk0 => ?_, fun c0 wk0 l2 => mk_put hi12 (e22.trans g2) g1 hyz, fun t ht => (by rw [e10]; exact (hJ t ht).put), Kp.u 6 i y _ (Or.inr (Or.inr (Or.inl ⟨by decide, by decide, hi⟩))) Kp.rf, Kp.u 6 i y _ (Or.inr (Or.inr (Or.inl ⟨by decide, by decide, hi⟩))) Kp.rf, by simpa [u3, bf] using hw, by simpa [u3, bf] using hl, fun _ => by simp [u3, bf], fun h => Or.inr rfl⟩
      have := ck_put (b0 := b0) (n := n) (c := c) (m := m0) (wk := wk0) (g := g) (b := b) hi hv.1 (by rw [g2]; exact hv.2) h40
      rw [nI_clamp hyb] at this
      exact this
    · refine ⟨2, c, m, fun m0 wk0 => ?_, fun c0 wk0 l2 => mk_putNo2 hi12 (e22.trans g2) g1 hv, hJ, Kp.rf, Kp.rf, hw, hl, fun _ => rfl, fun h => Or.inl h⟩
      have hno : ¬ (0 ≤ a ∧ a < c 0 i 22 ∧ a < 40) := by
        rintro ⟨q1, q2, -⟩
        rw [g2] at q2
        exact hv ⟨q1, q2⟩
      rw [ck_putNo hi hno, if_neg hn4]
theorem co_get {b0 n i : Nat} {c m : xc} {g a b : Int32} (hP : PreA n i c m g)  : CoreOk b0 n i c m g 4 a b := by
  obtain ⟨hn, hm, hi, hJ, hw, hl, hg⟩ := hP
  have hi12 : i < 12 := by omega
  obtain ⟨s1, s2, s3, s4, s5, s6, s7, s8, s9, s10⟩ := id (hJ i hi)
  have sh : ∀ k, k ≠ 0 → k ≠ 12 → k ≠ 13 → m 0 i k = c 0 i k := fun k h1 h2 h3 => (s1 k h1 h2 h3).symm
  have e22 := sh 22 (by decide) (by decide) (by decide)
  have e10 := sh 10 (by decide) (by decide) (by decide)
  rcases s5 with g0 | ⟨z, g1, g2, g3⟩
  · refine ⟨1, c, m, fun m0 wk0 => ?_, fun c0 wk0 l2 => mk_getNo1 hi12 (e22.trans g0), hJ, Kp.rf, Kp.rf, hw, hl, fun _ => rfl, fun h => Or.inl h⟩
    have hno : ¬ (0 ≤ a ∧ a < c 0 i 22 ∧ a < 40) := by
      rintro ⟨q1, q2, -⟩
      rw [g0] at q2
      grind
    rw [ck_getNo hi hno, if_pos g0]
  · have hn4 : ¬ c 0 i 22 = -4 := fun e => absurd (show nI z < 0 by rw [← g2, e]; decide) (nI_pos (by omega))
    by_cases hv : 0 ≤ a ∧ a < nI z
    · obtain ⟨y, hyb, rfl⟩ := nI_of (x := a) (k2_nlt hv.1)
      have hyz : y < z := (nI_ltI hyb (by omega)).mp hv.2
      have h40 : nI y < 40 := nI_lt (b := 40) (by omega) (by decide)
      have hrow := (g3 y hyz).symm
      refine ⟨0, u3 c 0 i 10 (c 0 i 10 + c 6 i y), u3 m 0 i 10 (m 0 i 10 + m 6 i y), fun m0 wk0 => ?_, fun c0 wk0 l2 => mk_get hi12 (e22.trans g2) g1 hyz, fun t ht => (by rw [e10, hrow]; exact (hJ t ht).sum), Kp.u 0 i 10 _ (Or.inl ⟨rfl, hi, by decide⟩) Kp.rf, Kp.u 0 i 10 _ (Or.inl ⟨rfl, hi, by decide⟩) Kp.rf, by simpa [u3, bf] using hw, by simpa [u3, bf] using hl, fun _ => by simp [u3, bf], fun h => Or.inr rfl⟩
      have := ck_get (b0 := b0) (n := n) (c := c) (m := m0) (wk := wk0) (g := g) (b := b) hi hv.1 (by rw [g2]; exact hv.2) h40
      rw [nI_clamp hyb] at this
      exact this
    · refine ⟨2, c, m, fun m0 wk0 => ?_, fun c0 wk0 l2 => mk_getNo2 hi12 (e22.trans g2) g1 hv, hJ, Kp.rf, Kp.rf, hw, hl, fun _ => rfl, fun h => Or.inl h⟩
      have hno : ¬ (0 ≤ a ∧ a < c 0 i 22 ∧ a < 40) := by
        rintro ⟨q1, q2, -⟩
        rw [g2] at q2
        exact hv ⟨q1, q2⟩
      rw [ck_getNo hi hno, if_neg hn4]
theorem co_take {b0 n i : Nat} {c m : xc} {g a b : Int32} (hP : PreA n i c m g)  : CoreOk b0 n i c m g 5 a b := by
  obtain ⟨hn, hm, hi, hJ, hw, hl, hg⟩ := hP
  have hi12 : i < 12 := by omega
  obtain ⟨s1, s2, s3, s4, s5, s6, s7, s8, s9, s10⟩ := id (hJ i hi)
  have sh : ∀ k, k ≠ 0 → k ≠ 12 → k ≠ 13 → m 0 i k = c 0 i k := fun k h1 h2 h3 => (s1 k h1 h2 h3).symm
  have e21 := sh 21 (by decide) (by decide) (by decide)
  have e10 := sh 10 (by decide) (by decide) (by decide)
  have e4 := (s2 4 0 (by decide) (by decide)).symm
  obtain ⟨z, hz6, hz⟩ := s4
  cases z with
  | zero =>
    have h0 : c 0 i 21 = 0 := hz
    by_cases hg0 : g = 0
    · have hg1 : m 8 0 37 = 0 := hg.symm.trans hg0
      refine ⟨0, u3 c 0 i 8 2, u3 m 0 i 8 2, fun m0 wk0 => ?_, fun c0 wk0 l2 => ?_, fun t ht => (hJ t ht).state (z := 2) (by decide), Kp.st hi Kp.rf, Kp.st hi Kp.rf, by simpa [u3] using hw, by simpa [u3] using hl, fun h => absurd hg0 h, fun h => Or.inr rfl⟩
      · rw [ck_takeNo hi h0, if_pos hg0, if_pos hg0]
      · rw [mk_takeNo hi12 (e21.trans h0), if_pos hg1, if_pos hg1]
    · have hg1 : ¬ m 8 0 37 = 0 := fun h => hg0 (hg.trans h)
      refine ⟨9, c, m, fun m0 wk0 => ?_, fun c0 wk0 l2 => ?_, hJ, Kp.rf, Kp.rf, hw, hl, fun _ => rfl, fun h => Or.inl h⟩
      · rw [ck_takeNo hi h0, if_neg hg0, if_neg hg0]
      · rw [mk_takeNo hi12 (e21.trans h0), if_neg hg1, if_neg hg1]
  | succ z =>
    refine ⟨0, _, _, fun m0 wk0 => ck_take hi hz (by omega), fun c0 wk0 l2 => mk_take hi12 (e21.trans hz) (by omega), fun t ht => (by rw [e10, e4]; exact TJ.take (by omega) (hJ i hi) (hJ t ht)), Kp.u 0 i 10 _ (Or.inl ⟨rfl, hi, by decide⟩) (Kp.b 4 i z _ ⟨by decide, by decide, hi⟩ (Kp.u 0 i 21 _ (Or.inl ⟨rfl, hi, by decide⟩) Kp.rf)), Kp.b 4 i z _ ⟨by decide, by decide, hi⟩ (Kp.u 0 i 21 _ (Or.inl ⟨rfl, hi, by decide⟩) (Kp.u 0 i 10 _ (Or.inl ⟨rfl, hi, by decide⟩) Kp.rf)), by simpa [u3, bf] using hw, by simpa [u3, bf] using hl, fun _ => by simp [u3, bf], fun h => Or.inr rfl⟩
theorem co_send {b0 n i : Nat} {c m : xc} {g a b : Int32} (hP : PreA n i c m g)  : CoreOk b0 n i c m g 6 a b := by
  obtain ⟨hn, hm, hi, hJ, hw, hl, hg⟩ := hP
  have hi12 : i < 12 := by omega
  obtain ⟨s1, s2, s3, s4, s5, s6, s7, s8, s9, s10⟩ := id (hJ i hi)
  have sh : ∀ k, k ≠ 0 → k ≠ 12 → k ≠ 13 → m 0 i k = c 0 i k := fun k h1 h2 h3 => (s1 k h1 h2 h3).symm
  have e10 := sh 10 (by decide) (by decide) (by decide)
  by_cases hv : 0 ≤ a ∧ a < nI n
  case neg => exact ⟨2, c, m, fun m0 wk0 => ck_sendNo hi hn hv, fun c0 wk0 l2 => mk_sendNo hi12 hn hm hv, hJ, Kp.rf, Kp.rf, hw, hl, fun _ => rfl, fun h => Or.inl h⟩
  obtain ⟨j, hjb, rfl⟩ := nI_of (x := a) (k2_nlt hv.1)
  have hj : j < n := (nI_ltI hjb (by omega)).mp hv.2
  obtain ⟨r1, r2, r3, r4, r5, r6, r7, r8, ⟨q, hq5, hq⟩, r10⟩ := id (hJ j hj)
  have e8 : m 0 j 8 = nI q := (r1 8 (by decide) (by decide) (by decide)).symm.trans hq
  have e21 := (r1 21 (by decide) (by decide) (by decide)).symm
  by_cases ho : 3 ≤ q
  · have h1 : c 0 j 8 = 3 ∨ c 0 j 8 = 4 ∨ c 0 j 8 = 5 := by
      rw [hq]
      rcases (show q = 3 ∨ q = 4 ∨ q = 5 by omega) with rfl | rfl | rfl <;> decide
    have h2 : ¬ m 0 j 8 ≤ 2 := by rw [e8]; exact nI_ge (a := 2) (by omega) (by omega)
    exact ⟨0, _, _, fun m0 wk0 => ck_sendLost hi hn hj h1, fun c0 wk0 l2 => mk_sendLost hi12 hn hm hj h2, fun t ht => (hJ t ht).glob, Kp.u 8 0 7 _ (Or.inr (Or.inr (Or.inr ⟨rfl, by decide⟩))) Kp.rf, Kp.u 8 0 7 _ (Or.inr (Or.inr (Or.inr ⟨rfl, by decide⟩))) Kp.rf, by simpa [u3] using hw, by simp [u3, hl], fun _ => by simp [u3], fun h => Or.inr rfl⟩
  · have h1 : ¬ (c 0 j 8 = 3 ∨ c 0 j 8 = 4 ∨ c 0 j 8 = 5) := by
      rw [hq]
      rcases (show q = 0 ∨ q = 1 ∨ q = 2 by omega) with rfl | rfl | rfl <;> decide
    have h2 : m 0 j 8 ≤ 2 := by rw [e8]; exact nI_le (b := 2) (by omega) (by decide)
    obtain ⟨z, hz6, hz⟩ := r4
    by_cases h6 : z < 6
    · have h7 : ¬ c 0 j 21 < 0 := by rw [hz]; exact nI_pos (by omega)
      have h8 : c 0 j 21 < 6 := by rw [hz]; exact nI_lt (b := 6) h6 (by decide)
      have hc := fun m0 wk0 => ck_send (b0 := b0) (m := m0) (wk := wk0) (g := g) (b := b) hi hn hj h1 h7 h8
      rw [hz, nI_clamp (by omega), nI_add1] at hc
      exact ⟨0, _, _, hc, fun c0 wk0 l2 => mk_send hi12 hn hm hj h2 (e21.trans hz) h6, fun t ht => (by rw [e10]; exact (hJ t ht).let h6), Kp.u 0 j 21 _ (Or.inl ⟨rfl, hj, by decide⟩) (Kp.u 4 j z _ (Or.inr (Or.inr (Or.inl ⟨by decide, by decide, hj⟩))) Kp.rf), Kp.u 0 j 21 _ (Or.inl ⟨rfl, hj, by decide⟩) (Kp.u 4 j z _ (Or.inr (Or.inr (Or.inl ⟨by decide, by decide, hj⟩))) Kp.rf), by simpa [u3, bf] using hw, by simpa [u3, bf] using hl, fun _ => by simp [u3, bf], fun h => Or.inr rfl⟩
    · have hz6 : z = 6 := by omega
      subst hz6
      have h8 : ¬ c 0 j 21 < 6 := by rw [hz]; decide
      exact ⟨7, c, m, fun m0 wk0 => ck_sendFull hi hn hj h1 h8, fun c0 wk0 l2 => mk_sendFull hi12 hn hm hj h2 (e21.trans hz), hJ, Kp.rf, Kp.rf, hw, hl, fun _ => rfl, fun h => Or.inl h⟩
theorem co_wait {b0 n i : Nat} {c m : xc} {g a b : Int32} (hP : PreA n i c m g)  : CoreOk b0 n i c m g 7 a b := by
  obtain ⟨hn, hm, hi, hJ, hw, hl, hg⟩ := hP
  have hi12 : i < 12 := by omega
  obtain ⟨s1, s2, s3, s4, s5, s6, s7, s8, s9, s10⟩ := id (hJ i hi)
  have sh : ∀ k, k ≠ 0 → k ≠ 12 → k ≠ 13 → m 0 i k = c 0 i k := fun k h1 h2 h3 => (s1 k h1 h2 h3).symm
  by_cases h0 : a ≤ 0
  · refine ⟨0, c, u3 m 8 0 36 (m 8 0 36), fun m0 wk0 => ?_, fun c0 wk0 l2 => ?_, fun t ht => (hJ t ht).globm, Kp.rf, Kp.u 8 0 36 _ (Or.inr (Or.inr (Or.inr ⟨rfl, by decide⟩))) Kp.rf, by simpa [u3] using hw, by simpa [u3] using hl, fun _ => rfl, fun h => Or.inl h⟩
    · rw [ck_wait hi, if_pos h0]
    · rw [mk_wait hi12, if_pos h0]
  · refine ⟨0, u3 c 0 i 12 a, u3 m 8 0 36 a, fun m0 wk0 => ?_, fun c0 wk0 l2 => ?_, fun t ht => (hJ t ht).wait.globm, Kp.u 0 i 12 _ (Or.inr (Or.inl ⟨rfl, rfl, hi, rfl⟩)) Kp.rf, Kp.u 8 0 36 _ (Or.inr (Or.inr (Or.inr ⟨rfl, by decide⟩))) Kp.rf, by simp [u3], by simpa [u3] using hl, fun _ => by simp [u3], fun h => Or.inr rfl⟩
    · rw [ck_wait hi, if_neg h0]
    · rw [mk_wait hi12, if_neg h0]
theorem co_mark {b0 n i : Nat} {c m : xc} {g a b : Int32} (hP : PreA n i c m g) {x z : Nat} (hx : c 0 i 11 = nI x) (hz : c 0 i 20 = nI z) (hz16 : z ≤ 16) (hxz : x < z) : CoreOk b0 n i c m g 8 a b := by
  obtain ⟨hn, hm, hi, hJ, hw, hl, hg⟩ := hP
  have hi12 : i < 12 := by omega
  obtain ⟨s1, s2, s3, s4, s5, s6, s7, s8, s9, s10⟩ := id (hJ i hi)
  have sh : ∀ k, k ≠ 0 → k ≠ 12 → k ≠ 13 → m 0 i k = c 0 i k := fun k h1 h2 h3 => (s1 k h1 h2 h3).symm
  have e22 := sh 22 (by decide) (by decide) (by decide)
  have hN : ∃ N, (m 0 i 22 = -4 ∧ N = 0) ∨ (m 0 i 22 = nI N ∧ N ≤ 40) := by
    rcases s5 with g0 | ⟨N, g1, g2, g3⟩
    · exact ⟨0, Or.inl ⟨e22.trans g0, rfl⟩⟩
    · exact ⟨N, Or.inr ⟨e22.trans g2, g1⟩⟩
  obtain ⟨N, hN⟩ := hN
  have hK : Kp n i c (smk c i 40) := Kp.u 0 i 25 _ (Or.inl ⟨rfl, hi, by decide⟩) (Kp.u 0 i 26 _ (Or.inl ⟨rfl, hi, by decide⟩) (Kp.b 7 i 40 _ ⟨by decide, by decide, hi⟩ (Kp.u 0 i 24 _ (Or.inl ⟨rfl, hi, by decide⟩) Kp.rf)))
  have hK2 : Kp n i m (bf (mk1 m i) 7 i N (m 6 i)) := Kp.b 7 i N _ ⟨by decide, by decide, hi⟩ (Kp.u 0 i 26 _ (Or.inl ⟨rfl, hi, by decide⟩) (Kp.u 0 i 25 _ (Or.inl ⟨rfl, hi, by decide⟩) (Kp.u 0 i 24 _ (Or.inl ⟨rfl, hi, by decide⟩) Kp.rf)))
  exact ⟨0, _, _, fun m0 wk0 => ck_mark hi, fun c0 wk0 l2 => mk_mark hi12 hN, fun t ht => (hJ t ht).mark hx hz hz16 hxz hN, hK, hK2, by simpa [smk, mk1, u3, bf] using hw, by simpa [smk, mk1, u3, bf] using hl, fun _ => by simp [smk, u3, bf], fun h => Or.inr rfl⟩
theorem co_box {b0 n i : Nat} {c m : xc} {g a b : Int32} (hP : PreA n i c m g)  : CoreOk b0 n i c m g 10 a b := by
  obtain ⟨hn, hm, hi, hJ, hw, hl, hg⟩ := hP
  have hi12 : i < 12 := by omega
  obtain ⟨s1, s2, s3, s4, s5, s6, s7, s8, s9, s10⟩ := id (hJ i hi)
  have sh : ∀ k, k ≠ 0 → k ≠ 12 → k ≠ 13 → m 0 i k = c 0 i k := fun k h1 h2 h3 => (s1 k h1 h2 h3).symm
  exact ⟨0, _, _, fun m0 wk0 => ck_box hi, fun c0 wk0 l2 => mk_box hi12, fun t ht => (hJ t ht).box, Kp.b 5 i 3 _ ⟨by decide, by decide, hi⟩ (Kp.u 0 i 23 _ (Or.inl ⟨rfl, hi, by decide⟩) Kp.rf), Kp.b 5 i 3 _ ⟨by decide, by decide, hi⟩ (Kp.u 0 i 23 _ (Or.inl ⟨rfl, hi, by decide⟩) Kp.rf), by simpa [u3, bf] using hw, by simpa [u3, bf] using hl, fun _ => by simp [u3, bf], fun h => Or.inr rfl⟩
theorem co_ints {b0 n i : Nat} {c m : xc} {g a b : Int32} (hP : PreA n i c m g)  : CoreOk b0 n i c m g 11 a b := by
  obtain ⟨hn, hm, hi, hJ, hw, hl, hg⟩ := hP
  have hi12 : i < 12 := by omega
  obtain ⟨s1, s2, s3, s4, s5, s6, s7, s8, s9, s10⟩ := id (hJ i hi)
  have sh : ∀ k, k ≠ 0 → k ≠ 12 → k ≠ 13 → m 0 i k = c 0 i k := fun k h1 h2 h3 => (s1 k h1 h2 h3).symm
  have e23 := sh 23 (by decide) (by decide) (by decide)
  have hk3 : m 0 i 23 = -4 ∨ m 0 i 23 = 0 ∨ m 0 i 23 = 1 := by
    rw [e23]
    rcases s7 with h | h | h
    · exact Or.inl h
    · exact Or.inr (Or.inl h)
    · exact Or.inr (Or.inr h.1)
  by_cases hf : (if ¬ c 0 i 23 = 0 ∧ ¬ c 0 i 23 = -4 then (4 : Int32) else if c 0 i 23 = -4 then 1 else if ¬ a < 0 ∧ ¬ 3 ≤ a then 0 else 2) = 0
  case neg =>
    have hf2 : ¬ (if ¬ m 0 i 23 = 0 ∧ ¬ m 0 i 23 = -4 then (4 : Int32) else if m 0 i 23 = -4 then 1 else if ¬ a < 0 ∧ ¬ 3 ≤ a then 0 else 2) = 0 := by rw [e23]; exact hf
    have hc := fun m0 wk0 => ck_intsF (b0 := b0) (m := m0) (wk := wk0) (g := g) (b := b) hi hf
    have hmm := fun c0 wk0 l2 => mk_intsF (b0 := b0) (n := n) (c := c0) (wk := wk0) (l2 := l2) (b := b) hi12 hk3 hf2
    rw [e23] at hmm
    exact ⟨_, c, m, hc, hmm, hJ, Kp.rf, Kp.rf, hw, hl, fun _ => rfl, fun h => Or.inl h⟩
  have hk : c 0 i 23 = 0 := by
    apply Classical.byContradiction
    intro h
    by_cases h4 : c 0 i 23 = -4
    · simp [h4] at hf
    · simp [h, h4] at hf
  have h03 : ¬ a < 0 ∧ ¬ 3 ≤ a := by
    apply Classical.byContradiction
    intro h
    rw [hk] at hf
    rw [if_neg (by decide), if_neg (by decide), if_neg h] at hf
    exact absurd hf (by decide)
  obtain ⟨y, hyb, rfl⟩ := nI_of (x := a) h03.1
  have hy3 : y < 3 := (nI_ltI (b := 3) hyb (by decide)).mp (k2_lt h03.2)
  have hlt : nI y < 3 := k2_lt h03.2
  have e10 := sh 10 (by decide) (by decide) (by decide)
  have hc := fun m0 wk0 => ck_ints (b0 := b0) (m := m0) (wk := wk0) (g := g) (b := b) hi h03.1 hlt hk
  rw [nI_clamp hyb] at hc
  exact ⟨0, _, _, hc, fun c0 wk0 l2 => mk_ints hi12 (e23.trans hk) hy3, fun t ht => (by rw [e10]; exact (hJ t ht).ints hk), Kp.u 5 i y _ (Or.inr (Or.inr (Or.inl ⟨by decide, by decide, hi⟩))) Kp.rf, Kp.u 5 i y _ (Or.inr (Or.inr (Or.inl ⟨by decide, by decide, hi⟩))) Kp.rf, by simpa [u3, bf] using hw, by simpa [u3, bf] using hl, fun _ => by simp [u3, bf], fun h => Or.inr rfl⟩
theorem co_oth {b0 n i : Nat} {c m : xc} {g a b : Int32} (hP : PreA n i c m g)  : CoreOk b0 n i c m g 12 a b := by
  obtain ⟨hn, hm, hi, hJ, hw, hl, hg⟩ := hP
  have hi12 : i < 12 := by omega
  obtain ⟨s1, s2, s3, s4, s5, s6, s7, s8, s9, s10⟩ := id (hJ i hi)
  have sh : ∀ k, k ≠ 0 → k ≠ 12 → k ≠ 13 → m 0 i k = c 0 i k := fun k h1 h2 h3 => (s1 k h1 h2 h3).symm
  by_cases hv : 0 ≤ b ∧ b < nI n
  case neg => exact ⟨2, c, m, fun m0 wk0 => ck_othNo hi hn hv, fun c0 wk0 l2 => mk_othNo hi12 hn hm hv, hJ, Kp.rf, Kp.rf, hw, hl, fun _ => rfl, fun h => Or.inl h⟩
  obtain ⟨j, hjb, rfl⟩ := nI_of (x := b) (k2_nlt hv.1)
  have hj : j < n := (nI_ltI hjb (by omega)).mp hv.2
  have e23 := sh 23 (by decide) (by decide) (by decide)
  have hk3 : m 0 i 23 = -4 ∨ m 0 i 23 = 0 ∨ m 0 i 23 = 1 := by
    rw [e23]
    rcases s7 with h | h | h
    · exact Or.inl h
    · exact Or.inr (Or.inl h)
    · exact Or.inr (Or.inr h.1)
  by_cases hf : (if ¬ c 0 i 23 = 1 ∧ ¬ c 0 i 23 = -4 then (4 : Int32) else if c 0 i 23 = -4 then 1 else if ¬ a < 0 ∧ ¬ 3 ≤ a then 0 else 2) = 0
  case neg =>
    have hf2 : ¬ (if ¬ m 0 i 23 = 1 ∧ ¬ m 0 i 23 = -4 then (4 : Int32) else if m 0 i 23 = -4 then 1 else if ¬ a < 0 ∧ ¬ 3 ≤ a then 0 else 2) = 0 := by rw [e23]; exact hf
    have hc := fun m0 wk0 => ck_othF (b0 := b0) (m := m0) (wk := wk0) (g := g) hi hn hj hf
    have hmm := fun c0 wk0 l2 => mk_othF (b0 := b0) (n := n) (c := c0) (wk := wk0) (l2 := l2) hi12 hn hm hj hk3 hf2
    rw [e23] at hmm
    exact ⟨_, c, m, hc, hmm, hJ, Kp.rf, Kp.rf, hw, hl, fun _ => rfl, fun h => Or.inl h⟩
  have hk : c 0 i 23 = 1 := by
    apply Classical.byContradiction
    intro h
    by_cases h4 : c 0 i 23 = -4
    · simp [h4] at hf
    · simp [h, h4] at hf
  have h03 : ¬ a < 0 ∧ ¬ 3 ≤ a := by
    apply Classical.byContradiction
    intro h
    rw [hk] at hf
    rw [if_neg (by decide), if_neg (by decide), if_neg h] at hf
    exact absurd hf (by decide)
  obtain ⟨y, hyb, rfl⟩ := nI_of (x := a) h03.1
  have hy3 : y < 3 := (nI_ltI (b := 3) hyb (by decide)).mp (k2_lt h03.2)
  have hlt : nI y < 3 := k2_lt h03.2
  have hc := fun m0 wk0 => ck_oth (b0 := b0) (m := m0) (wk := wk0) (g := g) hi hn hj h03.1 hlt hk
  rw [nI_clamp hyb] at hc
  exact ⟨0, _, _, hc, fun c0 wk0 l2 => mk_oth hi12 hn hm hj (e23.trans hk) hy3, fun t ht => (hJ t ht).oth hk hj, Kp.u 5 i y _ (Or.inr (Or.inr (Or.inl ⟨by decide, by decide, hi⟩))) Kp.rf, Kp.u 5 i y _ (Or.inr (Or.inr (Or.inl ⟨by decide, by decide, hi⟩))) Kp.rf, by simpa [u3, bf] using hw, by simpa [u3, bf] using hl, fun _ => by simp [u3, bf], fun h => Or.inr rfl⟩
theorem co_ask {b0 n i : Nat} {c m : xc} {g a b : Int32} (hP : PreA n i c m g)  : CoreOk b0 n i c m g 13 a b := by
  obtain ⟨hn, hm, hi, hJ, hw, hl, hg⟩ := hP
  have hi12 : i < 12 := by omega
  obtain ⟨s1, s2, s3, s4, s5, s6, s7, s8, s9, s10⟩ := id (hJ i hi)
  have sh : ∀ k, k ≠ 0 → k ≠ 12 → k ≠ 13 → m 0 i k = c 0 i k := fun k h1 h2 h3 => (s1 k h1 h2 h3).symm
  have e23 := sh 23 (by decide) (by decide) (by decide)
  have hk3 : m 0 i 23 = -4 ∨ m 0 i 23 = 0 ∨ m 0 i 23 = 1 := by
    rw [e23]
    rcases s7 with h | h | h
    · exact Or.inl h
    · exact Or.inr (Or.inl h)
    · exact Or.inr (Or.inr h.1)
  by_cases hf : (if ¬ c 0 i 23 = 1 ∧ ¬ c 0 i 23 = -4 then (4 : Int32) else if c 0 i 23 = -4 then 1 else if ¬ a < 0 ∧ ¬ 3 ≤ a then 0 else 2) = 0
  case neg =>
    have hf2 : ¬ (if ¬ m 0 i 23 = 1 ∧ ¬ m 0 i 23 = -4 then (4 : Int32) else if m 0 i 23 = -4 then 1 else if ¬ a < 0 ∧ ¬ 3 ≤ a then 0 else 2) = 0 := by rw [e23]; exact hf
    have hc := fun m0 wk0 => ck_askF (b0 := b0) (m := m0) (wk := wk0) (g := g) (b := b) hi hf
    have hmm := fun c0 wk0 l2 => mk_askF (b0 := b0) (n := n) (c := c0) (wk := wk0) (l2 := l2) (b := b) hi12 hk3 hf2
    rw [e23] at hmm
    exact ⟨_, c, m, hc, hmm, hJ, Kp.rf, Kp.rf, hw, hl, fun _ => rfl, fun h => Or.inl h⟩
  have hk : c 0 i 23 = 1 := by
    apply Classical.byContradiction
    intro h
    by_cases h4 : c 0 i 23 = -4
    · simp [h4] at hf
    · simp [h, h4] at hf
  have h03 : ¬ a < 0 ∧ ¬ 3 ≤ a := by
    apply Classical.byContradiction
    intro h
    rw [hk] at hf
    rw [if_neg (by decide), if_neg (by decide), if_neg h] at hf
    exact absurd hf (by decide)
  obtain ⟨y, hyb, rfl⟩ := nI_of (x := a) h03.1
  have hy3 : y < 3 := (nI_ltI (b := 3) hyb (by decide)).mp (k2_lt h03.2)
  have hlt : nI y < 3 := k2_lt h03.2
  have e5 := (s2 5 y (by decide) (by decide)).symm
  have e10 := sh 10 (by decide) (by decide) (by decide)
  have h5 : c 5 i y = -4 ∨ ∃ j, j < n ∧ c 5 i y = nI j := by
    rcases s7 with h | h | h
    · rw [hk] at h; exact absurd h (by decide)
    · rw [hk] at h; exact absurd h (by decide)
    · exact h.2 y hy3
  rcases h5 with h5 | ⟨j, hj, h5⟩
  · exact ⟨1, c, m, fun m0 wk0 => ck_askNone hi hn hk h03.1 hlt (by rw [nI_clamp hyb]; exact h5), fun c0 wk0 l2 => mk_askNone hi12 (e23.trans hk) hy3 (e5.trans h5), hJ, Kp.rf, Kp.rf, hw, hl, fun _ => rfl, fun h => Or.inl h⟩
  · have ej := ((hJ j hj).1 10 (by decide) (by decide) (by decide)).symm
    exact ⟨0, _, _, fun m0 wk0 => ck_ask hi hn hj hk h03.1 hlt (by rw [nI_clamp hyb]; exact h5), fun c0 wk0 l2 => mk_ask hi12 (e23.trans hk) hy3 (by omega) (e5.trans h5), fun t ht => (by rw [e10, ej]; exact (hJ t ht).sum), Kp.u 0 i 10 _ (Or.inl ⟨rfl, hi, by decide⟩) Kp.rf, Kp.u 0 i 10 _ (Or.inl ⟨rfl, hi, by decide⟩) Kp.rf, by simpa [u3, bf] using hw, by simpa [u3, bf] using hl, fun _ => by simp [u3, bf], fun h => Or.inr rfl⟩
theorem co_check {b0 n i : Nat} {c m : xc} {g a b : Int32} (hP : PreA n i c m g)  : CoreOk b0 n i c m g 14 a b := by
  obtain ⟨hn, hm, hi, hJ, hw, hl, hg⟩ := hP
  have hi12 : i < 12 := by omega
  obtain ⟨s1, s2, s3, s4, s5, s6, s7, s8, s9, s10⟩ := id (hJ i hi)
  have sh : ∀ k, k ≠ 0 → k ≠ 12 → k ≠ 13 → m 0 i k = c 0 i k := fun k h1 h2 h3 => (s1 k h1 h2 h3).symm
  have e10 := sh 10 (by decide) (by decide) (by decide)
  have hmm := fun c0 wk0 l2 => mk_check (b0 := b0) (n := n) (c := c0) (m := m) (wk := wk0) (l2 := l2) (a := a) (b := b) hi12
  rw [e10] at hmm
  exact ⟨_, c, m, fun m0 wk0 => ck_check hi, hmm, hJ, Kp.rf, Kp.rf, hw, hl, fun _ => rfl, fun h => Or.inl h⟩
theorem co_copy {b0 n i : Nat} {c m : xc} {g a b : Int32} (hP : PreA n i c m g)  : CoreOk b0 n i c m g 15 a b := by
  obtain ⟨hn, hm, hi, hJ, hw, hl, hg⟩ := hP
  have hi12 : i < 12 := by omega
  obtain ⟨s1, s2, s3, s4, s5, s6, s7, s8, s9, s10⟩ := id (hJ i hi)
  have sh : ∀ k, k ≠ 0 → k ≠ 12 → k ≠ 13 → m 0 i k = c 0 i k := fun k h1 h2 h3 => (s1 k h1 h2 h3).symm
  have e22 := sh 22 (by decide) (by decide) (by decide)
  have e23 := sh 23 (by decide) (by decide) (by decide)
  by_cases h1 : c 0 i 22 = -4 ∨ c 0 i 23 = -4
  · exact ⟨1, c, m, fun m0 wk0 => ck_copyNo hi h1, fun c0 wk0 l2 => mk_copyNo hi12 (by rw [e22, e23]; exact h1), hJ, Kp.rf, Kp.rf, hw, hl, fun _ => rfl, fun h => Or.inl h⟩
  have h22 : ¬ c 0 i 22 = -4 := fun h => h1 (Or.inl h)
  have h23 : ¬ c 0 i 23 = -4 := fun h => h1 (Or.inr h)
  rcases s7 with h | h0 | ⟨h0, -⟩
  · exact absurd h h23
  · by_cases h3 : a < 0 ∨ c 0 i 22 < a ∨ 3 < a
    · exact ⟨2, c, m, fun m0 wk0 => ck_copyIdx hi h22 h0 h3, fun c0 wk0 l2 => mk_copyIdx hi12 (by rw [e22]; exact h22) (e23.trans h0) (by rw [e22]; exact h3), hJ, Kp.rf, Kp.rf, hw, hl, fun _ => rfl, fun h => Or.inl h⟩
    · obtain ⟨y, hyb, rfl⟩ := nI_of (x := a) (fun h => h3 (Or.inl h))
      have q1 : ¬ c 0 i 22 < nI y := fun h => h3 (Or.inr (Or.inl h))
      have q2 : y ≤ 3 := (nI_leI (b := 3) hyb (by decide)).mp (k2_le (fun h => h3 (Or.inr (Or.inr h))))
      rcases s5 with g0 | ⟨z, g1, g2, g3⟩
      · exact absurd g0 h22
      · have q3 : y ≤ z := by
          rw [g2] at q1
          exact (nI_leI hyb (by omega)).mp (k2_le q1)
        exact ⟨0, _, _, fun m0 wk0 => ck_copy hi h22 h0 q1 q2, fun c0 wk0 l2 => mk_copy hi12 (by rw [e22]; exact h22) (e23.trans h0) (by rw [e22]; exact q1) q2, fun t ht => TJ.copy h0 g2 g1 q3 (hJ i hi) (hJ t ht), Kp.b 5 i y _ ⟨by decide, by decide, hi⟩ Kp.rf, Kp.b 5 i y _ ⟨by decide, by decide, hi⟩ Kp.rf, by simpa [u3, bf] using hw, by simpa [u3, bf] using hl, fun _ => by simp [u3, bf], fun h => Or.inr rfl⟩
  · exact ⟨3, c, m, fun m0 wk0 => ck_copyStore hi h22 h23 (by rw [h0]; decide), fun c0 wk0 l2 => mk_copyStore hi12 (by rw [e22]; exact h22) (e23.trans h0), hJ, Kp.rf, Kp.rf, hw, hl, fun _ => rfl, fun h => Or.inl h⟩
theorem core {b0 n i x z kd : Nat} {c m : xc} {g : Int32} (hP : PreA n i c m g) (hx : c 0 i 11 = nI x) (hz : c 0 i 20 = nI z) (hz16 : z ≤ 16) (hxz : x < z) (hkd : c 1 i x = nI kd) (hk16 : kd < 16) (hk9 : kd ≠ 9) : CoreOk b0 n i c m g kd (c 2 i x) (c 3 i x) := by
  have h40 : kd = 2 → c 2 i x ≤ 40 := by
    rintro rfl
    obtain ⟨-, -, -, -, -, -, -, s8, -⟩ := hP.2.2.2.1 i hP.2.2.1
    exact s8.2 x (by omega) hkd
  rcases (show kd = 0 ∨ kd = 1 ∨ kd = 2 ∨ kd = 3 ∨ kd = 4 ∨ kd = 5 ∨ kd = 6 ∨ kd = 7 ∨ kd = 8 ∨ kd = 10 ∨ kd = 11 ∨ kd = 12 ∨ kd = 13 ∨ kd = 14 ∨ kd = 15 by omega) with rfl | rfl | rfl | rfl | rfl | rfl | rfl | rfl | rfl | rfl | rfl | rfl | rfl | rfl | rfl
  · exact co_add hP
  · exact co_by hP
  · exact co_row hP (h40 rfl)
  · exact co_put hP
  · exact co_get hP
  · exact co_take hP
  · exact co_send hP
  · exact co_wait hP
  · exact co_mark hP hx hz hz16 hxz
  · exact co_box hP
  · exact co_ints hP
  · exact co_oth hP
  · exact co_ask hP
  · exact co_check hP
  · exact co_copy hP
