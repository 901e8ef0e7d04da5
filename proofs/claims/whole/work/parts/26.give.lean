/-- how many tasks are done -/
def cnt (c : xc) : Nat → Nat
  | 0 => 0
  | n + 1 => cnt c n + if c 0 n 8 = 3 then 1 else 0
theorem cnt_congr {c c' : xc} {n : Nat} (h : ∀ t, t < n → (c' 0 t 8 = 3 ↔ c 0 t 8 = 3)) : cnt c' n = cnt c n := by
  induction n with
  | zero => rfl
  | succ n ih =>
    have h1 := ih (fun t ht => h t (by omega))
    have h2 := h n (by omega)
    simp only [cnt, h1]
    by_cases e : c 0 n 8 = 3
    · rw [if_pos e, if_pos (h2.mpr e)]
    · rw [if_neg e, if_neg (fun q => e (h2.mp q))]
theorem cnt_add {c c' : xc} {n i : Nat} (hi : i < n) (h : ∀ t, t ≠ i → c' 0 t 8 = c 0 t 8) (h1 : ¬ c 0 i 8 = 3) (h2 : c' 0 i 8 = 3) : cnt c' n = cnt c n + 1 := by
  induction n with
  | zero => omega
  | succ n ih =>
    simp only [cnt]
    by_cases e : i = n
    · subst e
      rw [if_neg h1, if_pos h2, cnt_congr (fun t ht => by rw [h t (by omega)])]
    · rw [ih (by omega), h n (fun q => e q.symm)]
      omega
theorem cnt_le (c : xc) (n : Nat) : cnt c n ≤ n := by
  induction n with
  | zero => exact Nat.le_refl _
  | succ n ih => simp only [cnt]; split <;> omega
theorem cnt_lt {c : xc} {n i : Nat} (hi : i < n) (h1 : ¬ c 0 i 8 = 3) : cnt c n < n := by
  induction n with
  | zero => omega
  | succ n ih =>
    simp only [cnt]
    by_cases e : i = n
    · subst e
      rw [if_neg h1]
      have := cnt_le c i
      omega
    · have := ih (by omega)
      split <;> omega
/-- in the middle of a turn, the T-th behind it; A acts were done -/
def MT (W n T A : Nat) (c m : xc) (wk : Nat → Int64) : Prop :=
  n ≤ 12 ∧ (c 8 0 2 = nI n ∧ m 8 0 2 = nI n) ∧ (∀ t, t < n → TJ n c m t) ∧ (c 8 0 5 = nI (T + 1) ∧ m 8 0 5 = nI T) ∧
  (∀ k, (k = 3 ∨ k = 4 ∨ k = 6 ∨ k = 7 ∨ k = 8 ∨ k = 9) → c 8 0 k = m 8 0 k) ∧ (∀ k, c 9 0 k = m 9 0 k) ∧
  (1 ≤ W ∧ W ≤ 4 ∧ c 8 0 4 = nI W) ∧ m 8 0 37 = 0 ∧
  (∀ t, t < n → ∃ q, q ≤ T + 1 ∧ c 0 t 13 = nI q ∧ m 0 t 13 = if q = T + 1 then 1 else 0) ∧
  (∀ t, t < n → c 0 t 8 = 1 → 0 ≤ c 0 t 12 ∧ wk t = (nI T).toInt64 + (c 0 t 12).toInt64) ∧
  c 8 0 3 = nI (cnt c n) ∧
  (∀ a t k, n ≤ t → a ≤ 7 → c a t k = 0 ∧ m a t k = 0) ∧
  c 8 0 6 = nI A
def hm1 (m : xc) (i : Nat) : xc := u3 (u3 m 0 i 13 1) 0 i 9 0
theorem MT.fr {W n T A A' i : Nat} {c m c2 m2 : xc} {wk wk2 : Nat → Int64} (hM : MT W n T A c m wk) (hi : i < n) (hs : c 0 i 8 = 0) (hKc : KA n i (gv1 c i) c2) (hKm : KA n i (hm1 m i) m2) (hJ2 : ∀ t, t < n → TJ n c2 m2 t) (hg : ∀ k, (k = 6 ∨ k = 7 ∨ k = 8 ∨ k = 9) → c2 8 0 k = m2 8 0 k) (h37 : m2 8 0 37 = 0) (h6 : c2 8 0 6 = nI A') (h3 : ¬ c2 0 i 8 = 3) (hwk : ∀ t, t ≠ i → wk2 t = wk t) (hw : c2 0 i 8 = 1 → 0 ≤ c2 0 i 12 ∧ wk2 i = (nI T).toInt64 + (c2 0 i 12).toInt64) : MT W n T A' c2 m2 wk2 := by
  obtain ⟨M1, M2, M3, M4, M5, M6, M7, M8, M9, M10, M11, M12, M13⟩ := hM
  obtain ⟨k1, k2, k3, k4, k5, k6⟩ := hKc
  obtain ⟨j1, j2, j3, j4, j5, j6⟩ := hKm
  have g8 : ∀ k, gv1 c i 8 0 k = c 8 0 k := fun k => by simp [gv1, u3]
  have h8 : ∀ k, hm1 m i 8 0 k = m 8 0 k := fun k => by simp [hm1, u3]
  have g9 : ∀ k, gv1 c i 9 0 k = c 9 0 k := fun k => by simp [gv1, u3]
  have h9 : ∀ k, hm1 m i 9 0 k = m 9 0 k := fun k => by simp [hm1, u3]
  refine ⟨M1, ⟨(k4 2 (by decide)).trans ((g8 2).trans M2.1), (j4 2 (by decide)).trans ((h8 2).trans M2.2)⟩, hJ2, ⟨(k4 5 (by decide)).trans ((g8 5).trans M4.1), (j4 5 (by decide)).trans ((h8 5).trans M4.2)⟩, fun k hk => ?_, fun k => ?_, ?_, h37, fun t ht => ?_, fun t ht h1 => ?_, ?_, fun a t k h1 h2 => ?_, h6⟩
  · rcases hk with rfl | rfl | hk
    · rw [k4 3 (by decide), j4 3 (by decide), g8, h8]; exact M5 3 (by decide)
    · rw [k4 4 (by decide), j4 4 (by decide), g8, h8]; exact M5 4 (by decide)
    · exact hg k hk
  · rw [k5, j5, g9, h9]; exact M6 k
  · obtain ⟨w1, w2, w3⟩ := M7
    exact ⟨w1, w2, (k4 4 (by decide)).trans ((g8 4).trans w3)⟩
  · by_cases e : t = i
    · subst e
      refine ⟨T + 1, Nat.le_refl _, ?_, ?_⟩
      · rw [(k3 t).1]
        have : gv1 c t 0 t 13 = c 8 0 5 := by simp [gv1, u3]
        rw [this]; exact M4.1
      · rw [(j3 t).1, if_pos rfl]
        simp [hm1, u3]
    · obtain ⟨q, q1, q2, q3⟩ := M9 t ht
      refine ⟨q, q1, ?_, ?_⟩
      · rw [(k3 t).1]
        have : gv1 c i 0 t 13 = c 0 t 13 := by simp [gv1, u3, e]
        rw [this]; exact q2
      · rw [(j3 t).1]
        have : hm1 m i 0 t 13 = m 0 t 13 := by simp [hm1, u3, e]
        rw [this]; exact q3
  · by_cases e : t = i
    · subst e; exact hw h1
    · have q1 : c2 0 t 8 = c 0 t 8 := (k2 t e).1.trans (by simp [gv1, u3, e])
      have q2 : c2 0 t 12 = c 0 t 12 := (k2 t e).2.1.trans (by simp [gv1, u3, e])
      rw [q2, hwk t e]
      exact M10 t ht (q1.symm.trans h1)
  · rw [k4 3 (by decide), g8, M11]
    congr 1
    refine (cnt_congr fun t ht => ?_).symm
    by_cases e : t = i
    · subst e
      rw [hs]
      exact ⟨fun h => absurd h h3, fun h => absurd h (by decide)⟩
    · have q1 : c2 0 t 8 = c 0 t 8 := (k2 t e).1.trans (by simp [gv1, u3, e])
      rw [q1]
  · have e : t ≠ i := by omega
    rw [k1 a t k h1 h2, j1 a t k h1 h2]
    have q1 : gv1 c i a t k = c a t k := by simp [gv1, u3, e]
    have q2 : hm1 m i a t k = m a t k := by simp [hm1, u3, e]
    rw [q1, q2]
    exact M12 a t k h1 h2
/-- behind the acts: a task may be done -/
theorem MT.done {b0 W n T A i : Nat} {c m : xc} {wk : Nat → Int64} (hM : MT W n T A c m wk) (hi : i < n) (h3 : ¬ c 0 i 8 = 3) (hst : ¬ c 0 i 11 < c 0 i 20 → c 0 i 8 = 0 ∨ c 0 i 8 = 1) :
    ∃ c' m' : xc, (∀ (m0 : xc) (wk0 : Nat → Int64) (l2 : Option xV), k_X6_giveTurn_98 b0 [some (.inr (.inr (some (hA b0 0)))), some (.inr (.inr (some (tA b0 i 0)))), l2] [] (hp b0 n c m0 wk0) = some (none, hp b0 n c' m0 wk0)) ∧ (∀ (c0 : xc) (wk0 : Nat → Int64), f_X7_maybeDone b0 [.inr (.inr (some (hA b0 3))), .inl (nI i)] (hp b0 n c0 m wk0) = some (none, hp b0 n c0 m' wk0)) ∧ MT W n T A c' m' wk := by
  obtain ⟨M1, M2, M3, M4, M5, M6, M7, M8, M9, M10, M11, M12, M13⟩ := id hM
  have hi12 : i < 12 := by omega
  have hT := M3 i hi
  have e11 := (hT.1 11 (by decide) (by decide) (by decide)).symm
  have e20 := (hT.1 20 (by decide) (by decide) (by decide)).symm
  have e8 := (hT.1 8 (by decide) (by decide) (by decide)).symm
  by_cases h : c 0 i 11 < c 0 i 20
  · refine ⟨c, m, fun m0 wk0 l2 => cv_endNo hi h, fun c0 wk0 => mf_maybeNo hi12 (Or.inr (Or.inr ?_)), hM⟩
    rw [e11, e20]; exact h
  · have hq := cnt_lt hi h3
    have s01 := hst h
    refine ⟨_, _, fun m0 wk0 l2 => cv_end hi h M11 (by omega), fun c0 wk0 => mf_maybeYes (q := cnt c n) hi12 ?_ ?_ ?_ ?_ (by omega), ?_⟩
    · rw [e8]; rcases s01 with q | q <;> rw [q] <;> decide
    · rw [e8]; rcases s01 with q | q <;> rw [q] <;> decide
    · rw [e11, e20]; exact k2_le h
    · exact (M5 3 (by decide)).symm.trans M11
    · have n0 : c 0 i 0 = nI i := hT.2.2.2.2.2.2.2.2.2
      rw [n0]
      refine ⟨M1, ⟨by simpa [u3] using M2.1, by simpa [u3] using M2.2⟩, fun t ht => ?_, ⟨by simpa [u3] using M4.1, by simpa [u3] using M4.2⟩, fun k hk => ?_, fun k => ?_, ?_, by simpa [u3] using M8, fun t ht => ?_, fun t ht h1 => ?_, ?_, fun a t k h1 h2 => ?_, by simpa [u3] using M13⟩
      · refine TJ.glob (TJ_congr (fun a k ha => u3_a (by omega) t k) (fun a k ha => u3_a (by omega) t k) ?_)
        exact (M3 t ht).state (z := 3) (by decide)
      · by_cases q : k = 3
        · subst q; simp [u3]
        · simpa [u3, q] using M5 k hk
      · by_cases q : k = cnt c n
        · simp [u3, q]
        · simpa [u3, q] using M6 k
      · obtain ⟨w1, w2, w3⟩ := M7
        exact ⟨w1, w2, by simpa [u3] using w3⟩
      · simpa [u3] using M9 t ht
      · by_cases e : t = i
        · subst e
          have : (3 : Int32) = 1 := by simpa [u3] using h1
          exact absurd this (by decide)
        · have h1' : c 0 t 8 = 1 := by simpa [u3, e] using h1
          simpa [u3, e] using M10 t ht h1'
      · have : cnt (u3 (u3 (u3 c 0 i 8 3) 9 0 (cnt c n) (nI i)) 8 0 3 (nI (cnt c n + 1))) n = cnt c n + 1 := cnt_add hi (fun t ht => by simp [u3, ht]) h3 (by simp [u3])
        rw [this]
        simp [u3]
      · have e : t ≠ i := by omega
        have e9 : a ≠ 9 := by omega
        have e8 : a ≠ 8 := by omega
        simpa [u3, e, e9, e8] using M12 a t k h1 h2
/-- ONE TASK'S TURN -/
theorem give {b0 W n T A i : Nat} {c m : xc} {wk : Nat → Int64} (hM : MT W n T A c m wk) (hi : i < n) (hs : c 0 i 8 = 0) :
    ∃ (c' m' m2 : xc) (wk' : Nat → Int64) (d : Nat), (∀ (m0 : xc) (wk0 : Nat → Int64), f_X6_giveTurn b0 [.inr (.inr (some (hA b0 0))), .inr (.inr (some (tA b0 i 0)))] (hp b0 n c m0 wk0) = some (none, hp b0 n c' m0 wk0)) ∧
      ((¬ m 0 i 20 ≤ m 0 i 11 ∧ ∀ c0 : xc, f_X7_acts b0 [.inr (.inr (some (hA b0 3))), .inl (nI i)] (hp b0 n c0 (hm1 m i) wk) = some (none, hp b0 n c0 m2 wk')) ∨ (m 0 i 20 ≤ m 0 i 11 ∧ m2 = hm1 m i ∧ wk' = wk)) ∧
      (∀ c0 : xc, f_X7_maybeDone b0 [.inr (.inr (some (hA b0 3))), .inl (nI i)] (hp b0 n c0 m2 wk') = some (none, hp b0 n c0 m' wk')) ∧ MT W n T (A + d) c' m' wk' ∧ d ≤ 17 := by
  obtain ⟨M1, M2, M3, M4, M5, M6, M7, M8, M9, M10, M11, M12, M13⟩ := id hM
  have hi12 : i < 12 := by omega
  have hT := M3 i hi
  obtain ⟨-, -, ⟨z, x, yk, hz16, hxz, hykz, hz, hx, hyk⟩, -, -, s6, -, s8, -, -⟩ := id hT
  have e11 := (hT.1 11 (by decide) (by decide) (by decide)).symm
  have e20 := (hT.1 20 (by decide) (by decide) (by decide)).symm
  have hJ1 : ∀ t, t < n → TJ n (gv1 c i) (hm1 m i) t := fun t ht => (((M3 t ht).last (i := i) (v := c 8 0 5) (v' := 1)).num (i := i) (q := 9) (v := 0) (by decide)).wait
  have g8 : ∀ k, gv1 c i 8 0 k = c 8 0 k := fun k => by simp [gv1, u3]
  have h8 : ∀ k, hm1 m i 8 0 k = m 8 0 k := fun k => by simp [hm1, u3]
  have hs1 : gv1 c i 0 i 8 = 0 := by simpa [gv1, u3] using hs
  by_cases hge : c 0 i 20 ≤ c 0 i 11
  · -- without an act
    have hM1 : MT W n T A (gv1 c i) (hm1 m i) wk := MT.fr hM hi hs KA.rf KA.rf hJ1 (fun k hk => by rw [g8, h8]; exact M5 k (by omega)) ((h8 37).trans M8) ((g8 6).trans M13) (by rw [hs1]; decide) (fun _ _ => rfl) (fun h => by rw [hs1] at h; exact absurd h (by decide))
    obtain ⟨c', m', d1, d2, d3⟩ := MT.done (b0 := b0) hM1 hi (by rw [hs1]; decide) (fun _ => Or.inl hs1)
    refine ⟨c', m', hm1 m i, wk, 0, fun m0 wk0 => ?_, Or.inr ⟨by rw [e20, e11]; exact hge, rfl, rfl⟩, fun c0 => d2 c0 wk, d3, by decide⟩
    rw [cv_none hi hge]
    exact d1 m0 wk0 none
  · have hlt : x < z := by
      apply Classical.byContradiction
      intro h
      exact hge (by rw [hz, hx]; exact nI_le (by omega) (by omega))
    obtain ⟨kd, hk16, hkd⟩ := s8.1 x (by omega)
    obtain ⟨f, c2, m2, d, p1, p2, p3, p4, p5, p6, p7, ⟨y', q1, q2, q3, q4⟩, p9, p10, p11⟩ := phase (b0 := b0) (c := gv1 c i) (m := hm1 m i) M1 ((h8 2).trans M2.2) hi hJ1 (by simp [gv1, u3]) (fun k hk => by rw [g8, h8]; exact M5 k (by omega)) ((h8 37).trans M8) hs1 (by simpa [gv1, u3] using hx) (by simpa [gv1, u3] using hz) hlt hz16 (by simpa [gv1, u3] using hkd) hk16
    obtain ⟨a1, a2, a3, a4, a5, a6, a7, a8, a9, a10⟩ := p3
    have hz2 : c2 0 i 20 = nI z := ((p4.2.2.1 i).2.2).trans (by simpa [gv1, u3] using hz)
    have h6 : c2 8 0 6 = nI (A + d) := by rw [p11, g8, M13, nI_add]
    have hcl : ∀ (m0 : xc) (wk0 : Nat → Int64), f_X6_giveTurn b0 [.inr (.inr (some (hA b0 0))), .inr (.inr (some (tA b0 i 0)))] (hp b0 n c m0 wk0) = k_X6_giveTurn_63 b0 [some (.inr (.inr (some (hA b0 0)))), some (.inr (.inr (some (tA b0 i 0)))), none] [.inl f] (hp b0 n c2 m0 wk0) := by
      intro m0 wk0
      by_cases hk9 : kd = 9
      · exact cv_grd hi hge hx (by omega) (by rw [hkd, hk9]) ((p1 m0 wk0).2 hk9)
      · exact cv_act hi hge hx (by omega) hkd hk16 hk9 ((p1 m0 wk0).1 hk9)
    have hgl : ∀ k, (k = 6 ∨ k = 7 ∨ k = 8 ∨ k = 9) → c2 8 0 k = m2 8 0 k := by
      rintro k (rfl | rfl | rfl | rfl) <;> assumption
    have hge2 : ¬ m 0 i 20 ≤ m 0 i 11 := by rw [e20, e11]; exact hge
    have T2 := a4 i hi
    by_cases hf : f = 0
    · subst hf
      by_cases hw : c2 0 i 12 ≤ 0
      · -- nothing more
        have hM2 : MT W n T (A + d) c2 m2 wk := MT.fr hM hi hs p4 p5 a4 hgl p6 h6 (by rcases p7 with q | q; (rw [q]; decide); rw [q.1]; decide) (fun _ _ => rfl) (fun h => by rcases p7 with q | q; (rw [q] at h; exact absurd h (by decide)); (rw [q.1] at h; exact absurd h (by decide)))
        have hno : ¬ c2 0 i 8 = 3 := by rcases p7 with q | q; (rw [q]; decide); rw [q.1]; decide
        obtain ⟨c', m', d1, d2, d3⟩ := MT.done (b0 := b0) hM2 hi hno (fun h => by
          rcases p7 with q | q
          · exact Or.inl q
          · exact absurd (by rw [q2, hz2]; exact nI_lt (q4 q.1) (by omega)) h)
        refine ⟨c', m', m2, wk, d, fun m0 wk0 => ?_, Or.inl ⟨hge2, fun c0 => ?_⟩, fun c0 => d2 c0 wk, d3, by omega⟩
        · rw [hcl, cv_fine hi hw]; exact d1 m0 wk0 _
        · rw [p2, ma_none (by rw [← a5]; exact hw)]
      · -- it waits
        have hJ3 : ∀ t, t < n → TJ n (u3 c2 0 i 8 1) (u3 m2 0 i 8 1) t := fun t ht => (a4 t ht).state (z := 1) (by decide)
        have m5 : m2 8 0 5 = nI T := (p5.2.2.2.1 5 (by decide)).trans ((h8 5).trans M4.2)
        have hM2 : MT W n T (A + d) (u3 c2 0 i 8 1) (u3 m2 0 i 8 1) (uk wk i ((m2 8 0 5).toInt64 + (m2 8 0 36).toInt64)) := MT.fr hM hi hs (KA.u 0 i 8 _ (Or.inl ⟨rfl, rfl, hi, by decide, by decide, by decide⟩) p4) (KA.u 0 i 8 _ (Or.inl ⟨rfl, rfl, hi, by decide, by decide, by decide⟩) p5) hJ3 (fun k hk => by simpa [u3] using hgl k hk) (by simpa [u3] using p6) (by simpa [u3] using h6) (by rw [u3_same]; decide) (fun t ht => by simp [uk, ht]) (fun _ => by
          refine ⟨?_, ?_⟩
          · rw [u3_k (by decide)]; grind
          · rw [u3_k (by decide), m5, ← a5]; simp [uk])
        obtain ⟨c', m', d1, d2, d3⟩ := MT.done (b0 := b0) hM2 hi (by rw [u3_same]; decide) (fun _ => Or.inr u3_same)
        refine ⟨c', m', u3 m2 0 i 8 1, _, d, fun m0 wk0 => ?_, Or.inl ⟨hge2, fun c0 => ?_⟩, fun c0 => d2 c0 _, d3, by omega⟩
        · rw [hcl, cv_wait hi hw]; exact d1 m0 wk0 _
        · rw [p2, ma_wait hi12 (by rw [← a5]; exact hw)]
    · -- it failed
      have hs2 : c2 0 i 8 = 0 := by
        rcases p7 with q | q
        · exact q
        · exact absurd q.2 hf
      have hy' := q3 hf
      have b1 := T2.1 1 (by decide) (by decide) (by decide)
      have b18 := T2.1 18 (by decide) (by decide) (by decide)
      have b11 := T2.1 11 (by decide) (by decide) (by decide)
      have b15 := T2.1 15 (by decide) (by decide) (by decide)
      have b26 := T2.1 26 (by decide) (by decide) (by decide)
      have bb : bal m2 i = bal c2 i := by unfold bal; rw [b1]
      have hc9 : (u3 c2 8 0 9 (c2 8 0 9 + 1)) 0 i 1 = c2 0 i 1 := by simp [u3]
      have hfl1 : ∀ t, t < n → TJ n (fl1 (u3 c2 8 0 9 (c2 8 0 9 + 1)) i f) (mfl m2 i f) t := by
        intro t ht
        have e : mfl m2 i f = u3 (u3 (u3 (u3 m2 8 0 9 (m2 8 0 9 + 1)) 0 i 15 (c2 0 i 15 + 1)) 0 i 16 f) 0 i 17 (c2 0 i 11) := by
          funext a1 i1 k1
          simp only [mfl, u3, ← b15, ← b11]
          by_cases z1 : a1 = 0 <;> by_cases z2 : a1 = 8 <;> by_cases z3 : k1 = 15 <;> by_cases z4 : k1 = 9 <;> simp [z1, z2, z3, z4]
        have e2 : fl1 (u3 c2 8 0 9 (c2 8 0 9 + 1)) i f = u3 (u3 (u3 (u3 c2 8 0 9 (c2 8 0 9 + 1)) 0 i 15 (c2 0 i 15 + 1)) 0 i 16 f) 0 i 17 (c2 0 i 11) := by
          unfold fl1
          simp [u3]
        rw [e, e2]
        exact ((((a4 t ht).glob).num (by decide)).num (by decide)).num (by decide)
      have kf1 : KA n i (gv1 c i) (fl1 (u3 c2 8 0 9 (c2 8 0 9 + 1)) i f) := KA.u 0 i 17 _ (Or.inl ⟨rfl, rfl, hi, by decide, by decide, by decide⟩) (KA.u 0 i 16 _ (Or.inl ⟨rfl, rfl, hi, by decide, by decide, by decide⟩) (KA.u 0 i 15 _ (Or.inl ⟨rfl, rfl, hi, by decide, by decide, by decide⟩) (KA.u 8 0 9 _ (Or.inr (Or.inl ⟨rfl, by decide, by decide, by decide, by decide⟩)) p4)))
      have kf2 : KA n i (hm1 m i) (mfl m2 i f) := KA.u 0 i 17 _ (Or.inl ⟨rfl, rfl, hi, by decide, by decide, by decide⟩) (KA.u 0 i 16 _ (Or.inl ⟨rfl, rfl, hi, by decide, by decide, by decide⟩) (KA.u 8 0 9 _ (Or.inr (Or.inl ⟨rfl, by decide, by decide, by decide, by decide⟩)) (KA.u 0 i 15 _ (Or.inl ⟨rfl, rfl, hi, by decide, by decide, by decide⟩) p5)))
      have F8c : ∀ k, k ≠ 9 → fl1 (u3 c2 8 0 9 (c2 8 0 9 + 1)) i f 8 0 k = c2 8 0 k := fun k hk => by simp [fl1, u3, hk]
      have F8m : ∀ k, k ≠ 9 → mfl m2 i f 8 0 k = m2 8 0 k := fun k hk => by simp [mfl, u3, hk]
      have F9 : fl1 (u3 c2 8 0 9 (c2 8 0 9 + 1)) i f 8 0 9 = mfl m2 i f 8 0 9 := by simp [fl1, mfl, u3, a9]
      have hgl2 : ∀ k, (k = 6 ∨ k = 7 ∨ k = 8 ∨ k = 9) → fl1 (u3 c2 8 0 9 (c2 8 0 9 + 1)) i f 8 0 k = mfl m2 i f 8 0 k := by
        rintro k (rfl | rfl | rfl | rfl)
        · rw [F8c 6 (by decide), F8m 6 (by decide)]; exact a7
        · rw [F8c 7 (by decide), F8m 7 (by decide)]; exact a6
        · rw [F8c 8 (by decide), F8m 8 (by decide)]; exact a8
        · exact F9
      have F0 : ∀ k, k ≠ 15 → k ≠ 16 → k ≠ 17 → fl1 (u3 c2 8 0 9 (c2 8 0 9 + 1)) i f 0 i k = c2 0 i k := fun k h1 h2 h3 => by simp [fl1, u3, h1, h2, h3]
      have e18 : (u3 c2 8 0 9 (c2 8 0 9 + 1)) 0 i 18 = c2 0 i 18 := by simp [u3]
      have e11b : (u3 c2 8 0 9 (c2 8 0 9 + 1)) 0 i 11 = c2 0 i 11 := by simp [u3]
      have ebal : bal (u3 c2 8 0 9 (c2 8 0 9 + 1)) i = bal c2 i := by simp [bal, u3]
      by_cases h1 : c2 0 i 1 < 2
      · -- PLAIN, DOUBLE
        have eC : flC (u3 c2 8 0 9 (c2 8 0 9 + 1)) i f 40 = u3 (fl1 (u3 c2 8 0 9 (c2 8 0 9 + 1)) i f) 0 i 8 4 := by unfold flC; rw [hc9, if_pos h1]
        have hM2 : MT W n T (A + d) (u3 (fl1 (u3 c2 8 0 9 (c2 8 0 9 + 1)) i f) 0 i 8 4) (u3 (mfl m2 i f) 0 i 8 4) wk := MT.fr hM hi hs (KA.u 0 i 8 _ (Or.inl ⟨rfl, rfl, hi, by decide, by decide, by decide⟩) kf1) (KA.u 0 i 8 _ (Or.inl ⟨rfl, rfl, hi, by decide, by decide, by decide⟩) kf2) (fun t ht => (hfl1 t ht).state (z := 4) (by decide)) (fun k hk => by rw [u3_a (by decide), u3_a (by decide)]; exact hgl2 k hk) (by rw [u3_a (by decide), F8m 37 (by decide)]; exact p6) (by rw [u3_a (by decide), F8c 6 (by decide)]; exact h6) (by rw [u3_same]; decide) (fun _ _ => rfl) (fun h => by rw [u3_same] at h; exact absurd h (by decide))
        obtain ⟨c', m', d1, d2, d3⟩ := MT.done (b0 := b0) hM2 hi (by rw [u3_same]; decide) (fun h => absurd (by rw [u3_k (by decide), u3_k (by decide), F0 11 (by decide) (by decide) (by decide), F0 20 (by decide) (by decide) (by decide), q2, hz2]; exact nI_lt hy' (by omega)) h)
        refine ⟨c', m', u3 (mfl m2 i f) 0 i 8 4, wk, d, fun m0 wk0 => ?_, Or.inl ⟨hge2, fun c0 => ?_⟩, fun c0 => d2 c0 wk, d3, by omega⟩
        · rw [hcl, cv_fail hi hf, eC]; exact d1 m0 wk0 _
        · rw [p2, ma_fail hf (mf_failsA hi12 (by rw [← b1]; exact h1))]
      · by_cases hb : c2 0 i 18 < bal c2 i
        · -- BACK
          have eC : flC (u3 c2 8 0 9 (c2 8 0 9 + 1)) i f 40 = gbk (u3 (fl1 (u3 c2 8 0 9 (c2 8 0 9 + 1)) i f) 0 i 18 (c2 0 i 18 + 1)) i 40 := by unfold flC; rw [hc9, if_neg h1, e18, ebal, if_pos hb]
          have hN : ∃ N, (m2 0 i 26 = -4 ∧ N = 0) ∨ (m2 0 i 26 = nI N ∧ N ≤ 40) := by
            rcases T2.2.2.2.2.2.1 with g0 | ⟨N, g1, g2, g3⟩
            · exact ⟨0, Or.inl ⟨b26.symm.trans g0, rfl⟩⟩
            · exact ⟨N, Or.inr ⟨b26.symm.trans g2, g1⟩⟩
          obtain ⟨N, hN⟩ := hN
          have hJ3 : ∀ t, t < n → TJ n (u3 (fl1 (u3 c2 8 0 9 (c2 8 0 9 + 1)) i f) 0 i 18 (c2 0 i 18 + 1)) (u3 (mfl m2 i f) 0 i 18 (m2 0 i 18 + 1)) t := fun t ht => by rw [← b18]; exact (hfl1 t ht).num (by decide)
          have e7 : (u3 (mfl m2 i f) 0 i 18 (m2 0 i 18 + 1)) 7 i = m2 7 i := by funext k; simp [mfl, u3]
          have hN2 : ((u3 (mfl m2 i f) 0 i 18 (m2 0 i 18 + 1)) 0 i 26 = -4 ∧ N = 0) ∨ ((u3 (mfl m2 i f) 0 i 18 (m2 0 i 18 + 1)) 0 i 26 = nI N ∧ N ≤ 40) := by
            have : (u3 (mfl m2 i f) 0 i 18 (m2 0 i 18 + 1)) 0 i 26 = m2 0 i 26 := by simp [mfl, u3]
            rw [this]; exact hN
          have hJ4 : ∀ t, t < n → TJ n (gbk (u3 (fl1 (u3 c2 8 0 9 (c2 8 0 9 + 1)) i f) 0 i 18 (c2 0 i 18 + 1)) i 40) (bf (bk1 (u3 (mfl m2 i f) 0 i 18 (m2 0 i 18 + 1)) i) 6 i N (m2 7 i)) t := fun t ht => by
            have := (hJ3 t ht).back hN2
            rw [e7] at this
            exact this
          have kb1 : KA n i (gv1 c i) (gbk (u3 (fl1 (u3 c2 8 0 9 (c2 8 0 9 + 1)) i f) 0 i 18 (c2 0 i 18 + 1)) i 40) := KA.u 0 i 11 _ (Or.inl ⟨rfl, rfl, hi, by decide, by decide, by decide⟩) (KA.u 0 i 22 _ (Or.inl ⟨rfl, rfl, hi, by decide, by decide, by decide⟩) (KA.b 6 i 40 _ ⟨by decide, by decide, hi⟩ (KA.u 0 i 10 _ (Or.inl ⟨rfl, rfl, hi, by decide, by decide, by decide⟩) (KA.u 0 i 18 _ (Or.inl ⟨rfl, rfl, hi, by decide, by decide, by decide⟩) kf1))))
          have kb2 : KA n i (hm1 m i) (bf (bk1 (u3 (mfl m2 i f) 0 i 18 (m2 0 i 18 + 1)) i) 6 i N (m2 7 i)) := KA.b 6 i N _ ⟨by decide, by decide, hi⟩ (KA.u 0 i 22 _ (Or.inl ⟨rfl, rfl, hi, by decide, by decide, by decide⟩) (KA.u 0 i 11 _ (Or.inl ⟨rfl, rfl, hi, by decide, by decide, by decide⟩) (KA.u 0 i 10 _ (Or.inl ⟨rfl, rfl, hi, by decide, by decide, by decide⟩) (KA.u 0 i 18 _ (Or.inl ⟨rfl, rfl, hi, by decide, by decide, by decide⟩) kf2))))
          have G8 : ∀ k, gbk (u3 (fl1 (u3 c2 8 0 9 (c2 8 0 9 + 1)) i f) 0 i 18 (c2 0 i 18 + 1)) i 40 8 0 k = fl1 (u3 c2 8 0 9 (c2 8 0 9 + 1)) i f 8 0 k := fun k => by simp [gbk, u3, bf]
          have H8 : ∀ k, bf (bk1 (u3 (mfl m2 i f) 0 i 18 (m2 0 i 18 + 1)) i) 6 i N (m2 7 i) 8 0 k = mfl m2 i f 8 0 k := fun k => by simp [bk1, u3, bf]
          have Gst : gbk (u3 (fl1 (u3 c2 8 0 9 (c2 8 0 9 + 1)) i f) 0 i 18 (c2 0 i 18 + 1)) i 40 0 i 8 = 0 := by
            have : gbk (u3 (fl1 (u3 c2 8 0 9 (c2 8 0 9 + 1)) i f) 0 i 18 (c2 0 i 18 + 1)) i 40 0 i 8 = c2 0 i 8 := by simp [gbk, fl1, u3, bf]
            rw [this]; exact hs2
          have hM2 : MT W n T (A + d) (gbk (u3 (fl1 (u3 c2 8 0 9 (c2 8 0 9 + 1)) i f) 0 i 18 (c2 0 i 18 + 1)) i 40) (bf (bk1 (u3 (mfl m2 i f) 0 i 18 (m2 0 i 18 + 1)) i) 6 i N (m2 7 i)) wk := MT.fr hM hi hs kb1 kb2 hJ4 (fun k hk => by rw [G8, H8]; exact hgl2 k hk) (by rw [H8, F8m 37 (by decide)]; exact p6) (by rw [G8, F8c 6 (by decide)]; exact h6) (by rw [Gst]; decide) (fun _ _ => rfl) (fun h => by rw [Gst] at h; exact absurd h (by decide))
          obtain ⟨c', m', d1, d2, d3⟩ := MT.done (b0 := b0) hM2 hi (by rw [Gst]; decide) (fun _ => Or.inl Gst)
          refine ⟨c', m', _, wk, d, fun m0 wk0 => ?_, Or.inl ⟨hge2, fun c0 => ?_⟩, fun c0 => d2 c0 wk, d3, by omega⟩
          · rw [hcl, cv_fail hi hf, eC]; exact d1 m0 wk0 _
          · rw [p2, ma_fail hf (mf_failsB hi12 (by rw [← b1]; exact h1) (by rw [bb, ← b18]; exact hb) hN)]
        · -- CAREFUL
          have eC : flC (u3 c2 8 0 9 (c2 8 0 9 + 1)) i f 40 = u3 (fl1 (u3 c2 8 0 9 (c2 8 0 9 + 1)) i f) 0 i 11 (nI (y' + 1)) := by unfold flC; rw [hc9, if_neg h1, e18, ebal, if_neg hb, e11b, q2, nI_add1]
          have eM : u3 (mfl m2 i f) 0 i 11 (m2 0 i 11 + 1) = u3 (mfl m2 i f) 0 i 11 (nI (y' + 1)) := by rw [← b11, q2, nI_add1]
          have hz3 : fl1 (u3 c2 8 0 9 (c2 8 0 9 + 1)) i f 0 i 20 = nI z := (F0 20 (by decide) (by decide) (by decide)).trans hz2
          have hM2 : MT W n T (A + d) (u3 (fl1 (u3 c2 8 0 9 (c2 8 0 9 + 1)) i f) 0 i 11 (nI (y' + 1))) (u3 (mfl m2 i f) 0 i 11 (nI (y' + 1))) wk := MT.fr hM hi hs (KA.u 0 i 11 _ (Or.inl ⟨rfl, rfl, hi, by decide, by decide, by decide⟩) kf1) (KA.u 0 i 11 _ (Or.inl ⟨rfl, rfl, hi, by decide, by decide, by decide⟩) kf2) (fun t ht => (hfl1 t ht).next hz3 hz16 (by omega)) (fun k hk => by rw [u3_a (by decide), u3_a (by decide)]; exact hgl2 k hk) (by rw [u3_a (by decide), F8m 37 (by decide)]; exact p6) (by rw [u3_a (by decide), F8c 6 (by decide)]; exact h6) (by rw [u3_k (by decide), F0 8 (by decide) (by decide) (by decide), hs2]; decide) (fun _ _ => rfl) (fun h => by rw [u3_k (by decide), F0 8 (by decide) (by decide) (by decide), hs2] at h; exact absurd h (by decide))
          obtain ⟨c', m', d1, d2, d3⟩ := MT.done (b0 := b0) hM2 hi (by rw [u3_k (by decide), F0 8 (by decide) (by decide) (by decide), hs2]; decide) (fun _ => Or.inl (by rw [u3_k (by decide), F0 8 (by decide) (by decide) (by decide), hs2]))
          refine ⟨c', m', _, wk, d, fun m0 wk0 => ?_, Or.inl ⟨hge2, fun c0 => ?_⟩, fun c0 => d2 c0 wk, d3, by omega⟩
          · rw [hcl, cv_fail hi hf, eC]; exact d1 m0 wk0 _
          · rw [p2, ma_fail hf (mf_failsC hi12 (by rw [← b1]; exact h1) (by rw [bb, ← b18]; exact hb)), eM]
