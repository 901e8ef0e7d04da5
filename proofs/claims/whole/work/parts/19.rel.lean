def RowOk (c m : xc) (i l a : Nat) : Prop := c 0 i l = -4 ∨ ∃ z, z ≤ 40 ∧ c 0 i l = nI z ∧ ∀ k, k < z → c a i k = m a i k
def BoxOk (n : Nat) (c : xc) (i : Nat) : Prop := c 0 i 23 = -4 ∨ c 0 i 23 = 0 ∨ (c 0 i 23 = 1 ∧ ∀ k, k < 3 → c 5 i k = -4 ∨ ∃ j, j < n ∧ c 5 i k = nI j)
/-- what holds of a task in class and reference alike -/
def TJ (n : Nat) (c m : xc) (i : Nat) : Prop :=
  (∀ k, k ≠ 0 → k ≠ 12 → k ≠ 13 → c 0 i k = m 0 i k) ∧
  (∀ a k, 1 ≤ a → a ≤ 5 → c a i k = m a i k) ∧
  (∃ z x y, z ≤ 16 ∧ x ≤ z ∧ y ≤ z ∧ c 0 i 20 = nI z ∧ c 0 i 11 = nI x ∧ c 0 i 25 = nI y) ∧
  (∃ z, z ≤ 6 ∧ c 0 i 21 = nI z) ∧
  RowOk c m i 22 6 ∧ RowOk c m i 26 7 ∧ BoxOk n c i ∧
  ((∀ k, k < 16 → ∃ z, z < 16 ∧ c 1 i k = nI z) ∧ (∀ k, k < 16 → c 1 i k = 2 → c 2 i k ≤ 40)) ∧
  (∃ z, z ≤ 5 ∧ c 0 i 8 = nI z) ∧ c 0 i 0 = nI i
theorem TJ_congr {n t : Nat} {c c' m m' : xc} (hc : ∀ a k, a ≤ 7 → c' a t k = c a t k) (hm : ∀ a k, a ≤ 7 → m' a t k = m a t k) (h : TJ n c m t) : TJ n c' m' t := by
  obtain ⟨s1, s2, s3, s4, s5, s6, s7, s8, s9, s10⟩ := h
  refine ⟨fun k a b d => ?_, fun a k h1 h2 => ?_, ?_, ?_, ?_, ?_, ?_, ⟨fun k hk => ?_, fun k hk => ?_⟩, ?_, ?_⟩
  · rw [hc 0 k (by decide), hm 0 k (by decide)]; exact s1 k a b d
  · rw [hc a k (by omega), hm a k (by omega)]; exact s2 a k h1 h2
  · rw [hc 0 20 (by decide), hc 0 11 (by decide), hc 0 25 (by decide)]; exact s3
  · rw [hc 0 21 (by decide)]; exact s4
  · unfold RowOk at *
    rw [hc 0 22 (by decide)]
    rcases s5 with h | ⟨z, h1, h2, h3⟩
    · exact Or.inl h
    · exact Or.inr ⟨z, h1, h2, fun k hk => by rw [hc 6 k (by decide), hm 6 k (by decide)]; exact h3 k hk⟩
  · unfold RowOk at *
    rw [hc 0 26 (by decide)]
    rcases s6 with h | ⟨z, h1, h2, h3⟩
    · exact Or.inl h
    · exact Or.inr ⟨z, h1, h2, fun k hk => by rw [hc 7 k (by decide), hm 7 k (by decide)]; exact h3 k hk⟩
  · unfold BoxOk at *
    rw [hc 0 23 (by decide)]
    rcases s7 with h | h | ⟨h1, h2⟩
    · exact Or.inl h
    · exact Or.inr (Or.inl h)
    · exact Or.inr (Or.inr ⟨h1, fun k hk => by rw [hc 5 k (by decide)]; exact h2 k hk⟩)
  · rw [hc 1 k (by decide)]; exact s8.1 k hk
  · rw [hc 1 k (by decide), hc 2 k (by decide)]; exact s8.2 k hk
  · rw [hc 0 8 (by decide)]; exact s9
  · rw [hc 0 0 (by decide)]; exact s10
theorem u3_eq {c m : xc} {a i k a1 i1 k1 : Nat} {v : Int32} (h : c a1 i1 k1 = m a1 i1 k1) : u3 c a i k v a1 i1 k1 = u3 m a i k v a1 i1 k1 := by
  unfold u3
  (repeat' split) <;> first | rfl | exact h
theorem bf_eq {c m : xc} {a i N a1 i1 k1 : Nat} {g g1 : Nat → Int32} (h : c a1 i1 k1 = m a1 i1 k1) (hg : ∀ k, k < N → g k = g1 k) : bf c a i N g a1 i1 k1 = bf m a i N g1 a1 i1 k1 := by
  unfold bf
  (repeat' split) <;> first | rfl | exact h | (exact hg _ (by assumption))
theorem bf_i {c : xc} {a i N : Nat} {g : Nat → Int32} {i1 : Nat} (h : i1 ≠ i) (a1 k1 : Nat) : bf c a i N g a1 i1 k1 = c a1 i1 k1 := by simp [bf, h]
theorem TJ.sum {n t i : Nat} {c m : xc} {v : Int32} (h : TJ n c m t) : TJ n (u3 c 0 i 10 v) (u3 m 0 i 10 v) t := by
  by_cases e : t = i
  case neg => exact TJ_congr (fun a k _ => u3_i e a k) (fun a k _ => u3_i e a k) h
  subst e
  obtain ⟨s1, s2, s3, s4, s5, s6, s7, s8, s9, s10⟩ := h
  exact ⟨fun k a b d => u3_eq (s1 k a b d), fun a k h1 h2 => u3_eq (s2 a k h1 h2), by simpa [u3] using s3, by simpa [u3] using s4, by simpa [RowOk, u3] using s5, by simpa [RowOk, u3] using s6, by simpa [BoxOk, u3] using s7, by simpa [u3] using s8, by simpa [u3] using s9, by simpa [u3] using s10⟩
theorem TJ.row {n t i z : Nat} {c m : xc} (hz : z ≤ 40) (h : TJ n c m t) : TJ n (u3 (bf c 6 i 40 (fun _ => 0)) 0 i 22 (nI z)) (bf (u3 m 0 i 22 (nI z)) 6 i z (fun _ => 0)) t := by
  by_cases e : t = i
  case neg => exact TJ_congr (fun a k _ => by simp [u3, bf, e]) (fun a k _ => by simp [u3, bf, e]) h
  subst e
  obtain ⟨s1, s2, s3, s4, s5, s6, s7, s8, s9, s10⟩ := h
  refine ⟨fun k a b d => ?_, fun a k h1 h2 => ?_, by simpa [u3, bf] using s3, by simpa [u3, bf] using s4, Or.inr ⟨z, hz, by simp [u3], fun k hk => ?_⟩, by simpa [RowOk, u3, bf] using s6, by simpa [BoxOk, u3, bf] using s7, by simpa [u3, bf] using s8, by simpa [u3, bf] using s9, by simpa [u3, bf] using s10⟩
  · have := s1 k a b d
    by_cases e : k = 22 <;> simp [u3, bf, e, this]
  · have := s2 a k h1 h2
    have e1 : a ≠ 0 := by omega
    have e2 : a ≠ 6 := by omega
    simp [u3, bf, e1, e2, this]
  · have e1 : k < 40 := by omega
    simp [u3, bf, hk, e1]
theorem TJ.put {n t i y : Nat} {c m : xc} {v : Int32} (h : TJ n c m t) : TJ n (u3 c 6 i y v) (u3 m 6 i y v) t := by
  by_cases e : t = i
  case neg => exact TJ_congr (fun a k _ => u3_i e a k) (fun a k _ => u3_i e a k) h
  subst e
  obtain ⟨s1, s2, s3, s4, s5, s6, s7, s8, s9, s10⟩ := h
  refine ⟨fun k a b d => u3_eq (s1 k a b d), fun a k h1 h2 => u3_eq (s2 a k h1 h2), by simpa [u3] using s3, by simpa [u3] using s4, ?_, by simpa [RowOk, u3] using s6, by simpa [BoxOk, u3] using s7, by simpa [u3] using s8, by simpa [u3] using s9, by simpa [u3] using s10⟩
  rcases s5 with h | ⟨z, h1, h2, h3⟩
  · exact Or.inl (by simpa [u3] using h)
  · exact Or.inr ⟨z, h1, by simpa [u3] using h2, fun k hk => u3_eq (h3 k hk)⟩
theorem TJ.take {n t i z : Nat} {c m : xc} {v : Int32} (hz : z ≤ 6) (hi : TJ n c m i) (h : TJ n c m t) : TJ n (u3 (bf (u3 c 0 i 21 (nI z)) 4 i z (fun k => c 4 i (k + 1))) 0 i 10 v) (bf (u3 (u3 m 0 i 10 v) 0 i 21 (nI z)) 4 i z (fun k => m 4 i (k + 1))) t := by
  by_cases e : t = i
  case neg => exact TJ_congr (fun a k _ => by simp [u3, bf, e]) (fun a k _ => by simp [u3, bf, e]) h
  subst e
  obtain ⟨s1, s2, s3, s4, s5, s6, s7, s8, s9, s10⟩ := h
  refine ⟨fun k a b d => ?_, fun a k h1 h2 => ?_, by simpa [u3, bf] using s3, ⟨z, hz, by simp [u3, bf]⟩, by simpa [RowOk, u3, bf] using s5, by simpa [RowOk, u3, bf] using s6, by simpa [BoxOk, u3, bf] using s7, by simpa [u3, bf] using s8, by simpa [u3, bf] using s9, by simpa [u3, bf] using s10⟩
  · have := s1 k a b d
    by_cases e1 : k = 10 <;> by_cases e2 : k = 21 <;> simp [u3, bf, e1, e2, this]
  · have h3 := s2 a k h1 h2
    have h4 := s2 4 (k + 1) (by decide) (by decide)
    have e1 : a ≠ 0 := by omega
    by_cases e2 : a = 4 <;> by_cases e3 : k < z <;> simp [u3, bf, e1, e2, e3, h3, h4]
    · rw [e2] at h3; exact h3
theorem TJ.let {n t j z : Nat} {c m : xc} {v : Int32} (hz : z < 6) (h : TJ n c m t) : TJ n (u3 (u3 c 4 j z v) 0 j 21 (nI (z + 1))) (u3 (u3 m 4 j z v) 0 j 21 (nI (z + 1))) t := by
  by_cases e : t = j
  case neg => exact TJ_congr (fun a k _ => by simp [u3, e]) (fun a k _ => by simp [u3, e]) h
  subst e
  obtain ⟨s1, s2, s3, s4, s5, s6, s7, s8, s9, s10⟩ := h
  exact ⟨fun k a b d => u3_eq (u3_eq (s1 k a b d)), fun a k h1 h2 => u3_eq (u3_eq (s2 a k h1 h2)), by simpa [u3] using s3, ⟨z + 1, by omega, by simp [u3]⟩, by simpa [RowOk, u3] using s5, by simpa [RowOk, u3] using s6, by simpa [BoxOk, u3] using s7, by simpa [u3] using s8, by simpa [u3] using s9, by simpa [u3] using s10⟩
theorem TJ.glob {n t k k' : Nat} {c m : xc} {v v' : Int32} (h : TJ n c m t) : TJ n (u3 c 8 0 k v) (u3 m 8 0 k' v') t := TJ_congr (fun a k h => u3_a (by omega) t k) (fun a k h => u3_a (by omega) t k) h
theorem TJ.globc {n t k : Nat} {c m : xc} {v : Int32} (h : TJ n c m t) : TJ n (u3 c 8 0 k v) m t := TJ_congr (fun a k h => u3_a (by omega) t k) (fun a k h => rfl) h
theorem TJ.globm {n t k : Nat} {c m : xc} {v : Int32} (h : TJ n c m t) : TJ n c (u3 m 8 0 k v) t := TJ_congr (fun a k h => rfl) (fun a k h => u3_a (by omega) t k) h
theorem TJ.wait {n t i : Nat} {c m : xc} {v : Int32} (h : TJ n c m t) : TJ n (u3 c 0 i 12 v) m t := by
  by_cases e : t = i
  case neg => exact TJ_congr (fun a k _ => u3_i e a k) (fun a k _ => rfl) h
  subst e
  obtain ⟨s1, s2, s3, s4, s5, s6, s7, s8, s9, s10⟩ := h
  exact ⟨fun k a b d => by rw [u3_k b]; exact s1 k a b d, fun a k h1 h2 => by rw [u3_a (by omega)]; exact s2 a k h1 h2, by simpa [u3] using s3, by simpa [u3] using s4, by simpa [RowOk, u3] using s5, by simpa [RowOk, u3] using s6, by simpa [BoxOk, u3] using s7, by simpa [u3] using s8, by simpa [u3] using s9, by simpa [u3] using s10⟩
theorem TJ.last {n t i : Nat} {c m : xc} {v v' : Int32} (h : TJ n c m t) : TJ n (u3 c 0 i 13 v) (u3 m 0 i 13 v') t := by
  by_cases e : t = i
  case neg => exact TJ_congr (fun a k _ => u3_i e a k) (fun a k _ => u3_i e a k) h
  subst e
  obtain ⟨s1, s2, s3, s4, s5, s6, s7, s8, s9, s10⟩ := h
  exact ⟨fun k a b d => by rw [u3_k d, u3_k d]; exact s1 k a b d, fun a k h1 h2 => by rw [u3_a (by omega), u3_a (by omega)]; exact s2 a k h1 h2, by simpa [u3] using s3, by simpa [u3] using s4, by simpa [RowOk, u3] using s5, by simpa [RowOk, u3] using s6, by simpa [BoxOk, u3] using s7, by simpa [u3] using s8, by simpa [u3] using s9, by simpa [u3] using s10⟩
/-- a number of a task that no range speaks of -/
theorem TJ.num {n t i q : Nat} {c m : xc} {v : Int32} (hq : q = 1 ∨ q = 2 ∨ q = 9 ∨ q = 10 ∨ q = 14 ∨ q = 15 ∨ q = 16 ∨ q = 17 ∨ q = 18 ∨ q = 24) (h : TJ n c m t) : TJ n (u3 c 0 i q v) (u3 m 0 i q v) t := by
  by_cases e : t = i
  case neg => exact TJ_congr (fun a k _ => u3_i e a k) (fun a k _ => u3_i e a k) h
  subst e
  obtain ⟨s1, s2, s3, s4, s5, s6, s7, s8, s9, s10⟩ := h
  rcases hq with rfl | rfl | rfl | rfl | rfl | rfl | rfl | rfl | rfl | rfl <;>
  exact ⟨fun k a b d => u3_eq (s1 k a b d), fun a k h1 h2 => u3_eq (s2 a k h1 h2), by simpa [u3] using s3, by simpa [u3] using s4, by simpa [RowOk, u3] using s5, by simpa [RowOk, u3] using s6, by simpa [BoxOk, u3] using s7, by simpa [u3] using s8, by simpa [u3] using s9, by simpa [u3] using s10⟩
theorem TJ.state {n t i z : Nat} {c m : xc} (hz : z ≤ 5) (h : TJ n c m t) : TJ n (u3 c 0 i 8 (nI z)) (u3 m 0 i 8 (nI z)) t := by
  by_cases e : t = i
  case neg => exact TJ_congr (fun a k _ => u3_i e a k) (fun a k _ => u3_i e a k) h
  subst e
  obtain ⟨s1, s2, s3, s4, s5, s6, s7, s8, s9, s10⟩ := h
  exact ⟨fun k a b d => u3_eq (s1 k a b d), fun a k h1 h2 => u3_eq (s2 a k h1 h2), by simpa [u3] using s3, by simpa [u3] using s4, by simpa [RowOk, u3] using s5, by simpa [RowOk, u3] using s6, by simpa [BoxOk, u3] using s7, by simpa [u3] using s8, ⟨z, hz, by simp [u3]⟩, by simpa [u3] using s10⟩
theorem TJ.next {n t i y z : Nat} {c m : xc} (hz : c 0 i 20 = nI z) (hz16 : z ≤ 16) (hy : y ≤ z) (h : TJ n c m t) : TJ n (u3 c 0 i 11 (nI y)) (u3 m 0 i 11 (nI y)) t := by
  by_cases e : t = i
  case neg => exact TJ_congr (fun a k _ => u3_i e a k) (fun a k _ => u3_i e a k) h
  subst e
  obtain ⟨s1, s2, ⟨z1, x1, y1, h1, h2, h3, h4, h5, h6⟩, s4, s5, s6, s7, s8, s9, s10⟩ := h
  have hzz : z1 = z := (nI_eq (by omega) (by omega)).mp (h4.symm.trans hz)
  subst hzz
  exact ⟨fun k a b d => u3_eq (s1 k a b d), fun a k h1 h2 => u3_eq (s2 a k h1 h2), ⟨z1, y, y1, h1, hy, h3, by simpa [u3] using h4, by simp [u3], by simpa [u3] using h6⟩, by simpa [u3] using s4, by simpa [RowOk, u3] using s5, by simpa [RowOk, u3] using s6, by simpa [BoxOk, u3] using s7, by simpa [u3] using s8, by simpa [u3] using s9, by simpa [u3] using s10⟩
theorem TJ.mark {n t i N x z : Nat} {c m : xc} (hx : c 0 i 11 = nI x) (hz : c 0 i 20 = nI z) (hz16 : z ≤ 16) (hxz : x < z) (hN : (m 0 i 22 = -4 ∧ N = 0) ∨ (m 0 i 22 = nI N ∧ N ≤ 40)) (h : TJ n c m t) : TJ n (smk c i 40) (bf (mk1 m i) 7 i N (m 6 i)) t := by
  by_cases e : t = i
  case neg => exact TJ_congr (fun a k _ => by simp [smk, u3, bf, e]) (fun a k _ => by simp [mk1, u3, bf, e]) h
  subst e
  obtain ⟨s1, s2, ⟨z1, x1, y1, h1, h2, h3, h4, h5, h6⟩, s4, s5, s6, s7, s8, s9, s10⟩ := h
  have hzz : z1 = z := (nI_eq (by omega) (by omega)).mp (h4.symm.trans hz)
  subst hzz
  have e11 := s1 11 (by decide) (by decide) (by decide)
  have e10 := s1 10 (by decide) (by decide) (by decide)
  have e22 := s1 22 (by decide) (by decide) (by decide)
  refine ⟨fun k a b d => ?_, fun a k h1 h2 => ?_, ⟨z1, x1, x + 1, h1, h2, by omega, by simpa [smk, u3, bf] using h4, by simpa [smk, u3, bf] using h5, by simp [smk, u3, hx, nI_add1]⟩, by simpa [smk, u3, bf] using s4, ?_, ?_, by simpa [BoxOk, smk, u3, bf] using s7, by simpa [smk, u3, bf] using s8, by simpa [smk, u3, bf] using s9, by simpa [smk, u3, bf] using s10⟩
  · have := s1 k a b d
    by_cases q1 : k = 24 <;> by_cases q2 : k = 25 <;> by_cases q3 : k = 26 <;> simp [smk, mk1, u3, bf, q1, q2, q3, this, e10, e11, e22]
  · have := s2 a k h1 h2
    have q1 : a ≠ 0 := by omega
    have q2 : a ≠ 7 := by omega
    simp [smk, mk1, u3, bf, q1, q2, this]
  · rcases s5 with h | ⟨z, g1, g2, g3⟩
    · exact Or.inl (by simpa [smk, u3, bf] using h)
    · exact Or.inr ⟨z, g1, by simpa [smk, u3, bf] using g2, fun k hk => by simpa [smk, mk1, u3, bf] using g3 k hk⟩
  · rcases s5 with h | ⟨z, g1, g2, g3⟩
    · exact Or.inl (by simpa [smk, u3, bf] using h)
    · have hNz : N = z := by
        rcases hN with ⟨n1, n2⟩ | ⟨n1, n2⟩
        · rw [e22, n1] at g2
          exact absurd (show nI z < 0 by rw [← g2]; decide) (nI_pos (by omega))
        · rw [e22, n1] at g2
          exact (nI_eq (by omega) (by omega)).mp g2
      subst hNz
      refine Or.inr ⟨N, g1, by simpa [smk, u3, bf] using g2, fun k hk => ?_⟩
      have q : k < 40 := by omega
      simpa [smk, mk1, u3, bf, hk, q] using g3 k hk
theorem TJ.back {n t i N : Nat} {c m : xc} (hN : (m 0 i 26 = -4 ∧ N = 0) ∨ (m 0 i 26 = nI N ∧ N ≤ 40)) (h : TJ n c m t) : TJ n (gbk c i 40) (bf (bk1 m i) 6 i N (m 7 i)) t := by
  by_cases e : t = i
  case neg => exact TJ_congr (fun a k _ => by simp [gbk, u3, bf, e]) (fun a k _ => by simp [bk1, u3, bf, e]) h
  subst e
  obtain ⟨s1, s2, ⟨z1, x1, y1, h1, h2, h3, h4, h5, h6⟩, s4, s5, s6, s7, s8, s9, s10⟩ := h
  have e24 := s1 24 (by decide) (by decide) (by decide)
  have e25 := s1 25 (by decide) (by decide) (by decide)
  have e26 := s1 26 (by decide) (by decide) (by decide)
  refine ⟨fun k a b d => ?_, fun a k h1 h2 => ?_, ⟨z1, y1, y1, h1, h3, h3, by simpa [gbk, u3, bf] using h4, by simpa [gbk, u3, bf] using h6, by simpa [gbk, u3, bf] using h6⟩, by simpa [gbk, u3, bf] using s4, ?_, ?_, by simpa [BoxOk, gbk, u3, bf] using s7, by simpa [gbk, u3, bf] using s8, by simpa [gbk, u3, bf] using s9, by simpa [gbk, u3, bf] using s10⟩
  · have := s1 k a b d
    by_cases q1 : k = 10 <;> by_cases q2 : k = 11 <;> by_cases q3 : k = 22 <;> simp [gbk, bk1, u3, bf, q1, q2, q3, this, e24, e25, e26]
  · have := s2 a k h1 h2
    have q1 : a ≠ 0 := by omega
    have q2 : a ≠ 6 := by omega
    simp [gbk, bk1, u3, bf, q1, q2, this]
  · rcases s6 with h | ⟨z, g1, g2, g3⟩
    · exact Or.inl (by simpa [gbk, u3, bf] using h)
    · have hNz : N = z := by
        rcases hN with ⟨n1, n2⟩ | ⟨n1, n2⟩
        · rw [e26, n1] at g2
          exact absurd (show nI z < 0 by rw [← g2]; decide) (nI_pos (by omega))
        · rw [e26, n1] at g2
          exact (nI_eq (by omega) (by omega)).mp g2
      subst hNz
      refine Or.inr ⟨N, g1, by simpa [gbk, u3, bf] using g2, fun k hk => ?_⟩
      have q : k < 40 := by omega
      simpa [gbk, bk1, u3, bf, hk, q] using g3 k hk
  · rcases s6 with h | ⟨z, g1, g2, g3⟩
    · exact Or.inl (by simpa [gbk, u3, bf] using h)
    · exact Or.inr ⟨z, g1, by simpa [gbk, u3, bf] using g2, fun k hk => by simpa [gbk, bk1, u3, bf] using g3 k hk⟩
theorem TJ.box {n t i : Nat} {c m : xc} {a : Int32} (h : TJ n c m t) : TJ n (bf (u3 c 0 i 23 (if a = 0 ∨ a = 1 then a else -4)) 5 i 3 (fun _ => if a = 1 then -4 else 0)) (bf (u3 m 0 i 23 (if a = 0 ∨ a = 1 then a else -4)) 5 i 3 (fun _ => if a = 1 then -4 else 0)) t := by
  by_cases e : t = i
  case neg => exact TJ_congr (fun a k _ => by simp [u3, bf, e]) (fun a k _ => by simp [u3, bf, e]) h
  subst e
  obtain ⟨s1, s2, s3, s4, s5, s6, s7, s8, s9, s10⟩ := h
  refine ⟨fun k a b d => bf_eq (u3_eq (s1 k a b d)) (fun _ _ => rfl), fun a k h1 h2 => bf_eq (u3_eq (s2 a k h1 h2)) (fun _ _ => rfl), by simpa [u3, bf] using s3, by simpa [u3, bf] using s4, by simpa [RowOk, u3, bf] using s5, by simpa [RowOk, u3, bf] using s6, ?_, by simpa [u3, bf] using s8, by simpa [u3, bf] using s9, by simpa [u3, bf] using s10⟩
  unfold BoxOk
  by_cases h0 : a = 0
  · exact Or.inr (Or.inl (by simp [u3, bf, h0]))
  · by_cases h1 : a = 1
    · exact Or.inr (Or.inr ⟨by simp [u3, bf, h1], fun k hk => Or.inl (by simp [bf, hk, h1])⟩)
    · exact Or.inl (by simp [u3, bf, h0, h1])
theorem TJ.ints {n t i y : Nat} {c m : xc} {v : Int32} (hk : c 0 i 23 = 0) (h : TJ n c m t) : TJ n (u3 c 5 i y v) (u3 m 5 i y v) t := by
  by_cases e : t = i
  case neg => exact TJ_congr (fun a k _ => u3_i e a k) (fun a k _ => u3_i e a k) h
  subst e
  obtain ⟨s1, s2, s3, s4, s5, s6, s7, s8, s9, s10⟩ := h
  exact ⟨fun k a b d => u3_eq (s1 k a b d), fun a k h1 h2 => u3_eq (s2 a k h1 h2), by simpa [u3] using s3, by simpa [u3] using s4, by simpa [RowOk, u3] using s5, by simpa [RowOk, u3] using s6, Or.inr (Or.inl (by simpa [u3] using hk)), by simpa [u3] using s8, by simpa [u3] using s9, by simpa [u3] using s10⟩
theorem TJ.oth {n t i y j : Nat} {c m : xc} (hk : c 0 i 23 = 1) (hj : j < n) (h : TJ n c m t) : TJ n (u3 c 5 i y (nI j)) (u3 m 5 i y (nI j)) t := by
  by_cases e : t = i
  case neg => exact TJ_congr (fun a k _ => u3_i e a k) (fun a k _ => u3_i e a k) h
  subst e
  obtain ⟨s1, s2, s3, s4, s5, s6, s7, s8, s9, s10⟩ := h
  refine ⟨fun k a b d => u3_eq (s1 k a b d), fun a k h1 h2 => u3_eq (s2 a k h1 h2), by simpa [u3] using s3, by simpa [u3] using s4, by simpa [RowOk, u3] using s5, by simpa [RowOk, u3] using s6, ?_, by simpa [u3] using s8, by simpa [u3] using s9, by simpa [u3] using s10⟩
  rcases s7 with h | h | ⟨h1, h2⟩
  · rw [hk] at h; exact absurd h (by decide)
  · rw [hk] at h; exact absurd h (by decide)
  · refine Or.inr (Or.inr ⟨by simpa [u3] using h1, fun k hk => ?_⟩)
    by_cases q : k = y
    · exact Or.inr ⟨j, hj, by simp [u3, q]⟩
    · simpa [u3, q] using h2 k hk
theorem TJ.copy {n t i z y : Nat} {c m : xc} (hk : c 0 i 23 = 0) (hr : c 0 i 22 = nI y) (hy : y ≤ 40) (hz : z ≤ y) (hi : TJ n c m i) (h : TJ n c m t) : TJ n (bf c 5 i z (c 6 i)) (bf m 5 i z (m 6 i)) t := by
  by_cases e : t = i
  case neg => exact TJ_congr (fun a k _ => by simp [bf, e]) (fun a k _ => by simp [bf, e]) h
  subst e
  obtain ⟨s1, s2, s3, s4, s5, s6, s7, s8, s9, s10⟩ := h
  have hrow : ∀ k, k < z → c 6 t k = m 6 t k := by
    intro k hk2
    rcases s5 with h | ⟨y1, g1, g2, g3⟩
    · rw [hr] at h
      exact absurd (show nI y < 0 by rw [h]; decide) (nI_pos (by omega))
    · have : y1 = y := (nI_eq (by omega) (by omega)).mp (g2.symm.trans hr)
      exact g3 k (by omega)
  exact ⟨fun k a b d => bf_eq (s1 k a b d) hrow, fun a k h1 h2 => bf_eq (s2 a k h1 h2) hrow, by simpa [bf] using s3, by simpa [bf] using s4, by simpa [RowOk, bf] using s5, by simpa [RowOk, bf] using s6, Or.inr (Or.inl (by simpa [bf] using hk)), by simpa [bf] using s8, by simpa [bf] using s9, by simpa [bf] using s10⟩

