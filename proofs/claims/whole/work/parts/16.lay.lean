theorem dv16 {i j : Nat} (h : j < 16) : (16 * i + j) / 16 = i := by omega
theorem md16 {i j : Nat} (h : j < 16) : (16 * i + j) % 16 = j := by omega
theorem dv100 {i j : Nat} (h : j < 100) : (100 * i + j) / 100 = i := by omega
theorem md100 {i j : Nat} (h : j < 100) : (100 * i + j) % 100 = j := by omega
theorem dv6 {i j : Nat} (h : j < 6) : (6 * i + j) / 6 = i := by omega
theorem md6 {i j : Nat} (h : j < 6) : (6 * i + j) % 6 = j := by omega
theorem dv3 {i j : Nat} (h : j < 3) : (3 * i + j) / 3 = i := by omega
theorem md3 {i j : Nat} (h : j < 3) : (3 * i + j) % 3 = j := by omega
theorem dv60 {i : Nat} : (6 * i) / 6 = i := by omega
theorem md60 {i : Nat} : (6 * i) % 6 = 0 := by omega
theorem ml16 {i : Nat} : (16 : Int32) * nI i = nI (16 * i) := pk_mul 16 i
theorem ml100 {i : Nat} : (100 : Int32) * nI i = nI (100 * i) := pk_mul 100 i
theorem ml6 {i : Nat} : (6 : Int32) * nI i = nI (6 * i) := pk_mul 6 i
theorem ml3 {i : Nat} : (3 : Int32) * nI i = nI (3 * i) := pk_mul 3 i
theorem ad0 {k : Nat} : nI k + 0 = nI k := nI_add k 0
theorem ad1 {k : Nat} : nI k + 1 = nI (k + 1) := nI_1 k
theorem ad2 {k : Nat} : nI k + 2 = nI (k + 2) := nI_add k 2
theorem an_t2 {b0 n i : Nat} {c m : xc} {wk : Nat → Int64} {k : Nat} (hi : i < n) (hk : k < 16) : xai b0 0 (hp b0 n c m wk) (tA b0 i 2) (nI k) = some (c 1 i k) := by
  have hb : k < 2 ^ 31 := by omega
  have h := a_t2 (b0 := b0) (n := n) (c := c) (m := m) (wk := wk) (v := nI k) hi (nI_nn hb) (by rw [nI_clamp hb]; exact hk)
  rw [nI_clamp hb] at h
  exact h
theorem sn_t2 {b0 n i : Nat} {c m : xc} {wk : Nat → Int64} {k : Nat} {u : Int32} (hi : i < n) (hk : k < 16) : xsi b0 0 (hp b0 n c m wk) (tA b0 i 2) (nI k) u = some (hp b0 n (u3 c 1 i k u) m wk) := by
  have hb : k < 2 ^ 31 := by omega
  have h := s_t2 (b0 := b0) (n := n) (c := c) (m := m) (wk := wk) (v := nI k) (u := u) hi (nI_nn hb) (by rw [nI_clamp hb]; exact hk)
  rw [nI_clamp hb] at h
  exact h
theorem an_t3 {b0 n i : Nat} {c m : xc} {wk : Nat → Int64} {k : Nat} (hi : i < n) (hk : k < 16) : xai b0 0 (hp b0 n c m wk) (tA b0 i 3) (nI k) = some (c 2 i k) := by
  have hb : k < 2 ^ 31 := by omega
  have h := a_t3 (b0 := b0) (n := n) (c := c) (m := m) (wk := wk) (v := nI k) hi (nI_nn hb) (by rw [nI_clamp hb]; exact hk)
  rw [nI_clamp hb] at h
  exact h
theorem sn_t3 {b0 n i : Nat} {c m : xc} {wk : Nat → Int64} {k : Nat} {u : Int32} (hi : i < n) (hk : k < 16) : xsi b0 0 (hp b0 n c m wk) (tA b0 i 3) (nI k) u = some (hp b0 n (u3 c 2 i k u) m wk) := by
  have hb : k < 2 ^ 31 := by omega
  have h := s_t3 (b0 := b0) (n := n) (c := c) (m := m) (wk := wk) (v := nI k) (u := u) hi (nI_nn hb) (by rw [nI_clamp hb]; exact hk)
  rw [nI_clamp hb] at h
  exact h
theorem an_t4 {b0 n i : Nat} {c m : xc} {wk : Nat → Int64} {k : Nat} (hi : i < n) (hk : k < 16) : xai b0 0 (hp b0 n c m wk) (tA b0 i 4) (nI k) = some (c 3 i k) := by
  have hb : k < 2 ^ 31 := by omega
  have h := a_t4 (b0 := b0) (n := n) (c := c) (m := m) (wk := wk) (v := nI k) hi (nI_nn hb) (by rw [nI_clamp hb]; exact hk)
  rw [nI_clamp hb] at h
  exact h
theorem sn_t4 {b0 n i : Nat} {c m : xc} {wk : Nat → Int64} {k : Nat} {u : Int32} (hi : i < n) (hk : k < 16) : xsi b0 0 (hp b0 n c m wk) (tA b0 i 4) (nI k) u = some (hp b0 n (u3 c 3 i k u) m wk) := by
  have hb : k < 2 ^ 31 := by omega
  have h := s_t4 (b0 := b0) (n := n) (c := c) (m := m) (wk := wk) (v := nI k) (u := u) hi (nI_nn hb) (by rw [nI_clamp hb]; exact hk)
  rw [nI_clamp hb] at h
  exact h
theorem an_t6 {b0 n i : Nat} {c m : xc} {wk : Nat → Int64} {k : Nat} (hi : i < n) (hk : k < 6) : xai b0 0 (hp b0 n c m wk) (tA b0 i 6) (nI k) = some (c 4 i k) := by
  have hb : k < 2 ^ 31 := by omega
  have h := a_t6 (b0 := b0) (n := n) (c := c) (m := m) (wk := wk) (v := nI k) hi (nI_nn hb) (by rw [nI_clamp hb]; exact hk)
  rw [nI_clamp hb] at h
  exact h
theorem sn_t6 {b0 n i : Nat} {c m : xc} {wk : Nat → Int64} {k : Nat} {u : Int32} (hi : i < n) (hk : k < 6) : xsi b0 0 (hp b0 n c m wk) (tA b0 i 6) (nI k) u = some (hp b0 n (u3 c 4 i k u) m wk) := by
  have hb : k < 2 ^ 31 := by omega
  have h := s_t6 (b0 := b0) (n := n) (c := c) (m := m) (wk := wk) (v := nI k) (u := u) hi (nI_nn hb) (by rw [nI_clamp hb]; exact hk)
  rw [nI_clamp hb] at h
  exact h
theorem an_t8 {b0 n i : Nat} {c m : xc} {wk : Nat → Int64} {k : Nat} (hi : i < n) (hk : k < 40) : xai b0 0 (hp b0 n c m wk) (tA b0 i 8) (nI k) = some (c 6 i k) := by
  have hb : k < 2 ^ 31 := by omega
  have h := a_t8 (b0 := b0) (n := n) (c := c) (m := m) (wk := wk) (v := nI k) hi (nI_nn hb) (by rw [nI_clamp hb]; exact hk)
  rw [nI_clamp hb] at h
  exact h
theorem sn_t8 {b0 n i : Nat} {c m : xc} {wk : Nat → Int64} {k : Nat} {u : Int32} (hi : i < n) (hk : k < 40) : xsi b0 0 (hp b0 n c m wk) (tA b0 i 8) (nI k) u = some (hp b0 n (u3 c 6 i k u) m wk) := by
  have hb : k < 2 ^ 31 := by omega
  have h := s_t8 (b0 := b0) (n := n) (c := c) (m := m) (wk := wk) (v := nI k) (u := u) hi (nI_nn hb) (by rw [nI_clamp hb]; exact hk)
  rw [nI_clamp hb] at h
  exact h
theorem an_t10 {b0 n i : Nat} {c m : xc} {wk : Nat → Int64} {k : Nat} (hi : i < n) (hk : k < 3) : xai b0 0 (hp b0 n c m wk) (tA b0 i 10) (nI k) = some (c 5 i k) := by
  have hb : k < 2 ^ 31 := by omega
  have h := a_t10 (b0 := b0) (n := n) (c := c) (m := m) (wk := wk) (v := nI k) hi (nI_nn hb) (by rw [nI_clamp hb]; exact hk)
  rw [nI_clamp hb] at h
  exact h
theorem sn_t10 {b0 n i : Nat} {c m : xc} {wk : Nat → Int64} {k : Nat} {u : Int32} (hi : i < n) (hk : k < 3) : xsi b0 0 (hp b0 n c m wk) (tA b0 i 10) (nI k) u = some (hp b0 n (u3 c 5 i k u) m wk) := by
  have hb : k < 2 ^ 31 := by omega
  have h := s_t10 (b0 := b0) (n := n) (c := c) (m := m) (wk := wk) (v := nI k) (u := u) hi (nI_nn hb) (by rw [nI_clamp hb]; exact hk)
  rw [nI_clamp hb] at h
  exact h
theorem an_t13 {b0 n i : Nat} {c m : xc} {wk : Nat → Int64} {k : Nat} (hi : i < n) (hk : k < 40) : xai b0 0 (hp b0 n c m wk) (tA b0 i 13) (nI k) = some (c 7 i k) := by
  have hb : k < 2 ^ 31 := by omega
  have h := a_t13 (b0 := b0) (n := n) (c := c) (m := m) (wk := wk) (v := nI k) hi (nI_nn hb) (by rw [nI_clamp hb]; exact hk)
  rw [nI_clamp hb] at h
  exact h
theorem sn_t13 {b0 n i : Nat} {c m : xc} {wk : Nat → Int64} {k : Nat} {u : Int32} (hi : i < n) (hk : k < 40) : xsi b0 0 (hp b0 n c m wk) (tA b0 i 13) (nI k) u = some (hp b0 n (u3 c 7 i k u) m wk) := by
  have hb : k < 2 ^ 31 := by omega
  have h := s_t13 (b0 := b0) (n := n) (c := c) (m := m) (wk := wk) (v := nI k) (u := u) hi (nI_nn hb) (by rw [nI_clamp hb]; exact hk)
  rw [nI_clamp hb] at h
  exact h
theorem an_h2 {b0 n : Nat} {c m : xc} {wk : Nat → Int64} {k : Nat} (hk : k < 12) : xai b0 0 (hp b0 n c m wk) (hA b0 2) (nI k) = some (c 9 0 k) := by
  have hb : k < 2 ^ 31 := by omega
  have h := a_h2 (b0 := b0) (n := n) (c := c) (m := m) (wk := wk) (v := nI k) (nI_nn hb) (by rw [nI_clamp hb]; exact hk)
  rw [nI_clamp hb] at h
  exact h
theorem sn_h2 {b0 n : Nat} {c m : xc} {wk : Nat → Int64} {k : Nat} {u : Int32} (hk : k < 12) : xsi b0 0 (hp b0 n c m wk) (hA b0 2) (nI k) u = some (hp b0 n (u3 c 9 0 k u) m wk) := by
  have hb : k < 2 ^ 31 := by omega
  have h := s_h2 (b0 := b0) (n := n) (c := c) (m := m) (wk := wk) (v := nI k) (u := u) (nI_nn hb) (by rw [nI_clamp hb]; exact hk)
  rw [nI_clamp hb] at h
  exact h
theorem an_h4 {b0 n : Nat} {c m : xc} {wk : Nat → Int64} {k : Nat} (hk : k < 12) : xai b0 0 (hp b0 n c m wk) (hA b0 4) (nI k) = some (m 0 k 1) := by
  have hb : k < 2 ^ 31 := by omega
  have h := a_h4 (b0 := b0) (n := n) (c := c) (m := m) (wk := wk) (v := nI k) (nI_nn hb) (by rw [nI_clamp hb]; exact hk)
  rw [nI_clamp hb] at h
  exact h
theorem sn_h4 {b0 n : Nat} {c m : xc} {wk : Nat → Int64} {k : Nat} {u : Int32} (hk : k < 12) : xsi b0 0 (hp b0 n c m wk) (hA b0 4) (nI k) u = some (hp b0 n c (u3 m 0 k 1 u) wk) := by
  have hb : k < 2 ^ 31 := by omega
  have h := s_h4 (b0 := b0) (n := n) (c := c) (m := m) (wk := wk) (v := nI k) (u := u) (nI_nn hb) (by rw [nI_clamp hb]; exact hk)
  rw [nI_clamp hb] at h
  exact h
theorem an_h5 {b0 n : Nat} {c m : xc} {wk : Nat → Int64} {k : Nat} (hk : k < 12) : xai b0 0 (hp b0 n c m wk) (hA b0 5) (nI k) = some (m 0 k 2) := by
  have hb : k < 2 ^ 31 := by omega
  have h := a_h5 (b0 := b0) (n := n) (c := c) (m := m) (wk := wk) (v := nI k) (nI_nn hb) (by rw [nI_clamp hb]; exact hk)
  rw [nI_clamp hb] at h
  exact h
theorem sn_h5 {b0 n : Nat} {c m : xc} {wk : Nat → Int64} {k : Nat} {u : Int32} (hk : k < 12) : xsi b0 0 (hp b0 n c m wk) (hA b0 5) (nI k) u = some (hp b0 n c (u3 m 0 k 2 u) wk) := by
  have hb : k < 2 ^ 31 := by omega
  have h := s_h5 (b0 := b0) (n := n) (c := c) (m := m) (wk := wk) (v := nI k) (u := u) (nI_nn hb) (by rw [nI_clamp hb]; exact hk)
  rw [nI_clamp hb] at h
  exact h
theorem an_h6 {b0 n : Nat} {c m : xc} {wk : Nat → Int64} {k : Nat} (hk : k < 12) : xai b0 0 (hp b0 n c m wk) (hA b0 6) (nI k) = some (m 0 k 9) := by
  have hb : k < 2 ^ 31 := by omega
  have h := a_h6 (b0 := b0) (n := n) (c := c) (m := m) (wk := wk) (v := nI k) (nI_nn hb) (by rw [nI_clamp hb]; exact hk)
  rw [nI_clamp hb] at h
  exact h
theorem sn_h6 {b0 n : Nat} {c m : xc} {wk : Nat → Int64} {k : Nat} {u : Int32} (hk : k < 12) : xsi b0 0 (hp b0 n c m wk) (hA b0 6) (nI k) u = some (hp b0 n c (u3 m 0 k 9 u) wk) := by
  have hb : k < 2 ^ 31 := by omega
  have h := s_h6 (b0 := b0) (n := n) (c := c) (m := m) (wk := wk) (v := nI k) (u := u) (nI_nn hb) (by rw [nI_clamp hb]; exact hk)
  rw [nI_clamp hb] at h
  exact h
theorem an_h7 {b0 n : Nat} {c m : xc} {wk : Nat → Int64} {k : Nat} (hk : k < 12) : xai b0 0 (hp b0 n c m wk) (hA b0 7) (nI k) = some (m 0 k 8) := by
  have hb : k < 2 ^ 31 := by omega
  have h := a_h7 (b0 := b0) (n := n) (c := c) (m := m) (wk := wk) (v := nI k) (nI_nn hb) (by rw [nI_clamp hb]; exact hk)
  rw [nI_clamp hb] at h
  exact h
theorem sn_h7 {b0 n : Nat} {c m : xc} {wk : Nat → Int64} {k : Nat} {u : Int32} (hk : k < 12) : xsi b0 0 (hp b0 n c m wk) (hA b0 7) (nI k) u = some (hp b0 n c (u3 m 0 k 8 u) wk) := by
  have hb : k < 2 ^ 31 := by omega
  have h := s_h7 (b0 := b0) (n := n) (c := c) (m := m) (wk := wk) (v := nI k) (u := u) (nI_nn hb) (by rw [nI_clamp hb]; exact hk)
  rw [nI_clamp hb] at h
  exact h
theorem an_h8 {b0 n : Nat} {c m : xc} {wk : Nat → Int64} {k : Nat} (hk : k < 12) : xai b0 0 (hp b0 n c m wk) (hA b0 8) (nI k) = some (m 0 k 20) := by
  have hb : k < 2 ^ 31 := by omega
  have h := a_h8 (b0 := b0) (n := n) (c := c) (m := m) (wk := wk) (v := nI k) (nI_nn hb) (by rw [nI_clamp hb]; exact hk)
  rw [nI_clamp hb] at h
  exact h
theorem sn_h8 {b0 n : Nat} {c m : xc} {wk : Nat → Int64} {k : Nat} {u : Int32} (hk : k < 12) : xsi b0 0 (hp b0 n c m wk) (hA b0 8) (nI k) u = some (hp b0 n c (u3 m 0 k 20 u) wk) := by
  have hb : k < 2 ^ 31 := by omega
  have h := s_h8 (b0 := b0) (n := n) (c := c) (m := m) (wk := wk) (v := nI k) (u := u) (nI_nn hb) (by rw [nI_clamp hb]; exact hk)
  rw [nI_clamp hb] at h
  exact h
theorem an_h9 {b0 n : Nat} {c m : xc} {wk : Nat → Int64} {k : Nat} (hk : k < 192) : xai b0 0 (hp b0 n c m wk) (hA b0 9) (nI k) = some (m 1 (k / 16) (k % 16)) := by
  have hb : k < 2 ^ 31 := by omega
  have h := a_h9 (b0 := b0) (n := n) (c := c) (m := m) (wk := wk) (v := nI k) (nI_nn hb) (by rw [nI_clamp hb]; exact hk)
  rw [nI_clamp hb] at h
  exact h
theorem sn_h9 {b0 n : Nat} {c m : xc} {wk : Nat → Int64} {k : Nat} {u : Int32} (hk : k < 192) : xsi b0 0 (hp b0 n c m wk) (hA b0 9) (nI k) u = some (hp b0 n c (u3 m 1 (k / 16) (k % 16) u) wk) := by
  have hb : k < 2 ^ 31 := by omega
  have h := s_h9 (b0 := b0) (n := n) (c := c) (m := m) (wk := wk) (v := nI k) (u := u) (nI_nn hb) (by rw [nI_clamp hb]; exact hk)
  rw [nI_clamp hb] at h
  exact h
theorem an_h10 {b0 n : Nat} {c m : xc} {wk : Nat → Int64} {k : Nat} (hk : k < 192) : xai b0 0 (hp b0 n c m wk) (hA b0 10) (nI k) = some (m 2 (k / 16) (k % 16)) := by
  have hb : k < 2 ^ 31 := by omega
  have h := a_h10 (b0 := b0) (n := n) (c := c) (m := m) (wk := wk) (v := nI k) (nI_nn hb) (by rw [nI_clamp hb]; exact hk)
  rw [nI_clamp hb] at h
  exact h
theorem sn_h10 {b0 n : Nat} {c m : xc} {wk : Nat → Int64} {k : Nat} {u : Int32} (hk : k < 192) : xsi b0 0 (hp b0 n c m wk) (hA b0 10) (nI k) u = some (hp b0 n c (u3 m 2 (k / 16) (k % 16) u) wk) := by
  have hb : k < 2 ^ 31 := by omega
  have h := s_h10 (b0 := b0) (n := n) (c := c) (m := m) (wk := wk) (v := nI k) (u := u) (nI_nn hb) (by rw [nI_clamp hb]; exact hk)
  rw [nI_clamp hb] at h
  exact h
theorem an_h11 {b0 n : Nat} {c m : xc} {wk : Nat → Int64} {k : Nat} (hk : k < 192) : xai b0 0 (hp b0 n c m wk) (hA b0 11) (nI k) = some (m 3 (k / 16) (k % 16)) := by
  have hb : k < 2 ^ 31 := by omega
  have h := a_h11 (b0 := b0) (n := n) (c := c) (m := m) (wk := wk) (v := nI k) (nI_nn hb) (by rw [nI_clamp hb]; exact hk)
  rw [nI_clamp hb] at h
  exact h
theorem sn_h11 {b0 n : Nat} {c m : xc} {wk : Nat → Int64} {k : Nat} {u : Int32} (hk : k < 192) : xsi b0 0 (hp b0 n c m wk) (hA b0 11) (nI k) u = some (hp b0 n c (u3 m 3 (k / 16) (k % 16) u) wk) := by
  have hb : k < 2 ^ 31 := by omega
  have h := s_h11 (b0 := b0) (n := n) (c := c) (m := m) (wk := wk) (v := nI k) (u := u) (nI_nn hb) (by rw [nI_clamp hb]; exact hk)
  rw [nI_clamp hb] at h
  exact h
theorem an_h12 {b0 n : Nat} {c m : xc} {wk : Nat → Int64} {k : Nat} (hk : k < 12) : xai b0 0 (hp b0 n c m wk) (hA b0 12) (nI k) = some (m 0 k 11) := by
  have hb : k < 2 ^ 31 := by omega
  have h := a_h12 (b0 := b0) (n := n) (c := c) (m := m) (wk := wk) (v := nI k) (nI_nn hb) (by rw [nI_clamp hb]; exact hk)
  rw [nI_clamp hb] at h
  exact h
theorem sn_h12 {b0 n : Nat} {c m : xc} {wk : Nat → Int64} {k : Nat} {u : Int32} (hk : k < 12) : xsi b0 0 (hp b0 n c m wk) (hA b0 12) (nI k) u = some (hp b0 n c (u3 m 0 k 11 u) wk) := by
  have hb : k < 2 ^ 31 := by omega
  have h := s_h12 (b0 := b0) (n := n) (c := c) (m := m) (wk := wk) (v := nI k) (u := u) (nI_nn hb) (by rw [nI_clamp hb]; exact hk)
  rw [nI_clamp hb] at h
  exact h
theorem an_h13 {b0 n : Nat} {c m : xc} {wk : Nat → Int64} {k : Nat} (hk : k < 12) : xai b0 0 (hp b0 n c m wk) (hA b0 13) (nI k) = some (m 0 k 10) := by
  have hb : k < 2 ^ 31 := by omega
  have h := a_h13 (b0 := b0) (n := n) (c := c) (m := m) (wk := wk) (v := nI k) (nI_nn hb) (by rw [nI_clamp hb]; exact hk)
  rw [nI_clamp hb] at h
  exact h
theorem sn_h13 {b0 n : Nat} {c m : xc} {wk : Nat → Int64} {k : Nat} {u : Int32} (hk : k < 12) : xsi b0 0 (hp b0 n c m wk) (hA b0 13) (nI k) u = some (hp b0 n c (u3 m 0 k 10 u) wk) := by
  have hb : k < 2 ^ 31 := by omega
  have h := s_h13 (b0 := b0) (n := n) (c := c) (m := m) (wk := wk) (v := nI k) (u := u) (nI_nn hb) (by rw [nI_clamp hb]; exact hk)
  rw [nI_clamp hb] at h
  exact h
theorem an_h14 {b0 n : Nat} {c m : xc} {wk : Nat → Int64} {k : Nat} (hk : k < 12) : xai b0 0 (hp b0 n c m wk) (hA b0 14) (nI k) = some (m 0 k 22) := by
  have hb : k < 2 ^ 31 := by omega
  have h := a_h14 (b0 := b0) (n := n) (c := c) (m := m) (wk := wk) (v := nI k) (nI_nn hb) (by rw [nI_clamp hb]; exact hk)
  rw [nI_clamp hb] at h
  exact h
theorem sn_h14 {b0 n : Nat} {c m : xc} {wk : Nat → Int64} {k : Nat} {u : Int32} (hk : k < 12) : xsi b0 0 (hp b0 n c m wk) (hA b0 14) (nI k) u = some (hp b0 n c (u3 m 0 k 22 u) wk) := by
  have hb : k < 2 ^ 31 := by omega
  have h := s_h14 (b0 := b0) (n := n) (c := c) (m := m) (wk := wk) (v := nI k) (u := u) (nI_nn hb) (by rw [nI_clamp hb]; exact hk)
  rw [nI_clamp hb] at h
  exact h
theorem an_h15 {b0 n : Nat} {c m : xc} {wk : Nat → Int64} {k : Nat} (hk : k < 1200) : xai b0 0 (hp b0 n c m wk) (hA b0 15) (nI k) = some (m 6 (k / 100) (k % 100)) := by
  have hb : k < 2 ^ 31 := by omega
  have h := a_h15 (b0 := b0) (n := n) (c := c) (m := m) (wk := wk) (v := nI k) (nI_nn hb) (by rw [nI_clamp hb]; exact hk)
  rw [nI_clamp hb] at h
  exact h
theorem sn_h15 {b0 n : Nat} {c m : xc} {wk : Nat → Int64} {k : Nat} {u : Int32} (hk : k < 1200) : xsi b0 0 (hp b0 n c m wk) (hA b0 15) (nI k) u = some (hp b0 n c (u3 m 6 (k / 100) (k % 100) u) wk) := by
  have hb : k < 2 ^ 31 := by omega
  have h := s_h15 (b0 := b0) (n := n) (c := c) (m := m) (wk := wk) (v := nI k) (u := u) (nI_nn hb) (by rw [nI_clamp hb]; exact hk)
  rw [nI_clamp hb] at h
  exact h
theorem an_h16 {b0 n : Nat} {c m : xc} {wk : Nat → Int64} {k : Nat} (hk : k < 12) : xai b0 0 (hp b0 n c m wk) (hA b0 16) (nI k) = some (m 0 k 24) := by
  have hb : k < 2 ^ 31 := by omega
  have h := a_h16 (b0 := b0) (n := n) (c := c) (m := m) (wk := wk) (v := nI k) (nI_nn hb) (by rw [nI_clamp hb]; exact hk)
  rw [nI_clamp hb] at h
  exact h
theorem sn_h16 {b0 n : Nat} {c m : xc} {wk : Nat → Int64} {k : Nat} {u : Int32} (hk : k < 12) : xsi b0 0 (hp b0 n c m wk) (hA b0 16) (nI k) u = some (hp b0 n c (u3 m 0 k 24 u) wk) := by
  have hb : k < 2 ^ 31 := by omega
  have h := s_h16 (b0 := b0) (n := n) (c := c) (m := m) (wk := wk) (v := nI k) (u := u) (nI_nn hb) (by rw [nI_clamp hb]; exact hk)
  rw [nI_clamp hb] at h
  exact h
theorem an_h17 {b0 n : Nat} {c m : xc} {wk : Nat → Int64} {k : Nat} (hk : k < 12) : xai b0 0 (hp b0 n c m wk) (hA b0 17) (nI k) = some (m 0 k 25) := by
  have hb : k < 2 ^ 31 := by omega
  have h := a_h17 (b0 := b0) (n := n) (c := c) (m := m) (wk := wk) (v := nI k) (nI_nn hb) (by rw [nI_clamp hb]; exact hk)
  rw [nI_clamp hb] at h
  exact h
theorem sn_h17 {b0 n : Nat} {c m : xc} {wk : Nat → Int64} {k : Nat} {u : Int32} (hk : k < 12) : xsi b0 0 (hp b0 n c m wk) (hA b0 17) (nI k) u = some (hp b0 n c (u3 m 0 k 25 u) wk) := by
  have hb : k < 2 ^ 31 := by omega
  have h := s_h17 (b0 := b0) (n := n) (c := c) (m := m) (wk := wk) (v := nI k) (u := u) (nI_nn hb) (by rw [nI_clamp hb]; exact hk)
  rw [nI_clamp hb] at h
  exact h
theorem an_h18 {b0 n : Nat} {c m : xc} {wk : Nat → Int64} {k : Nat} (hk : k < 12) : xai b0 0 (hp b0 n c m wk) (hA b0 18) (nI k) = some (m 0 k 26) := by
  have hb : k < 2 ^ 31 := by omega
  have h := a_h18 (b0 := b0) (n := n) (c := c) (m := m) (wk := wk) (v := nI k) (nI_nn hb) (by rw [nI_clamp hb]; exact hk)
  rw [nI_clamp hb] at h
  exact h
theorem sn_h18 {b0 n : Nat} {c m : xc} {wk : Nat → Int64} {k : Nat} {u : Int32} (hk : k < 12) : xsi b0 0 (hp b0 n c m wk) (hA b0 18) (nI k) u = some (hp b0 n c (u3 m 0 k 26 u) wk) := by
  have hb : k < 2 ^ 31 := by omega
  have h := s_h18 (b0 := b0) (n := n) (c := c) (m := m) (wk := wk) (v := nI k) (u := u) (nI_nn hb) (by rw [nI_clamp hb]; exact hk)
  rw [nI_clamp hb] at h
  exact h
theorem an_h19 {b0 n : Nat} {c m : xc} {wk : Nat → Int64} {k : Nat} (hk : k < 1200) : xai b0 0 (hp b0 n c m wk) (hA b0 19) (nI k) = some (m 7 (k / 100) (k % 100)) := by
  have hb : k < 2 ^ 31 := by omega
  have h := a_h19 (b0 := b0) (n := n) (c := c) (m := m) (wk := wk) (v := nI k) (nI_nn hb) (by rw [nI_clamp hb]; exact hk)
  rw [nI_clamp hb] at h
  exact h
theorem sn_h19 {b0 n : Nat} {c m : xc} {wk : Nat → Int64} {k : Nat} {u : Int32} (hk : k < 1200) : xsi b0 0 (hp b0 n c m wk) (hA b0 19) (nI k) u = some (hp b0 n c (u3 m 7 (k / 100) (k % 100) u) wk) := by
  have hb : k < 2 ^ 31 := by omega
  have h := s_h19 (b0 := b0) (n := n) (c := c) (m := m) (wk := wk) (v := nI k) (u := u) (nI_nn hb) (by rw [nI_clamp hb]; exact hk)
  rw [nI_clamp hb] at h
  exact h
theorem an_h20 {b0 n : Nat} {c m : xc} {wk : Nat → Int64} {k : Nat} (hk : k < 12) : xai b0 0 (hp b0 n c m wk) (hA b0 20) (nI k) = some (m 0 k 23) := by
  have hb : k < 2 ^ 31 := by omega
  have h := a_h20 (b0 := b0) (n := n) (c := c) (m := m) (wk := wk) (v := nI k) (nI_nn hb) (by rw [nI_clamp hb]; exact hk)
  rw [nI_clamp hb] at h
  exact h
theorem sn_h20 {b0 n : Nat} {c m : xc} {wk : Nat → Int64} {k : Nat} {u : Int32} (hk : k < 12) : xsi b0 0 (hp b0 n c m wk) (hA b0 20) (nI k) u = some (hp b0 n c (u3 m 0 k 23 u) wk) := by
  have hb : k < 2 ^ 31 := by omega
  have h := s_h20 (b0 := b0) (n := n) (c := c) (m := m) (wk := wk) (v := nI k) (u := u) (nI_nn hb) (by rw [nI_clamp hb]; exact hk)
  rw [nI_clamp hb] at h
  exact h
theorem an_h21 {b0 n : Nat} {c m : xc} {wk : Nat → Int64} {k : Nat} (hk : k < 36) : xai b0 0 (hp b0 n c m wk) (hA b0 21) (nI k) = some (m 5 (k / 3) (k % 3)) := by
  have hb : k < 2 ^ 31 := by omega
  have h := a_h21 (b0 := b0) (n := n) (c := c) (m := m) (wk := wk) (v := nI k) (nI_nn hb) (by rw [nI_clamp hb]; exact hk)
  rw [nI_clamp hb] at h
  exact h
theorem sn_h21 {b0 n : Nat} {c m : xc} {wk : Nat → Int64} {k : Nat} {u : Int32} (hk : k < 36) : xsi b0 0 (hp b0 n c m wk) (hA b0 21) (nI k) u = some (hp b0 n c (u3 m 5 (k / 3) (k % 3) u) wk) := by
  have hb : k < 2 ^ 31 := by omega
  have h := s_h21 (b0 := b0) (n := n) (c := c) (m := m) (wk := wk) (v := nI k) (u := u) (nI_nn hb) (by rw [nI_clamp hb]; exact hk)
  rw [nI_clamp hb] at h
  exact h
theorem an_h22 {b0 n : Nat} {c m : xc} {wk : Nat → Int64} {k : Nat} (hk : k < 12) : xai b0 0 (hp b0 n c m wk) (hA b0 22) (nI k) = some (m 0 k 21) := by
  have hb : k < 2 ^ 31 := by omega
  have h := a_h22 (b0 := b0) (n := n) (c := c) (m := m) (wk := wk) (v := nI k) (nI_nn hb) (by rw [nI_clamp hb]; exact hk)
  rw [nI_clamp hb] at h
  exact h
theorem sn_h22 {b0 n : Nat} {c m : xc} {wk : Nat → Int64} {k : Nat} {u : Int32} (hk : k < 12) : xsi b0 0 (hp b0 n c m wk) (hA b0 22) (nI k) u = some (hp b0 n c (u3 m 0 k 21 u) wk) := by
  have hb : k < 2 ^ 31 := by omega
  have h := s_h22 (b0 := b0) (n := n) (c := c) (m := m) (wk := wk) (v := nI k) (u := u) (nI_nn hb) (by rw [nI_clamp hb]; exact hk)
  rw [nI_clamp hb] at h
  exact h
theorem an_h23 {b0 n : Nat} {c m : xc} {wk : Nat → Int64} {k : Nat} (hk : k < 72) : xai b0 0 (hp b0 n c m wk) (hA b0 23) (nI k) = some (m 4 (k / 6) (k % 6)) := by
  have hb : k < 2 ^ 31 := by omega
  have h := a_h23 (b0 := b0) (n := n) (c := c) (m := m) (wk := wk) (v := nI k) (nI_nn hb) (by rw [nI_clamp hb]; exact hk)
  rw [nI_clamp hb] at h
  exact h
theorem sn_h23 {b0 n : Nat} {c m : xc} {wk : Nat → Int64} {k : Nat} {u : Int32} (hk : k < 72) : xsi b0 0 (hp b0 n c m wk) (hA b0 23) (nI k) u = some (hp b0 n c (u3 m 4 (k / 6) (k % 6) u) wk) := by
  have hb : k < 2 ^ 31 := by omega
  have h := s_h23 (b0 := b0) (n := n) (c := c) (m := m) (wk := wk) (v := nI k) (u := u) (nI_nn hb) (by rw [nI_clamp hb]; exact hk)
  rw [nI_clamp hb] at h
  exact h
theorem an_h25 {b0 n : Nat} {c m : xc} {wk : Nat → Int64} {k : Nat} (hk : k < 12) : xai b0 0 (hp b0 n c m wk) (hA b0 25) (nI k) = some (m 0 k 15) := by
  have hb : k < 2 ^ 31 := by omega
  have h := a_h25 (b0 := b0) (n := n) (c := c) (m := m) (wk := wk) (v := nI k) (nI_nn hb) (by rw [nI_clamp hb]; exact hk)
  rw [nI_clamp hb] at h
  exact h
theorem sn_h25 {b0 n : Nat} {c m : xc} {wk : Nat → Int64} {k : Nat} {u : Int32} (hk : k < 12) : xsi b0 0 (hp b0 n c m wk) (hA b0 25) (nI k) u = some (hp b0 n c (u3 m 0 k 15 u) wk) := by
  have hb : k < 2 ^ 31 := by omega
  have h := s_h25 (b0 := b0) (n := n) (c := c) (m := m) (wk := wk) (v := nI k) (u := u) (nI_nn hb) (by rw [nI_clamp hb]; exact hk)
  rw [nI_clamp hb] at h
  exact h
theorem an_h26 {b0 n : Nat} {c m : xc} {wk : Nat → Int64} {k : Nat} (hk : k < 12) : xai b0 0 (hp b0 n c m wk) (hA b0 26) (nI k) = some (m 0 k 16) := by
  have hb : k < 2 ^ 31 := by omega
  have h := a_h26 (b0 := b0) (n := n) (c := c) (m := m) (wk := wk) (v := nI k) (nI_nn hb) (by rw [nI_clamp hb]; exact hk)
  rw [nI_clamp hb] at h
  exact h
theorem sn_h26 {b0 n : Nat} {c m : xc} {wk : Nat → Int64} {k : Nat} {u : Int32} (hk : k < 12) : xsi b0 0 (hp b0 n c m wk) (hA b0 26) (nI k) u = some (hp b0 n c (u3 m 0 k 16 u) wk) := by
  have hb : k < 2 ^ 31 := by omega
  have h := s_h26 (b0 := b0) (n := n) (c := c) (m := m) (wk := wk) (v := nI k) (u := u) (nI_nn hb) (by rw [nI_clamp hb]; exact hk)
  rw [nI_clamp hb] at h
  exact h
theorem an_h27 {b0 n : Nat} {c m : xc} {wk : Nat → Int64} {k : Nat} (hk : k < 12) : xai b0 0 (hp b0 n c m wk) (hA b0 27) (nI k) = some (m 0 k 17) := by
  have hb : k < 2 ^ 31 := by omega
  have h := a_h27 (b0 := b0) (n := n) (c := c) (m := m) (wk := wk) (v := nI k) (nI_nn hb) (by rw [nI_clamp hb]; exact hk)
  rw [nI_clamp hb] at h
  exact h
theorem sn_h27 {b0 n : Nat} {c m : xc} {wk : Nat → Int64} {k : Nat} {u : Int32} (hk : k < 12) : xsi b0 0 (hp b0 n c m wk) (hA b0 27) (nI k) u = some (hp b0 n c (u3 m 0 k 17 u) wk) := by
  have hb : k < 2 ^ 31 := by omega
  have h := s_h27 (b0 := b0) (n := n) (c := c) (m := m) (wk := wk) (v := nI k) (u := u) (nI_nn hb) (by rw [nI_clamp hb]; exact hk)
  rw [nI_clamp hb] at h
  exact h
theorem an_h28 {b0 n : Nat} {c m : xc} {wk : Nat → Int64} {k : Nat} (hk : k < 12) : xai b0 0 (hp b0 n c m wk) (hA b0 28) (nI k) = some (m 0 k 18) := by
  have hb : k < 2 ^ 31 := by omega
  have h := a_h28 (b0 := b0) (n := n) (c := c) (m := m) (wk := wk) (v := nI k) (nI_nn hb) (by rw [nI_clamp hb]; exact hk)
  rw [nI_clamp hb] at h
  exact h
theorem sn_h28 {b0 n : Nat} {c m : xc} {wk : Nat → Int64} {k : Nat} {u : Int32} (hk : k < 12) : xsi b0 0 (hp b0 n c m wk) (hA b0 28) (nI k) u = some (hp b0 n c (u3 m 0 k 18 u) wk) := by
  have hb : k < 2 ^ 31 := by omega
  have h := s_h28 (b0 := b0) (n := n) (c := c) (m := m) (wk := wk) (v := nI k) (u := u) (nI_nn hb) (by rw [nI_clamp hb]; exact hk)
  rw [nI_clamp hb] at h
  exact h
theorem an_h29 {b0 n : Nat} {c m : xc} {wk : Nat → Int64} {k : Nat} (hk : k < 12) : xai b0 1 (hp b0 n c m wk) (hA b0 29) (nI k) = some (m 0 k 14) := by
  have hb : k < 2 ^ 31 := by omega
  have h := a_h29 (b0 := b0) (n := n) (c := c) (m := m) (wk := wk) (v := nI k) (nI_nn hb) (by rw [nI_clamp hb]; exact hk)
  rw [nI_clamp hb] at h
  exact h
theorem sn_h29 {b0 n : Nat} {c m : xc} {wk : Nat → Int64} {k : Nat} {u : Int32} (hk : k < 12) : xsi b0 1 (hp b0 n c m wk) (hA b0 29) (nI k) u = some (hp b0 n c (u3 m 0 k 14 u) wk) := by
  have hb : k < 2 ^ 31 := by omega
  have h := s_h29 (b0 := b0) (n := n) (c := c) (m := m) (wk := wk) (v := nI k) (u := u) (nI_nn hb) (by rw [nI_clamp hb]; exact hk)
  rw [nI_clamp hb] at h
  exact h
theorem an_h30 {b0 n : Nat} {c m : xc} {wk : Nat → Int64} {k : Nat} (hk : k < 12) : xai b0 1 (hp b0 n c m wk) (hA b0 30) (nI k) = some (m 0 k 13) := by
  have hb : k < 2 ^ 31 := by omega
  have h := a_h30 (b0 := b0) (n := n) (c := c) (m := m) (wk := wk) (v := nI k) (nI_nn hb) (by rw [nI_clamp hb]; exact hk)
  rw [nI_clamp hb] at h
  exact h
theorem sn_h30 {b0 n : Nat} {c m : xc} {wk : Nat → Int64} {k : Nat} {u : Int32} (hk : k < 12) : xsi b0 1 (hp b0 n c m wk) (hA b0 30) (nI k) u = some (hp b0 n c (u3 m 0 k 13 u) wk) := by
  have hb : k < 2 ^ 31 := by omega
  have h := s_h30 (b0 := b0) (n := n) (c := c) (m := m) (wk := wk) (v := nI k) (u := u) (nI_nn hb) (by rw [nI_clamp hb]; exact hk)
  rw [nI_clamp hb] at h
  exact h
theorem an_h31 {b0 n : Nat} {c m : xc} {wk : Nat → Int64} {k : Nat} (hk : k < 12) : xai b0 0 (hp b0 n c m wk) (hA b0 31) (nI k) = some (m 9 0 k) := by
  have hb : k < 2 ^ 31 := by omega
  have h := a_h31 (b0 := b0) (n := n) (c := c) (m := m) (wk := wk) (v := nI k) (nI_nn hb) (by rw [nI_clamp hb]; exact hk)
  rw [nI_clamp hb] at h
  exact h
theorem sn_h31 {b0 n : Nat} {c m : xc} {wk : Nat → Int64} {k : Nat} {u : Int32} (hk : k < 12) : xsi b0 0 (hp b0 n c m wk) (hA b0 31) (nI k) u = some (hp b0 n c (u3 m 9 0 k u) wk) := by
  have hb : k < 2 ^ 31 := by omega
  have h := s_h31 (b0 := b0) (n := n) (c := c) (m := m) (wk := wk) (v := nI k) (u := u) (nI_nn hb) (by rw [nI_clamp hb]; exact hk)
  rw [nI_clamp hb] at h
  exact h
theorem an_h24 {b0 n : Nat} {c m : xc} {wk : Nat → Int64} {k : Nat} (hk : k < 12) : xaj b0 (hp b0 n c m wk) (hA b0 24) (nI k) = some (wk k) := by
  have hb : k < 2 ^ 31 := by omega
  have h := a_h24 (b0 := b0) (n := n) (c := c) (m := m) (wk := wk) (v := nI k) (nI_nn hb) (by rw [nI_clamp hb]; exact hk)
  rw [nI_clamp hb] at h
  exact h
theorem sn_h24 {b0 n : Nat} {c m : xc} {wk : Nat → Int64} {k : Nat} {u : Int64} (hk : k < 12) : xsj b0 (hp b0 n c m wk) (hA b0 24) (nI k) u = some (hp b0 n c m (uk wk k u)) := by
  have hb : k < 2 ^ 31 := by omega
  have h := s_h24 (b0 := b0) (n := n) (c := c) (m := m) (wk := wk) (v := nI k) (u := u) (nI_nn hb) (by rw [nI_clamp hb]; exact hk)
  rw [nI_clamp hb] at h
  exact h
theorem an_h1 {b0 n : Nat} {c m : xc} {wk : Nat → Int64} {k : Nat} (hk : k < 12) : xaq b0 (hp b0 n c m wk) (hA b0 1) (nI k) = some (if k < n then some (tA b0 k 0) else none) := by
  have hb : k < 2 ^ 31 := by omega
  have h := a_h1 (b0 := b0) (n := n) (c := c) (m := m) (wk := wk) (v := nI k) (nI_nn hb) (by rw [nI_clamp hb]; exact hk)
  rw [nI_clamp hb] at h
  exact h
