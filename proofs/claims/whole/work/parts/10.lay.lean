abbrev xc : Type := Nat → Nat → Nat → Int32
def u3 (c : xc) (a i k : Nat) (v : Int32) : xc := fun a1 i1 k1 => if a1 = a then (if i1 = i then (if k1 = k then v else c a1 i1 k1) else c a1 i1 k1) else c a1 i1 k1
def uk (wk : Nat → Int64) (i : Nat) (v : Int64) : Nat → Int64 := fun j => if j = i then v else wk j
def tA (b0 i j : Nat) : Nat := b0 + (32 + 14 * i + j)
def hA (b0 k : Nat) : Nat := b0 + k
def fb (n : Nat) (B : Nat → List xE) : List xE := (List.range n).flatMap B
def tB (b0 : Nat) (c : xc) (i : Nat) : List xE := [
  .inr (.inr (.inl (5, [.inl (c 0 i 0), .inl (c 0 i 1), .inl (c 0 i 2), .inr (.inr (some (tA b0 i 1))), .inr (.inr (some (tA b0 i 5))), .inr (.inr (some (tA b0 i 7))), .inr (.inr (some (tA b0 i 9))), .inr (.inr (some (tA b0 i 11))), .inl (c 0 i 8), .inl (c 0 i 9), .inl (c 0 i 10), .inl (c 0 i 11), .inl (c 0 i 12), .inl (c 0 i 13), .inl (c 0 i 14), .inl (c 0 i 15), .inl (c 0 i 16), .inl (c 0 i 17), .inl (c 0 i 18)]))),
  .inr (.inr (.inl (0, [.inr (.inr (some (tA b0 i 2))), .inr (.inr (some (tA b0 i 3))), .inr (.inr (some (tA b0 i 4))), .inl (c 0 i 20)]))),
  .inl (0, (List.range 16).map (c 1 i)),
  .inl (0, (List.range 16).map (c 2 i)),
  .inl (0, (List.range 16).map (c 3 i)),
  .inr (.inr (.inl (2, [.inr (.inr (some (tA b0 i 6))), .inl (c 0 i 21)]))),
  .inl (0, (List.range 6).map (c 4 i)),
  .inr (.inr (.inl (4, [.inr (.inr (some (tA b0 i 8))), .inl (c 0 i 22)]))),
  .inl (0, (List.range 40).map (c 6 i)),
  .inr (.inr (.inl (1, [.inr (.inr (some (tA b0 i 10))), .inl (c 0 i 23)]))),
  .inl (0, (List.range 3).map (c 5 i)),
  .inr (.inr (.inl (3, [.inr (.inr (some (tA b0 i 12))), .inl (c 0 i 24), .inl (c 0 i 25)]))),
  .inr (.inr (.inl (4, [.inr (.inr (some (tA b0 i 13))), .inl (c 0 i 26)]))),
  .inl (0, (List.range 40).map (c 7 i))]
def hd (b0 n : Nat) (c m : xc) (wk : Nat → Int64) : List xE := [
  .inr (.inr (.inl (6, [.inr (.inr (some (hA b0 1))), .inr (.inr (some (hA b0 2))), .inl (c 8 0 2), .inl (c 8 0 3), .inl (c 8 0 4), .inl (c 8 0 5), .inl (c 8 0 6), .inl (c 8 0 7), .inl (c 8 0 8), .inl (c 8 0 9)]))),
  .inr (.inr (.inr ((List.range 12).map (fun i => if i < n then some (tA b0 i 0) else none)))),
  .inl (0, (List.range 12).map (c 9 0)),
  .inr (.inr (.inl (7, [.inl (m 8 0 2), .inr (.inr (some (hA b0 4))), .inr (.inr (some (hA b0 5))), .inr (.inr (some (hA b0 6))), .inr (.inr (some (hA b0 7))), .inr (.inr (some (hA b0 8))), .inr (.inr (some (hA b0 9))), .inr (.inr (some (hA b0 10))), .inr (.inr (some (hA b0 11))), .inr (.inr (some (hA b0 12))), .inr (.inr (some (hA b0 13))), .inr (.inr (some (hA b0 14))), .inr (.inr (some (hA b0 15))), .inr (.inr (some (hA b0 16))), .inr (.inr (some (hA b0 17))), .inr (.inr (some (hA b0 18))), .inr (.inr (some (hA b0 19))), .inr (.inr (some (hA b0 20))), .inr (.inr (some (hA b0 21))), .inr (.inr (some (hA b0 22))), .inr (.inr (some (hA b0 23))), .inr (.inr (some (hA b0 24))), .inr (.inr (some (hA b0 25))), .inr (.inr (some (hA b0 26))), .inr (.inr (some (hA b0 27))), .inr (.inr (some (hA b0 28))), .inr (.inr (some (hA b0 29))), .inr (.inr (some (hA b0 30))), .inr (.inr (some (hA b0 31))), .inl (m 8 0 3), .inl (m 8 0 4), .inl (m 8 0 5), .inl (m 8 0 6), .inl (m 8 0 7), .inl (m 8 0 8), .inl (m 8 0 9), .inl (m 8 0 36), .inl (m 8 0 37)]))),
  .inl (0, (List.range 12).map (fun i => m 0 i 1)),
  .inl (0, (List.range 12).map (fun i => m 0 i 2)),
  .inl (0, (List.range 12).map (fun i => m 0 i 9)),
  .inl (0, (List.range 12).map (fun i => m 0 i 8)),
  .inl (0, (List.range 12).map (fun i => m 0 i 20)),
  .inl (0, (List.range 192).map (fun q => m 1 (q / 16) (q % 16))),
  .inl (0, (List.range 192).map (fun q => m 2 (q / 16) (q % 16))),
  .inl (0, (List.range 192).map (fun q => m 3 (q / 16) (q % 16))),
  .inl (0, (List.range 12).map (fun i => m 0 i 11)),
  .inl (0, (List.range 12).map (fun i => m 0 i 10)),
  .inl (0, (List.range 12).map (fun i => m 0 i 22)),
  .inl (0, (List.range 1200).map (fun q => m 6 (q / 100) (q % 100))),
  .inl (0, (List.range 12).map (fun i => m 0 i 24)),
  .inl (0, (List.range 12).map (fun i => m 0 i 25)),
  .inl (0, (List.range 12).map (fun i => m 0 i 26)),
  .inl (0, (List.range 1200).map (fun q => m 7 (q / 100) (q % 100))),
  .inl (0, (List.range 12).map (fun i => m 0 i 23)),
  .inl (0, (List.range 36).map (fun q => m 5 (q / 3) (q % 3))),
  .inl (0, (List.range 12).map (fun i => m 0 i 21)),
  .inl (0, (List.range 72).map (fun q => m 4 (q / 6) (q % 6))),
  .inr (.inl ((List.range 12).map wk)),
  .inl (0, (List.range 12).map (fun i => m 0 i 15)),
  .inl (0, (List.range 12).map (fun i => m 0 i 16)),
  .inl (0, (List.range 12).map (fun i => m 0 i 17)),
  .inl (0, (List.range 12).map (fun i => m 0 i 18)),
  .inl (1, (List.range 12).map (fun i => m 0 i 14)),
  .inl (1, (List.range 12).map (fun i => m 0 i 13)),
  .inl (0, (List.range 12).map (m 9 0))]
def hp (b0 n : Nat) (c m : xc) (wk : Nat → Int64) : xH := hd b0 n c m wk ++ fb n (tB b0 c)
theorem fb_succ (n : Nat) (B : Nat → List xE) : fb (n + 1) B = fb n B ++ B n := by simp [fb, List.range_succ]
theorem fb_len {n : Nat} {B : Nat → List xE} (hB : ∀ i, (B i).length = 14) : (fb n B).length = 14 * n := by
  induction n with
  | zero => simp [fb]
  | succ n ih => rw [fb_succ, List.length_append, ih, hB]; omega
theorem fb_get {n : Nat} {B : Nat → List xE} (hB : ∀ i, (B i).length = 14) {i j : Nat} (hi : i < n) (hj : j < 14) : (fb n B)[14 * i + j]? = (B i)[j]? := by
  induction n with
  | zero => omega
  | succ n ih =>
    rw [fb_succ]
    by_cases h : i < n
    · rw [List.getElem?_append_left (by rw [fb_len hB]; omega), ih h]
    · have : i = n := by omega
      subst this
      rw [List.getElem?_append_right (by rw [fb_len hB]; omega), fb_len hB]
      congr 1
      omega
theorem fb_congr {n : Nat} {B B' : Nat → List xE} (h : ∀ i, i < n → B i = B' i) : fb n B = fb n B' := by
  induction n with
  | zero => rfl
  | succ n ih => rw [fb_succ, fb_succ, ih (fun i hi => h i (by omega)), h n (by omega)]
theorem fb_set {n : Nat} {B : Nat → List xE} (hB : ∀ i, (B i).length = 14) {i j : Nat} (hi : i < n) (hj : j < 14) (q : xE) : (fb n B).set (14 * i + j) q = fb n (fun i1 => if i1 = i then (B i).set j q else B i1) := by
  induction n with
  | zero => omega
  | succ n ih =>
    rw [fb_succ, fb_succ]
    by_cases h : i < n
    · rw [List.set_append_left _ _ (by rw [fb_len hB]; omega), ih h, if_neg (by omega)]
    · have : i = n := by omega
      subst this
      rw [List.set_append_right _ _ (by rw [fb_len hB]; omega), fb_len hB, if_pos rfl]
      congr 1
      · apply fb_congr
        intro k hk
        rw [if_neg (by omega)]
      · congr 1
        omega
theorem tB_len (b0 : Nat) (c : xc) (i : Nat) : (tB b0 c i).length = 14 := rfl
theorem hd_len (b0 n : Nat) (c m : xc) (wk : Nat → Int64) : (hd b0 n c m wk).length = 32 := rfl
theorem hp_len (b0 n : Nat) (c m : xc) (wk : Nat → Int64) : (hp b0 n c m wk).length = 32 + 14 * n := by rw [hp, List.length_append, hd_len, fb_len (tB_len b0 c)]
theorem xat_t {b0 n i j : Nat} {c m : xc} {wk : Nat → Int64} (hi : i < n) (hj : j < 14) : xat b0 (hp b0 n c m wk) (tA b0 i j) = (tB b0 c i)[j]? := by
  unfold xat tA
  rw [if_pos (by omega), show b0 + (32 + 14 * i + j) - b0 = 32 + (14 * i + j) by omega, hp, List.getElem?_append_right (by rw [hd_len]; omega), hd_len, show 32 + (14 * i + j) - 32 = 14 * i + j by omega, fb_get (tB_len b0 c) hi hj]
theorem xat_h {b0 n k : Nat} {c m : xc} {wk : Nat → Int64} (hk : k < 32) : xat b0 (hp b0 n c m wk) (hA b0 k) = (hd b0 n c m wk)[k]? := by
  unfold xat hA
  rw [if_pos (by omega), show b0 + k - b0 = k by omega, hp, List.getElem?_append_left (by rw [hd_len]; omega)]
theorem hp_set_t {b0 n i j : Nat} {c c' m : xc} {wk : Nat → Int64} {q : xE} (hi : i < n) (hj : j < 14) (h1 : hd b0 n c' m wk = hd b0 n c m wk) (h2 : tB b0 c' i = (tB b0 c i).set j q) (h3 : ∀ i1, i1 ≠ i → tB b0 c' i1 = tB b0 c i1) : (hp b0 n c m wk).set (tA b0 i j - b0) q = hp b0 n c' m wk := by
  rw [show tA b0 i j - b0 = 32 + (14 * i + j) by unfold tA; omega, hp, hp, List.set_append_right _ _ (by rw [hd_len]; omega), hd_len, show 32 + (14 * i + j) - 32 = 14 * i + j by omega, fb_set (tB_len b0 c) hi hj, h1]
  congr 1
  apply fb_congr
  intro i1 _
  by_cases h : i1 = i
  · rw [if_pos h, h, h2]
  · rw [if_neg h, h3 i1 h]
theorem hp_set_h {b0 n k : Nat} {c c' m m' : xc} {wk wk' : Nat → Int64} {q : xE} (hk : k < 32) (h1 : hd b0 n c' m' wk' = (hd b0 n c m wk).set k q) (h2 : ∀ i, tB b0 c' i = tB b0 c i) : (hp b0 n c m wk).set (hA b0 k - b0) q = hp b0 n c' m' wk' := by
  rw [show hA b0 k - b0 = k by unfold hA; omega, hp, hp, List.set_append_left _ _ (by rw [hd_len]; omega), h1]
  congr 1
  exact fb_congr (fun i _ => (h2 i).symm)
theorem rng_get {α : Type} {N k : Nat} {f : Nat → α} (hk : k < N) : ((List.range N).map f)[k]? = some (f k) := by simp [hk]
theorem rng_set {α : Type} {N k : Nat} {f g : Nat → α} {v : α} (hv : k < N → g k = v) (ho : ∀ j, j ≠ k → j < N → g j = f j) : ((List.range N).map f).set k v = (List.range N).map g := by
  apply List.ext_getElem?
  intro j
  by_cases hj : j < N
  · by_cases h : k = j
    · subst h
      rw [List.getElem?_set_self (by simpa using hj), rng_get hj, hv hj]
    · rw [List.getElem?_set_ne h, rng_get hj, rng_get hj, ho j (fun q => h q.symm) hj]
  · rw [List.getElem?_eq_none (by simp; omega), List.getElem?_eq_none (by simp; omega)]
theorem u3_same {c : xc} {a i k : Nat} {v : Int32} : u3 c a i k v a i k = v := by simp [u3]
theorem u3_k {c : xc} {a i k : Nat} {v : Int32} {k1 : Nat} (h : k1 ≠ k) : u3 c a i k v a i k1 = c a i k1 := by simp [u3, h]
theorem u3_i {c : xc} {a i k : Nat} {v : Int32} {i1 : Nat} (h : i1 ≠ i) (a1 k1 : Nat) : u3 c a i k v a1 i1 k1 = c a1 i1 k1 := by simp [u3, h]
theorem u3_a {c : xc} {a i k : Nat} {v : Int32} {a1 : Nat} (h : a1 ≠ a) (i1 k1 : Nat) : u3 c a i k v a1 i1 k1 = c a1 i1 k1 := by simp [u3, h]

theorem xis_t0 {b0 n i : Nat} {c m : xc} {wk : Nat → Int64} (hi : i < n) : xis b0 (hp b0 n c m wk) (tA b0 i 0) 5 = true := by
  unfold xis
  rw [xat_t hi (by decide)]
  rfl
theorem g_t0_0 {b0 n i : Nat} {c m : xc} {wk : Nat → Int64} (hi : i < n) : xgI b0 (hp b0 n c m wk) (tA b0 i 0) 5 0 = some (c 0 i 0) := by
  unfold xgI xg
  rw [xat_t hi (by decide)]
  rfl
theorem p_t0_0 {b0 n i : Nat} {c m : xc} {wk : Nat → Int64} {v : Int32} (hi : i < n) : xp b0 (hp b0 n c m wk) (tA b0 i 0) 5 0 (.inl v) = some (hp b0 n (u3 c 0 i 0 v) m wk) := by
  unfold xp
  rw [xat_t hi (by decide)]
  refine congrArg some (hp_set_t hi (by decide) rfl ?_ ?_)
  · simp [tB, u3]
  · intro i1 h1
    simp [tB, u3, h1]
theorem g_t0_1 {b0 n i : Nat} {c m : xc} {wk : Nat → Int64} (hi : i < n) : xgI b0 (hp b0 n c m wk) (tA b0 i 0) 5 1 = some (c 0 i 1) := by
  unfold xgI xg
  rw [xat_t hi (by decide)]
  rfl
theorem p_t0_1 {b0 n i : Nat} {c m : xc} {wk : Nat → Int64} {v : Int32} (hi : i < n) : xp b0 (hp b0 n c m wk) (tA b0 i 0) 5 1 (.inl v) = some (hp b0 n (u3 c 0 i 1 v) m wk) := by
  unfold xp
  rw [xat_t hi (by decide)]
  refine congrArg some (hp_set_t hi (by decide) rfl ?_ ?_)
  · simp [tB, u3]
  · intro i1 h1
    simp [tB, u3, h1]
theorem g_t0_2 {b0 n i : Nat} {c m : xc} {wk : Nat → Int64} (hi : i < n) : xgI b0 (hp b0 n c m wk) (tA b0 i 0) 5 2 = some (c 0 i 2) := by
  unfold xgI xg
  rw [xat_t hi (by decide)]
  rfl
theorem p_t0_2 {b0 n i : Nat} {c m : xc} {wk : Nat → Int64} {v : Int32} (hi : i < n) : xp b0 (hp b0 n c m wk) (tA b0 i 0) 5 2 (.inl v) = some (hp b0 n (u3 c 0 i 2 v) m wk) := by
  unfold xp
  rw [xat_t hi (by decide)]
  refine congrArg some (hp_set_t hi (by decide) rfl ?_ ?_)
  · simp [tB, u3]
  · intro i1 h1
    simp [tB, u3, h1]
theorem g_t0_3 {b0 n i : Nat} {c m : xc} {wk : Nat → Int64} (hi : i < n) : xgR b0 (hp b0 n c m wk) (tA b0 i 0) 5 3 = some (some (tA b0 i 1)) := by
  unfold xgR xg
  rw [xat_t hi (by decide)]
  rfl
theorem g_t0_4 {b0 n i : Nat} {c m : xc} {wk : Nat → Int64} (hi : i < n) : xgR b0 (hp b0 n c m wk) (tA b0 i 0) 5 4 = some (some (tA b0 i 5)) := by
  unfold xgR xg
  rw [xat_t hi (by decide)]
  rfl
theorem g_t0_5 {b0 n i : Nat} {c m : xc} {wk : Nat → Int64} (hi : i < n) : xgR b0 (hp b0 n c m wk) (tA b0 i 0) 5 5 = some (some (tA b0 i 7)) := by
  unfold xgR xg
  rw [xat_t hi (by decide)]
  rfl
theorem g_t0_6 {b0 n i : Nat} {c m : xc} {wk : Nat → Int64} (hi : i < n) : xgR b0 (hp b0 n c m wk) (tA b0 i 0) 5 6 = some (some (tA b0 i 9)) := by
  unfold xgR xg
  rw [xat_t hi (by decide)]
  rfl
theorem g_t0_7 {b0 n i : Nat} {c m : xc} {wk : Nat → Int64} (hi : i < n) : xgR b0 (hp b0 n c m wk) (tA b0 i 0) 5 7 = some (some (tA b0 i 11)) := by
  unfold xgR xg
  rw [xat_t hi (by decide)]
  rfl
theorem g_t0_8 {b0 n i : Nat} {c m : xc} {wk : Nat → Int64} (hi : i < n) : xgI b0 (hp b0 n c m wk) (tA b0 i 0) 5 8 = some (c 0 i 8) := by
  unfold xgI xg
  rw [xat_t hi (by decide)]
  rfl
theorem p_t0_8 {b0 n i : Nat} {c m : xc} {wk : Nat → Int64} {v : Int32} (hi : i < n) : xp b0 (hp b0 n c m wk) (tA b0 i 0) 5 8 (.inl v) = some (hp b0 n (u3 c 0 i 8 v) m wk) := by
  unfold xp
  rw [xat_t hi (by decide)]
  refine congrArg some (hp_set_t hi (by decide) rfl ?_ ?_)
  · simp [tB, u3]
  · intro i1 h1
    simp [tB, u3, h1]
theorem g_t0_9 {b0 n i : Nat} {c m : xc} {wk : Nat → Int64} (hi : i < n) : xgI b0 (hp b0 n c m wk) (tA b0 i 0) 5 9 = some (c 0 i 9) := by
  unfold xgI xg
  rw [xat_t hi (by decide)]
  rfl
theorem p_t0_9 {b0 n i : Nat} {c m : xc} {wk : Nat → Int64} {v : Int32} (hi : i < n) : xp b0 (hp b0 n c m wk) (tA b0 i 0) 5 9 (.inl v) = some (hp b0 n (u3 c 0 i 9 v) m wk) := by
  unfold xp
  rw [xat_t hi (by decide)]
  refine congrArg some (hp_set_t hi (by decide) rfl ?_ ?_)
  · simp [tB, u3]
  · intro i1 h1
    simp [tB, u3, h1]
theorem g_t0_10 {b0 n i : Nat} {c m : xc} {wk : Nat → Int64} (hi : i < n) : xgI b0 (hp b0 n c m wk) (tA b0 i 0) 5 10 = some (c 0 i 10) := by
  unfold xgI xg
  rw [xat_t hi (by decide)]
  rfl
theorem p_t0_10 {b0 n i : Nat} {c m : xc} {wk : Nat → Int64} {v : Int32} (hi : i < n) : xp b0 (hp b0 n c m wk) (tA b0 i 0) 5 10 (.inl v) = some (hp b0 n (u3 c 0 i 10 v) m wk) := by
  unfold xp
  rw [xat_t hi (by decide)]
  refine congrArg some (hp_set_t hi (by decide) rfl ?_ ?_)
  · simp [tB, u3]
  · intro i1 h1
    simp [tB, u3, h1]
theorem g_t0_11 {b0 n i : Nat} {c m : xc} {wk : Nat → Int64} (hi : i < n) : xgI b0 (hp b0 n c m wk) (tA b0 i 0) 5 11 = some (c 0 i 11) := by
  unfold xgI xg
  rw [xat_t hi (by decide)]
  rfl
theorem p_t0_11 {b0 n i : Nat} {c m : xc} {wk : Nat → Int64} {v : Int32} (hi : i < n) : xp b0 (hp b0 n c m wk) (tA b0 i 0) 5 11 (.inl v) = some (hp b0 n (u3 c 0 i 11 v) m wk) := by
  unfold xp
  rw [xat_t hi (by decide)]
  refine congrArg some (hp_set_t hi (by decide) rfl ?_ ?_)
  · simp [tB, u3]
  · intro i1 h1
    simp [tB, u3, h1]
theorem g_t0_12 {b0 n i : Nat} {c m : xc} {wk : Nat → Int64} (hi : i < n) : xgI b0 (hp b0 n c m wk) (tA b0 i 0) 5 12 = some (c 0 i 12) := by
  unfold xgI xg
  rw [xat_t hi (by decide)]
  rfl
theorem p_t0_12 {b0 n i : Nat} {c m : xc} {wk : Nat → Int64} {v : Int32} (hi : i < n) : xp b0 (hp b0 n c m wk) (tA b0 i 0) 5 12 (.inl v) = some (hp b0 n (u3 c 0 i 12 v) m wk) := by
  unfold xp
  rw [xat_t hi (by decide)]
  refine congrArg some (hp_set_t hi (by decide) rfl ?_ ?_)
  · simp [tB, u3]
  · intro i1 h1
    simp [tB, u3, h1]
theorem g_t0_13 {b0 n i : Nat} {c m : xc} {wk : Nat → Int64} (hi : i < n) : xgI b0 (hp b0 n c m wk) (tA b0 i 0) 5 13 = some (c 0 i 13) := by
  unfold xgI xg
  rw [xat_t hi (by decide)]
  rfl
theorem p_t0_13 {b0 n i : Nat} {c m : xc} {wk : Nat → Int64} {v : Int32} (hi : i < n) : xp b0 (hp b0 n c m wk) (tA b0 i 0) 5 13 (.inl v) = some (hp b0 n (u3 c 0 i 13 v) m wk) := by
  unfold xp
  rw [xat_t hi (by decide)]
  refine congrArg some (hp_set_t hi (by decide) rfl ?_ ?_)
  · simp [tB, u3]
  · intro i1 h1
    simp [tB, u3, h1]
theorem g_t0_14 {b0 n i : Nat} {c m : xc} {wk : Nat → Int64} (hi : i < n) : xgI b0 (hp b0 n c m wk) (tA b0 i 0) 5 14 = some (c 0 i 14) := by
  unfold xgI xg
  rw [xat_t hi (by decide)]
  rfl
theorem p_t0_14 {b0 n i : Nat} {c m : xc} {wk : Nat → Int64} {v : Int32} (hi : i < n) : xp b0 (hp b0 n c m wk) (tA b0 i 0) 5 14 (.inl v) = some (hp b0 n (u3 c 0 i 14 v) m wk) := by
  unfold xp
  rw [xat_t hi (by decide)]
  refine congrArg some (hp_set_t hi (by decide) rfl ?_ ?_)
  · simp [tB, u3]
  · intro i1 h1
    simp [tB, u3, h1]
theorem g_t0_15 {b0 n i : Nat} {c m : xc} {wk : Nat → Int64} (hi : i < n) : xgI b0 (hp b0 n c m wk) (tA b0 i 0) 5 15 = some (c 0 i 15) := by
  unfold xgI xg
  rw [xat_t hi (by decide)]
  rfl
theorem p_t0_15 {b0 n i : Nat} {c m : xc} {wk : Nat → Int64} {v : Int32} (hi : i < n) : xp b0 (hp b0 n c m wk) (tA b0 i 0) 5 15 (.inl v) = some (hp b0 n (u3 c 0 i 15 v) m wk) := by
  unfold xp
  rw [xat_t hi (by decide)]
  refine congrArg some (hp_set_t hi (by decide) rfl ?_ ?_)
  · simp [tB, u3]
  · intro i1 h1
    simp [tB, u3, h1]
theorem g_t0_16 {b0 n i : Nat} {c m : xc} {wk : Nat → Int64} (hi : i < n) : xgI b0 (hp b0 n c m wk) (tA b0 i 0) 5 16 = some (c 0 i 16) := by
  unfold xgI xg
  rw [xat_t hi (by decide)]
  rfl
theorem p_t0_16 {b0 n i : Nat} {c m : xc} {wk : Nat → Int64} {v : Int32} (hi : i < n) : xp b0 (hp b0 n c m wk) (tA b0 i 0) 5 16 (.inl v) = some (hp b0 n (u3 c 0 i 16 v) m wk) := by
  unfold xp
  rw [xat_t hi (by decide)]
  refine congrArg some (hp_set_t hi (by decide) rfl ?_ ?_)
  · simp [tB, u3]
  · intro i1 h1
    simp [tB, u3, h1]
theorem g_t0_17 {b0 n i : Nat} {c m : xc} {wk : Nat → Int64} (hi : i < n) : xgI b0 (hp b0 n c m wk) (tA b0 i 0) 5 17 = some (c 0 i 17) := by
  unfold xgI xg
  rw [xat_t hi (by decide)]
  rfl
theorem p_t0_17 {b0 n i : Nat} {c m : xc} {wk : Nat → Int64} {v : Int32} (hi : i < n) : xp b0 (hp b0 n c m wk) (tA b0 i 0) 5 17 (.inl v) = some (hp b0 n (u3 c 0 i 17 v) m wk) := by
  unfold xp
  rw [xat_t hi (by decide)]
  refine congrArg some (hp_set_t hi (by decide) rfl ?_ ?_)
  · simp [tB, u3]
  · intro i1 h1
    simp [tB, u3, h1]
theorem g_t0_18 {b0 n i : Nat} {c m : xc} {wk : Nat → Int64} (hi : i < n) : xgI b0 (hp b0 n c m wk) (tA b0 i 0) 5 18 = some (c 0 i 18) := by
  unfold xgI xg
  rw [xat_t hi (by decide)]
  rfl
theorem p_t0_18 {b0 n i : Nat} {c m : xc} {wk : Nat → Int64} {v : Int32} (hi : i < n) : xp b0 (hp b0 n c m wk) (tA b0 i 0) 5 18 (.inl v) = some (hp b0 n (u3 c 0 i 18 v) m wk) := by
  unfold xp
  rw [xat_t hi (by decide)]
  refine congrArg some (hp_set_t hi (by decide) rfl ?_ ?_)
  · simp [tB, u3]
  · intro i1 h1
    simp [tB, u3, h1]
theorem xis_t1 {b0 n i : Nat} {c m : xc} {wk : Nat → Int64} (hi : i < n) : xis b0 (hp b0 n c m wk) (tA b0 i 1) 0 = true := by
  unfold xis
  rw [xat_t hi (by decide)]
  rfl
theorem g_t1_0 {b0 n i : Nat} {c m : xc} {wk : Nat → Int64} (hi : i < n) : xgR b0 (hp b0 n c m wk) (tA b0 i 1) 0 0 = some (some (tA b0 i 2)) := by
  unfold xgR xg
  rw [xat_t hi (by decide)]
  rfl
theorem g_t1_1 {b0 n i : Nat} {c m : xc} {wk : Nat → Int64} (hi : i < n) : xgR b0 (hp b0 n c m wk) (tA b0 i 1) 0 1 = some (some (tA b0 i 3)) := by
  unfold xgR xg
  rw [xat_t hi (by decide)]
  rfl
theorem g_t1_2 {b0 n i : Nat} {c m : xc} {wk : Nat → Int64} (hi : i < n) : xgR b0 (hp b0 n c m wk) (tA b0 i 1) 0 2 = some (some (tA b0 i 4)) := by
  unfold xgR xg
  rw [xat_t hi (by decide)]
  rfl
theorem g_t1_3 {b0 n i : Nat} {c m : xc} {wk : Nat → Int64} (hi : i < n) : xgI b0 (hp b0 n c m wk) (tA b0 i 1) 0 3 = some (c 0 i 20) := by
  unfold xgI xg
  rw [xat_t hi (by decide)]
  rfl
theorem p_t1_3 {b0 n i : Nat} {c m : xc} {wk : Nat → Int64} {v : Int32} (hi : i < n) : xp b0 (hp b0 n c m wk) (tA b0 i 1) 0 3 (.inl v) = some (hp b0 n (u3 c 0 i 20 v) m wk) := by
  unfold xp
  rw [xat_t hi (by decide)]
  refine congrArg some (hp_set_t hi (by decide) rfl ?_ ?_)
  · simp [tB, u3]
  · intro i1 h1
    simp [tB, u3, h1]
theorem a_t2 {b0 n i : Nat} {c m : xc} {wk : Nat → Int64} {v : Int32} (hi : i < n) (h0 : ¬ v < 0) (h1 : v.toNatClampNeg < 16) : xai b0 0 (hp b0 n c m wk) (tA b0 i 2) v = some (c 1 i v.toNatClampNeg) := by
  unfold xai
  rw [xat_t hi (by decide)]
  show (if 0 = 0 ∧ ¬ v < 0 then ((List.range 16).map (c 1 i))[v.toNatClampNeg]? else none) = _
  rw [if_pos ⟨rfl, h0⟩, rng_get h1]
theorem s_t2 {b0 n i : Nat} {c m : xc} {wk : Nat → Int64} {v u : Int32} (hi : i < n) (h0 : ¬ v < 0) (h1 : v.toNatClampNeg < 16) : xsi b0 0 (hp b0 n c m wk) (tA b0 i 2) v u = some (hp b0 n (u3 c 1 i v.toNatClampNeg u) m wk) := by
  unfold xsi
  rw [xat_t hi (by decide)]
  show (if 0 = 0 ∧ ¬ v < 0 ∧ v.toNatClampNeg < ((List.range 16).map (c 1 i)).length then some ((hp b0 n c m wk).set (tA b0 i 2 - b0) (.inl (0, ((List.range 16).map (c 1 i)).set v.toNatClampNeg u))) else none) = _
  rw [if_pos ⟨rfl, h0, by simpa using h1⟩]
  refine congrArg some (hp_set_t hi (by decide) rfl ?_ ?_)
  · rw [rng_set (g := u3 c 1 i v.toNatClampNeg u 1 i) (fun _ => u3_same) (fun j hj _ => u3_k hj)]
    simp [tB, u3]
  · intro i1 h1
    simp [tB, u3, h1]
theorem a_t3 {b0 n i : Nat} {c m : xc} {wk : Nat → Int64} {v : Int32} (hi : i < n) (h0 : ¬ v < 0) (h1 : v.toNatClampNeg < 16) : xai b0 0 (hp b0 n c m wk) (tA b0 i 3) v = some (c 2 i v.toNatClampNeg) := by
  unfold xai
  rw [xat_t hi (by decide)]
  show (if 0 = 0 ∧ ¬ v < 0 then ((List.range 16).map (c 2 i))[v.toNatClampNeg]? else none) = _
  rw [if_pos ⟨rfl, h0⟩, rng_get h1]
theorem s_t3 {b0 n i : Nat} {c m : xc} {wk : Nat → Int64} {v u : Int32} (hi : i < n) (h0 : ¬ v < 0) (h1 : v.toNatClampNeg < 16) : xsi b0 0 (hp b0 n c m wk) (tA b0 i 3) v u = some (hp b0 n (u3 c 2 i v.toNatClampNeg u) m wk) := by
  unfold xsi
  rw [xat_t hi (by decide)]
  show (if 0 = 0 ∧ ¬ v < 0 ∧ v.toNatClampNeg < ((List.range 16).map (c 2 i)).length then some ((hp b0 n c m wk).set (tA b0 i 3 - b0) (.inl (0, ((List.range 16).map (c 2 i)).set v.toNatClampNeg u))) else none) = _
  rw [if_pos ⟨rfl, h0, by simpa using h1⟩]
  refine congrArg some (hp_set_t hi (by decide) rfl ?_ ?_)
  · rw [rng_set (g := u3 c 2 i v.toNatClampNeg u 2 i) (fun _ => u3_same) (fun j hj _ => u3_k hj)]
    simp [tB, u3]
  · intro i1 h1
    simp [tB, u3, h1]
theorem a_t4 {b0 n i : Nat} {c m : xc} {wk : Nat → Int64} {v : Int32} (hi : i < n) (h0 : ¬ v < 0) (h1 : v.toNatClampNeg < 16) : xai b0 0 (hp b0 n c m wk) (tA b0 i 4) v = some (c 3 i v.toNatClampNeg) := by
  unfold xai
  rw [xat_t hi (by decide)]
  show (if 0 = 0 ∧ ¬ v < 0 then ((List.range 16).map (c 3 i))[v.toNatClampNeg]? else none) = _
  rw [if_pos ⟨rfl, h0⟩, rng_get h1]
theorem s_t4 {b0 n i : Nat} {c m : xc} {wk : Nat → Int64} {v u : Int32} (hi : i < n) (h0 : ¬ v < 0) (h1 : v.toNatClampNeg < 16) : xsi b0 0 (hp b0 n c m wk) (tA b0 i 4) v u = some (hp b0 n (u3 c 3 i v.toNatClampNeg u) m wk) := by
  unfold xsi
  rw [xat_t hi (by decide)]
  show (if 0 = 0 ∧ ¬ v < 0 ∧ v.toNatClampNeg < ((List.range 16).map (c 3 i)).length then some ((hp b0 n c m wk).set (tA b0 i 4 - b0) (.inl (0, ((List.range 16).map (c 3 i)).set v.toNatClampNeg u))) else none) = _
  rw [if_pos ⟨rfl, h0, by simpa using h1⟩]
  refine congrArg some (hp_set_t hi (by decide) rfl ?_ ?_)
  · rw [rng_set (g := u3 c 3 i v.toNatClampNeg u 3 i) (fun _ => u3_same) (fun j hj _ => u3_k hj)]
    simp [tB, u3]
  · intro i1 h1
    simp [tB, u3, h1]
theorem xis_t5 {b0 n i : Nat} {c m : xc} {wk : Nat → Int64} (hi : i < n) : xis b0 (hp b0 n c m wk) (tA b0 i 5) 2 = true := by
  unfold xis
  rw [xat_t hi (by decide)]
  rfl
theorem g_t5_0 {b0 n i : Nat} {c m : xc} {wk : Nat → Int64} (hi : i < n) : xgR b0 (hp b0 n c m wk) (tA b0 i 5) 2 0 = some (some (tA b0 i 6)) := by
  unfold xgR xg
  rw [xat_t hi (by decide)]
  rfl
theorem g_t5_1 {b0 n i : Nat} {c m : xc} {wk : Nat → Int64} (hi : i < n) : xgI b0 (hp b0 n c m wk) (tA b0 i 5) 2 1 = some (c 0 i 21) := by
  unfold xgI xg
  rw [xat_t hi (by decide)]
  rfl
theorem p_t5_1 {b0 n i : Nat} {c m : xc} {wk : Nat → Int64} {v : Int32} (hi : i < n) : xp b0 (hp b0 n c m wk) (tA b0 i 5) 2 1 (.inl v) = some (hp b0 n (u3 c 0 i 21 v) m wk) := by
  unfold xp
  rw [xat_t hi (by decide)]
  refine congrArg some (hp_set_t hi (by decide) rfl ?_ ?_)
  · simp [tB, u3]
  · intro i1 h1
    simp [tB, u3, h1]
theorem a_t6 {b0 n i : Nat} {c m : xc} {wk : Nat → Int64} {v : Int32} (hi : i < n) (h0 : ¬ v < 0) (h1 : v.toNatClampNeg < 6) : xai b0 0 (hp b0 n c m wk) (tA b0 i 6) v = some (c 4 i v.toNatClampNeg) := by
  unfold xai
  rw [xat_t hi (by decide)]
  show (if 0 = 0 ∧ ¬ v < 0 then ((List.range 6).map (c 4 i))[v.toNatClampNeg]? else none) = _
  rw [if_pos ⟨rfl, h0⟩, rng_get h1]
theorem s_t6 {b0 n i : Nat} {c m : xc} {wk : Nat → Int64} {v u : Int32} (hi : i < n) (h0 : ¬ v < 0) (h1 : v.toNatClampNeg < 6) : xsi b0 0 (hp b0 n c m wk) (tA b0 i 6) v u = some (hp b0 n (u3 c 4 i v.toNatClampNeg u) m wk) := by
  unfold xsi
  rw [xat_t hi (by decide)]
  show (if 0 = 0 ∧ ¬ v < 0 ∧ v.toNatClampNeg < ((List.range 6).map (c 4 i)).length then some ((hp b0 n c m wk).set (tA b0 i 6 - b0) (.inl (0, ((List.range 6).map (c 4 i)).set v.toNatClampNeg u))) else none) = _
  rw [if_pos ⟨rfl, h0, by simpa using h1⟩]
  refine congrArg some (hp_set_t hi (by decide) rfl ?_ ?_)
  · rw [rng_set (g := u3 c 4 i v.toNatClampNeg u 4 i) (fun _ => u3_same) (fun j hj _ => u3_k hj)]
    simp [tB, u3]
  · intro i1 h1
    simp [tB, u3, h1]
theorem xis_t7 {b0 n i : Nat} {c m : xc} {wk : Nat → Int64} (hi : i < n) : xis b0 (hp b0 n c m wk) (tA b0 i 7) 4 = true := by
  unfold xis
  rw [xat_t hi (by decide)]
  rfl
theorem g_t7_0 {b0 n i : Nat} {c m : xc} {wk : Nat → Int64} (hi : i < n) : xgR b0 (hp b0 n c m wk) (tA b0 i 7) 4 0 = some (some (tA b0 i 8)) := by
  unfold xgR xg
  rw [xat_t hi (by decide)]
  rfl
theorem g_t7_1 {b0 n i : Nat} {c m : xc} {wk : Nat → Int64} (hi : i < n) : xgI b0 (hp b0 n c m wk) (tA b0 i 7) 4 1 = some (c 0 i 22) := by
  unfold xgI xg
  rw [xat_t hi (by decide)]
  rfl
theorem p_t7_1 {b0 n i : Nat} {c m : xc} {wk : Nat → Int64} {v : Int32} (hi : i < n) : xp b0 (hp b0 n c m wk) (tA b0 i 7) 4 1 (.inl v) = some (hp b0 n (u3 c 0 i 22 v) m wk) := by
  unfold xp
  rw [xat_t hi (by decide)]
  refine congrArg some (hp_set_t hi (by decide) rfl ?_ ?_)
  · simp [tB, u3]
  · intro i1 h1
    simp [tB, u3, h1]
theorem a_t8 {b0 n i : Nat} {c m : xc} {wk : Nat → Int64} {v : Int32} (hi : i < n) (h0 : ¬ v < 0) (h1 : v.toNatClampNeg < 40) : xai b0 0 (hp b0 n c m wk) (tA b0 i 8) v = some (c 6 i v.toNatClampNeg) := by
  unfold xai
  rw [xat_t hi (by decide)]
  show (if 0 = 0 ∧ ¬ v < 0 then ((List.range 40).map (c 6 i))[v.toNatClampNeg]? else none) = _
  rw [if_pos ⟨rfl, h0⟩, rng_get h1]
theorem s_t8 {b0 n i : Nat} {c m : xc} {wk : Nat → Int64} {v u : Int32} (hi : i < n) (h0 : ¬ v < 0) (h1 : v.toNatClampNeg < 40) : xsi b0 0 (hp b0 n c m wk) (tA b0 i 8) v u = some (hp b0 n (u3 c 6 i v.toNatClampNeg u) m wk) := by
  unfold xsi
  rw [xat_t hi (by decide)]
  show (if 0 = 0 ∧ ¬ v < 0 ∧ v.toNatClampNeg < ((List.range 40).map (c 6 i)).length then some ((hp b0 n c m wk).set (tA b0 i 8 - b0) (.inl (0, ((List.range 40).map (c 6 i)).set v.toNatClampNeg u))) else none) = _
  rw [if_pos ⟨rfl, h0, by simpa using h1⟩]
  refine congrArg some (hp_set_t hi (by decide) rfl ?_ ?_)
  · rw [rng_set (g := u3 c 6 i v.toNatClampNeg u 6 i) (fun _ => u3_same) (fun j hj _ => u3_k hj)]
    simp [tB, u3]
  · intro i1 h1
    simp [tB, u3, h1]
theorem xis_t9 {b0 n i : Nat} {c m : xc} {wk : Nat → Int64} (hi : i < n) : xis b0 (hp b0 n c m wk) (tA b0 i 9) 1 = true := by
  unfold xis
  rw [xat_t hi (by decide)]
  rfl
theorem g_t9_0 {b0 n i : Nat} {c m : xc} {wk : Nat → Int64} (hi : i < n) : xgR b0 (hp b0 n c m wk) (tA b0 i 9) 1 0 = some (some (tA b0 i 10)) := by
  unfold xgR xg
  rw [xat_t hi (by decide)]
  rfl
theorem g_t9_1 {b0 n i : Nat} {c m : xc} {wk : Nat → Int64} (hi : i < n) : xgI b0 (hp b0 n c m wk) (tA b0 i 9) 1 1 = some (c 0 i 23) := by
  unfold xgI xg
  rw [xat_t hi (by decide)]
  rfl
theorem p_t9_1 {b0 n i : Nat} {c m : xc} {wk : Nat → Int64} {v : Int32} (hi : i < n) : xp b0 (hp b0 n c m wk) (tA b0 i 9) 1 1 (.inl v) = some (hp b0 n (u3 c 0 i 23 v) m wk) := by
  unfold xp
  rw [xat_t hi (by decide)]
  refine congrArg some (hp_set_t hi (by decide) rfl ?_ ?_)
  · simp [tB, u3]
  · intro i1 h1
    simp [tB, u3, h1]
theorem a_t10 {b0 n i : Nat} {c m : xc} {wk : Nat → Int64} {v : Int32} (hi : i < n) (h0 : ¬ v < 0) (h1 : v.toNatClampNeg < 3) : xai b0 0 (hp b0 n c m wk) (tA b0 i 10) v = some (c 5 i v.toNatClampNeg) := by
  unfold xai
  rw [xat_t hi (by decide)]
  show (if 0 = 0 ∧ ¬ v < 0 then ((List.range 3).map (c 5 i))[v.toNatClampNeg]? else none) = _
  rw [if_pos ⟨rfl, h0⟩, rng_get h1]
theorem s_t10 {b0 n i : Nat} {c m : xc} {wk : Nat → Int64} {v u : Int32} (hi : i < n) (h0 : ¬ v < 0) (h1 : v.toNatClampNeg < 3) : xsi b0 0 (hp b0 n c m wk) (tA b0 i 10) v u = some (hp b0 n (u3 c 5 i v.toNatClampNeg u) m wk) := by
  unfold xsi
  rw [xat_t hi (by decide)]
  show (if 0 = 0 ∧ ¬ v < 0 ∧ v.toNatClampNeg < ((List.range 3).map (c 5 i)).length then some ((hp b0 n c m wk).set (tA b0 i 10 - b0) (.inl (0, ((List.range 3).map (c 5 i)).set v.toNatClampNeg u))) else none) = _
  rw [if_pos ⟨rfl, h0, by simpa using h1⟩]
  refine congrArg some (hp_set_t hi (by decide) rfl ?_ ?_)
  · rw [rng_set (g := u3 c 5 i v.toNatClampNeg u 5 i) (fun _ => u3_same) (fun j hj _ => u3_k hj)]
    simp [tB, u3]
  · intro i1 h1
    simp [tB, u3, h1]
theorem xis_t11 {b0 n i : Nat} {c m : xc} {wk : Nat → Int64} (hi : i < n) : xis b0 (hp b0 n c m wk) (tA b0 i 11) 3 = true := by
  unfold xis
  rw [xat_t hi (by decide)]
  rfl
theorem g_t11_0 {b0 n i : Nat} {c m : xc} {wk : Nat → Int64} (hi : i < n) : xgR b0 (hp b0 n c m wk) (tA b0 i 11) 3 0 = some (some (tA b0 i 12)) := by
  unfold xgR xg
  rw [xat_t hi (by decide)]
  rfl
theorem g_t11_1 {b0 n i : Nat} {c m : xc} {wk : Nat → Int64} (hi : i < n) : xgI b0 (hp b0 n c m wk) (tA b0 i 11) 3 1 = some (c 0 i 24) := by
  unfold xgI xg
  rw [xat_t hi (by decide)]
  rfl
theorem p_t11_1 {b0 n i : Nat} {c m : xc} {wk : Nat → Int64} {v : Int32} (hi : i < n) : xp b0 (hp b0 n c m wk) (tA b0 i 11) 3 1 (.inl v) = some (hp b0 n (u3 c 0 i 24 v) m wk) := by
  unfold xp
  rw [xat_t hi (by decide)]
  refine congrArg some (hp_set_t hi (by decide) rfl ?_ ?_)
  · simp [tB, u3]
  · intro i1 h1
    simp [tB, u3, h1]
theorem g_t11_2 {b0 n i : Nat} {c m : xc} {wk : Nat → Int64} (hi : i < n) : xgI b0 (hp b0 n c m wk) (tA b0 i 11) 3 2 = some (c 0 i 25) := by
  unfold xgI xg
  rw [xat_t hi (by decide)]
  rfl
theorem p_t11_2 {b0 n i : Nat} {c m : xc} {wk : Nat → Int64} {v : Int32} (hi : i < n) : xp b0 (hp b0 n c m wk) (tA b0 i 11) 3 2 (.inl v) = some (hp b0 n (u3 c 0 i 25 v) m wk) := by
  unfold xp
  rw [xat_t hi (by decide)]
  refine congrArg some (hp_set_t hi (by decide) rfl ?_ ?_)
  · simp [tB, u3]
  · intro i1 h1
    simp [tB, u3, h1]
theorem xis_t12 {b0 n i : Nat} {c m : xc} {wk : Nat → Int64} (hi : i < n) : xis b0 (hp b0 n c m wk) (tA b0 i 12) 4 = true := by
  unfold xis
  rw [xat_t hi (by decide)]
  rfl
theorem g_t12_0 {b0 n i : Nat} {c m : xc} {wk : Nat → Int64} (hi : i < n) : xgR b0 (hp b0 n c m wk) (tA b0 i 12) 4 0 = some (some (tA b0 i 13)) := by
  unfold xgR xg
  rw [xat_t hi (by decide)]
  rfl
theorem g_t12_1 {b0 n i : Nat} {c m : xc} {wk : Nat → Int64} (hi : i < n) : xgI b0 (hp b0 n c m wk) (tA b0 i 12) 4 1 = some (c 0 i 26) := by
  unfold xgI xg
  rw [xat_t hi (by decide)]
  rfl
theorem p_t12_1 {b0 n i : Nat} {c m : xc} {wk : Nat → Int64} {v : Int32} (hi : i < n) : xp b0 (hp b0 n c m wk) (tA b0 i 12) 4 1 (.inl v) = some (hp b0 n (u3 c 0 i 26 v) m wk) := by
  unfold xp
  rw [xat_t hi (by decide)]
  refine congrArg some (hp_set_t hi (by decide) rfl ?_ ?_)
  · simp [tB, u3]
  · intro i1 h1
    simp [tB, u3, h1]
theorem a_t13 {b0 n i : Nat} {c m : xc} {wk : Nat → Int64} {v : Int32} (hi : i < n) (h0 : ¬ v < 0) (h1 : v.toNatClampNeg < 40) : xai b0 0 (hp b0 n c m wk) (tA b0 i 13) v = some (c 7 i v.toNatClampNeg) := by
  unfold xai
  rw [xat_t hi (by decide)]
  show (if 0 = 0 ∧ ¬ v < 0 then ((List.range 40).map (c 7 i))[v.toNatClampNeg]? else none) = _
  rw [if_pos ⟨rfl, h0⟩, rng_get h1]
theorem s_t13 {b0 n i : Nat} {c m : xc} {wk : Nat → Int64} {v u : Int32} (hi : i < n) (h0 : ¬ v < 0) (h1 : v.toNatClampNeg < 40) : xsi b0 0 (hp b0 n c m wk) (tA b0 i 13) v u = some (hp b0 n (u3 c 7 i v.toNatClampNeg u) m wk) := by
  unfold xsi
  rw [xat_t hi (by decide)]
  show (if 0 = 0 ∧ ¬ v < 0 ∧ v.toNatClampNeg < ((List.range 40).map (c 7 i)).length then some ((hp b0 n c m wk).set (tA b0 i 13 - b0) (.inl (0, ((List.range 40).map (c 7 i)).set v.toNatClampNeg u))) else none) = _
  rw [if_pos ⟨rfl, h0, by simpa using h1⟩]
  refine congrArg some (hp_set_t hi (by decide) rfl ?_ ?_)
  · rw [rng_set (g := u3 c 7 i v.toNatClampNeg u 7 i) (fun _ => u3_same) (fun j hj _ => u3_k hj)]
    simp [tB, u3]
  · intro i1 h1
    simp [tB, u3, h1]
theorem xis_h0 {b0 n : Nat} {c m : xc} {wk : Nat → Int64} : xis b0 (hp b0 n c m wk) (hA b0 0) 6 = true := by
  unfold xis
  rw [xat_h (by decide)]
  rfl
theorem xis_h3 {b0 n : Nat} {c m : xc} {wk : Nat → Int64} : xis b0 (hp b0 n c m wk) (hA b0 3) 7 = true := by
  unfold xis
  rw [xat_h (by decide)]
  rfl
theorem g_h0_0 {b0 n : Nat} {c m : xc} {wk : Nat → Int64} : xgR b0 (hp b0 n c m wk) (hA b0 0) 6 0 = some (some (hA b0 1)) := by
  unfold xgR xg
  rw [xat_h (by decide)]
  rfl
theorem g_h0_1 {b0 n : Nat} {c m : xc} {wk : Nat → Int64} : xgR b0 (hp b0 n c m wk) (hA b0 0) 6 1 = some (some (hA b0 2)) := by
  unfold xgR xg
  rw [xat_h (by decide)]
  rfl
theorem g_h0_2 {b0 n : Nat} {c m : xc} {wk : Nat → Int64} : xgI b0 (hp b0 n c m wk) (hA b0 0) 6 2 = some (c 8 0 2) := by
  unfold xgI xg
  rw [xat_h (by decide)]
  rfl
theorem p_h0_2 {b0 n : Nat} {c m : xc} {wk : Nat → Int64} {v : Int32} : xp b0 (hp b0 n c m wk) (hA b0 0) 6 2 (.inl v) = some (hp b0 n (u3 c 8 0 2 v) m wk) := by
  unfold xp
  rw [xat_h (by decide)]
  refine congrArg some (hp_set_h (by decide) ?_ ?_)
  · simp [hd, u3]
  · intro i1
    simp [tB, u3]
theorem g_h0_3 {b0 n : Nat} {c m : xc} {wk : Nat → Int64} : xgI b0 (hp b0 n c m wk) (hA b0 0) 6 3 = some (c 8 0 3) := by
  unfold xgI xg
  rw [xat_h (by decide)]
  rfl
theorem p_h0_3 {b0 n : Nat} {c m : xc} {wk : Nat → Int64} {v : Int32} : xp b0 (hp b0 n c m wk) (hA b0 0) 6 3 (.inl v) = some (hp b0 n (u3 c 8 0 3 v) m wk) := by
  unfold xp
  rw [xat_h (by decide)]
  refine congrArg some (hp_set_h (by decide) ?_ ?_)
  · simp [hd, u3]
  · intro i1
    simp [tB, u3]
theorem g_h0_4 {b0 n : Nat} {c m : xc} {wk : Nat → Int64} : xgI b0 (hp b0 n c m wk) (hA b0 0) 6 4 = some (c 8 0 4) := by
  unfold xgI xg
  rw [xat_h (by decide)]
  rfl
theorem p_h0_4 {b0 n : Nat} {c m : xc} {wk : Nat → Int64} {v : Int32} : xp b0 (hp b0 n c m wk) (hA b0 0) 6 4 (.inl v) = some (hp b0 n (u3 c 8 0 4 v) m wk) := by
  unfold xp
  rw [xat_h (by decide)]
  refine congrArg some (hp_set_h (by decide) ?_ ?_)
  · simp [hd, u3]
  · intro i1
    simp [tB, u3]
theorem g_h0_5 {b0 n : Nat} {c m : xc} {wk : Nat → Int64} : xgI b0 (hp b0 n c m wk) (hA b0 0) 6 5 = some (c 8 0 5) := by
  unfold xgI xg
  rw [xat_h (by decide)]
  rfl
theorem p_h0_5 {b0 n : Nat} {c m : xc} {wk : Nat → Int64} {v : Int32} : xp b0 (hp b0 n c m wk) (hA b0 0) 6 5 (.inl v) = some (hp b0 n (u3 c 8 0 5 v) m wk) := by
  unfold xp
  rw [xat_h (by decide)]
  refine congrArg some (hp_set_h (by decide) ?_ ?_)
  · simp [hd, u3]
  · intro i1
    simp [tB, u3]
theorem g_h0_6 {b0 n : Nat} {c m : xc} {wk : Nat → Int64} : xgI b0 (hp b0 n c m wk) (hA b0 0) 6 6 = some (c 8 0 6) := by
  unfold xgI xg
  rw [xat_h (by decide)]
  rfl
theorem p_h0_6 {b0 n : Nat} {c m : xc} {wk : Nat → Int64} {v : Int32} : xp b0 (hp b0 n c m wk) (hA b0 0) 6 6 (.inl v) = some (hp b0 n (u3 c 8 0 6 v) m wk) := by
  unfold xp
  rw [xat_h (by decide)]
  refine congrArg some (hp_set_h (by decide) ?_ ?_)
  · simp [hd, u3]
  · intro i1
    simp [tB, u3]
theorem g_h0_7 {b0 n : Nat} {c m : xc} {wk : Nat → Int64} : xgI b0 (hp b0 n c m wk) (hA b0 0) 6 7 = some (c 8 0 7) := by
  unfold xgI xg
  rw [xat_h (by decide)]
  rfl
theorem p_h0_7 {b0 n : Nat} {c m : xc} {wk : Nat → Int64} {v : Int32} : xp b0 (hp b0 n c m wk) (hA b0 0) 6 7 (.inl v) = some (hp b0 n (u3 c 8 0 7 v) m wk) := by
  unfold xp
  rw [xat_h (by decide)]
  refine congrArg some (hp_set_h (by decide) ?_ ?_)
  · simp [hd, u3]
  · intro i1
    simp [tB, u3]
theorem g_h0_8 {b0 n : Nat} {c m : xc} {wk : Nat → Int64} : xgI b0 (hp b0 n c m wk) (hA b0 0) 6 8 = some (c 8 0 8) := by
  unfold xgI xg
  rw [xat_h (by decide)]
  rfl
theorem p_h0_8 {b0 n : Nat} {c m : xc} {wk : Nat → Int64} {v : Int32} : xp b0 (hp b0 n c m wk) (hA b0 0) 6 8 (.inl v) = some (hp b0 n (u3 c 8 0 8 v) m wk) := by
  unfold xp
  rw [xat_h (by decide)]
  refine congrArg some (hp_set_h (by decide) ?_ ?_)
  · simp [hd, u3]
  · intro i1
    simp [tB, u3]
theorem g_h0_9 {b0 n : Nat} {c m : xc} {wk : Nat → Int64} : xgI b0 (hp b0 n c m wk) (hA b0 0) 6 9 = some (c 8 0 9) := by
  unfold xgI xg
  rw [xat_h (by decide)]
  rfl
theorem p_h0_9 {b0 n : Nat} {c m : xc} {wk : Nat → Int64} {v : Int32} : xp b0 (hp b0 n c m wk) (hA b0 0) 6 9 (.inl v) = some (hp b0 n (u3 c 8 0 9 v) m wk) := by
  unfold xp
  rw [xat_h (by decide)]
  refine congrArg some (hp_set_h (by decide) ?_ ?_)
  · simp [hd, u3]
  · intro i1
    simp [tB, u3]
theorem g_h3_0 {b0 n : Nat} {c m : xc} {wk : Nat → Int64} : xgI b0 (hp b0 n c m wk) (hA b0 3) 7 0 = some (m 8 0 2) := by
  unfold xgI xg
  rw [xat_h (by decide)]
  rfl
theorem p_h3_0 {b0 n : Nat} {c m : xc} {wk : Nat → Int64} {v : Int32} : xp b0 (hp b0 n c m wk) (hA b0 3) 7 0 (.inl v) = some (hp b0 n c (u3 m 8 0 2 v) wk) := by
  unfold xp
  rw [xat_h (by decide)]
  refine congrArg some (hp_set_h (by decide) ?_ ?_)
  · simp [hd, u3]
  · intro i1
    rfl
theorem g_h3_1 {b0 n : Nat} {c m : xc} {wk : Nat → Int64} : xgR b0 (hp b0 n c m wk) (hA b0 3) 7 1 = some (some (hA b0 4)) := by
  unfold xgR xg
  rw [xat_h (by decide)]
  rfl
theorem g_h3_2 {b0 n : Nat} {c m : xc} {wk : Nat → Int64} : xgR b0 (hp b0 n c m wk) (hA b0 3) 7 2 = some (some (hA b0 5)) := by
  unfold xgR xg
  rw [xat_h (by decide)]
  rfl
theorem g_h3_3 {b0 n : Nat} {c m : xc} {wk : Nat → Int64} : xgR b0 (hp b0 n c m wk) (hA b0 3) 7 3 = some (some (hA b0 6)) := by
  unfold xgR xg
  rw [xat_h (by decide)]
  rfl
theorem g_h3_4 {b0 n : Nat} {c m : xc} {wk : Nat → Int64} : xgR b0 (hp b0 n c m wk) (hA b0 3) 7 4 = some (some (hA b0 7)) := by
  unfold xgR xg
  rw [xat_h (by decide)]
  rfl
theorem g_h3_5 {b0 n : Nat} {c m : xc} {wk : Nat → Int64} : xgR b0 (hp b0 n c m wk) (hA b0 3) 7 5 = some (some (hA b0 8)) := by
  unfold xgR xg
  rw [xat_h (by decide)]
  rfl
theorem g_h3_6 {b0 n : Nat} {c m : xc} {wk : Nat → Int64} : xgR b0 (hp b0 n c m wk) (hA b0 3) 7 6 = some (some (hA b0 9)) := by
  unfold xgR xg
  rw [xat_h (by decide)]
  rfl
theorem g_h3_7 {b0 n : Nat} {c m : xc} {wk : Nat → Int64} : xgR b0 (hp b0 n c m wk) (hA b0 3) 7 7 = some (some (hA b0 10)) := by
  unfold xgR xg
  rw [xat_h (by decide)]
  rfl
theorem g_h3_8 {b0 n : Nat} {c m : xc} {wk : Nat → Int64} : xgR b0 (hp b0 n c m wk) (hA b0 3) 7 8 = some (some (hA b0 11)) := by
  unfold xgR xg
  rw [xat_h (by decide)]
  rfl
theorem g_h3_9 {b0 n : Nat} {c m : xc} {wk : Nat → Int64} : xgR b0 (hp b0 n c m wk) (hA b0 3) 7 9 = some (some (hA b0 12)) := by
  unfold xgR xg
  rw [xat_h (by decide)]
  rfl
theorem g_h3_10 {b0 n : Nat} {c m : xc} {wk : Nat → Int64} : xgR b0 (hp b0 n c m wk) (hA b0 3) 7 10 = some (some (hA b0 13)) := by
  unfold xgR xg
  rw [xat_h (by decide)]
  rfl
theorem g_h3_11 {b0 n : Nat} {c m : xc} {wk : Nat → Int64} : xgR b0 (hp b0 n c m wk) (hA b0 3) 7 11 = some (some (hA b0 14)) := by
  unfold xgR xg
  rw [xat_h (by decide)]
  rfl
theorem g_h3_12 {b0 n : Nat} {c m : xc} {wk : Nat → Int64} : xgR b0 (hp b0 n c m wk) (hA b0 3) 7 12 = some (some (hA b0 15)) := by
  unfold xgR xg
  rw [xat_h (by decide)]
  rfl
theorem g_h3_13 {b0 n : Nat} {c m : xc} {wk : Nat → Int64} : xgR b0 (hp b0 n c m wk) (hA b0 3) 7 13 = some (some (hA b0 16)) := by
  unfold xgR xg
  rw [xat_h (by decide)]
  rfl
theorem g_h3_14 {b0 n : Nat} {c m : xc} {wk : Nat → Int64} : xgR b0 (hp b0 n c m wk) (hA b0 3) 7 14 = some (some (hA b0 17)) := by
  unfold xgR xg
  rw [xat_h (by decide)]
  rfl
theorem g_h3_15 {b0 n : Nat} {c m : xc} {wk : Nat → Int64} : xgR b0 (hp b0 n c m wk) (hA b0 3) 7 15 = some (some (hA b0 18)) := by
  unfold xgR xg
  rw [xat_h (by decide)]
  rfl
theorem g_h3_16 {b0 n : Nat} {c m : xc} {wk : Nat → Int64} : xgR b0 (hp b0 n c m wk) (hA b0 3) 7 16 = some (some (hA b0 19)) := by
  unfold xgR xg
  rw [xat_h (by decide)]
  rfl
theorem g_h3_17 {b0 n : Nat} {c m : xc} {wk : Nat → Int64} : xgR b0 (hp b0 n c m wk) (hA b0 3) 7 17 = some (some (hA b0 20)) := by
  unfold xgR xg
  rw [xat_h (by decide)]
  rfl
theorem g_h3_18 {b0 n : Nat} {c m : xc} {wk : Nat → Int64} : xgR b0 (hp b0 n c m wk) (hA b0 3) 7 18 = some (some (hA b0 21)) := by
  unfold xgR xg
  rw [xat_h (by decide)]
  rfl
theorem g_h3_19 {b0 n : Nat} {c m : xc} {wk : Nat → Int64} : xgR b0 (hp b0 n c m wk) (hA b0 3) 7 19 = some (some (hA b0 22)) := by
  unfold xgR xg
  rw [xat_h (by decide)]
  rfl
theorem g_h3_20 {b0 n : Nat} {c m : xc} {wk : Nat → Int64} : xgR b0 (hp b0 n c m wk) (hA b0 3) 7 20 = some (some (hA b0 23)) := by
  unfold xgR xg
  rw [xat_h (by decide)]
  rfl
theorem g_h3_21 {b0 n : Nat} {c m : xc} {wk : Nat → Int64} : xgR b0 (hp b0 n c m wk) (hA b0 3) 7 21 = some (some (hA b0 24)) := by
  unfold xgR xg
  rw [xat_h (by decide)]
  rfl
theorem g_h3_22 {b0 n : Nat} {c m : xc} {wk : Nat → Int64} : xgR b0 (hp b0 n c m wk) (hA b0 3) 7 22 = some (some (hA b0 25)) := by
  unfold xgR xg
  rw [xat_h (by decide)]
  rfl
theorem g_h3_23 {b0 n : Nat} {c m : xc} {wk : Nat → Int64} : xgR b0 (hp b0 n c m wk) (hA b0 3) 7 23 = some (some (hA b0 26)) := by
  unfold xgR xg
  rw [xat_h (by decide)]
  rfl
theorem g_h3_24 {b0 n : Nat} {c m : xc} {wk : Nat → Int64} : xgR b0 (hp b0 n c m wk) (hA b0 3) 7 24 = some (some (hA b0 27)) := by
  unfold xgR xg
  rw [xat_h (by decide)]
  rfl
theorem g_h3_25 {b0 n : Nat} {c m : xc} {wk : Nat → Int64} : xgR b0 (hp b0 n c m wk) (hA b0 3) 7 25 = some (some (hA b0 28)) := by
  unfold xgR xg
  rw [xat_h (by decide)]
  rfl
theorem g_h3_26 {b0 n : Nat} {c m : xc} {wk : Nat → Int64} : xgR b0 (hp b0 n c m wk) (hA b0 3) 7 26 = some (some (hA b0 29)) := by
  unfold xgR xg
  rw [xat_h (by decide)]
  rfl
theorem g_h3_27 {b0 n : Nat} {c m : xc} {wk : Nat → Int64} : xgR b0 (hp b0 n c m wk) (hA b0 3) 7 27 = some (some (hA b0 30)) := by
  unfold xgR xg
  rw [xat_h (by decide)]
  rfl
theorem g_h3_28 {b0 n : Nat} {c m : xc} {wk : Nat → Int64} : xgR b0 (hp b0 n c m wk) (hA b0 3) 7 28 = some (some (hA b0 31)) := by
  unfold xgR xg
  rw [xat_h (by decide)]
  rfl
theorem g_h3_29 {b0 n : Nat} {c m : xc} {wk : Nat → Int64} : xgI b0 (hp b0 n c m wk) (hA b0 3) 7 29 = some (m 8 0 3) := by
  unfold xgI xg
  rw [xat_h (by decide)]
  rfl
theorem p_h3_29 {b0 n : Nat} {c m : xc} {wk : Nat → Int64} {v : Int32} : xp b0 (hp b0 n c m wk) (hA b0 3) 7 29 (.inl v) = some (hp b0 n c (u3 m 8 0 3 v) wk) := by
  unfold xp
  rw [xat_h (by decide)]
  refine congrArg some (hp_set_h (by decide) ?_ ?_)
  · simp [hd, u3]
  · intro i1
    rfl
theorem g_h3_30 {b0 n : Nat} {c m : xc} {wk : Nat → Int64} : xgI b0 (hp b0 n c m wk) (hA b0 3) 7 30 = some (m 8 0 4) := by
  unfold xgI xg
  rw [xat_h (by decide)]
  rfl
theorem p_h3_30 {b0 n : Nat} {c m : xc} {wk : Nat → Int64} {v : Int32} : xp b0 (hp b0 n c m wk) (hA b0 3) 7 30 (.inl v) = some (hp b0 n c (u3 m 8 0 4 v) wk) := by
  unfold xp
  rw [xat_h (by decide)]
  refine congrArg some (hp_set_h (by decide) ?_ ?_)
  · simp [hd, u3]
  · intro i1
    rfl
theorem g_h3_31 {b0 n : Nat} {c m : xc} {wk : Nat → Int64} : xgI b0 (hp b0 n c m wk) (hA b0 3) 7 31 = some (m 8 0 5) := by
  unfold xgI xg
  rw [xat_h (by decide)]
  rfl
theorem p_h3_31 {b0 n : Nat} {c m : xc} {wk : Nat → Int64} {v : Int32} : xp b0 (hp b0 n c m wk) (hA b0 3) 7 31 (.inl v) = some (hp b0 n c (u3 m 8 0 5 v) wk) := by
  unfold xp
  rw [xat_h (by decide)]
  refine congrArg some (hp_set_h (by decide) ?_ ?_)
  · simp [hd, u3]
  · intro i1
    rfl
theorem g_h3_32 {b0 n : Nat} {c m : xc} {wk : Nat → Int64} : xgI b0 (hp b0 n c m wk) (hA b0 3) 7 32 = some (m 8 0 6) := by
  unfold xgI xg
  rw [xat_h (by decide)]
  rfl
theorem p_h3_32 {b0 n : Nat} {c m : xc} {wk : Nat → Int64} {v : Int32} : xp b0 (hp b0 n c m wk) (hA b0 3) 7 32 (.inl v) = some (hp b0 n c (u3 m 8 0 6 v) wk) := by
  unfold xp
  rw [xat_h (by decide)]
  refine congrArg some (hp_set_h (by decide) ?_ ?_)
  · simp [hd, u3]
  · intro i1
    rfl
theorem g_h3_33 {b0 n : Nat} {c m : xc} {wk : Nat → Int64} : xgI b0 (hp b0 n c m wk) (hA b0 3) 7 33 = some (m 8 0 7) := by
  unfold xgI xg
  rw [xat_h (by decide)]
  rfl
theorem p_h3_33 {b0 n : Nat} {c m : xc} {wk : Nat → Int64} {v : Int32} : xp b0 (hp b0 n c m wk) (hA b0 3) 7 33 (.inl v) = some (hp b0 n c (u3 m 8 0 7 v) wk) := by
  unfold xp
  rw [xat_h (by decide)]
  refine congrArg some (hp_set_h (by decide) ?_ ?_)
  · simp [hd, u3]
  · intro i1
    rfl
theorem g_h3_34 {b0 n : Nat} {c m : xc} {wk : Nat → Int64} : xgI b0 (hp b0 n c m wk) (hA b0 3) 7 34 = some (m 8 0 8) := by
  unfold xgI xg
  rw [xat_h (by decide)]
  rfl
theorem p_h3_34 {b0 n : Nat} {c m : xc} {wk : Nat → Int64} {v : Int32} : xp b0 (hp b0 n c m wk) (hA b0 3) 7 34 (.inl v) = some (hp b0 n c (u3 m 8 0 8 v) wk) := by
  unfold xp
  rw [xat_h (by decide)]
  refine congrArg some (hp_set_h (by decide) ?_ ?_)
  · simp [hd, u3]
  · intro i1
    rfl
theorem g_h3_35 {b0 n : Nat} {c m : xc} {wk : Nat → Int64} : xgI b0 (hp b0 n c m wk) (hA b0 3) 7 35 = some (m 8 0 9) := by
  unfold xgI xg
  rw [xat_h (by decide)]
  rfl
theorem p_h3_35 {b0 n : Nat} {c m : xc} {wk : Nat → Int64} {v : Int32} : xp b0 (hp b0 n c m wk) (hA b0 3) 7 35 (.inl v) = some (hp b0 n c (u3 m 8 0 9 v) wk) := by
  unfold xp
  rw [xat_h (by decide)]
  refine congrArg some (hp_set_h (by decide) ?_ ?_)
  · simp [hd, u3]
  · intro i1
    rfl
theorem g_h3_36 {b0 n : Nat} {c m : xc} {wk : Nat → Int64} : xgI b0 (hp b0 n c m wk) (hA b0 3) 7 36 = some (m 8 0 36) := by
  unfold xgI xg
  rw [xat_h (by decide)]
  rfl
theorem p_h3_36 {b0 n : Nat} {c m : xc} {wk : Nat → Int64} {v : Int32} : xp b0 (hp b0 n c m wk) (hA b0 3) 7 36 (.inl v) = some (hp b0 n c (u3 m 8 0 36 v) wk) := by
  unfold xp
  rw [xat_h (by decide)]
  refine congrArg some (hp_set_h (by decide) ?_ ?_)
  · simp [hd, u3]
  · intro i1
    rfl
theorem g_h3_37 {b0 n : Nat} {c m : xc} {wk : Nat → Int64} : xgI b0 (hp b0 n c m wk) (hA b0 3) 7 37 = some (m 8 0 37) := by
  unfold xgI xg
  rw [xat_h (by decide)]
  rfl
theorem p_h3_37 {b0 n : Nat} {c m : xc} {wk : Nat → Int64} {v : Int32} : xp b0 (hp b0 n c m wk) (hA b0 3) 7 37 (.inl v) = some (hp b0 n c (u3 m 8 0 37 v) wk) := by
  unfold xp
  rw [xat_h (by decide)]
  refine congrArg some (hp_set_h (by decide) ?_ ?_)
  · simp [hd, u3]
  · intro i1
    rfl
