theorem e_h2 {b0 n : Nat} {c m : xc} {wk : Nat → Int64} : (hd b0 n c m wk)[2]? = some (.inl (0, (List.range 12).map (c 9 0))) := rfl
theorem a_h2 {b0 n : Nat} {c m : xc} {wk : Nat → Int64} {v : Int32} (h0 : ¬ v < 0) (h1 : v.toNatClampNeg < 12) : xai b0 0 (hp b0 n c m wk) (hA b0 2) v = some (c 9 0 v.toNatClampNeg) := by
  unfold xai
  rw [xat_h (by decide), e_h2]
  dsimp only
  rw [if_pos ⟨rfl, h0⟩, rng_get h1]
theorem s_h2 {b0 n : Nat} {c m : xc} {wk : Nat → Int64} {v u : Int32} (h0 : ¬ v < 0) (h1 : v.toNatClampNeg < 12) : xsi b0 0 (hp b0 n c m wk) (hA b0 2) v u = some (hp b0 n (u3 c 9 0 v.toNatClampNeg u) m wk) := by
  unfold xsi
  rw [xat_h (by decide), e_h2]
  dsimp only
  rw [if_pos ⟨rfl, h0, by simpa using h1⟩]
  refine congrArg some (hp_set_h (by decide) ?_ ?_)
  · rw [rng_set (g := u3 c 9 0 v.toNatClampNeg u 9 0) (fun _ => by simp [u3]) (fun j hj _ => by simp [u3, hj])]
    simp [hd, u3]
  · intro i1
    first | rfl | simp [tB, u3]
theorem e_h4 {b0 n : Nat} {c m : xc} {wk : Nat → Int64} : (hd b0 n c m wk)[4]? = some (.inl (0, (List.range 12).map (fun i => m 0 i 1))) := rfl
theorem a_h4 {b0 n : Nat} {c m : xc} {wk : Nat → Int64} {v : Int32} (h0 : ¬ v < 0) (h1 : v.toNatClampNeg < 12) : xai b0 0 (hp b0 n c m wk) (hA b0 4) v = some (m 0 v.toNatClampNeg 1) := by
  unfold xai
  rw [xat_h (by decide), e_h4]
  dsimp only
  rw [if_pos ⟨rfl, h0⟩, rng_get h1]
theorem s_h4 {b0 n : Nat} {c m : xc} {wk : Nat → Int64} {v u : Int32} (h0 : ¬ v < 0) (h1 : v.toNatClampNeg < 12) : xsi b0 0 (hp b0 n c m wk) (hA b0 4) v u = some (hp b0 n c (u3 m 0 v.toNatClampNeg 1 u) wk) := by
  unfold xsi
  rw [xat_h (by decide), e_h4]
  dsimp only
  rw [if_pos ⟨rfl, h0, by simpa using h1⟩]
  refine congrArg some (hp_set_h (by decide) ?_ ?_)
  · rw [rng_set (g := fun i => u3 m 0 v.toNatClampNeg 1 u 0 i 1) (fun _ => by simp [u3]) (fun j hj _ => by simp [u3, hj])]
    simp [hd, u3]
  · intro i1
    first | rfl | simp [tB, u3]
theorem e_h5 {b0 n : Nat} {c m : xc} {wk : Nat → Int64} : (hd b0 n c m wk)[5]? = some (.inl (0, (List.range 12).map (fun i => m 0 i 2))) := rfl
theorem a_h5 {b0 n : Nat} {c m : xc} {wk : Nat → Int64} {v : Int32} (h0 : ¬ v < 0) (h1 : v.toNatClampNeg < 12) : xai b0 0 (hp b0 n c m wk) (hA b0 5) v = some (m 0 v.toNatClampNeg 2) := by
  unfold xai
  rw [xat_h (by decide), e_h5]
  dsimp only
  rw [if_pos ⟨rfl, h0⟩, rng_get h1]
theorem s_h5 {b0 n : Nat} {c m : xc} {wk : Nat → Int64} {v u : Int32} (h0 : ¬ v < 0) (h1 : v.toNatClampNeg < 12) : xsi b0 0 (hp b0 n c m wk) (hA b0 5) v u = some (hp b0 n c (u3 m 0 v.toNatClampNeg 2 u) wk) := by
  unfold xsi
  rw [xat_h (by decide), e_h5]
  dsimp only
  rw [if_pos ⟨rfl, h0, by simpa using h1⟩]
  refine congrArg some (hp_set_h (by decide) ?_ ?_)
  · rw [rng_set (g := fun i => u3 m 0 v.toNatClampNeg 2 u 0 i 2) (fun _ => by simp [u3]) (fun j hj _ => by simp [u3, hj])]
    simp [hd, u3]
  · intro i1
    first | rfl | simp [tB, u3]
theorem e_h6 {b0 n : Nat} {c m : xc} {wk : Nat → Int64} : (hd b0 n c m wk)[6]? = some (.inl (0, (List.range 12).map (fun i => m 0 i 9))) := rfl
theorem a_h6 {b0 n : Nat} {c m : xc} {wk : Nat → Int64} {v : Int32} (h0 : ¬ v < 0) (h1 : v.toNatClampNeg < 12) : xai b0 0 (hp b0 n c m wk) (hA b0 6) v = some (m 0 v.toNatClampNeg 9) := by
  unfold xai
  rw [xat_h (by decide), e_h6]
  dsimp only
  rw [if_pos ⟨rfl, h0⟩, rng_get h1]
theorem s_h6 {b0 n : Nat} {c m : xc} {wk : Nat → Int64} {v u : Int32} (h0 : ¬ v < 0) (h1 : v.toNatClampNeg < 12) : xsi b0 0 (hp b0 n c m wk) (hA b0 6) v u = some (hp b0 n c (u3 m 0 v.toNatClampNeg 9 u) wk) := by
  unfold xsi
  rw [xat_h (by decide), e_h6]
  dsimp only
  rw [if_pos ⟨rfl, h0, by simpa using h1⟩]
  refine congrArg some (hp_set_h (by decide) ?_ ?_)
  · rw [rng_set (g := fun i => u3 m 0 v.toNatClampNeg 9 u 0 i 9) (fun _ => by simp [u3]) (fun j hj _ => by simp [u3, hj])]
    simp [hd, u3]
  · intro i1
    first | rfl | simp [tB, u3]
theorem e_h7 {b0 n : Nat} {c m : xc} {wk : Nat → Int64} : (hd b0 n c m wk)[7]? = some (.inl (0, (List.range 12).map (fun i => m 0 i 8))) := rfl
theorem a_h7 {b0 n : Nat} {c m : xc} {wk : Nat → Int64} {v : Int32} (h0 : ¬ v < 0) (h1 : v.toNatClampNeg < 12) : xai b0 0 (hp b0 n c m wk) (hA b0 7) v = some (m 0 v.toNatClampNeg 8) := by
  unfold xai
  rw [xat_h (by decide), e_h7]
  dsimp only
  rw [if_pos ⟨rfl, h0⟩, rng_get h1]
theorem s_h7 {b0 n : Nat} {c m : xc} {wk : Nat → Int64} {v u : Int32} (h0 : ¬ v < 0) (h1 : v.toNatClampNeg < 12) : xsi b0 0 (hp b0 n c m wk) (hA b0 7) v u = some (hp b0 n c (u3 m 0 v.toNatClampNeg 8 u) wk) := by
  unfold xsi
  rw [xat_h (by decide), e_h7]
  dsimp only
  rw [if_pos ⟨rfl, h0, by simpa using h1⟩]
  refine congrArg some (hp_set_h (by decide) ?_ ?_)
  · rw [rng_set (g := fun i => u3 m 0 v.toNatClampNeg 8 u 0 i 8) (fun _ => by simp [u3]) (fun j hj _ => by simp [u3, hj])]
    simp [hd, u3]
  · intro i1
    first | rfl | simp [tB, u3]
theorem e_h8 {b0 n : Nat} {c m : xc} {wk : Nat → Int64} : (hd b0 n c m wk)[8]? = some (.inl (0, (List.range 12).map (fun i => m 0 i 20))) := rfl
theorem a_h8 {b0 n : Nat} {c m : xc} {wk : Nat → Int64} {v : Int32} (h0 : ¬ v < 0) (h1 : v.toNatClampNeg < 12) : xai b0 0 (hp b0 n c m wk) (hA b0 8) v = some (m 0 v.toNatClampNeg 20) := by
  unfold xai
  rw [xat_h (by decide), e_h8]
  dsimp only
  rw [if_pos ⟨rfl, h0⟩, rng_get h1]
theorem s_h8 {b0 n : Nat} {c m : xc} {wk : Nat → Int64} {v u : Int32} (h0 : ¬ v < 0) (h1 : v.toNatClampNeg < 12) : xsi b0 0 (hp b0 n c m wk) (hA b0 8) v u = some (hp b0 n c (u3 m 0 v.toNatClampNeg 20 u) wk) := by
  unfold xsi
  rw [xat_h (by decide), e_h8]
  dsimp only
  rw [if_pos ⟨rfl, h0, by simpa using h1⟩]
  refine congrArg some (hp_set_h (by decide) ?_ ?_)
  · rw [rng_set (g := fun i => u3 m 0 v.toNatClampNeg 20 u 0 i 20) (fun _ => by simp [u3]) (fun j hj _ => by simp [u3, hj])]
    simp [hd, u3]
  · intro i1
    first | rfl | simp [tB, u3]
theorem e_h9 {b0 n : Nat} {c m : xc} {wk : Nat → Int64} : (hd b0 n c m wk)[9]? = some (.inl (0, (List.range 192).map (fun q => m 1 (q / 16) (q % 16)))) := rfl
theorem a_h9 {b0 n : Nat} {c m : xc} {wk : Nat → Int64} {v : Int32} (h0 : ¬ v < 0) (h1 : v.toNatClampNeg < 192) : xai b0 0 (hp b0 n c m wk) (hA b0 9) v = some (m 1 (v.toNatClampNeg / 16) (v.toNatClampNeg % 16)) := by
  unfold xai
  rw [xat_h (by decide), e_h9]
  dsimp only
  rw [if_pos ⟨rfl, h0⟩, rng_get h1]
theorem s_h9 {b0 n : Nat} {c m : xc} {wk : Nat → Int64} {v u : Int32} (h0 : ¬ v < 0) (h1 : v.toNatClampNeg < 192) : xsi b0 0 (hp b0 n c m wk) (hA b0 9) v u = some (hp b0 n c (u3 m 1 (v.toNatClampNeg / 16) (v.toNatClampNeg % 16) u) wk) := by
  unfold xsi
  rw [xat_h (by decide), e_h9]
  dsimp only
  rw [if_pos ⟨rfl, h0, by simpa using h1⟩]
  refine congrArg some (hp_set_h (by decide) ?_ ?_)
  · rw [rng_set (g := fun q => u3 m 1 (v.toNatClampNeg / 16) (v.toNatClampNeg % 16) u 1 (q / 16) (q % 16)) (fun _ => by simp [u3]) (fun j hj _ => by
      by_cases e1 : j / 16 = v.toNatClampNeg / 16
      · have e2 : j % 16 ≠ v.toNatClampNeg % 16 := by omega
        simp [u3, e2]
      · simp [u3, e1])]
    simp [hd, u3]
  · intro i1
    first | rfl | simp [tB, u3]
theorem e_h10 {b0 n : Nat} {c m : xc} {wk : Nat → Int64} : (hd b0 n c m wk)[10]? = some (.inl (0, (List.range 192).map (fun q => m 2 (q / 16) (q % 16)))) := rfl
theorem a_h10 {b0 n : Nat} {c m : xc} {wk : Nat → Int64} {v : Int32} (h0 : ¬ v < 0) (h1 : v.toNatClampNeg < 192) : xai b0 0 (hp b0 n c m wk) (hA b0 10) v = some (m 2 (v.toNatClampNeg / 16) (v.toNatClampNeg % 16)) := by
  unfold xai
  rw [xat_h (by decide), e_h10]
  dsimp only
  rw [if_pos ⟨rfl, h0⟩, rng_get h1]
theorem s_h10 {b0 n : Nat} {c m : xc} {wk : Nat → Int64} {v u : Int32} (h0 : ¬ v < 0) (h1 : v.toNatClampNeg < 192) : xsi b0 0 (hp b0 n c m wk) (hA b0 10) v u = some (hp b0 n c (u3 m 2 (v.toNatClampNeg / 16) (v.toNatClampNeg % 16) u) wk) := by
  unfold xsi
  rw [xat_h (by decide), e_h10]
  dsimp only
  rw [if_pos ⟨rfl, h0, by simpa using h1⟩]
  refine congrArg some (hp_set_h (by decide) ?_ ?_)
  · rw [rng_set (g := fun q => u3 m 2 (v.toNatClampNeg / 16) (v.toNatClampNeg % 16) u 2 (q / 16) (q % 16)) (fun _ => by simp [u3]) (fun j hj _ => by
      by_cases e1 : j / 16 = v.toNatClampNeg / 16
      · have e2 : j % 16 ≠ v.toNatClampNeg % 16 := by omega
        simp [u3, e2]
      · simp [u3, e1])]
    simp [hd, u3]
  · intro i1
    first | rfl | simp [tB, u3]
theorem e_h11 {b0 n : Nat} {c m : xc} {wk : Nat → Int64} : (hd b0 n c m wk)[11]? = some (.inl (0, (List.range 192).map (fun q => m 3 (q / 16) (q % 16)))) := rfl
theorem a_h11 {b0 n : Nat} {c m : xc} {wk : Nat → Int64} {v : Int32} (h0 : ¬ v < 0) (h1 : v.toNatClampNeg < 192) : xai b0 0 (hp b0 n c m wk) (hA b0 11) v = some (m 3 (v.toNatClampNeg / 16) (v.toNatClampNeg % 16)) := by
  unfold xai
  rw [xat_h (by decide), e_h11]
  dsimp only
  rw [if_pos ⟨rfl, h0⟩, rng_get h1]
theorem s_h11 {b0 n : Nat} {c m : xc} {wk : Nat → Int64} {v u : Int32} (h0 : ¬ v < 0) (h1 : v.toNatClampNeg < 192) : xsi b0 0 (hp b0 n c m wk) (hA b0 11) v u = some (hp b0 n c (u3 m 3 (v.toNatClampNeg / 16) (v.toNatClampNeg % 16) u) wk) := by
  unfold xsi
  rw [xat_h (by decide), e_h11]
  dsimp only
  rw [if_pos ⟨rfl, h0, by simpa using h1⟩]
  refine congrArg some (hp_set_h (by decide) ?_ ?_)
  · rw [rng_set (g := fun q => u3 m 3 (v.toNatClampNeg / 16) (v.toNatClampNeg % 16) u 3 (q / 16) (q % 16)) (fun _ => by simp [u3]) (fun j hj _ => by
      by_cases e1 : j / 16 = v.toNatClampNeg / 16
      · have e2 : j % 16 ≠ v.toNatClampNeg % 16 := by omega
        simp [u3, e2]
      · simp [u3, e1])]
    simp [hd, u3]
  · intro i1
    first | rfl | simp [tB, u3]
theorem e_h12 {b0 n : Nat} {c m : xc} {wk : Nat → Int64} : (hd b0 n c m wk)[12]? = some (.inl (0, (List.range 12).map (fun i => m 0 i 11))) := rfl
theorem a_h12 {b0 n : Nat} {c m : xc} {wk : Nat → Int64} {v : Int32} (h0 : ¬ v < 0) (h1 : v.toNatClampNeg < 12) : xai b0 0 (hp b0 n c m wk) (hA b0 12) v = some (m 0 v.toNatClampNeg 11) := by
  unfold xai
  rw [xat_h (by decide), e_h12]
  dsimp only
  rw [if_pos ⟨rfl, h0⟩, rng_get h1]
theorem s_h12 {b0 n : Nat} {c m : xc} {wk : Nat → Int64} {v u : Int32} (h0 : ¬ v < 0) (h1 : v.toNatClampNeg < 12) : xsi b0 0 (hp b0 n c m wk) (hA b0 12) v u = some (hp b0 n c (u3 m 0 v.toNatClampNeg 11 u) wk) := by
  unfold xsi
  rw [xat_h (by decide), e_h12]
  dsimp only
  rw [if_pos ⟨rfl, h0, by simpa using h1⟩]
  refine congrArg some (hp_set_h (by decide) ?_ ?_)
  · rw [rng_set (g := fun i => u3 m 0 v.toNatClampNeg 11 u 0 i 11) (fun _ => by simp [u3]) (fun j hj _ => by simp [u3, hj])]
    simp [hd, u3]
  · intro i1
    first | rfl | simp [tB, u3]
theorem e_h13 {b0 n : Nat} {c m : xc} {wk : Nat → Int64} : (hd b0 n c m wk)[13]? = some (.inl (0, (List.range 12).map (fun i => m 0 i 10))) := rfl
theorem a_h13 {b0 n : Nat} {c m : xc} {wk : Nat → Int64} {v : Int32} (h0 : ¬ v < 0) (h1 : v.toNatClampNeg < 12) : xai b0 0 (hp b0 n c m wk) (hA b0 13) v = some (m 0 v.toNatClampNeg 10) := by
  unfold xai
  rw [xat_h (by decide), e_h13]
  dsimp only
  rw [if_pos ⟨rfl, h0⟩, rng_get h1]
theorem s_h13 {b0 n : Nat} {c m : xc} {wk : Nat → Int64} {v u : Int32} (h0 : ¬ v < 0) (h1 : v.toNatClampNeg < 12) : xsi b0 0 (hp b0 n c m wk) (hA b0 13) v u = some (hp b0 n c (u3 m 0 v.toNatClampNeg 10 u) wk) := by
  unfold xsi
  rw [xat_h (by decide), e_h13]
  dsimp only
  rw [if_pos ⟨rfl, h0, by simpa using h1⟩]
  refine congrArg some (hp_set_h (by decide) ?_ ?_)
  · rw [rng_set (g := fun i => u3 m 0 v.toNatClampNeg 10 u 0 i 10) (fun _ => by simp [u3]) (fun j hj _ => by simp [u3, hj])]
    simp [hd, u3]
  · intro i1
    first | rfl | simp [tB, u3]
theorem e_h14 {b0 n : Nat} {c m : xc} {wk : Nat → Int64} : (hd b0 n c m wk)[14]? = some (.inl (0, (List.range 12).map (fun i => m 0 i 22))) := rfl
theorem a_h14 {b0 n : Nat} {c m : xc} {wk : Nat → Int64} {v : Int32} (h0 : ¬ v < 0) (h1 : v.toNatClampNeg < 12) : xai b0 0 (hp b0 n c m wk) (hA b0 14) v = some (m 0 v.toNatClampNeg 22) := by
  unfold xai
  rw [xat_h (by decide), e_h14]
  dsimp only
  rw [if_pos ⟨rfl, h0⟩, rng_get h1]
theorem s_h14 {b0 n : Nat} {c m : xc} {wk : Nat → Int64} {v u : Int32} (h0 : ¬ v < 0) (h1 : v.toNatClampNeg < 12) : xsi b0 0 (hp b0 n c m wk) (hA b0 14) v u = some (hp b0 n c (u3 m 0 v.toNatClampNeg 22 u) wk) := by
  unfold xsi
  rw [xat_h (by decide), e_h14]
  dsimp only
  rw [if_pos ⟨rfl, h0, by simpa using h1⟩]
  refine congrArg some (hp_set_h (by decide) ?_ ?_)
  · rw [rng_set (g := fun i => u3 m 0 v.toNatClampNeg 22 u 0 i 22) (fun _ => by simp [u3]) (fun j hj _ => by simp [u3, hj])]
    simp [hd, u3]
  · intro i1
    first | rfl | simp [tB, u3]
theorem e_h15 {b0 n : Nat} {c m : xc} {wk : Nat → Int64} : (hd b0 n c m wk)[15]? = some (.inl (0, (List.range 1200).map (fun q => m 6 (q / 100) (q % 100)))) := rfl
theorem a_h15 {b0 n : Nat} {c m : xc} {wk : Nat → Int64} {v : Int32} (h0 : ¬ v < 0) (h1 : v.toNatClampNeg < 1200) : xai b0 0 (hp b0 n c m wk) (hA b0 15) v = some (m 6 (v.toNatClampNeg / 100) (v.toNatClampNeg % 100)) := by
  unfold xai
  rw [xat_h (by decide), e_h15]
  dsimp only
  rw [if_pos ⟨rfl, h0⟩, rng_get h1]
theorem s_h15 {b0 n : Nat} {c m : xc} {wk : Nat → Int64} {v u : Int32} (h0 : ¬ v < 0) (h1 : v.toNatClampNeg < 1200) : xsi b0 0 (hp b0 n c m wk) (hA b0 15) v u = some (hp b0 n c (u3 m 6 (v.toNatClampNeg / 100) (v.toNatClampNeg % 100) u) wk) := by
  unfold xsi
  rw [xat_h (by decide), e_h15]
  dsimp only
  rw [if_pos ⟨rfl, h0, by simpa using h1⟩]
  refine congrArg some (hp_set_h (by decide) ?_ ?_)
  · rw [rng_set (g := fun q => u3 m 6 (v.toNatClampNeg / 100) (v.toNatClampNeg % 100) u 6 (q / 100) (q % 100)) (fun _ => by simp [u3]) (fun j hj _ => by
      by_cases e1 : j / 100 = v.toNatClampNeg / 100
      · have e2 : j % 100 ≠ v.toNatClampNeg % 100 := by omega
        simp [u3, e2]
      · simp [u3, e1])]
    simp [hd, u3]
  · intro i1
    first | rfl | simp [tB, u3]
theorem e_h16 {b0 n : Nat} {c m : xc} {wk : Nat → Int64} : (hd b0 n c m wk)[16]? = some (.inl (0, (List.range 12).map (fun i => m 0 i 24))) := rfl
theorem a_h16 {b0 n : Nat} {c m : xc} {wk : Nat → Int64} {v : Int32} (h0 : ¬ v < 0) (h1 : v.toNatClampNeg < 12) : xai b0 0 (hp b0 n c m wk) (hA b0 16) v = some (m 0 v.toNatClampNeg 24) := by
  unfold xai
  rw [xat_h (by decide), e_h16]
  dsimp only
  rw [if_pos ⟨rfl, h0⟩, rng_get h1]
theorem s_h16 {b0 n : Nat} {c m : xc} {wk : Nat → Int64} {v u : Int32} (h0 : ¬ v < 0) (h1 : v.toNatClampNeg < 12) : xsi b0 0 (hp b0 n c m wk) (hA b0 16) v u = some (hp b0 n c (u3 m 0 v.toNatClampNeg 24 u) wk) := by
  unfold xsi
  rw [xat_h (by decide), e_h16]
  dsimp only
  rw [if_pos ⟨rfl, h0, by simpa using h1⟩]
  refine congrArg some (hp_set_h (by decide) ?_ ?_)
  · rw [rng_set (g := fun i => u3 m 0 v.toNatClampNeg 24 u 0 i 24) (fun _ => by simp [u3]) (fun j hj _ => by simp [u3, hj])]
    simp [hd, u3]
  · intro i1
    first | rfl | simp [tB, u3]
theorem e_h17 {b0 n : Nat} {c m : xc} {wk : Nat → Int64} : (hd b0 n c m wk)[17]? = some (.inl (0, (List.range 12).map (fun i => m 0 i 25))) := rfl
theorem a_h17 {b0 n : Nat} {c m : xc} {wk : Nat → Int64} {v : Int32} (h0 : ¬ v < 0) (h1 : v.toNatClampNeg < 12) : xai b0 0 (hp b0 n c m wk) (hA b0 17) v = some (m 0 v.toNatClampNeg 25) := by
  unfold xai
  rw [xat_h (by decide), e_h17]
  dsimp only
  rw [if_pos ⟨rfl, h0⟩, rng_get h1]
theorem s_h17 {b0 n : Nat} {c m : xc} {wk : Nat → Int64} {v u : Int32} (h0 : ¬ v < 0) (h1 : v.toNatClampNeg < 12) : xsi b0 0 (hp b0 n c m wk) (hA b0 17) v u = some (hp b0 n c (u3 m 0 v.toNatClampNeg 25 u) wk) := by
  unfold xsi
  rw [xat_h (by decide), e_h17]
  dsimp only
  rw [if_pos ⟨rfl, h0, by simpa using h1⟩]
  refine congrArg some (hp_set_h (by decide) ?_ ?_)
  · rw [rng_set (g := fun i => u3 m 0 v.toNatClampNeg 25 u 0 i 25) (fun _ => by simp [u3]) (fun j hj _ => by simp [u3, hj])]
    simp [hd, u3]
  · intro i1
    first | rfl | simp [tB, u3]
theorem e_h18 {b0 n : Nat} {c m : xc} {wk : Nat → Int64} : (hd b0 n c m wk)[18]? = some (.inl (0, (List.range 12).map (fun i => m 0 i 26))) := rfl
theorem a_h18 {b0 n : Nat} {c m : xc} {wk : Nat → Int64} {v : Int32} (h0 : ¬ v < 0) (h1 : v.toNatClampNeg < 12) : xai b0 0 (hp b0 n c m wk) (hA b0 18) v = some (m 0 v.toNatClampNeg 26) := by
  unfold xai
  rw [xat_h (by decide), e_h18]
  dsimp only
  rw [if_pos ⟨rfl, h0⟩, rng_get h1]
theorem s_h18 {b0 n : Nat} {c m : xc} {wk : Nat → Int64} {v u : Int32} (h0 : ¬ v < 0) (h1 : v.toNatClampNeg < 12) : xsi b0 0 (hp b0 n c m wk) (hA b0 18) v u = some (hp b0 n c (u3 m 0 v.toNatClampNeg 26 u) wk) := by
  unfold xsi
  rw [xat_h (by decide), e_h18]
  dsimp only
  rw [if_pos ⟨rfl, h0, by simpa using h1⟩]
  refine congrArg some (hp_set_h (by decide) ?_ ?_)
  · rw [rng_set (g := fun i => u3 m 0 v.toNatClampNeg 26 u 0 i 26) (fun _ => by simp [u3]) (fun j hj _ => by simp [u3, hj])]
    simp [hd, u3]
  · intro i1
    first | rfl | simp [tB, u3]
theorem e_h19 {b0 n : Nat} {c m : xc} {wk : Nat → Int64} : (hd b0 n c m wk)[19]? = some (.inl (0, (List.range 1200).map (fun q => m 7 (q / 100) (q % 100)))) := rfl
theorem a_h19 {b0 n : Nat} {c m : xc} {wk : Nat → Int64} {v : Int32} (h0 : ¬ v < 0) (h1 : v.toNatClampNeg < 1200) : xai b0 0 (hp b0 n c m wk) (hA b0 19) v = some (m 7 (v.toNatClampNeg / 100) (v.toNatClampNeg % 100)) := by
  unfold xai
  rw [xat_h (by decide), e_h19]
  dsimp only
  rw [if_pos ⟨rfl, h0⟩, rng_get h1]
theorem s_h19 {b0 n : Nat} {c m : xc} {wk : Nat → Int64} {v u : Int32} (h0 : ¬ v < 0) (h1 : v.toNatClampNeg < 1200) : xsi b0 0 (hp b0 n c m wk) (hA b0 19) v u = some (hp b0 n c (u3 m 7 (v.toNatClampNeg / 100) (v.toNatClampNeg % 100) u) wk) := by
  unfold xsi
  rw [xat_h (by decide), e_h19]
  dsimp only
  rw [if_pos ⟨rfl, h0, by simpa using h1⟩]
  refine congrArg some (hp_set_h (by decide) ?_ ?_)
  · rw [rng_set (g := fun q => u3 m 7 (v.toNatClampNeg / 100) (v.toNatClampNeg % 100) u 7 (q / 100) (q % 100)) (fun _ => by simp [u3]) (fun j hj _ => by
      by_cases e1 : j / 100 = v.toNatClampNeg / 100
      · have e2 : j % 100 ≠ v.toNatClampNeg % 100 := by omega
        simp [u3, e2]
      · simp [u3, e1])]
    simp [hd, u3]
  · intro i1
    first | rfl | simp [tB, u3]
theorem e_h20 {b0 n : Nat} {c m : xc} {wk : Nat → Int64} : (hd b0 n c m wk)[20]? = some (.inl (0, (List.range 12).map (fun i => m 0 i 23))) := rfl
theorem a_h20 {b0 n : Nat} {c m : xc} {wk : Nat → Int64} {v : Int32} (h0 : ¬ v < 0) (h1 : v.toNatClampNeg < 12) : xai b0 0 (hp b0 n c m wk) (hA b0 20) v = some (m 0 v.toNatClampNeg 23) := by
  unfold xai
  rw [xat_h (by decide), e_h20]
  dsimp only
  rw [if_pos ⟨rfl, h0⟩, rng_get h1]
theorem s_h20 {b0 n : Nat} {c m : xc} {wk : Nat → Int64} {v u : Int32} (h0 : ¬ v < 0) (h1 : v.toNatClampNeg < 12) : xsi b0 0 (hp b0 n c m wk) (hA b0 20) v u = some (hp b0 n c (u3 m 0 v.toNatClampNeg 23 u) wk) := by
  unfold xsi
  rw [xat_h (by decide), e_h20]
  dsimp only
  rw [if_pos ⟨rfl, h0, by simpa using h1⟩]
  refine congrArg some (hp_set_h (by decide) ?_ ?_)
  · rw [rng_set (g := fun i => u3 m 0 v.toNatClampNeg 23 u 0 i 23) (fun _ => by simp [u3]) (fun j hj _ => by simp [u3, hj])]
    simp [hd, u3]
  · intro i1
    first | rfl | simp [tB, u3]
theorem e_h21 {b0 n : Nat} {c m : xc} {wk : Nat → Int64} : (hd b0 n c m wk)[21]? = some (.inl (0, (List.range 36).map (fun q => m 5 (q / 3) (q % 3)))) := rfl
theorem a_h21 {b0 n : Nat} {c m : xc} {wk : Nat → Int64} {v : Int32} (h0 : ¬ v < 0) (h1 : v.toNatClampNeg < 36) : xai b0 0 (hp b0 n c m wk) (hA b0 21) v = some (m 5 (v.toNatClampNeg / 3) (v.toNatClampNeg % 3)) := by
  unfold xai
  rw [xat_h (by decide), e_h21]
  dsimp only
  rw [if_pos ⟨rfl, h0⟩, rng_get h1]
theorem s_h21 {b0 n : Nat} {c m : xc} {wk : Nat → Int64} {v u : Int32} (h0 : ¬ v < 0) (h1 : v.toNatClampNeg < 36) : xsi b0 0 (hp b0 n c m wk) (hA b0 21) v u = some (hp b0 n c (u3 m 5 (v.toNatClampNeg / 3) (v.toNatClampNeg % 3) u) wk) := by
  unfold xsi
  rw [xat_h (by decide), e_h21]
  dsimp only
  rw [if_pos ⟨rfl, h0, by simpa using h1⟩]
  refine congrArg some (hp_set_h (by decide) ?_ ?_)
  · rw [rng_set (g := fun q => u3 m 5 (v.toNatClampNeg / 3) (v.toNatClampNeg % 3) u 5 (q / 3) (q % 3)) (fun _ => by simp [u3]) (fun j hj _ => by
      by_cases e1 : j / 3 = v.toNatClampNeg / 3
      · have e2 : j % 3 ≠ v.toNatClampNeg % 3 := by omega
        simp [u3, e2]
      · simp [u3, e1])]
    simp [hd, u3]
  · intro i1
    first | rfl | simp [tB, u3]
theorem e_h22 {b0 n : Nat} {c m : xc} {wk : Nat → Int64} : (hd b0 n c m wk)[22]? = some (.inl (0, (List.range 12).map (fun i => m 0 i 21))) := rfl
theorem a_h22 {b0 n : Nat} {c m : xc} {wk : Nat → Int64} {v : Int32} (h0 : ¬ v < 0) (h1 : v.toNatClampNeg < 12) : xai b0 0 (hp b0 n c m wk) (hA b0 22) v = some (m 0 v.toNatClampNeg 21) := by
  unfold xai
  rw [xat_h (by decide), e_h22]
  dsimp only
  rw [if_pos ⟨rfl, h0⟩, rng_get h1]
theorem s_h22 {b0 n : Nat} {c m : xc} {wk : Nat → Int64} {v u : Int32} (h0 : ¬ v < 0) (h1 : v.toNatClampNeg < 12) : xsi b0 0 (hp b0 n c m wk) (hA b0 22) v u = some (hp b0 n c (u3 m 0 v.toNatClampNeg 21 u) wk) := by
  unfold xsi
  rw [xat_h (by decide), e_h22]
  dsimp only
  rw [if_pos ⟨rfl, h0, by simpa using h1⟩]
  refine congrArg some (hp_set_h (by decide) ?_ ?_)
  · rw [rng_set (g := fun i => u3 m 0 v.toNatClampNeg 21 u 0 i 21) (fun _ => by simp [u3]) (fun j hj _ => by simp [u3, hj])]
    simp [hd, u3]
  · intro i1
    first | rfl | simp [tB, u3]
theorem e_h23 {b0 n : Nat} {c m : xc} {wk : Nat → Int64} : (hd b0 n c m wk)[23]? = some (.inl (0, (List.range 72).map (fun q => m 4 (q / 6) (q % 6)))) := rfl
theorem a_h23 {b0 n : Nat} {c m : xc} {wk : Nat → Int64} {v : Int32} (h0 : ¬ v < 0) (h1 : v.toNatClampNeg < 72) : xai b0 0 (hp b0 n c m wk) (hA b0 23) v = some (m 4 (v.toNatClampNeg / 6) (v.toNatClampNeg % 6)) := by
  unfold xai
  rw [xat_h (by decide), e_h23]
  dsimp only
  rw [if_pos ⟨rfl, h0⟩, rng_get h1]
theorem s_h23 {b0 n : Nat} {c m : xc} {wk : Nat → Int64} {v u : Int32} (h0 : ¬ v < 0) (h1 : v.toNatClampNeg < 72) : xsi b0 0 (hp b0 n c m wk) (hA b0 23) v u = some (hp b0 n c (u3 m 4 (v.toNatClampNeg / 6) (v.toNatClampNeg % 6) u) wk) := by
  unfold xsi
  rw [xat_h (by decide), e_h23]
  dsimp only
  rw [if_pos ⟨rfl, h0, by simpa using h1⟩]
  refine congrArg some (hp_set_h (by decide) ?_ ?_)
  · rw [rng_set (g := fun q => u3 m 4 (v.toNatClampNeg / 6) (v.toNatClampNeg % 6) u 4 (q / 6) (q % 6)) (fun _ => by simp [u3]) (fun j hj _ => by
      by_cases e1 : j / 6 = v.toNatClampNeg / 6
      · have e2 : j % 6 ≠ v.toNatClampNeg % 6 := by omega
        simp [u3, e2]
      · simp [u3, e1])]
    simp [hd, u3]
  · intro i1
    first | rfl | simp [tB, u3]
theorem e_h25 {b0 n : Nat} {c m : xc} {wk : Nat → Int64} : (hd b0 n c m wk)[25]? = some (.inl (0, (List.range 12).map (fun i => m 0 i 15))) := rfl
theorem a_h25 {b0 n : Nat} {c m : xc} {wk : Nat → Int64} {v : Int32} (h0 : ¬ v < 0) (h1 : v.toNatClampNeg < 12) : xai b0 0 (hp b0 n c m wk) (hA b0 25) v = some (m 0 v.toNatClampNeg 15) := by
  unfold xai
  rw [xat_h (by decide), e_h25]
  dsimp only
  rw [if_pos ⟨rfl, h0⟩, rng_get h1]
theorem s_h25 {b0 n : Nat} {c m : xc} {wk : Nat → Int64} {v u : Int32} (h0 : ¬ v < 0) (h1 : v.toNatClampNeg < 12) : xsi b0 0 (hp b0 n c m wk) (hA b0 25) v u = some (hp b0 n c (u3 m 0 v.toNatClampNeg 15 u) wk) := by
  unfold xsi
  rw [xat_h (by decide), e_h25]
  dsimp only
  rw [if_pos ⟨rfl, h0, by simpa using h1⟩]
  refine congrArg some (hp_set_h (by decide) ?_ ?_)
  · rw [rng_set (g := fun i => u3 m 0 v.toNatClampNeg 15 u 0 i 15) (fun _ => by simp [u3]) (fun j hj _ => by simp [u3, hj])]
    simp [hd, u3]
  · intro i1
    first | rfl | simp [tB, u3]
theorem e_h26 {b0 n : Nat} {c m : xc} {wk : Nat → Int64} : (hd b0 n c m wk)[26]? = some (.inl (0, (List.range 12).map (fun i => m 0 i 16))) := rfl
theorem a_h26 {b0 n : Nat} {c m : xc} {wk : Nat → Int64} {v : Int32} (h0 : ¬ v < 0) (h1 : v.toNatClampNeg < 12) : xai b0 0 (hp b0 n c m wk) (hA b0 26) v = some (m 0 v.toNatClampNeg 16) := by
  unfold xai
  rw [xat_h (by decide), e_h26]
  dsimp only
  rw [if_pos ⟨rfl, h0⟩, rng_get h1]
theorem s_h26 {b0 n : Nat} {c m : xc} {wk : Nat → Int64} {v u : Int32} (h0 : ¬ v < 0) (h1 : v.toNatClampNeg < 12) : xsi b0 0 (hp b0 n c m wk) (hA b0 26) v u = some (hp b0 n c (u3 m 0 v.toNatClampNeg 16 u) wk) := by
  unfold xsi
  rw [xat_h (by decide), e_h26]
  dsimp only
  rw [if_pos ⟨rfl, h0, by simpa using h1⟩]
  refine congrArg some (hp_set_h (by decide) ?_ ?_)
  · rw [rng_set (g := fun i => u3 m 0 v.toNatClampNeg 16 u 0 i 16) (fun _ => by simp [u3]) (fun j hj _ => by simp [u3, hj])]
    simp [hd, u3]
  · intro i1
    first | rfl | simp [tB, u3]
theorem e_h27 {b0 n : Nat} {c m : xc} {wk : Nat → Int64} : (hd b0 n c m wk)[27]? = some (.inl (0, (List.range 12).map (fun i => m 0 i 17))) := rfl
theorem a_h27 {b0 n : Nat} {c m : xc} {wk : Nat → Int64} {v : Int32} (h0 : ¬ v < 0) (h1 : v.toNatClampNeg < 12) : xai b0 0 (hp b0 n c m wk) (hA b0 27) v = some (m 0 v.toNatClampNeg 17) := by
  unfold xai
  rw [xat_h (by decide), e_h27]
  dsimp only
  rw [if_pos ⟨rfl, h0⟩, rng_get h1]
theorem s_h27 {b0 n : Nat} {c m : xc} {wk : Nat → Int64} {v u : Int32} (h0 : ¬ v < 0) (h1 : v.toNatClampNeg < 12) : xsi b0 0 (hp b0 n c m wk) (hA b0 27) v u = some (hp b0 n c (u3 m 0 v.toNatClampNeg 17 u) wk) := by
  unfold xsi
  rw [xat_h (by decide), e_h27]
  dsimp only
  rw [if_pos ⟨rfl, h0, by simpa using h1⟩]
  refine congrArg some (hp_set_h (by decide) ?_ ?_)
  · rw [rng_set (g := fun i => u3 m 0 v.toNatClampNeg 17 u 0 i 17) (fun _ => by simp [u3]) (fun j hj _ => by simp [u3, hj])]
    simp [hd, u3]
  · intro i1
    first | rfl | simp [tB, u3]
theorem e_h28 {b0 n : Nat} {c m : xc} {wk : Nat → Int64} : (hd b0 n c m wk)[28]? = some (.inl (0, (List.range 12).map (fun i => m 0 i 18))) := rfl
theorem a_h28 {b0 n : Nat} {c m : xc} {wk : Nat → Int64} {v : Int32} (h0 : ¬ v < 0) (h1 : v.toNatClampNeg < 12) : xai b0 0 (hp b0 n c m wk) (hA b0 28) v = some (m 0 v.toNatClampNeg 18) := by
  unfold xai
  rw [xat_h (by decide), e_h28]
  dsimp only
  rw [if_pos ⟨rfl, h0⟩, rng_get h1]
theorem s_h28 {b0 n : Nat} {c m : xc} {wk : Nat → Int64} {v u : Int32} (h0 : ¬ v < 0) (h1 : v.toNatClampNeg < 12) : xsi b0 0 (hp b0 n c m wk) (hA b0 28) v u = some (hp b0 n c (u3 m 0 v.toNatClampNeg 18 u) wk) := by
  unfold xsi
  rw [xat_h (by decide), e_h28]
  dsimp only
  rw [if_pos ⟨rfl, h0, by simpa using h1⟩]
  refine congrArg some (hp_set_h (by decide) ?_ ?_)
  · rw [rng_set (g := fun i => u3 m 0 v.toNatClampNeg 18 u 0 i 18) (fun _ => by simp [u3]) (fun j hj _ => by simp [u3, hj])]
    simp [hd, u3]
  · intro i1
    first | rfl | simp [tB, u3]
theorem e_h29 {b0 n : Nat} {c m : xc} {wk : Nat → Int64} : (hd b0 n c m wk)[29]? = some (.inl (1, (List.range 12).map (fun i => m 0 i 14))) := rfl
theorem a_h29 {b0 n : Nat} {c m : xc} {wk : Nat → Int64} {v : Int32} (h0 : ¬ v < 0) (h1 : v.toNatClampNeg < 12) : xai b0 1 (hp b0 n c m wk) (hA b0 29) v = some (m 0 v.toNatClampNeg 14) := by
  unfold xai
  rw [xat_h (by decide), e_h29]
  dsimp only
  rw [if_pos ⟨rfl, h0⟩, rng_get h1]
theorem s_h29 {b0 n : Nat} {c m : xc} {wk : Nat → Int64} {v u : Int32} (h0 : ¬ v < 0) (h1 : v.toNatClampNeg < 12) : xsi b0 1 (hp b0 n c m wk) (hA b0 29) v u = some (hp b0 n c (u3 m 0 v.toNatClampNeg 14 u) wk) := by
  unfold xsi
  rw [xat_h (by decide), e_h29]
  dsimp only
  rw [if_pos ⟨rfl, h0, by simpa using h1⟩]
  refine congrArg some (hp_set_h (by decide) ?_ ?_)
  · rw [rng_set (g := fun i => u3 m 0 v.toNatClampNeg 14 u 0 i 14) (fun _ => by simp [u3]) (fun j hj _ => by simp [u3, hj])]
    simp [hd, u3]
  · intro i1
    first | rfl | simp [tB, u3]
theorem e_h30 {b0 n : Nat} {c m : xc} {wk : Nat → Int64} : (hd b0 n c m wk)[30]? = some (.inl (1, (List.range 12).map (fun i => m 0 i 13))) := rfl
theorem a_h30 {b0 n : Nat} {c m : xc} {wk : Nat → Int64} {v : Int32} (h0 : ¬ v < 0) (h1 : v.toNatClampNeg < 12) : xai b0 1 (hp b0 n c m wk) (hA b0 30) v = some (m 0 v.toNatClampNeg 13) := by
  unfold xai
  rw [xat_h (by decide), e_h30]
  dsimp only
  rw [if_pos ⟨rfl, h0⟩, rng_get h1]
theorem s_h30 {b0 n : Nat} {c m : xc} {wk : Nat → Int64} {v u : Int32} (h0 : ¬ v < 0) (h1 : v.toNatClampNeg < 12) : xsi b0 1 (hp b0 n c m wk) (hA b0 30) v u = some (hp b0 n c (u3 m 0 v.toNatClampNeg 13 u) wk) := by
  unfold xsi
  rw [xat_h (by decide), e_h30]
  dsimp only
  rw [if_pos ⟨rfl, h0, by simpa using h1⟩]
  refine congrArg some (hp_set_h (by decide) ?_ ?_)
  · rw [rng_set (g := fun i => u3 m 0 v.toNatClampNeg 13 u 0 i 13) (fun _ => by simp [u3]) (fun j hj _ => by simp [u3, hj])]
    simp [hd, u3]
  · intro i1
    first | rfl | simp [tB, u3]
theorem e_h31 {b0 n : Nat} {c m : xc} {wk : Nat → Int64} : (hd b0 n c m wk)[31]? = some (.inl (0, (List.range 12).map (m 9 0))) := rfl
theorem a_h31 {b0 n : Nat} {c m : xc} {wk : Nat → Int64} {v : Int32} (h0 : ¬ v < 0) (h1 : v.toNatClampNeg < 12) : xai b0 0 (hp b0 n c m wk) (hA b0 31) v = some (m 9 0 v.toNatClampNeg) := by
  unfold xai
  rw [xat_h (by decide), e_h31]
  dsimp only
  rw [if_pos ⟨rfl, h0⟩, rng_get h1]
theorem s_h31 {b0 n : Nat} {c m : xc} {wk : Nat → Int64} {v u : Int32} (h0 : ¬ v < 0) (h1 : v.toNatClampNeg < 12) : xsi b0 0 (hp b0 n c m wk) (hA b0 31) v u = some (hp b0 n c (u3 m 9 0 v.toNatClampNeg u) wk) := by
  unfold xsi
  rw [xat_h (by decide), e_h31]
  dsimp only
  rw [if_pos ⟨rfl, h0, by simpa using h1⟩]
  refine congrArg some (hp_set_h (by decide) ?_ ?_)
  · rw [rng_set (g := u3 m 9 0 v.toNatClampNeg u 9 0) (fun _ => by simp [u3]) (fun j hj _ => by simp [u3, hj])]
    simp [hd, u3]
  · intro i1
    first | rfl | simp [tB, u3]
theorem a_h24 {b0 n : Nat} {c m : xc} {wk : Nat → Int64} {v : Int32} (h0 : ¬ v < 0) (h1 : v.toNatClampNeg < 12) : xaj b0 (hp b0 n c m wk) (hA b0 24) v = some (wk v.toNatClampNeg) := by
  unfold xaj
  rw [xat_h (by decide)]
  show (if ¬ v < 0 then ((List.range 12).map wk)[v.toNatClampNeg]? else none) = _
  rw [if_pos h0, rng_get h1]
theorem s_h24 {b0 n : Nat} {c m : xc} {wk : Nat → Int64} {v : Int32} {u : Int64} (h0 : ¬ v < 0) (h1 : v.toNatClampNeg < 12) : xsj b0 (hp b0 n c m wk) (hA b0 24) v u = some (hp b0 n c m (uk wk v.toNatClampNeg u)) := by
  unfold xsj
  rw [xat_h (by decide)]
  show (if ¬ v < 0 ∧ v.toNatClampNeg < ((List.range 12).map wk).length then some ((hp b0 n c m wk).set (hA b0 24 - b0) (.inr (.inl (((List.range 12).map wk).set v.toNatClampNeg u)))) else none) = _
  rw [if_pos ⟨h0, by simpa using h1⟩]
  refine congrArg some (hp_set_h (by decide) ?_ ?_)
  · rw [rng_set (g := uk wk v.toNatClampNeg u) (fun _ => by simp [uk]) (fun j hj _ => by simp [uk, hj])]
    simp [hd]
  · intro i1
    rfl
theorem a_h1 {b0 n : Nat} {c m : xc} {wk : Nat → Int64} {v : Int32} (h0 : ¬ v < 0) (h1 : v.toNatClampNeg < 12) : xaq b0 (hp b0 n c m wk) (hA b0 1) v = some (if v.toNatClampNeg < n then some (tA b0 v.toNatClampNeg 0) else none) := by
  unfold xaq
  rw [xat_h (by decide)]
  show (if ¬ v < 0 then ((List.range 12).map (fun i => if i < n then some (tA b0 i 0) else none))[v.toNatClampNeg]? else none) = _
  rw [if_pos h0, rng_get h1]
theorem l_h1 {b0 n : Nat} {c m : xc} {wk : Nat → Int64} : xal b0 (hp b0 n c m wk) (hA b0 1) = some 12 := by
  unfold xal
  rw [xat_h (by decide)]
  show some ((List.range 12).map (fun i => if i < n then some (tA b0 i 0) else none)).length = _
  simp
theorem l_h2 {b0 n : Nat} {c m : xc} {wk : Nat → Int64} : xal b0 (hp b0 n c m wk) (hA b0 2) = some 12 := by
  unfold xal
  rw [xat_h (by decide)]
  show (if 0 = 0 then some ((List.range 12).map (c 9 0)).length else none) = _
  simp
