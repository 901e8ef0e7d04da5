theorem xat_k {b0 k : Nat} {h : xH} : xat b0 h (b0 + k) = h[k]? := by
  unfold xat
  rw [if_pos (by omega), show b0 + k - b0 = k by omega]
theorem xp_mid {b0 ci k : Nat} {fs : List xV} {pre arrs : xH} {v : xV} (hk : k < fs.length) : xp b0 (pre ++ .inr (.inr (.inl (ci, fs))) :: arrs) (b0 + pre.length) ci k v = some (pre ++ .inr (.inr (.inl (ci, fs.set k v))) :: arrs) := by
  have e1 : (pre ++ (.inr (.inr (.inl (ci, fs))) : xE) :: arrs)[pre.length]? = some (.inr (.inr (.inl (ci, fs)))) := by simp
  unfold xp
  rw [xat_k, e1]
  dsimp only
  rw [if_pos ⟨rfl, hk⟩, show b0 + pre.length - b0 = pre.length by omega, List.set_append_right _ _ (Nat.le_refl _), Nat.sub_self]
  rfl

theorem stA {b0 ci k : Nat} {fs : List xV} {pre arrs : xH} {lr : List (Option xV)} {T : xK} {N : Int32} (hk : k < fs.length) (hN : ¬ N < 0 ∧ N.toNatClampNeg ≤ 10000) : oALd 0 (oCst N (oNewI b0 (oPutR b0 ci k T))) (some (.inr (.inr (some (b0 + pre.length)))) :: lr) [] (pre ++ .inr (.inr (.inl (ci, fs))) :: arrs) = T (some (.inr (.inr (some (b0 + pre.length)))) :: lr) [] (pre ++ .inr (.inr (.inl (ci, fs.set k (.inr (.inr (some (b0 + (pre.length + (arrs.length + 1))))))))) :: (arrs ++ [.inl (0, List.replicate N.toNatClampNeg 0)])) := by
  have e := xp_mid (b0 := b0) (ci := ci) (k := k) (fs := fs) (pre := pre) (arrs := arrs ++ [.inl (0, List.replicate N.toNatClampNeg 0)]) (v := .inr (.inr (some (b0 + (pre.length + (arrs.length + 1)))))) hk
  simp only [oALd, xnth, oCst, oNewI]
  rw [if_pos hN]
  simp only [oPutR, List.append_assoc, List.cons_append, List.length_append, List.length_cons]
  rw [e]
  rfl
theorem stZ {b0 ci k : Nat} {fs : List xV} {pre arrs : xH} {lr : List (Option xV)} {T : xK} {N : Int32} (hk : k < fs.length) (hN : ¬ N < 0 ∧ N.toNatClampNeg ≤ 10000) : oALd 0 (oCst N (oNewZ b0 (oPutR b0 ci k T))) (some (.inr (.inr (some (b0 + pre.length)))) :: lr) [] (pre ++ .inr (.inr (.inl (ci, fs))) :: arrs) = T (some (.inr (.inr (some (b0 + pre.length)))) :: lr) [] (pre ++ .inr (.inr (.inl (ci, fs.set k (.inr (.inr (some (b0 + (pre.length + (arrs.length + 1))))))))) :: (arrs ++ [.inl (1, List.replicate N.toNatClampNeg 0)])) := by
  have e := xp_mid (b0 := b0) (ci := ci) (k := k) (fs := fs) (pre := pre) (arrs := arrs ++ [.inl (1, List.replicate N.toNatClampNeg 0)]) (v := .inr (.inr (some (b0 + (pre.length + (arrs.length + 1)))))) hk
  simp only [oALd, xnth, oCst, oNewZ]
  rw [if_pos hN]
  simp only [oPutR, List.append_assoc, List.cons_append, List.length_append, List.length_cons]
  rw [e]
  rfl
theorem stJ {b0 ci k : Nat} {fs : List xV} {pre arrs : xH} {lr : List (Option xV)} {T : xK} {N : Int32} (hk : k < fs.length) (hN : ¬ N < 0 ∧ N.toNatClampNeg ≤ 10000) : oALd 0 (oCst N (oNewJ b0 (oPutR b0 ci k T))) (some (.inr (.inr (some (b0 + pre.length)))) :: lr) [] (pre ++ .inr (.inr (.inl (ci, fs))) :: arrs) = T (some (.inr (.inr (some (b0 + pre.length)))) :: lr) [] (pre ++ .inr (.inr (.inl (ci, fs.set k (.inr (.inr (some (b0 + (pre.length + (arrs.length + 1))))))))) :: (arrs ++ [.inr (.inl (List.replicate N.toNatClampNeg 0))])) := by
  have e := xp_mid (b0 := b0) (ci := ci) (k := k) (fs := fs) (pre := pre) (arrs := arrs ++ [.inr (.inl (List.replicate N.toNatClampNeg 0))]) (v := .inr (.inr (some (b0 + (pre.length + (arrs.length + 1)))))) hk
  simp only [oALd, xnth, oCst, oNewJ]
  rw [if_pos hN]
  simp only [oPutR, List.append_assoc, List.cons_append, List.length_append, List.length_cons]
  rw [e]
  rfl
theorem stQ {b0 ci k : Nat} {fs : List xV} {pre arrs : xH} {lr : List (Option xV)} {T : xK} {N : Int32} (hk : k < fs.length) (hN : ¬ N < 0 ∧ N.toNatClampNeg ≤ 10000) : oALd 0 (oCst N (oNewQ b0 (oPutR b0 ci k T))) (some (.inr (.inr (some (b0 + pre.length)))) :: lr) [] (pre ++ .inr (.inr (.inl (ci, fs))) :: arrs) = T (some (.inr (.inr (some (b0 + pre.length)))) :: lr) [] (pre ++ .inr (.inr (.inl (ci, fs.set k (.inr (.inr (some (b0 + (pre.length + (arrs.length + 1))))))))) :: (arrs ++ [.inr (.inr (.inr (List.replicate N.toNatClampNeg none)))])) := by
  have e := xp_mid (b0 := b0) (ci := ci) (k := k) (fs := fs) (pre := pre) (arrs := arrs ++ [.inr (.inr (.inr (List.replicate N.toNatClampNeg none)))]) (v := .inr (.inr (some (b0 + (pre.length + (arrs.length + 1)))))) hk
  simp only [oALd, xnth, oCst, oNewQ]
  rw [if_pos hN]
  simp only [oPutR, List.append_assoc, List.cons_append, List.length_append, List.length_cons]
  rw [e]
  rfl
theorem stC {b0 ci k : Nat} {fs : List xV} {pre arrs : xH} {lr : List (Option xV)} {T : xK} {v : Int32} (hk : k < fs.length) : oALd 0 (oCst v (oPutI b0 ci k T)) (some (.inr (.inr (some (b0 + pre.length)))) :: lr) [] (pre ++ .inr (.inr (.inl (ci, fs))) :: arrs) = T (some (.inr (.inr (some (b0 + pre.length)))) :: lr) [] (pre ++ .inr (.inr (.inl (ci, fs.set k (.inl v)))) :: arrs) := by
  simp only [oALd, xnth, oCst, oPutI]
  rw [xp_mid hk]
  rfl
theorem stL {b0 ci k : Nat} {fs : List xV} {pre arrs : xH} {lr : List (Option xV)} {T : xK} {j : Nat} {v : Int32} (hj : xnth (some (.inr (.inr (some (b0 + pre.length)))) :: lr) j = some (.inl v)) (hk : k < fs.length) : oALd 0 (oILd j (oPutI b0 ci k T)) (some (.inr (.inr (some (b0 + pre.length)))) :: lr) [] (pre ++ .inr (.inr (.inl (ci, fs))) :: arrs) = T (some (.inr (.inr (some (b0 + pre.length)))) :: lr) [] (pre ++ .inr (.inr (.inl (ci, fs.set k (.inl v)))) :: arrs) := by
  simp only [oALd, xnth, oILd, hj, oPutI]
  rw [xp_mid hk]
  rfl
theorem stX {b0 ci : Nat} {fs : List xV} {pre arrs : xH} {lr : List (Option xV)} {T : xK} : oALd 0 (oObj T) (some (.inr (.inr (some (b0 + pre.length)))) :: lr) [] (pre ++ .inr (.inr (.inl (ci, fs))) :: arrs) = T (some (.inr (.inr (some (b0 + pre.length)))) :: lr) [] (pre ++ .inr (.inr (.inl (ci, fs))) :: arrs) := by
  simp [oALd, xnth, oObj]
theorem stR {pre : xH} {lr : List (Option xV)} : oRetV lr [] pre = some (none, pre) := rfl
theorem stO {b0 ci k : Nat} {fs : List xV} {pre arrs : xH} {lr : List (Option xV)} {T : xK} {cj : Nat} {f0 : List xV} {g : List xV → xH → xR} {nw : Nat → xH} (hg : ∀ P : xH, g [.inr (.inr (some (b0 + P.length)))] (P ++ [.inr (.inr (.inl (cj, f0)))]) = some (none, P ++ nw P.length)) (hk : k < fs.length) : oALd 0 (oNew b0 cj f0 (oDup (oCallI 0 g (oPutR b0 ci k T)))) (some (.inr (.inr (some (b0 + pre.length)))) :: lr) [] (pre ++ .inr (.inr (.inl (ci, fs))) :: arrs) = T (some (.inr (.inr (some (b0 + pre.length)))) :: lr) [] (pre ++ .inr (.inr (.inl (ci, fs.set k (.inr (.inr (some (b0 + (pre.length + (arrs.length + 1))))))))) :: (arrs ++ nw (pre.length + (arrs.length + 1)))) := by
  have e := xp_mid (b0 := b0) (ci := ci) (k := k) (fs := fs) (pre := pre) (arrs := arrs ++ nw (pre.length + (arrs.length + 1))) (v := .inr (.inr (some (b0 + (pre.length + (arrs.length + 1)))))) hk
  have hg1 := hg (pre ++ .inr (.inr (.inl (ci, fs))) :: arrs)
  simp only [oALd, xnth, oNew, oDup, oCallI, List.drop_zero, List.take_zero, List.reverse_nil]
  rw [if_pos (by simp), hg1]
  simp only [Option.bind_some, Option.toList_none, List.nil_append, oPutR, List.append_assoc, List.cons_append, List.length_append, List.length_cons]
  rw [e]
  rfl
theorem xfr {n nL : Nat} {T : xK} {as : List xV} {h : xH} (h1 : as.length = n ∧ xok as = true) : xfun n nL T as h = T (as.map some ++ List.replicate (nL - n) none) [] h := if_pos h1
def N0 (b0 q : Nat) : xH := [.inr (.inr (.inl (0, [.inr (.inr (some (b0 + (q + 1)))), .inr (.inr (some (b0 + (q + 2)))), .inr (.inr (some (b0 + (q + 3)))), .inl 0]))), .inl (0, List.replicate 16 0), .inl (0, List.replicate 16 0), .inl (0, List.replicate 16 0)]
def N1 (b0 q : Nat) : xH := [.inr (.inr (.inl (1, [.inr (.inr (some (b0 + (q + 1)))), .inl (-4)]))), .inl (0, List.replicate 3 0)]
def N2 (b0 q : Nat) : xH := [.inr (.inr (.inl (2, [.inr (.inr (some (b0 + (q + 1)))), .inl 0]))), .inl (0, List.replicate 6 0)]
def N4 (b0 q : Nat) : xH := [.inr (.inr (.inl (4, [.inr (.inr (some (b0 + (q + 1)))), .inl (-4)]))), .inl (0, List.replicate 40 0)]
def N3 (b0 q : Nat) : xH := .inr (.inr (.inl (3, [.inr (.inr (some (b0 + (q + 1)))), .inl 0, .inl 0]))) :: N4 b0 (q + 1)
def N5 (b0 q : Nat) (v1 v2 v3 : Int32) : xH := .inr (.inr (.inl (5, [.inl v1, .inl v2, .inl v3, .inr (.inr (some (b0 + (q + 1)))), .inr (.inr (some (b0 + (q + 5)))), .inr (.inr (some (b0 + (q + 7)))), .inr (.inr (some (b0 + (q + 9)))), .inr (.inr (some (b0 + (q + 11)))), .inl 0, .inl 0, .inl 0, .inl 0, .inl 0, .inl 0, .inl 0, .inl 0, .inl 0, .inl (-4), .inl 0]))) :: (N0 b0 (q + 1) ++ N2 b0 (q + 5) ++ N4 b0 (q + 7) ++ N1 b0 (q + 9) ++ N3 b0 (q + 11))
theorem i0 {b0 : Nat} (P : xH) : f_X0_init b0 [.inr (.inr (some (b0 + P.length)))] (P ++ [.inr (.inr (.inl (0, n_X0)))]) = some (none, P ++ N0 b0 P.length) := by
  rw [f_X0_init]
  refine Eq.trans (xfr (n := 1) ⟨rfl, rfl⟩) ?_
  change k_X0_init_0 b0 (some (.inr (.inr (some (b0 + P.length)))) :: []) [] _ = _
  rw [k_X0_init_0, stX, stA, stA, stA, stR]
  · simp [-List.reduceReplicate, n_X0, N0, show (3 : Int32).toNatClampNeg = 3 from rfl, show (6 : Int32).toNatClampNeg = 6 from rfl, show (12 : Int32).toNatClampNeg = 12 from rfl, show (16 : Int32).toNatClampNeg = 16 from rfl, show (36 : Int32).toNatClampNeg = 36 from rfl, show (40 : Int32).toNatClampNeg = 40 from rfl, show (72 : Int32).toNatClampNeg = 72 from rfl, show (192 : Int32).toNatClampNeg = 192 from rfl, show (1200 : Int32).toNatClampNeg = 1200 from rfl, Nat.add_assoc]
  all_goals first | decide | (simp [n_X0]; done)
theorem i1 {b0 : Nat} (P : xH) : f_X1_init b0 [.inr (.inr (some (b0 + P.length)))] (P ++ [.inr (.inr (.inl (1, n_X1)))]) = some (none, P ++ N1 b0 P.length) := by
  rw [f_X1_init]
  refine Eq.trans (xfr (n := 1) ⟨rfl, rfl⟩) ?_
  change k_X1_init_0 b0 (some (.inr (.inr (some (b0 + P.length)))) :: []) [] _ = _
  rw [k_X1_init_0, stX, stA, stC, stR]
  · simp [-List.reduceReplicate, n_X1, N1, show (3 : Int32).toNatClampNeg = 3 from rfl, show (6 : Int32).toNatClampNeg = 6 from rfl, show (12 : Int32).toNatClampNeg = 12 from rfl, show (16 : Int32).toNatClampNeg = 16 from rfl, show (36 : Int32).toNatClampNeg = 36 from rfl, show (40 : Int32).toNatClampNeg = 40 from rfl, show (72 : Int32).toNatClampNeg = 72 from rfl, show (192 : Int32).toNatClampNeg = 192 from rfl, show (1200 : Int32).toNatClampNeg = 1200 from rfl, Nat.add_assoc]
  all_goals first | decide | (simp [n_X1]; done)
theorem i2 {b0 : Nat} (P : xH) : f_X2_init b0 [.inr (.inr (some (b0 + P.length)))] (P ++ [.inr (.inr (.inl (2, n_X2)))]) = some (none, P ++ N2 b0 P.length) := by
  rw [f_X2_init]
  refine Eq.trans (xfr (n := 1) ⟨rfl, rfl⟩) ?_
  change k_X2_init_0 b0 (some (.inr (.inr (some (b0 + P.length)))) :: []) [] _ = _
  rw [k_X2_init_0, stX, stA, stR]
  · simp [-List.reduceReplicate, n_X2, N2, show (3 : Int32).toNatClampNeg = 3 from rfl, show (6 : Int32).toNatClampNeg = 6 from rfl, show (12 : Int32).toNatClampNeg = 12 from rfl, show (16 : Int32).toNatClampNeg = 16 from rfl, show (36 : Int32).toNatClampNeg = 36 from rfl, show (40 : Int32).toNatClampNeg = 40 from rfl, show (72 : Int32).toNatClampNeg = 72 from rfl, show (192 : Int32).toNatClampNeg = 192 from rfl, show (1200 : Int32).toNatClampNeg = 1200 from rfl, Nat.add_assoc]
  all_goals first | decide | (simp [n_X2]; done)
theorem i4 {b0 : Nat} (P : xH) : f_X4_init b0 [.inr (.inr (some (b0 + P.length)))] (P ++ [.inr (.inr (.inl (4, n_X4)))]) = some (none, P ++ N4 b0 P.length) := by
  rw [f_X4_init]
  refine Eq.trans (xfr (n := 1) ⟨rfl, rfl⟩) ?_
  change k_X4_init_0 b0 (some (.inr (.inr (some (b0 + P.length)))) :: []) [] _ = _
  rw [k_X4_init_0, stX, stA, stC, stR]
  · simp [-List.reduceReplicate, n_X4, N4, show (3 : Int32).toNatClampNeg = 3 from rfl, show (6 : Int32).toNatClampNeg = 6 from rfl, show (12 : Int32).toNatClampNeg = 12 from rfl, show (16 : Int32).toNatClampNeg = 16 from rfl, show (36 : Int32).toNatClampNeg = 36 from rfl, show (40 : Int32).toNatClampNeg = 40 from rfl, show (72 : Int32).toNatClampNeg = 72 from rfl, show (192 : Int32).toNatClampNeg = 192 from rfl, show (1200 : Int32).toNatClampNeg = 1200 from rfl, Nat.add_assoc]
  all_goals first | decide | (simp [n_X4]; done)
theorem i3 {b0 : Nat} (P : xH) : f_X3_init b0 [.inr (.inr (some (b0 + P.length)))] (P ++ [.inr (.inr (.inl (3, n_X3)))]) = some (none, P ++ N3 b0 P.length) := by
  rw [f_X3_init]
  refine Eq.trans (xfr (n := 1) ⟨rfl, rfl⟩) ?_
  change k_X3_init_0 b0 (some (.inr (.inr (some (b0 + P.length)))) :: []) [] _ = _
  rw [k_X3_init_0, stX, stO i4, stR]
  · simp [-List.reduceReplicate, n_X3, N3, show (3 : Int32).toNatClampNeg = 3 from rfl, show (6 : Int32).toNatClampNeg = 6 from rfl, show (12 : Int32).toNatClampNeg = 12 from rfl, show (16 : Int32).toNatClampNeg = 16 from rfl, show (36 : Int32).toNatClampNeg = 36 from rfl, show (40 : Int32).toNatClampNeg = 40 from rfl, show (72 : Int32).toNatClampNeg = 72 from rfl, show (192 : Int32).toNatClampNeg = 192 from rfl, show (1200 : Int32).toNatClampNeg = 1200 from rfl, Nat.add_assoc, N4]
  all_goals first | decide | (simp [n_X3]; done)
theorem i5 {b0 : Nat} {v1 v2 v3 : Int32} (P : xH) : f_X5_init b0 [.inr (.inr (some (b0 + P.length))), .inl v1, .inl v2, .inl v3] (P ++ [.inr (.inr (.inl (5, n_X5)))]) = some (none, P ++ N5 b0 P.length v1 v2 v3) := by
  rw [f_X5_init]
  refine Eq.trans (xfr (n := 4) ⟨rfl, rfl⟩) ?_
  change k_X5_init_0 b0 (some (.inr (.inr (some (b0 + P.length)))) :: [some (.inl v1), some (.inl v2), some (.inl v3)]) [] _ = _
  rw [k_X5_init_0, stX, stL (v := v1) rfl, stL (v := v2) rfl, stL (v := v3) rfl, stO i0, stO i2, stO i4, stO i1, stO i3, stC, stC, stC, stR]
  · simp [-List.reduceReplicate, n_X5, N5, N0, N1, N2, N3, N4, Nat.add_assoc]
  all_goals first | decide | (simp [n_X5]; done)
def N6 (b0 q : Nat) : xH := [.inr (.inr (.inl (6, [.inr (.inr (some (b0 + (q + 1)))), .inr (.inr (some (b0 + (q + 2)))), .inl 0, .inl 0, .inl 1, .inl 0, .inl 0, .inl 0, .inl 0, .inl 0]))), .inr (.inr (.inr (List.replicate 12 none))), .inl (0, List.replicate 12 0)]
theorem i6 {b0 : Nat} (P : xH) : f_X6_init b0 [.inr (.inr (some (b0 + P.length)))] (P ++ [.inr (.inr (.inl (6, n_X6)))]) = some (none, P ++ N6 b0 P.length) := by
  rw [f_X6_init]
  refine Eq.trans (xfr (n := 1) ⟨rfl, rfl⟩) ?_
  change k_X6_init_0 b0 (some (.inr (.inr (some (b0 + P.length)))) :: []) [] _ = _
  rw [k_X6_init_0, stX, stQ, stA, stC, stR]
  · simp [-List.reduceReplicate, n_X6, N6, show (3 : Int32).toNatClampNeg = 3 from rfl, show (6 : Int32).toNatClampNeg = 6 from rfl, show (12 : Int32).toNatClampNeg = 12 from rfl, show (16 : Int32).toNatClampNeg = 16 from rfl, show (36 : Int32).toNatClampNeg = 36 from rfl, show (40 : Int32).toNatClampNeg = 40 from rfl, show (72 : Int32).toNatClampNeg = 72 from rfl, show (192 : Int32).toNatClampNeg = 192 from rfl, show (1200 : Int32).toNatClampNeg = 1200 from rfl, Nat.add_assoc]
  all_goals first | decide | (simp [n_X6]; done)
def N7 (b0 q : Nat) : xH := [.inr (.inr (.inl (7, [.inl 0, .inr (.inr (some (b0 + (q + 1)))), .inr (.inr (some (b0 + (q + 2)))), .inr (.inr (some (b0 + (q + 3)))), .inr (.inr (some (b0 + (q + 4)))), .inr (.inr (some (b0 + (q + 5)))), .inr (.inr (some (b0 + (q + 6)))), .inr (.inr (some (b0 + (q + 7)))), .inr (.inr (some (b0 + (q + 8)))), .inr (.inr (some (b0 + (q + 9)))), .inr (.inr (some (b0 + (q + 10)))), .inr (.inr (some (b0 + (q + 11)))), .inr (.inr (some (b0 + (q + 12)))), .inr (.inr (some (b0 + (q + 13)))), .inr (.inr (some (b0 + (q + 14)))), .inr (.inr (some (b0 + (q + 15)))), .inr (.inr (some (b0 + (q + 16)))), .inr (.inr (some (b0 + (q + 17)))), .inr (.inr (some (b0 + (q + 18)))), .inr (.inr (some (b0 + (q + 19)))), .inr (.inr (some (b0 + (q + 20)))), .inr (.inr (some (b0 + (q + 21)))), .inr (.inr (some (b0 + (q + 22)))), .inr (.inr (some (b0 + (q + 23)))), .inr (.inr (some (b0 + (q + 24)))), .inr (.inr (some (b0 + (q + 25)))), .inr (.inr (some (b0 + (q + 26)))), .inr (.inr (some (b0 + (q + 27)))), .inr (.inr (some (b0 + (q + 28)))), .inl 0, .inl 1, .inl 0, .inl 0, .inl 0, .inl 0, .inl 0, .inl 0, .inl 0]))), .inl (0, List.replicate 12 0), .inl (0, List.replicate 12 0), .inl (0, List.replicate 12 0), .inl (0, List.replicate 12 0), .inl (0, List.replicate 12 0), .inl (0, List.replicate 192 0), .inl (0, List.replicate 192 0), .inl (0, List.replicate 192 0), .inl (0, List.replicate 12 0), .inl (0, List.replicate 12 0), .inl (0, List.replicate 12 0), .inl (0, List.replicate 1200 0), .inl (0, List.replicate 12 0), .inl (0, List.replicate 12 0), .inl (0, List.replicate 12 0), .inl (0, List.replicate 1200 0), .inl (0, List.replicate 12 0), .inl (0, List.replicate 36 0), .inl (0, List.replicate 12 0), .inl (0, List.replicate 72 0), .inr (.inl (List.replicate 12 0)), .inl (0, List.replicate 12 0), .inl (0, List.replicate 12 0), .inl (0, List.replicate 12 0), .inl (0, List.replicate 12 0), .inl (1, List.replicate 12 0), .inl (1, List.replicate 12 0), .inl (0, List.replicate 12 0)]
set_option maxRecDepth 100000 in
set_option maxHeartbeats 8000000 in
theorem i7 {b0 : Nat} (P : xH) : f_X7_init b0 [.inr (.inr (some (b0 + P.length)))] (P ++ [.inr (.inr (.inl (7, n_X7)))]) = some (none, P ++ N7 b0 P.length) := by
  rw [f_X7_init]
  refine Eq.trans (xfr (n := 1) ⟨rfl, rfl⟩) ?_
  change k_X7_init_0 b0 (some (.inr (.inr (some (b0 + P.length)))) :: []) [] _ = _
  rw [k_X7_init_0, stX, stA, stA, stA, stA, stA, stA, stA, stA, stA, stA, stA, stA, stA, stA, stA, stA, stA, stA, stA, stA, stJ, stA, stA, stA, stA, stZ, stZ, stA, stC, stC, stR]
  · simp (maxSteps := 2000000) [-List.reduceReplicate, n_X7, N7, show (3 : Int32).toNatClampNeg = 3 from rfl, show (6 : Int32).toNatClampNeg = 6 from rfl, show (12 : Int32).toNatClampNeg = 12 from rfl, show (16 : Int32).toNatClampNeg = 16 from rfl, show (36 : Int32).toNatClampNeg = 36 from rfl, show (40 : Int32).toNatClampNeg = 40 from rfl, show (72 : Int32).toNatClampNeg = 72 from rfl, show (192 : Int32).toNatClampNeg = 192 from rfl, show (1200 : Int32).toNatClampNeg = 1200 from rfl, Nat.add_assoc]
  all_goals first | decide | (simp [n_X7]; done)
