section XCALL
variable {p : Program} {l : Launch} {e : Env} {R : Room} {s : State} {m : MethodId} {args : Array Value} {below : List Frame} {meth : Method} {c : Code} {cc : ByteArray} {nL : Nat} {ret : Option FieldType} {own nm : String} {fr lo : Nat} {D : va_G} {cA : Nat → ClassId} {b0 : Nat} {hs : xH} {res : Option xV × xH} {Q : State → Prop}
variable {pc : Nat} {T kT kF : xK}
def oNew (b0 ci : Nat) (fs : List xV) (T : xK) (ls : List (Option xV)) (st : List xV) (h : xH) : xR :=
  T ls (.inr (.inr (some (b0 + h.length))) :: st) (h ++ [.inr (.inr (.inl (ci, fs)))])
theorem s_new {ci idx N : Nat} {Tb : u_T} {Cn : String} {fs : List xV} (hc : vwCl[ci]? = some (Cn, Tb, N)) (hin : ∀ w ∈ u_ws Cn Tb N, w ∈ xTB) (ty0 : Nat → FieldType) (hty : ∀ k, k < N → parseFieldDescriptor (Tb k).2.2.1 = some (ty0 k)) (hcl : Cond.classLink own idx Cn ∈ xTB) (hins : Cond.instantiable Cn N ∈ xTB) (hini : Cond.initialized Cn ∈ xTB) (hfs : ∀ j, j < N → defaultValue (ty0 j) = vp_V (fs.map xv) j) (hlen : fs.length = N) (hd : decode cc pc = .ok (.new idx, 3)) (K : xS p l e R s m args below meth c cc nL ret own nm fr lo D cA b0 hs res Q T (pc + 3)) : xS p l e R s m args below meth c cc nL ret own nm fr lo D cA b0 hs res Q (oNew b0 ci fs T) pc := by
  intro ls st h hT
  change T ls (.inr (.inr (some (b0 + h.length))) :: st) (h ++ [.inr (.inr (.inl (ci, fs)))]) = some res at hT
  obtain ⟨g1, g2⟩ := K _ _ _ hT
  have z1 : (h ++ [(.inr (.inr (.inl (ci, fs))) : xE)]).length = h.length + 1 := by simp
  have z2 : xsl (h ++ [(.inr (.inr (.inl (ci, fs))) : xE)]) = xsl h + N := by rw [xsl_push]; show xsl h + fs.length = _; rw [hlen]
  rw [z1, z2] at g1 g2
  refine ⟨⟨by omega, by omega⟩, fun C arr H locs a1 a2 a3 a4 => ?_⟩
  obtain ⟨hx, hb, hml, hown, hts, ⟨hK, hAO⟩, hb0, hR, hlk, hr, hnme, hfr, hlo⟩ := id C
  have r1 := hR.1
  have r2 := hR.2
  have hKn := hK.1 ci _ hc
  refine W.newcK hx hb hown (hts _ hcl) (hts _ hins) (hts _ hini) rfl hd (by omega) (by omega) hKn.2.1 a2.1 fun H1 kC hkC e1 z3 o1 => ?_
  have hk : ∀ (k : Nat) (x1 : Nat × va_E), (xW cA b0 h)[k]? = some x1 → H1[x1.1]? = H[x1.1]? := fun k x1 hx1 => o1 x1.1 (by rw [← a2.1]; exact (a2.2 k x1 hx1).lt)
  have hP1 : va_P D vwCl (xW cA b0 (h ++ [(.inr (.inr (.inl (ci, fs))) : xE)])) H1 := by
    rw [xW_push]
    refine (a2.2.kept hk).app (fun k x1 hx1 => ?_)
    have hz : k < 1 := (List.getElem?_eq_some_iff.mp hx1).1
    rw [show k = 0 by omega] at hx1
    cases hx1
    exact ⟨_, hc, (u_born ty0 hts hin hKn hkC e1 hty).to hfs⟩
  have hH := a2.1
  have hS0 := a3.1
  have hS1 : va_S (fun q => b0 ≤ q) s.heap H1 locs := ⟨by omega, fun x1 h1 h2 => (o1 x1 (by omega)).trans (a3.2.1 x1 h1 h2), a3.2.2⟩
  have hg := g2 C arr H1 locs a1 ⟨by rw [z3, z1]; omega, hP1⟩ hS1 ⟨by omega, by omega⟩
  rw [show h.length + 1 - hs.length = h.length - hs.length + 1 by omega, show xsl h + N - xsl hs = xsl h - xsl hs + N by omega] at hg
  exact hg
def oNewI (b0 : Nat) (T : xK) (ls : List (Option xV)) (st : List xV) (h : xH) : xR :=
  match st with
  | .inl n :: st => if ¬ n < 0 ∧ n.toNatClampNeg ≤ 10000 then T ls (.inr (.inr (some (b0 + h.length))) :: st) (h ++ [.inl (0, List.replicate n.toNatClampNeg 0)]) else none
  | _ => none
theorem s_newi (harr : Cond.arrayClass .int ∈ xTB) (hd : decode cc pc = .ok (.newarray .int, 2)) (K : xS p l e R s m args below meth c cc nL ret own nm fr lo D cA b0 hs res Q T (pc + 2)) : xS p l e R s m args below meth c cc nL ret own nm fr lo D cA b0 hs res Q (oNewI b0 T) pc := by
  intro ls st h hT
  obtain ⟨n, st', rfl, hU⟩ : ∃ n st', st = .inl n :: st' ∧ (if ¬ n < 0 ∧ n.toNatClampNeg ≤ 10000 then T ls (.inr (.inr (some (b0 + h.length))) :: st') (h ++ [.inl (0, List.replicate n.toNatClampNeg 0)]) else none) = some res := by
    unfold oNewI at hT
    split at hT
    · exact ⟨_, _, rfl, hT⟩
    · cases hT
  replace hT := hU
  by_cases hz : ¬ n < 0 ∧ n.toNatClampNeg ≤ 10000
  case neg => rw [if_neg hz] at hT; cases hT
  rw [if_pos hz] at hT
  obtain ⟨g1, g2⟩ := K _ _ _ hT
  have z1 : (h ++ [(.inl (0, List.replicate n.toNatClampNeg 0) : xE)]).length = h.length + 1 := by simp
  have z2 : xsl (h ++ [(.inl (0, List.replicate n.toNatClampNeg 0) : xE)]) = xsl h + n.toNatClampNeg := by rw [xsl_push]; simp [xsz]
  rw [z1, z2] at g1 g2
  refine ⟨⟨by omega, by omega⟩, fun C arr H locs a1 a2 a3 a4 => ?_⟩
  obtain ⟨hx, hb, hml, hown, hts, ⟨hK, hAO⟩, hb0, hR, hlk, hr, hnme, hfr, hlo⟩ := id C
  have r1 := hR.1
  have r2 := hR.2
  refine va_newaK (atype := .int) hx hb (hts _ harr) rfl hd rfl hz.1 rfl (by show n.toNatClampNeg * _ ≤ _; have := hz.2; simp [newarray.typeOf, componentBytes]; omega) (by omega) (by omega) a2.1 fun H1 cA1 e1 z3 o1 hAr hNm => ?_
  have hcA : cA1 = cA 0 := by
    have h9 := (hK.2 0 _ rfl).2
    exact Option.some.inj (hNm.symm.trans h9)
  subst hcA
  have hk : ∀ (k : Nat) (x1 : Nat × va_E), (xW cA b0 h)[k]? = some x1 → H1[x1.1]? = H[x1.1]? := fun k x1 hx1 => o1 x1.1 (by rw [← a2.1]; exact (a2.2 k x1 hx1).lt)
  have hP1 : va_P D vwCl (xW cA b0 (h ++ [(.inl (0, List.replicate n.toNatClampNeg 0) : xE)])) H1 := by
    rw [xW_push]
    refine (a2.2.kept hk).app (fun k x1 hx1 => ?_)
    have hz : k < 1 := (List.getElem?_eq_some_iff.mp hx1).1
    rw [show k = 0 by omega] at hx1
    cases hx1
    show H1[b0 + h.length]? = some (vp_cell _ _)
    rw [e1, vp_cell_i, List.length_replicate]
    congr 2
    funext j
    simp [List.getD, List.getElem?_replicate, newarray.typeOf, defaultValue]
    try (split <;> rfl)
  have hH := a2.1
  have hS0 := a3.1
  have hS1 : va_S (fun q => b0 ≤ q) s.heap H1 locs := ⟨by omega, fun x1 h1 h2 => (o1 x1 (by omega)).trans (a3.2.1 x1 h1 h2), a3.2.2⟩
  have hg := g2 C arr H1 locs a1 ⟨by rw [z3, z1]; omega, hP1⟩ hS1 ⟨by omega, by omega⟩
  rw [show h.length + 1 - hs.length = h.length - hs.length + 1 by omega, show xsl h + n.toNatClampNeg - xsl hs = xsl h - xsl hs + n.toNatClampNeg by omega] at hg
  exact hg
def oNewZ (b0 : Nat) (T : xK) (ls : List (Option xV)) (st : List xV) (h : xH) : xR :=
  match st with
  | .inl n :: st => if ¬ n < 0 ∧ n.toNatClampNeg ≤ 10000 then T ls (.inr (.inr (some (b0 + h.length))) :: st) (h ++ [.inl (1, List.replicate n.toNatClampNeg 0)]) else none
  | _ => none
theorem s_newz (harr : Cond.arrayClass .boolean ∈ xTB) (hd : decode cc pc = .ok (.newarray .boolean, 2)) (K : xS p l e R s m args below meth c cc nL ret own nm fr lo D cA b0 hs res Q T (pc + 2)) : xS p l e R s m args below meth c cc nL ret own nm fr lo D cA b0 hs res Q (oNewZ b0 T) pc := by
  intro ls st h hT
  obtain ⟨n, st', rfl, hU⟩ : ∃ n st', st = .inl n :: st' ∧ (if ¬ n < 0 ∧ n.toNatClampNeg ≤ 10000 then T ls (.inr (.inr (some (b0 + h.length))) :: st') (h ++ [.inl (1, List.replicate n.toNatClampNeg 0)]) else none) = some res := by
    unfold oNewZ at hT
    split at hT
    · exact ⟨_, _, rfl, hT⟩
    · cases hT
  replace hT := hU
  by_cases hz : ¬ n < 0 ∧ n.toNatClampNeg ≤ 10000
  case neg => rw [if_neg hz] at hT; cases hT
  rw [if_pos hz] at hT
  obtain ⟨g1, g2⟩ := K _ _ _ hT
  have z1 : (h ++ [(.inl (1, List.replicate n.toNatClampNeg 0) : xE)]).length = h.length + 1 := by simp
  have z2 : xsl (h ++ [(.inl (1, List.replicate n.toNatClampNeg 0) : xE)]) = xsl h + n.toNatClampNeg := by rw [xsl_push]; simp [xsz]
  rw [z1, z2] at g1 g2
  refine ⟨⟨by omega, by omega⟩, fun C arr H locs a1 a2 a3 a4 => ?_⟩
  obtain ⟨hx, hb, hml, hown, hts, ⟨hK, hAO⟩, hb0, hR, hlk, hr, hnme, hfr, hlo⟩ := id C
  have r1 := hR.1
  have r2 := hR.2
  refine va_newaK (atype := .boolean) hx hb (hts _ harr) rfl hd rfl hz.1 rfl (by show n.toNatClampNeg * _ ≤ _; have := hz.2; simp [newarray.typeOf, componentBytes]; omega) (by omega) (by omega) a2.1 fun H1 cA1 e1 z3 o1 hAr hNm => ?_
  have hcA : cA1 = cA 1 := by
    have h9 := (hK.2 1 _ rfl).2
    exact Option.some.inj (hNm.symm.trans h9)
  subst hcA
  have hk : ∀ (k : Nat) (x1 : Nat × va_E), (xW cA b0 h)[k]? = some x1 → H1[x1.1]? = H[x1.1]? := fun k x1 hx1 => o1 x1.1 (by rw [← a2.1]; exact (a2.2 k x1 hx1).lt)
  have hP1 : va_P D vwCl (xW cA b0 (h ++ [(.inl (1, List.replicate n.toNatClampNeg 0) : xE)])) H1 := by
    rw [xW_push]
    refine (a2.2.kept hk).app (fun k x1 hx1 => ?_)
    have hz : k < 1 := (List.getElem?_eq_some_iff.mp hx1).1
    rw [show k = 0 by omega] at hx1
    cases hx1
    show H1[b0 + h.length]? = some (vp_cell _ _)
    rw [e1, vp_cell_i, List.length_replicate]
    congr 2
    funext j
    simp [List.getD, List.getElem?_replicate, newarray.typeOf, defaultValue]
    try (split <;> rfl)
  have hH := a2.1
  have hS0 := a3.1
  have hS1 : va_S (fun q => b0 ≤ q) s.heap H1 locs := ⟨by omega, fun x1 h1 h2 => (o1 x1 (by omega)).trans (a3.2.1 x1 h1 h2), a3.2.2⟩
  have hg := g2 C arr H1 locs a1 ⟨by rw [z3, z1]; omega, hP1⟩ hS1 ⟨by omega, by omega⟩
  rw [show h.length + 1 - hs.length = h.length - hs.length + 1 by omega, show xsl h + n.toNatClampNeg - xsl hs = xsl h - xsl hs + n.toNatClampNeg by omega] at hg
  exact hg
def oNewJ (b0 : Nat) (T : xK) (ls : List (Option xV)) (st : List xV) (h : xH) : xR :=
  match st with
  | .inl n :: st => if ¬ n < 0 ∧ n.toNatClampNeg ≤ 10000 then T ls (.inr (.inr (some (b0 + h.length))) :: st) (h ++ [.inr (.inl (List.replicate n.toNatClampNeg 0))]) else none
  | _ => none
theorem s_newj (harr : Cond.arrayClass .long ∈ xTB) (hd : decode cc pc = .ok (.newarray .long, 2)) (K : xS p l e R s m args below meth c cc nL ret own nm fr lo D cA b0 hs res Q T (pc + 2)) : xS p l e R s m args below meth c cc nL ret own nm fr lo D cA b0 hs res Q (oNewJ b0 T) pc := by
  intro ls st h hT
  obtain ⟨n, st', rfl, hU⟩ : ∃ n st', st = .inl n :: st' ∧ (if ¬ n < 0 ∧ n.toNatClampNeg ≤ 10000 then T ls (.inr (.inr (some (b0 + h.length))) :: st') (h ++ [.inr (.inl (List.replicate n.toNatClampNeg 0))]) else none) = some res := by
    unfold oNewJ at hT
    split at hT
    · exact ⟨_, _, rfl, hT⟩
    · cases hT
  replace hT := hU
  by_cases hz : ¬ n < 0 ∧ n.toNatClampNeg ≤ 10000
  case neg => rw [if_neg hz] at hT; cases hT
  rw [if_pos hz] at hT
  obtain ⟨g1, g2⟩ := K _ _ _ hT
  have z1 : (h ++ [(.inr (.inl (List.replicate n.toNatClampNeg 0)) : xE)]).length = h.length + 1 := by simp
  have z2 : xsl (h ++ [(.inr (.inl (List.replicate n.toNatClampNeg 0)) : xE)]) = xsl h + n.toNatClampNeg := by rw [xsl_push]; simp [xsz]
  rw [z1, z2] at g1 g2
  refine ⟨⟨by omega, by omega⟩, fun C arr H locs a1 a2 a3 a4 => ?_⟩
  obtain ⟨hx, hb, hml, hown, hts, ⟨hK, hAO⟩, hb0, hR, hlk, hr, hnme, hfr, hlo⟩ := id C
  have r1 := hR.1
  have r2 := hR.2
  refine va_newaK (atype := .long) hx hb (hts _ harr) rfl hd rfl hz.1 rfl (by show n.toNatClampNeg * _ ≤ _; have := hz.2; simp [newarray.typeOf, componentBytes]; omega) (by omega) (by omega) a2.1 fun H1 cA1 e1 z3 o1 hAr hNm => ?_
  have hcA : cA1 = cA 2 := by
    have h9 := (hK.2 2 _ rfl).2
    exact Option.some.inj (hNm.symm.trans h9)
  subst hcA
  have hk : ∀ (k : Nat) (x1 : Nat × va_E), (xW cA b0 h)[k]? = some x1 → H1[x1.1]? = H[x1.1]? := fun k x1 hx1 => o1 x1.1 (by rw [← a2.1]; exact (a2.2 k x1 hx1).lt)
  have hP1 : va_P D vwCl (xW cA b0 (h ++ [(.inr (.inl (List.replicate n.toNatClampNeg 0)) : xE)])) H1 := by
    rw [xW_push]
    refine (a2.2.kept hk).app (fun k x1 hx1 => ?_)
    have hz : k < 1 := (List.getElem?_eq_some_iff.mp hx1).1
    rw [show k = 0 by omega] at hx1
    cases hx1
    show H1[b0 + h.length]? = some (vp_cell _ _)
    rw [e1, vp_cell_l, List.length_replicate]
    congr 2
    funext j
    simp [List.getD, List.getElem?_replicate, newarray.typeOf, defaultValue]
    try (split <;> rfl)
  have hH := a2.1
  have hS0 := a3.1
  have hS1 : va_S (fun q => b0 ≤ q) s.heap H1 locs := ⟨by omega, fun x1 h1 h2 => (o1 x1 (by omega)).trans (a3.2.1 x1 h1 h2), a3.2.2⟩
  have hg := g2 C arr H1 locs a1 ⟨by rw [z3, z1]; omega, hP1⟩ hS1 ⟨by omega, by omega⟩
  rw [show h.length + 1 - hs.length = h.length - hs.length + 1 by omega, show xsl h + n.toNatClampNeg - xsl hs = xsl h - xsl hs + n.toNatClampNeg by omega] at hg
  exact hg
def oNewQ (b0 : Nat) (T : xK) (ls : List (Option xV)) (st : List xV) (h : xH) : xR :=
  match st with
  | .inl n :: st => if ¬ n < 0 ∧ n.toNatClampNeg ≤ 10000 then T ls (.inr (.inr (some (b0 + h.length))) :: st) (h ++ [.inr (.inr (.inr (List.replicate n.toNatClampNeg none)))]) else none
  | _ => none
theorem s_newq {idx : Nat} (hcl : Cond.classLink own idx RX5 ∈ xTB) (hd : decode cc pc = .ok (.anewarray idx, 3)) (K : xS p l e R s m args below meth c cc nL ret own nm fr lo D cA b0 hs res Q T (pc + 3)) : xS p l e R s m args below meth c cc nL ret own nm fr lo D cA b0 hs res Q (oNewQ b0 T) pc := by
  intro ls st h hT
  obtain ⟨n, st', rfl, hU⟩ : ∃ n st', st = .inl n :: st' ∧ (if ¬ n < 0 ∧ n.toNatClampNeg ≤ 10000 then T ls (.inr (.inr (some (b0 + h.length))) :: st') (h ++ [.inr (.inr (.inr (List.replicate n.toNatClampNeg none)))]) else none) = some res := by
    unfold oNewQ at hT
    split at hT
    · exact ⟨_, _, rfl, hT⟩
    · cases hT
  replace hT := hU
  by_cases hz : ¬ n < 0 ∧ n.toNatClampNeg ≤ 10000
  case neg => rw [if_neg hz] at hT; cases hT
  rw [if_pos hz] at hT
  obtain ⟨g1, g2⟩ := K _ _ _ hT
  have z1 : (h ++ [(.inr (.inr (.inr (List.replicate n.toNatClampNeg none))) : xE)]).length = h.length + 1 := by simp
  have z2 : xsl (h ++ [(.inr (.inr (.inr (List.replicate n.toNatClampNeg none))) : xE)]) = xsl h + n.toNatClampNeg := by rw [xsl_push]; simp [xsz]
  rw [z1, z2] at g1 g2
  refine ⟨⟨by omega, by omega⟩, fun C arr H locs a1 a2 a3 a4 => ?_⟩
  obtain ⟨hx, hb, hml, hown, hts, ⟨hK, hAO⟩, hb0, hR, hlk, hr, hnme, hfr, hlo⟩ := id C
  have r1 := hR.1
  have r2 := hR.2
  refine W.anew hx hb hown (hts _ hcl) (va_AO.use hAO) rfl hd rfl hz.1 (by have := hz.2; omega) (by omega) (by omega) fun cA1 kA comp f1 f2 f3 f4 => ?_
  have hcA : cA1 = cA 3 := by
    obtain ⟨_, _, _, _, _, h9⟩ := (hK.2 3 (cA 3, .object RX5) rfl).2
    exact Option.some.inj (f1.symm.trans h9)
  subst hcA
  generalize hH1 : H.push ({ cls := cA 3, slots := Array.replicate n.toNatClampNeg .null, vm := .none } : Cell) = H1
  have z3 : H1.size = H.size + 1 := by rw [← hH1, Array.size_push]
  have e1 : H1[H.size]? = some (arrV (cA 3) n.toNatClampNeg (fun _ => .null)) := by rw [← hH1, Array.getElem?_push_size, ← arrV_new]
  have o1 : ∀ q : Nat, q < H.size → H1[q]? = H[q]? := fun q hq => by rw [← hH1, Array.getElem?_push, if_neg (Nat.ne_of_lt hq)]
  have hk : ∀ (k : Nat) (x1 : Nat × va_E), (xW cA b0 h)[k]? = some x1 → H1[x1.1]? = H[x1.1]? := fun k x1 hx1 => o1 x1.1 ((a2.2 k x1 hx1).lt)
  have hH := a2.1
  rw [hH] at e1
  have hP1 : va_P D vwCl (xW cA b0 (h ++ [(.inr (.inr (.inr (List.replicate n.toNatClampNeg none))) : xE)])) H1 := by
    rw [xW_push]
    refine (a2.2.kept hk).app (fun k x1 hx1 => ?_)
    have hz : k < 1 := (List.getElem?_eq_some_iff.mp hx1).1
    rw [show k = 0 by omega] at hx1
    cases hx1
    show H1[b0 + h.length]? = some (vp_cell _ _)
    rw [e1, vp_cell_q, List.length_replicate]
    congr 2
    funext j
    simp [List.getD, List.getElem?_replicate]
    try (split <;> rfl)
  have hS0 := a3.1
  have hS1 : va_S (fun q => b0 ≤ q) s.heap H1 locs := ⟨by omega, fun x1 h1 h2 => (o1 x1 (by omega)).trans (a3.2.1 x1 h1 h2), a3.2.2⟩
  have hg := g2 C arr H1 locs a1 ⟨by rw [z3, z1]; omega, hP1⟩ hS1 ⟨by omega, by omega⟩
  rw [show h.length + 1 - hs.length = h.length - hs.length + 1 by omega, show xsl h + n.toNatClampNeg - xsl hs = xsl h - xsl hs + n.toNatClampNeg by omega] at hg
  rw [hH]
  exact hg
end XCALL

def xQ (D : va_G) (cA : Nat → ClassId) (b0 : Nat) (res : Option xV × xH) : Array Value → State → Outcome → State → Prop := fun _ st o t => o = .returned (res.1.map xv) ∧ xRel D cA b0 res.2 t.heap ∧ va_F (fun q => b0 ≤ q) st t
def xPc (D : va_G) (cA : Nat → ClassId) (b0 : Nat) (as : List xV) (h : xH) : Array Value → State → Prop := va_Pc (as.map xv) (fun U => xRel D cA b0 h U.heap ∧ va_K D vwCl (xT cA) U ∧ va_AO RX5 U)
/-- a method's contract: f is the method in the small machine -/
def xMet (l : Launch) (D : va_G) (cA : Nat → ClassId) (b0 : Nat) (y : MethodName) (ws : List Cond) (fr lo : Nat) (f : List xV → xH → xR) : Prop :=
  ∀ (as : List xV) (h : xH) (res : Option xV × xH), f as h = some res → (∀ (_ : Program) (_ : Env) (_ : Code), h.length ≤ res.2.length ∧ xsl h ≤ xsl res.2) ∧
    Met l y ws { frames := fr, cells := res.2.length - h.length, slots := xsl res.2 - xsl h, locals := lo } (xPc D cA b0 as h) (xQ D cA b0 res) (res.2.length - h.length) (xsl res.2 - xsl h) (fun q => b0 ≤ q)
theorem xPc_blind (D : va_G) (cA : Nat → ClassId) (b0 : Nat) (as : List xV) (h : xH) : FrameBlind (xPc D cA b0 as h) := fun a U g mk q => ⟨q.1, q.2.1, va_K.moved (u := U) (U := U.calling g mk a) (Vm.Alike.refl U.vm) q.2.2.1, va_AO.moved (u := U) (U := U.calling g mk a) (Vm.Alike.refl U.vm) q.2.2.2⟩
def xMQ (D : va_G) (cA : Nat → ClassId) (b0 : Nat) (below : List Frame) (args : Array Value) (s : State) (hs : xH) (res : Option xV × xH) : State → Prop := MQ below (xQ D cA b0 res) args s (res.2.length - hs.length) (xsl res.2 - xsl hs) (fun q => b0 ≤ q)

section XRUN
variable {p : Program} {l : Launch} {e : Env} {R : Room} {s : State} {m : MethodId} {args : Array Value} {below : List Frame} {meth : Method} {c : Code} {cc : ByteArray} {nL : Nat} {ret : Option FieldType} {own nm : String} {fr lo : Nat} {D : va_G} {cA : Nat → ClassId} {b0 : Nat} {hs : xH} {res : Option xV × xH} {Q : State → Prop}
variable {pc : Nat} {T kT kF : xK}
theorem x_ret {H : Heap} {locs : List Loc} {cells slots mc ms : Nat} {r1 : Option xV × xH} {rest : List xV} {arr : Array Slot} {stv : List Value} {av : Array Value} (hr : va_Run p l e R s m args below meth c H locs cells slots mc ms (F0 m pc arr stv) (rest.map xv) (xQ D cA b0 r1 av) (fun q => b0 ≤ q)) (a3 : va_S (fun q => b0 ≤ q) s.heap H locs)
    (kk : ∀ (H1 : Heap) (locs1 : List Loc), xRel D cA b0 r1.2 H1 → va_S (fun q => b0 ≤ q) s.heap H1 locs1 → W p l e R s m args below meth c H1 locs1 (cells + mc) (slots + ms) Q (F0 m (pc + 3) arr ((r1.1.toList ++ rest).map xv))) : W p l e R s m args below meth c H locs cells slots Q (F0 m pc arr stv) := by
  intro T0 hT0 X
  obtain ⟨v, st0, t, T1, L, h0, X1, hL, e1, e2, ⟨ho, hrel, hF⟩, go⟩ := hr T0 hT0 X
  injection ho with ho
  subst ho
  have hF1 := hF.1
  rw [h0] at hF1
  have hS1 : va_S (fun q => b0 ≤ q) s.heap t.heap (locs ++ L) := ⟨Nat.le_trans a3.1 hF1, fun q h1 h2 => (hF.2 q (by rw [h0]; exact Nat.lt_of_lt_of_le h1 a3.1) h2).trans (by rw [h0]; exact a3.2.1 q h1 h2), fun q hq => (List.mem_append.mp hq).elim (a3.2.2 q) (hL q)⟩
  obtain ⟨t2, b1, b2⟩ := kk t.heap (locs ++ L) hrel hS1 T1 e1 X1
  refine ⟨t2, go t2 ?_, b2⟩
  have e5 : (r1.1.toList ++ rest).map xv = (r1.1.map xv).toList ++ rest.map xv := by cases r1.1 <;> simp
  rw [e5] at b1
  exact b1
def oCallV (b0 n ci : Nat) (f : List xV → xH → xR) (T : xK) (ls : List (Option xV)) (st : List xV) (h : xH) : xR :=
  match st.drop n with
  | .inr (.inr (some a)) :: rest => if xis b0 h a ci = true ∧ rest.length ≤ 4 then (f (.inr (.inr (some a)) :: (st.take n).reverse) h).bind fun q => T ls (q.1.toList ++ rest) q.2 else none
  | _ => none
def oCallI (n : Nat) (f : List xV → xH → xR) (T : xK) (ls : List (Option xV)) (st : List xV) (h : xH) : xR :=
  match st.drop n with
  | .inr (.inr (some a)) :: rest => if rest.length ≤ 4 then (f (.inr (.inr (some a)) :: (st.take n).reverse) h).bind fun q => T ls (q.1.toList ++ rest) q.2 else none
  | _ => none
def oCallS (n : Nat) (f : List xV → xH → xR) (T : xK) (ls : List (Option xV)) (st : List xV) (h : xH) : xR :=
  if n ≤ st.length ∧ (st.drop n).length ≤ 4 then (f (st.take n).reverse h).bind fun q => T ls (q.1.toList ++ st.drop n) q.2 else none
theorem s_callV {n idx fr1 lo1 maxL : Nat} {y : MethodName} {bytes : ByteArray} {rt : Option FieldType} {f : List xV → xH → xR} {ci N : Nat} {Tb : u_T} {Cn : String} (hM : xMet l D cA b0 y (.code y bytes maxL rt :: xTB) fr1 lo1 f) (hc : vwCl[ci]? = some (Cn, Tb, N)) (h1 : Cond.methodLink own idx y ∈ xTB) (h2 : Cond.instanceMethod y ∈ xTB) (h3 : Cond.selects Cn y y ∈ xTB) (h4 : Cond.initialized Cn ∈ xTB) (h5 : Cond.code y bytes maxL rt ∈ xTB) (hy : y.cls = Cn ∧ y.cls ≠ "java/lang/invoke/MethodHandle" ∧ y.cls ≠ "java/lang/invoke/VarHandle" ∧ (parseMethodDescriptor y.desc).map (fun d => d.parameters.length) = some n) (hfl : fr1 + 1 ≤ fr ∧ 8 + (maxL + 11) + lo1 ≤ lo) (hd : decode cc pc = .ok (.invokevirtual idx, 3)) (K : xS p l e R s m args below meth c cc nL ret own nm fr lo D cA b0 hs res Q T (pc + 3)) : xS p l e R s m args below meth c cc nL ret own nm fr lo D cA b0 hs res Q (oCallV b0 n ci f T) pc := by
  intro ls st h hT
  obtain ⟨a, rest, hdr, hz, r1, hf, hU⟩ : ∃ a rest, st.drop n = .inr (.inr (some a)) :: rest ∧ (xis b0 h a ci = true ∧ rest.length ≤ 4) ∧ ∃ r1, f (.inr (.inr (some a)) :: (st.take n).reverse) h = some r1 ∧ T ls (r1.1.toList ++ rest) r1.2 = some res := by
    unfold oCallV at hT
    split at hT
    · rename_i a rest hdr
      by_cases hz : xis b0 h a ci = true ∧ rest.length ≤ 4
      · rw [if_pos hz] at hT
        obtain ⟨r1, hf, hU⟩ := Option.bind_eq_some_iff.mp hT
        exact ⟨a, rest, hdr, hz, r1, hf, hU⟩
      · rw [if_neg hz] at hT; cases hT
    · cases hT
  obtain ⟨g1, g2⟩ := K _ _ _ hU
  obtain ⟨m1, hMet⟩ := hM _ _ _ hf
  have m1 := m1 p e c
  obtain ⟨q, fs, rfl, hq⟩ := xis_inv hz.1
  refine ⟨⟨by omega, by omega⟩, fun C arr H locs a1 a2 a3 a4 => ?_⟩
  obtain ⟨hx, hb, hml, hown, hts, ⟨hK, hAO⟩, hb0, hR, hlk, hr, hnme, hfr, hlo⟩ := id C
  have r1' := hR.1
  have r2' := hR.2
  have hlen : (st.take n).length = n := by
    have := congrArg List.length hdr
    simp only [List.length_drop, List.length_cons] at this
    rw [List.length_take]
    omega
  have hmap : st.map xv = ((st.take n).reverse.map xv).reverse ++ .ref (b0 + q) :: rest.map xv := by
    conv => lhs; rw [← List.take_append_drop n st, hdr]
    simp [xv, va_rf]
  rw [hmap]
  refine x_ret (r1 := r1) (rest := rest) (va_runV (As := (st.take n).reverse.map xv) (rest := rest.map xv) ⟨hx, hb, hml, hown, hts⟩ hMet (cwV n hts (xgood (fun w hw => ?_)) rfl rfl rfl hy ⟨by show fr1 + 1 ≤ _; omega, by show 8 + (maxL + 11) + lo1 ≤ _; omega⟩) ⟨xPc_blind D cA b0 _ h, va_recv hK a2.2 hc (xW_at hq), fun U hU hW => ⟨rfl, by rw [hU]; exact a2, va_K.moved hW.alike hK, va_AO.moved hW.alike hAO⟩⟩ rfl (by rw [List.length_map, List.length_reverse, hlen]) a1.1 rfl (lv_room (Nat.le_trans (xcats rest) (by omega))) hd ⟨by omega, by omega⟩) a3 (fun H1 locs1 b2 b3 => ?_)
  · unfold wsV at hw
    rcases List.mem_append.mp hw with hw | hw
    · simp only [List.mem_cons, List.not_mem_nil, or_false] at hw
      rcases hw with rfl | rfl | rfl | rfl <;> assumption
    · rcases List.mem_cons.mp hw with rfl | hw <;> assumption
  · have hg := g2 C arr H1 locs1 a1 b2 b3 ⟨by omega, by omega⟩
    rw [show r1.2.length - hs.length = h.length - hs.length + (r1.2.length - h.length) by omega, show xsl r1.2 - xsl hs = xsl h - xsl hs + (xsl r1.2 - xsl h) by omega] at hg
    exact hg
theorem s_callI {n idx fr1 lo1 maxL : Nat} {y : MethodName} {bytes : ByteArray} {f : List xV → xH → xR} (hM : xMet l D cA b0 y (.code y bytes maxL none :: xTB) fr1 lo1 f) (h1 : Cond.methodLink own idx y ∈ xTB) (h2 : Cond.instanceMethod y ∈ xTB) (h4 : Cond.initialized y.cls ∈ xTB) (h5 : Cond.code y bytes maxL none ∈ xTB) (hy1 : y.name = "<init>") (hy : y.cls ≠ "java/lang/invoke/MethodHandle" ∧ y.cls ≠ "java/lang/invoke/VarHandle" ∧ (parseMethodDescriptor y.desc).map (fun d => d.parameters.length) = some n) (hfl : fr1 + 1 ≤ fr ∧ 8 + (maxL + 11) + lo1 ≤ lo) (hd : decode cc pc = .ok (.invokespecial idx, 3)) (K : xS p l e R s m args below meth c cc nL ret own nm fr lo D cA b0 hs res Q T (pc + 3)) : xS p l e R s m args below meth c cc nL ret own nm fr lo D cA b0 hs res Q (oCallI n f T) pc := by
  intro ls st h hT
  obtain ⟨a, rest, hdr, hz, r1, hf, hU⟩ : ∃ a rest, st.drop n = .inr (.inr (some a)) :: rest ∧ (rest.length ≤ 4) ∧ ∃ r1, f (.inr (.inr (some a)) :: (st.take n).reverse) h = some r1 ∧ T ls (r1.1.toList ++ rest) r1.2 = some res := by
    unfold oCallI at hT
    split at hT
    · rename_i a rest hdr
      by_cases hz : rest.length ≤ 4
      · rw [if_pos hz] at hT
        obtain ⟨r1, hf, hU⟩ := Option.bind_eq_some_iff.mp hT
        exact ⟨a, rest, hdr, hz, r1, hf, hU⟩
      · rw [if_neg hz] at hT; cases hT
    · cases hT
  obtain ⟨g1, g2⟩ := K _ _ _ hU
  obtain ⟨m1, hMet⟩ := hM _ _ _ hf
  have m1 := m1 p e c
  refine ⟨⟨by omega, by omega⟩, fun C arr H locs a1 a2 a3 a4 => ?_⟩
  obtain ⟨hx, hb, hml, hown, hts, ⟨hK, hAO⟩, hb0, hR, hlk, hr, hnme, hfr, hlo⟩ := id C
  have r1' := hR.1
  have r2' := hR.2
  have hlen : (st.take n).length = n := by
    have := congrArg List.length hdr
    simp only [List.length_drop, List.length_cons] at this
    rw [List.length_take]
    omega
  have hmap : st.map xv = ((st.take n).reverse.map xv).reverse ++ .ref a :: rest.map xv := by
    conv => lhs; rw [← List.take_append_drop n st, hdr]
    simp [xv, va_rf]
  rw [hmap]
  refine x_ret (r1 := r1) (rest := rest) (va_runI (As := (st.take n).reverse.map xv) (rest := rest.map xv) ⟨hx, hb, hml, hown, hts⟩ hMet (cwI n hts (xgood (fun w hw => ?_)) rfl rfl rfl (hts _ h4) (hts _ h1) (hts _ h2) hy1 hy ⟨by show fr1 + 1 ≤ _; omega, by show 8 + (maxL + 11) + lo1 ≤ _; omega⟩) ⟨xPc_blind D cA b0 _ h, fun U hU hW => ⟨rfl, by rw [hU]; exact a2, va_K.moved hW.alike hK, va_AO.moved hW.alike hAO⟩⟩ rfl (by rw [List.length_map, List.length_reverse, hlen]) a1.1 rfl (lv_room (Nat.le_trans (xcats rest) (by omega))) hd ⟨by omega, by omega⟩) a3 (fun H1 locs1 b2 b3 => ?_)
  · rcases List.mem_cons.mp hw with rfl | hw <;> assumption
  · have hg := g2 C arr H1 locs1 a1 b2 b3 ⟨by omega, by omega⟩
    rw [show r1.2.length - hs.length = h.length - hs.length + (r1.2.length - h.length) by omega, show xsl r1.2 - xsl hs = xsl h - xsl hs + (xsl r1.2 - xsl h) by omega] at hg
    exact hg
theorem s_callS {n idx fr1 lo1 maxL : Nat} {y : MethodName} {bytes : ByteArray} {rt : Option FieldType} {f : List xV → xH → xR} (hM : xMet l D cA b0 y (.code y bytes maxL rt :: xTB) fr1 lo1 f) (h1 : Cond.methodLink own idx y ∈ xTB) (h2 : Cond.static y ∈ xTB) (h4 : Cond.initialized own ∈ xTB) (h5 : Cond.code y bytes maxL rt ∈ xTB) (hy : y.cls = own ∧ y.cls ≠ "java/lang/invoke/MethodHandle" ∧ y.cls ≠ "java/lang/invoke/VarHandle" ∧ (parseMethodDescriptor y.desc).map (fun d => d.parameters.length) = some n) (hfl : fr1 + 1 ≤ fr ∧ 8 + (maxL + 11) + lo1 ≤ lo) (hd : decode cc pc = .ok (.invokestatic idx, 3)) (K : xS p l e R s m args below meth c cc nL ret own nm fr lo D cA b0 hs res Q T (pc + 3)) : xS p l e R s m args below meth c cc nL ret own nm fr lo D cA b0 hs res Q (oCallS n f T) pc := by
  intro ls st h hT
  obtain ⟨hz, r1, hf, hU⟩ : (n ≤ st.length ∧ (st.drop n).length ≤ 4) ∧ ∃ r1, f (st.take n).reverse h = some r1 ∧ T ls (r1.1.toList ++ st.drop n) r1.2 = some res := by
    unfold oCallS at hT
    by_cases hz : n ≤ st.length ∧ (st.drop n).length ≤ 4
    · rw [if_pos hz] at hT
      obtain ⟨r1, hf, hU⟩ := Option.bind_eq_some_iff.mp hT
      exact ⟨hz, r1, hf, hU⟩
    · rw [if_neg hz] at hT; cases hT
  obtain ⟨g1, g2⟩ := K _ _ _ hU
  obtain ⟨m1, hMet⟩ := hM _ _ _ hf
  have m1 := m1 p e c
  refine ⟨⟨by omega, by omega⟩, fun C arr H locs a1 a2 a3 a4 => ?_⟩
  obtain ⟨hx, hb, hml, hown, hts, ⟨hK, hAO⟩, hb0, hR, hlk, hr, hnme, hfr, hlo⟩ := id C
  have r1' := hR.1
  have r2' := hR.2
  have hlen : (st.take n).length = n := by
    rw [List.length_take]
    omega
  have hmap : st.map xv = ((st.take n).reverse.map xv).reverse ++ (st.drop n).map xv := by
    conv => lhs; rw [← List.take_append_drop n st]
    simp only [List.map_append, List.map_reverse, List.reverse_reverse]
  generalize st.drop n = rest at hz hU g2 hmap
  rw [hmap]
  refine x_ret (r1 := r1) (rest := rest) (va_runS (As := (st.take n).reverse.map xv) (rest := rest.map xv) ⟨hx, hb, hml, hown, hts⟩ hMet (cwS n hts (xgood (fun w hw => ?_)) rfl rfl rfl hy ⟨by show fr1 + 1 ≤ _; omega, by show 8 + (maxL + 11) + lo1 ≤ _; omega⟩) ⟨xPc_blind D cA b0 _ h, fun U hU hW => ⟨rfl, by rw [hU]; exact a2, va_K.moved hW.alike hK, va_AO.moved hW.alike hAO⟩⟩ rfl (by rw [List.length_map, List.length_reverse, hlen]) a1.1 rfl (lv_room (Nat.le_trans (xcats rest) (by omega))) hd ⟨by omega, by omega⟩) a3 (fun H1 locs1 b2 b3 => ?_)
  · unfold wsS at hw
    rcases List.mem_append.mp hw with hw | hw
    · simp only [List.mem_cons, List.not_mem_nil, or_false] at hw
      rcases hw with rfl | rfl | rfl <;> assumption
    · rcases List.mem_cons.mp hw with rfl | hw <;> assumption
  · have hg := g2 C arr H1 locs1 a1 b2 b3 ⟨by omega, by omega⟩
    rw [show r1.2.length - hs.length = h.length - hs.length + (r1.2.length - h.length) by omega, show xsl r1.2 - xsl hs = xsl h - xsl hs + (xsl r1.2 - xsl h) by omega] at hg
    exact hg
def oObj (T : xK) (ls : List (Option xV)) (st : List xV) (h : xH) : xR :=
  match st with
  | .inr (.inr (some _)) :: st => if st.length ≤ 4 then T ls st h else none
  | _ => none
theorem s_obj {idx : Nat} (h1 : Cond.methodLink own idx Lib.objectInit ∈ xTB) (h2 : Cond.instanceMethod Lib.objectInit ∈ xTB) (h3 : Cond.code Lib.objectInit ⟨#[0xb1]⟩ 1 none ∈ xTB) (hfl : 1 ≤ fr ∧ 20 ≤ lo) (hd : decode cc pc = .ok (.invokespecial idx, 3)) (K : xS p l e R s m args below meth c cc nL ret own nm fr lo D cA b0 hs res Q T (pc + 3)) : xS p l e R s m args below meth c cc nL ret own nm fr lo D cA b0 hs res Q (oObj T) pc := by
  intro ls st h hT
  obtain ⟨a, st', rfl, hU⟩ : ∃ a st', st = .inr (.inr (some a)) :: st' ∧ (if st'.length ≤ 4 then T ls st' h else none) = some res := by
    unfold oObj at hT
    split at hT
    · exact ⟨_, _, rfl, hT⟩
    · cases hT
  replace hT := hU
  by_cases hz : st'.length ≤ 4
  case neg => rw [if_neg hz] at hT; cases hT
  rw [if_pos hz] at hT
  obtain ⟨g1, g2⟩ := K _ _ _ hT
  refine ⟨g1, fun C arr H locs a1 a2 a3 a4 => ?_⟩
  obtain ⟨hx, hb, hml, hown, hts, ⟨hK, hAO⟩, hb0, hR, hlk, hr, hnme, hfr, hlo⟩ := id C
  have hcs := xcats st'
  refine W.objInit hx hb hown (hts _ h1) (hts _ h2) (hts _ h3) rfl (a1.1.trans hml.symm) rfl hd (by omega) ?_ (g2 C arr H locs a1 a2 a3 a4)
  show 2 * 0 + _ + 12 ≤ _
  omega
def oMin (T : xK) (ls : List (Option xV)) (st : List xV) (h : xH) : xR :=
  match st with
  | .inl y1 :: .inl x1 :: st => if st.length ≤ 4 then T ls (.inl (if y1 < x1 then y1 else x1) :: st) h else none
  | _ => none
theorem s_min {idx : Nat} (h1 : Cond.methodLink own idx Lib.Math.min.name ∈ xTB) (h2 : Cond.static Lib.Math.min.name ∈ xTB) (h3 : Cond.initialized "java/lang/Math" ∈ xTB) (h4 : Cond.code Lib.Math.min.name Lib.Math.min.code 2 (some .int) ∈ xTB) (hfl : 1 ≤ fr ∧ 21 ≤ lo) (hd : decode cc pc = .ok (.invokestatic idx, 3)) (K : xS p l e R s m args below meth c cc nL ret own nm fr lo D cA b0 hs res Q T (pc + 3)) : xS p l e R s m args below meth c cc nL ret own nm fr lo D cA b0 hs res Q (oMin T) pc := by
  intro ls st h hT
  obtain ⟨y1, x1, st', rfl, hU⟩ : ∃ y1 x1 st', st = .inl y1 :: .inl x1 :: st' ∧ (if st'.length ≤ 4 then T ls (.inl (if y1 < x1 then y1 else x1) :: st') h else none) = some res := by
    unfold oMin at hT
    split at hT
    · exact ⟨_, _, _, rfl, hT⟩
    · cases hT
  replace hT := hU
  by_cases hz : st'.length ≤ 4
  case neg => rw [if_neg hz] at hT; cases hT
  rw [if_pos hz] at hT
  obtain ⟨g1, g2⟩ := K _ _ _ hT
  refine ⟨g1, fun C arr H locs a1 a2 a3 a4 => ?_⟩
  obtain ⟨hx, hb, hml, hown, hts, ⟨hK, hAO⟩, hb0, hR, hlk, hr, hnme, hfr, hlo⟩ := id C
  have hcs := xcats st'
  have r1' := hR.1
  have r2' := hR.2
  exact va_mmin hx hb (hml.trans a1.1.symm) hown (hts _ h1) (hts _ h2) (hts _ h3) (hts _ h4) (by omega) (by omega) (by omega) (by omega) hd (g2 C arr H locs a1 a2 a3 a4)
def oRetV  (ls : List (Option xV)) (st : List xV) (h : xH) : xR :=
  match st with
  | [] => some (none, h)
  | _ => none
def oRetI  (ls : List (Option xV)) (st : List xV) (h : xH) : xR :=
  match st with
  | [.inl n] => some (some (.inl n), h)
  | _ => none
def oRetZ  (ls : List (Option xV)) (st : List xV) (h : xH) : xR :=
  match st with
  | [.inl n] => if n = 0 ∨ n = 1 then some (some (.inl n), h) else none
  | _ => none
def oRetR  (ls : List (Option xV)) (st : List xV) (h : xH) : xR :=
  match st with
  | [.inr (.inr n)] => some (some (.inr (.inr n)), h)
  | _ => none
theorem s_retV (hrt : ret = none) (hd : decode cc pc = .ok (.return_, 1)) : xS p l e R s m args below meth c cc nL ret own nm fr lo D cA b0 hs res (xMQ D cA b0 below args s hs res) oRetV pc := by
  intro ls st h hT
  unfold oRetV at hT
  split at hT
  case h_2 => cases hT
  cases hT
  refine ⟨⟨Nat.le_refl _, Nat.le_refl _⟩, fun C arr H locs a1 a2 a3 a4 => ?_⟩
  obtain ⟨hx, hb, hml, hown, hts, ⟨hK, hAO⟩, hb0, hR, hlk, hr, hnme, hfr, hlo⟩ := id C
  exact W.vret hx hb (hr.trans hrt) (fun t ht hW => ⟨rfl, by rw [ht]; exact a2, a3.F ht⟩) a3.2.2 hd hlk
theorem s_retI (hrt : ret = some .int) (hd : decode cc pc = .ok (.ireturn, 1)) : xS p l e R s m args below meth c cc nL ret own nm fr lo D cA b0 hs res (xMQ D cA b0 below args s hs res) oRetI pc := by
  intro ls st h hT
  unfold oRetI at hT
  split at hT
  case h_2 => cases hT
  cases hT
  refine ⟨⟨Nat.le_refl _, Nat.le_refl _⟩, fun C arr H locs a1 a2 a3 a4 => ?_⟩
  obtain ⟨hx, hb, hml, hown, hts, ⟨hK, hAO⟩, hb0, hR, hlk, hr, hnme, hfr, hlo⟩ := id C
  exact W.iret hx hb (hr.trans hrt) (fun t ht hW => ⟨rfl, by rw [ht]; exact a2, a3.F ht⟩) a3.2.2 hd hlk
theorem s_retZ (hrt : ret = some .boolean) (hd : decode cc pc = .ok (.ireturn, 1)) : xS p l e R s m args below meth c cc nL ret own nm fr lo D cA b0 hs res (xMQ D cA b0 below args s hs res) oRetZ pc := by
  intro ls st h hT
  unfold oRetZ at hT
  split at hT
  case h_2 => cases hT
  rename_i n
  by_cases hz : n = 0 ∨ n = 1
  case neg => rw [if_neg hz] at hT; cases hT
  rw [if_pos hz] at hT
  cases hT
  refine ⟨⟨Nat.le_refl _, Nat.le_refl _⟩, fun C arr H locs a1 a2 a3 a4 => ?_⟩
  obtain ⟨hx, hb, hml, hown, hts, ⟨hK, hAO⟩, hb0, hR, hlk, hr, hnme, hfr, hlo⟩ := id C
  exact W.zret hx hb (hr.trans hrt) (by rcases hz with rfl | rfl <;> rfl) (fun t ht hW => ⟨rfl, by rw [ht]; exact a2, a3.F ht⟩) a3.2.2 hd hlk
theorem s_retR {rt : FieldType} (hrt : ret = some rt) (hrt2 : (∃ n, rt = .object n) ∨ ∃ t, rt = .array t) (hd : decode cc pc = .ok (.areturn, 1)) : xS p l e R s m args below meth c cc nL ret own nm fr lo D cA b0 hs res (xMQ D cA b0 below args s hs res) oRetR pc := by
  intro ls st h hT
  unfold oRetR at hT
  split at hT
  case h_2 => cases hT
  rename_i n
  cases hT
  refine ⟨⟨Nat.le_refl _, Nat.le_refl _⟩, fun C arr H locs a1 a2 a3 a4 => ?_⟩
  obtain ⟨hx, hb, hml, hown, hts, ⟨hK, hAO⟩, hb0, hR, hlk, hr, hnme, hfr, hlo⟩ := id C
  exact W.aret hx hb (hr.trans hrt) hrt2 (by cases n with | none => exact Or.inl rfl | some a => exact Or.inr ⟨a, rfl⟩) (fun t ht hW => ⟨rfl, by rw [ht]; exact a2, a3.F ht⟩) a3.2.2 hd hlk
def xok (as : List xV) : Bool := as.all (fun v => match v with
  | .inr (.inl _) => false
  | _ => true)
def xfun (n nL : Nat) (T : xK) (as : List xV) (h : xH) : xR := if as.length = n ∧ xok as = true then T (as.map some ++ List.replicate (nL - n) none) [] h else none
theorem xok_cat {as : List xV} (h : xok as = true) {v : xV} (hv : v ∈ as) : (xv v).category = 1 := by
  have h1 := List.all_eq_true.mp h v hv
  rcases v with n | n | r
  · rfl
  · cases h1
  · exact xcat_r r
theorem xnth_get (ls : List (Option xV)) (i : Nat) : xnth ls i = (ls[i]?).bind id := by
  induction ls generalizing i with
  | nil => simp [xnth]
  | cons a t ih =>
    cases i with
    | zero => simp [xnth]
    | succ i => simp [xnth, ih]
theorem xL_entry {as : List xV} {n : Nat} (hn : as.length ≤ n) (hok : xok as = true) : xL ((lg_sl (as.map xv) ++ List.replicate (n - (lg_sl (as.map xv)).length) Slot.unset).toArray) n (as.map some ++ List.replicate (n - as.length) none) := by
  have e1 : lg_sl (as.map xv) = as.map (fun v => Slot.val (xv v)) := by
    induction as with
    | nil => rfl
    | cons a t ih =>
      have hc := xok_cat hok (v := a) List.mem_cons_self
      have ih := ih (by simp at hn ⊢; omega) (by simp [xok] at hok ⊢; exact hok.2)
      simp only [lg_sl, List.map_cons, List.flatMap_cons] at ih ⊢
      rw [ih, if_neg (by omega)]
      rfl
  have hh := lv_entry (as.map xv) (n := n) (by rw [e1]; simpa using hn)
  refine ⟨hh.1, hh.2.1, fun i v hv => ?_⟩
  rw [xnth_get] at hv
  have hi : i < as.length := by
    apply Classical.byContradiction
    intro hge
    rw [List.getElem?_append_right (by simp; omega), List.getElem?_replicate] at hv
    split at hv <;> cases hv
  rw [List.getElem?_append_left (by simpa using hi), List.getElem?_map, List.getElem?_eq_getElem hi] at hv
  have hv2 : as[i] = v := by simpa using hv
  refine ⟨?_, xok_cat hok (hv2 ▸ List.getElem_mem hi)⟩
  rw [List.getElem?_toArray, e1, List.getElem?_append_left (by simpa using hi), List.getElem?_map, List.getElem?_eq_getElem hi, hv2]
  rfl
theorem xMet_of {y : MethodName} {n : Nat} (hpl : plainName y.cls = true) (hn : n ≤ nL)
    (hS : ∀ (p : Program) (e : Env) (R : Room) (s : State) (m : MethodId) (args : Array Value) (below : List Frame) (meth : Method) (c : Code) (hs : xH) (res : Option xV × xH), xS p l e R s m args below meth c cc nL ret y.cls y.name fr lo D cA b0 hs res (xMQ D cA b0 below args s hs res) T 0) :
    xMet l D cA b0 y (.code y cc nL ret :: xTB) fr lo (xfun n nL T) := by
  intro as h res hf
  unfold xfun at hf
  split at hf
  case isFalse => cases hf
  rename_i hc
  obtain ⟨rfl, hok⟩ := hc
  refine ⟨fun p e c => (hS p e {} default default #[] [] default c h res _ _ _ hf).1, ?_⟩
  refine Met.ofW (cc := cc) (maxL := nL) (ret := ret) hpl rfl ?_
  intro p e s m args below meth c s1 B hml hv
  obtain ⟨rfl, hrel, hK⟩ := hv
  have hts := atoms_spec (ws := .code y cc nL ret :: xTB) B.pre
  have hown : s.vm.findClass y.cls = some m.cls := findClass_of_methodNamed B.named
  have hnm := (name_of_methodNamed B.named B.method).1
  obtain ⟨g1, g2⟩ := hS p e (headSpec (.code y cc nL ret :: xTB) { frames := fr, cells := res.2.length - h.length, slots := xsl res.2 - xsl h, locals := lo }).room s m (as.map xv).toArray below meth c h res _ _ _ hf
  have hC : xC p (headSpec (.code y cc nL ret :: xTB) { frames := fr, cells := res.2.length - h.length, slots := xsl res.2 - xsl h, locals := lo }).room s m (as.map xv).toArray meth c cc nL ret y.cls y.name fr lo D cA b0 h res :=
    ⟨B.exec, B.bytes, hml, hown, fun w hw => hts w (List.mem_cons_of_mem _ hw), hK, by rw [hrel.1]; omega, ⟨Nat.le_refl _, Nat.le_refl _⟩, B.notSynchronized, B.returns, hnm, Nat.le_refl _, Nat.le_refl _⟩
  have hg := g2 hC _ s.heap [] (xL_entry hn hok) hrel va_S.rf ⟨Nat.le_refl _, Nat.le_refl _⟩
  rw [lg_entry_eq]
  rw [Nat.sub_self, Nat.sub_self] at hg
  exact hg
end XRUN
