section XHEAP
variable {p : Program} {l : Launch} {e : Env} {R : Room} {s : State} {m : MethodId} {args : Array Value} {below : List Frame} {meth : Method} {c : Code} {cc : ByteArray} {nL : Nat} {ret : Option FieldType} {own nm : String} {fr lo : Nat} {D : va_G} {cA : Nat → ClassId} {b0 : Nat} {hs : xH} {res : Option xV × xH} {Q : State → Prop}
variable {pc : Nat} {T kT kF : xK}
theorem x_upd {H0 : Heap} {h : xH} {q k : Nat} {e0 e1 : xE} {H H1 : Heap} {locs : List Loc} (a2 : xRel D cA b0 h H) (a3 : va_S (fun q => b0 ≤ q) H0 H locs) (h1 : h[q]? = some e0) (he : va_at D vwCl (b0 + q, xe cA e1) H1) (z : H1.size = H.size) (oq : ∀ r, r ≠ b0 + q → H1[r]? = H[r]?) : xRel D cA b0 (h.set q e1) H1 ∧ va_S (fun q => b0 ≤ q) H0 H1 (locs ++ [⟨b0 + q, k⟩]) := by
  refine ⟨⟨by rw [z, a2.1, List.length_set], ?_⟩, a3.put z oq (by show b0 ≤ b0 + q; omega)⟩
  rw [← xW_set]
  exact a2.2.set (xW_D cA b0 h) (xW_at h1) he oq
theorem x_getD {α : Type} {xs : List α} {k j : Nat} {n d : α} (hk : k < xs.length) : (xs.set k n).getD j d = if j = k then n else xs.getD j d := by
  by_cases hj : j = k
  · subst hj
    simp [hk]
  · rw [if_neg hj]
    simp [List.getD, List.getElem?_set_ne (Ne.symm hj)]
def oGetI (b0 ci k : Nat) (T : xK) (ls : List (Option xV)) (st : List xV) (h : xH) : xR :=
  match st with
  | .inr (.inr (some a)) :: st => (xgI b0 h a ci k).bind fun n => T ls (.inl n :: st) h
  | _ => none
def oGetR (b0 ci k : Nat) (T : xK) (ls : List (Option xV)) (st : List xV) (h : xH) : xR :=
  match st with
  | .inr (.inr (some a)) :: st => (xgR b0 h a ci k).bind fun n => T ls (.inr (.inr n) :: st) h
  | _ => none
theorem s_getI {ci k idx N : Nat} {Tb : u_T} {Cn : String}  (hc : vwCl[ci]? = some (Cn, Tb, N)) (hin : ∀ w ∈ u_ws Cn Tb N, w ∈ xTB) (hk : k < N) (hl : Cond.fieldLink own idx (Tb k).1 (Tb k).2.1 (Tb k).2.2.1 ∈ xTB) (hd : decode cc pc = .ok (.getfield idx, 3)) (K : xS p l e R s m args below meth c cc nL ret own nm fr lo D cA b0 hs res Q T (pc + 3)) : xS p l e R s m args below meth c cc nL ret own nm fr lo D cA b0 hs res Q (oGetI b0 ci k T) pc := by
  intro ls st h hT
  obtain ⟨a, st', rfl, hU⟩ : ∃ a st', st = .inr (.inr (some a)) :: st' ∧ ((xgI b0 h a ci k).bind fun n => T ls (.inl n :: st') h) = some res := by
    unfold oGetI at hT
    split at hT
    · exact ⟨_, _, rfl, hT⟩
    · cases hT
  replace hT := hU
  obtain ⟨n, hn, hV⟩ := Option.bind_eq_some_iff.mp hT
  replace hT := hV
  obtain ⟨q, fs, rfl, h1, h2⟩ := xg_inv (xgI_inv hn)
  obtain ⟨g1, g2⟩ := K _ _ _ hT
  refine ⟨g1, fun C arr H locs a1 a2 a3 a4 => ?_⟩
  obtain ⟨hx, hb, hml, hown, hts, ⟨hK, hAO⟩, hb0, hR, hlk, hr, hnme, hfr, hlo⟩ := id C
  exact va_get (D := D) (ci := ci) (C := Cn) (T := Tb) (N := N) hx hb hts hin hown hK a2.2 q (xW_at h1) hc k hk (hts _ hl) (fun _ h9 => h9) (v := xv (.inl n)) (by simp [h2]) hd (g2 C arr H locs a1 a2 a3 a4)
theorem s_getR {ci k idx N : Nat} {Tb : u_T} {Cn : String}  (hc : vwCl[ci]? = some (Cn, Tb, N)) (hin : ∀ w ∈ u_ws Cn Tb N, w ∈ xTB) (hk : k < N) (hl : Cond.fieldLink own idx (Tb k).1 (Tb k).2.1 (Tb k).2.2.1 ∈ xTB) (hd : decode cc pc = .ok (.getfield idx, 3)) (K : xS p l e R s m args below meth c cc nL ret own nm fr lo D cA b0 hs res Q T (pc + 3)) : xS p l e R s m args below meth c cc nL ret own nm fr lo D cA b0 hs res Q (oGetR b0 ci k T) pc := by
  intro ls st h hT
  obtain ⟨a, st', rfl, hU⟩ : ∃ a st', st = .inr (.inr (some a)) :: st' ∧ ((xgR b0 h a ci k).bind fun n => T ls (.inr (.inr n) :: st') h) = some res := by
    unfold oGetR at hT
    split at hT
    · exact ⟨_, _, rfl, hT⟩
    · cases hT
  replace hT := hU
  obtain ⟨n, hn, hV⟩ := Option.bind_eq_some_iff.mp hT
  replace hT := hV
  obtain ⟨q, fs, rfl, h1, h2⟩ := xg_inv (xgR_inv hn)
  obtain ⟨g1, g2⟩ := K _ _ _ hT
  refine ⟨g1, fun C arr H locs a1 a2 a3 a4 => ?_⟩
  obtain ⟨hx, hb, hml, hown, hts, ⟨hK, hAO⟩, hb0, hR, hlk, hr, hnme, hfr, hlo⟩ := id C
  exact va_get (D := D) (ci := ci) (C := Cn) (T := Tb) (N := N) hx hb hts hin hown hK a2.2 q (xW_at h1) hc k hk (hts _ hl) (fun _ h9 => h9) (v := xv (.inr (.inr n))) (by simp [h2]) hd (g2 C arr H locs a1 a2 a3 a4)
theorem x_put {ci k idx N : Nat} {Tb : u_T} {Cn : String} {h : xH} {q : Nat} {fs : List xV} {v : xV} {H : Heap} {locs : List Loc} {cells slots : Nat} {arr : Array Slot} {rest : List Value} (C : xC p R s m args meth c cc nL ret own nm fr lo D cA b0 hs res) (hc : vwCl[ci]? = some (Cn, Tb, N)) (hin : ∀ w ∈ u_ws Cn Tb N, w ∈ xTB) (hk : k < N) (hl : Cond.fieldLink own idx (Tb k).1 (Tb k).2.1 (Tb k).2.2.1 ∈ xTB) (ty0 : Nat → FieldType) (hty : ∀ k, k < N → parseFieldDescriptor (Tb k).2.2.1 = some (ty0 k)) (hnm : ∀ a, a < N → ∀ b, b < N → a ≠ b → (Tb a).2.1 ≠ (Tb b).2.1) (hfin : (Tb k).2.2.2 = false) (hn : narrow (ty0 k) (xv v) = xv v) (hfit : fits (ty0 k) (xv v) = true) (hd : decode cc pc = .ok (.putfield idx, 3))
    (a2 : xRel D cA b0 h H) (a3 : va_S (fun q => b0 ≤ q) s.heap H locs) (h1 : h[q]? = some (.inr (.inr (.inl (ci, fs))))) (hlen : k < fs.length)
    (kk : ∀ (H1 : Heap) (locs1 : List Loc), xRel D cA b0 (h.set q (.inr (.inr (.inl (ci, fs.set k v))))) H1 → va_S (fun q => b0 ≤ q) s.heap H1 locs1 → W p l e R s m args below meth c H1 locs1 cells slots Q (F0 m (pc + 3) arr rest)) : W p l e R s m args below meth c H locs cells slots Q (F0 m pc arr (xv v :: .ref (b0 + q) :: rest)) := by
  obtain ⟨hx, hb, hml, hown, hts, ⟨hK, hAO⟩, hb0, hR, hlk, hr, hnme, hfr, hlo⟩ := id C
  have hap := va_apart (own := own) hts hin ty0 hty hnm hK hc
  obtain ⟨r, h2, cell, q1, q2, q3, q4⟩ := a2.2 q _ (xW_at h1)
  have hr : r = (Cn, Tb, N) := Option.some.inj (h2.symm.trans hc)
  subst hr
  obtain ⟨hSl, hfc, kC, hkC, hkind⟩ := hK.1 ci _ hc
  obtain ⟨cf, kf, fi, f, hi, hsl⟩ := hSl k hk
  have hlay := hts _ (hin _ (u_in_lay hk))
  unfold u_lay at hlay
  rw [if_neg (by rw [hfin]; decide)] at hlay
  have hst := (u_facts hfc hkC (u_lays hts hin hk) hi).1
  have h6 := u_store hfc hkC hkind hlay hi (hty k hk) hn hfit
  refine W.putK hx hb (f := f) ⟨hown, hts _ hl, ⟨_, _, _, hi⟩, hst⟩ (by rw [q2]; exact h6) q1 q3 (by rw [hsl]; exact k2_hasslot (q4 k hk)) rfl rfl hd fun H' e1 e2 e3 => ?_
  rw [hsl] at e1 ⊢
  have he : va_at D vwCl (b0 + q, xe cA (.inr (.inr (.inl (ci, fs.set k v))))) H' := ⟨_, hc, t_OB.to (V := updV (vp_V (fs.map xv)) k (xv v)) ⟨_, e1, q2, q3, t_set q4 hap hk (xv v)⟩ (fun j _ => by rw [vp_updV_set (by simpa using hlen)]; simp [List.map_set])⟩
  obtain ⟨r1, r2⟩ := x_upd (k := D.2 ci k) a2 a3 h1 he e2 e3
  exact kk H' _ r1 r2
theorem x_putF {ci k idx N : Nat} {Tb : u_T} {Cn : String} {h : xH} {q : Nat} {fs : List xV} {v : xV} {H : Heap} {locs : List Loc} {cells slots : Nat} {arr : Array Slot} {rest : List Value} (C : xC p R s m args meth c cc nL ret own nm fr lo D cA b0 hs res) (hc : vwCl[ci]? = some (Cn, Tb, N)) (hin : ∀ w ∈ u_ws Cn Tb N, w ∈ xTB) (hk : k < N) (hl : Cond.fieldLink own idx (Tb k).1 (Tb k).2.1 (Tb k).2.2.1 ∈ xTB) (ty0 : Nat → FieldType) (hty : ∀ k, k < N → parseFieldDescriptor (Tb k).2.2.1 = some (ty0 k)) (hnm : ∀ a, a < N → ∀ b, b < N → a ≠ b → (Tb a).2.1 ≠ (Tb b).2.1) (hfin : (Tb k).2.2.2 = true) (hin2 : nm = "<init>") (hdecl : (Tb k).1 = own) (hn : narrow (ty0 k) (xv v) = xv v) (hfit : fits (ty0 k) (xv v) = true) (hd : decode cc pc = .ok (.putfield idx, 3))
    (a2 : xRel D cA b0 h H) (a3 : va_S (fun q => b0 ≤ q) s.heap H locs) (h1 : h[q]? = some (.inr (.inr (.inl (ci, fs))))) (hlen : k < fs.length)
    (kk : ∀ (H1 : Heap) (locs1 : List Loc), xRel D cA b0 (h.set q (.inr (.inr (.inl (ci, fs.set k v))))) H1 → va_S (fun q => b0 ≤ q) s.heap H1 locs1 → W p l e R s m args below meth c H1 locs1 cells slots Q (F0 m (pc + 3) arr rest)) : W p l e R s m args below meth c H locs cells slots Q (F0 m pc arr (xv v :: .ref (b0 + q) :: rest)) := by
  obtain ⟨hx, hb, hml, hown, hts, ⟨hK, hAO⟩, hb0, hR, hlk, hr, hnme, hfr, hlo⟩ := id C
  have hap := va_apart (own := own) hts hin ty0 hty hnm hK hc
  obtain ⟨r, h2, cell, q1, q2, q3, q4⟩ := a2.2 q _ (xW_at h1)
  have hr : r = (Cn, Tb, N) := Option.some.inj (h2.symm.trans hc)
  subst hr
  obtain ⟨hSl, hfc, kC, hkC, hkind⟩ := hK.1 ci _ hc
  obtain ⟨cf, kf, fi, f, hi, hsl⟩ := hSl k hk
  have hlay := hts _ (hin _ (u_in_lay hk))
  unfold u_lay at hlay
  rw [if_pos hfin] at hlay
  have hst := (u_facts hfc hkC (u_lays hts hin hk) hi).1
  have hcf : m.cls = cf := by
    obtain ⟨_, _, c', _, _, _, -, -, hf', -, -, -, hown2, -⟩ := Cond.laysFinal_spec hlay
    have e1 : c' = cf := by have := hi.symm.trans hf'; simp at this; exact this.1.symm
    rw [hdecl] at hown2
    rw [← e1]; exact Option.some.inj (hown.symm.trans hown2)
  have h6 := u_fits hfc hkC hkind (Or.inr hlay) hi (hty k hk) hn hfit
  refine W.putFinK hx hb hown (hts _ hl) hi hst hcf (hnme.trans hin2) (by rw [q2]; exact h6) q1 q3 (by rw [hsl]; exact k2_hasslot (q4 k hk)) rfl rfl hd fun H' e1 e2 e3 => ?_
  rw [hsl] at e1 ⊢
  have he : va_at D vwCl (b0 + q, xe cA (.inr (.inr (.inl (ci, fs.set k v))))) H' := ⟨_, hc, t_OB.to (V := updV (vp_V (fs.map xv)) k (xv v)) ⟨_, e1, q2, q3, t_set q4 hap hk (xv v)⟩ (fun j _ => by rw [vp_updV_set (by simpa using hlen)]; simp [List.map_set])⟩
  obtain ⟨r1, r2⟩ := x_upd (k := D.2 ci k) a2 a3 h1 he e2 e3
  exact kk H' _ r1 r2
def oPutI (b0 ci k : Nat) (T : xK) (ls : List (Option xV)) (st : List xV) (h : xH) : xR :=
  match st with
  | .inl n :: .inr (.inr (some a)) :: st => (xp b0 h a ci k (.inl n)).bind fun h => T ls st h
  | _ => none
def oPutZ (b0 ci k : Nat) (T : xK) (ls : List (Option xV)) (st : List xV) (h : xH) : xR :=
  match st with
  | .inl n :: .inr (.inr (some a)) :: st => if n = 0 ∨ n = 1 then (xp b0 h a ci k (.inl n)).bind fun h => T ls st h else none
  | _ => none
def oPutR (b0 ci k : Nat) (T : xK) (ls : List (Option xV)) (st : List xV) (h : xH) : xR :=
  match st with
  | .inr (.inr n) :: .inr (.inr (some a)) :: st => (xp b0 h a ci k (.inr (.inr n))).bind fun h => T ls st h
  | _ => none
theorem s_putI {ci k idx N : Nat} {Tb : u_T} {Cn : String}  (hc : vwCl[ci]? = some (Cn, Tb, N)) (hin : ∀ w ∈ u_ws Cn Tb N, w ∈ xTB) (hk : k < N) (hl : Cond.fieldLink own idx (Tb k).1 (Tb k).2.1 (Tb k).2.2.1 ∈ xTB) (ty0 : Nat → FieldType) (hty : ∀ k, k < N → parseFieldDescriptor (Tb k).2.2.1 = some (ty0 k)) (hnm : ∀ a, a < N → ∀ b, b < N → a ≠ b → (Tb a).2.1 ≠ (Tb b).2.1) (hfin : (Tb k).2.2.2 = false) (hi : ty0 k = .int) (hd : decode cc pc = .ok (.putfield idx, 3)) (K : xS p l e R s m args below meth c cc nL ret own nm fr lo D cA b0 hs res Q T (pc + 3)) : xS p l e R s m args below meth c cc nL ret own nm fr lo D cA b0 hs res Q (oPutI b0 ci k T) pc := by
  intro ls st h hT
  obtain ⟨n, a, st', rfl, hU⟩ : ∃ n a st', st = .inl n :: .inr (.inr (some a)) :: st' ∧ ((xp b0 h a ci k (.inl n)).bind fun h => T ls st' h) = some res := by
    unfold oPutI at hT
    split at hT
    · exact ⟨_, _, _, rfl, hT⟩
    · cases hT
  replace hT := hU
  obtain ⟨h2, hn, hV⟩ := Option.bind_eq_some_iff.mp hT
  replace hT := hV
  obtain ⟨q, fs, rfl, h1, hk2, rfl⟩ := xp_inv hn
  obtain ⟨g1, g2⟩ := K _ _ _ hT
  have z1 : xsl (h.set q (.inr (.inr (.inl (ci, fs.set k (.inl n)))))) = xsl h := xsl_set h1 (by simp [xsz])
  have z2 : (h.set q (.inr (.inr (.inl (ci, fs.set k (.inl n)))))).length = h.length := List.length_set
  rw [z1, z2] at g1 g2
  refine ⟨g1, fun C arr H locs a1 a2 a3 a4 => ?_⟩
  exact x_put (v := .inl n) C hc hin hk hl ty0 hty hnm hfin (by rw [hi]; rfl) (by rw [hi]; rfl) hd a2 a3 h1 hk2 (fun H1 locs1 b2 b3 => g2 C arr H1 locs1 a1 b2 b3 a4)
theorem s_putIF {ci k idx N : Nat} {Tb : u_T} {Cn : String}  (hc : vwCl[ci]? = some (Cn, Tb, N)) (hin : ∀ w ∈ u_ws Cn Tb N, w ∈ xTB) (hk : k < N) (hl : Cond.fieldLink own idx (Tb k).1 (Tb k).2.1 (Tb k).2.2.1 ∈ xTB) (ty0 : Nat → FieldType) (hty : ∀ k, k < N → parseFieldDescriptor (Tb k).2.2.1 = some (ty0 k)) (hnm : ∀ a, a < N → ∀ b, b < N → a ≠ b → (Tb a).2.1 ≠ (Tb b).2.1) (hfin : (Tb k).2.2.2 = true) (hin2 : nm = "<init>") (hdecl : (Tb k).1 = own) (hi : ty0 k = .int) (hd : decode cc pc = .ok (.putfield idx, 3)) (K : xS p l e R s m args below meth c cc nL ret own nm fr lo D cA b0 hs res Q T (pc + 3)) : xS p l e R s m args below meth c cc nL ret own nm fr lo D cA b0 hs res Q (oPutI b0 ci k T) pc := by
  intro ls st h hT
  obtain ⟨n, a, st', rfl, hU⟩ : ∃ n a st', st = .inl n :: .inr (.inr (some a)) :: st' ∧ ((xp b0 h a ci k (.inl n)).bind fun h => T ls st' h) = some res := by
    unfold oPutI at hT
    split at hT
    · exact ⟨_, _, _, rfl, hT⟩
    · cases hT
  replace hT := hU
  obtain ⟨h2, hn, hV⟩ := Option.bind_eq_some_iff.mp hT
  replace hT := hV
  obtain ⟨q, fs, rfl, h1, hk2, rfl⟩ := xp_inv hn
  obtain ⟨g1, g2⟩ := K _ _ _ hT
  have z1 : xsl (h.set q (.inr (.inr (.inl (ci, fs.set k (.inl n)))))) = xsl h := xsl_set h1 (by simp [xsz])
  have z2 : (h.set q (.inr (.inr (.inl (ci, fs.set k (.inl n)))))).length = h.length := List.length_set
  rw [z1, z2] at g1 g2
  refine ⟨g1, fun C arr H locs a1 a2 a3 a4 => ?_⟩
  exact x_putF (v := .inl n) C hc hin hk hl ty0 hty hnm hfin hin2 hdecl (by rw [hi]; rfl) (by rw [hi]; rfl) hd a2 a3 h1 hk2 (fun H1 locs1 b2 b3 => g2 C arr H1 locs1 a1 b2 b3 a4)
theorem s_putZ {ci k idx N : Nat} {Tb : u_T} {Cn : String}  (hc : vwCl[ci]? = some (Cn, Tb, N)) (hin : ∀ w ∈ u_ws Cn Tb N, w ∈ xTB) (hk : k < N) (hl : Cond.fieldLink own idx (Tb k).1 (Tb k).2.1 (Tb k).2.2.1 ∈ xTB) (ty0 : Nat → FieldType) (hty : ∀ k, k < N → parseFieldDescriptor (Tb k).2.2.1 = some (ty0 k)) (hnm : ∀ a, a < N → ∀ b, b < N → a ≠ b → (Tb a).2.1 ≠ (Tb b).2.1) (hfin : (Tb k).2.2.2 = false) (hi : ty0 k = .boolean) (hd : decode cc pc = .ok (.putfield idx, 3)) (K : xS p l e R s m args below meth c cc nL ret own nm fr lo D cA b0 hs res Q T (pc + 3)) : xS p l e R s m args below meth c cc nL ret own nm fr lo D cA b0 hs res Q (oPutZ b0 ci k T) pc := by
  intro ls st h hT
  obtain ⟨n, a, st', rfl, hU⟩ : ∃ n a st', st = .inl n :: .inr (.inr (some a)) :: st' ∧ (if n = 0 ∨ n = 1 then (xp b0 h a ci k (.inl n)).bind fun h => T ls st' h else none) = some res := by
    unfold oPutZ at hT
    split at hT
    · exact ⟨_, _, _, rfl, hT⟩
    · cases hT
  replace hT := hU
  by_cases hz : n = 0 ∨ n = 1
  case neg => rw [if_neg hz] at hT; cases hT
  rw [if_pos hz] at hT
  obtain ⟨h2, hn, hV⟩ := Option.bind_eq_some_iff.mp hT
  replace hT := hV
  obtain ⟨q, fs, rfl, h1, hk2, rfl⟩ := xp_inv hn
  obtain ⟨g1, g2⟩ := K _ _ _ hT
  have z1 : xsl (h.set q (.inr (.inr (.inl (ci, fs.set k (.inl n)))))) = xsl h := xsl_set h1 (by simp [xsz])
  have z2 : (h.set q (.inr (.inr (.inl (ci, fs.set k (.inl n)))))).length = h.length := List.length_set
  rw [z1, z2] at g1 g2
  refine ⟨g1, fun C arr H locs a1 a2 a3 a4 => ?_⟩
  exact x_put (v := .inl n) C hc hin hk hl ty0 hty hnm hfin (by rw [hi]; rcases hz with rfl | rfl <;> rfl) (by rw [hi]; rcases hz with rfl | rfl <;> rfl) hd a2 a3 h1 hk2 (fun H1 locs1 b2 b3 => g2 C arr H1 locs1 a1 b2 b3 a4)
theorem s_putZF {ci k idx N : Nat} {Tb : u_T} {Cn : String}  (hc : vwCl[ci]? = some (Cn, Tb, N)) (hin : ∀ w ∈ u_ws Cn Tb N, w ∈ xTB) (hk : k < N) (hl : Cond.fieldLink own idx (Tb k).1 (Tb k).2.1 (Tb k).2.2.1 ∈ xTB) (ty0 : Nat → FieldType) (hty : ∀ k, k < N → parseFieldDescriptor (Tb k).2.2.1 = some (ty0 k)) (hnm : ∀ a, a < N → ∀ b, b < N → a ≠ b → (Tb a).2.1 ≠ (Tb b).2.1) (hfin : (Tb k).2.2.2 = true) (hin2 : nm = "<init>") (hdecl : (Tb k).1 = own) (hi : ty0 k = .boolean) (hd : decode cc pc = .ok (.putfield idx, 3)) (K : xS p l e R s m args below meth c cc nL ret own nm fr lo D cA b0 hs res Q T (pc + 3)) : xS p l e R s m args below meth c cc nL ret own nm fr lo D cA b0 hs res Q (oPutZ b0 ci k T) pc := by
  intro ls st h hT
  obtain ⟨n, a, st', rfl, hU⟩ : ∃ n a st', st = .inl n :: .inr (.inr (some a)) :: st' ∧ (if n = 0 ∨ n = 1 then (xp b0 h a ci k (.inl n)).bind fun h => T ls st' h else none) = some res := by
    unfold oPutZ at hT
    split at hT
    · exact ⟨_, _, _, rfl, hT⟩
    · cases hT
  replace hT := hU
  by_cases hz : n = 0 ∨ n = 1
  case neg => rw [if_neg hz] at hT; cases hT
  rw [if_pos hz] at hT
  obtain ⟨h2, hn, hV⟩ := Option.bind_eq_some_iff.mp hT
  replace hT := hV
  obtain ⟨q, fs, rfl, h1, hk2, rfl⟩ := xp_inv hn
  obtain ⟨g1, g2⟩ := K _ _ _ hT
  have z1 : xsl (h.set q (.inr (.inr (.inl (ci, fs.set k (.inl n)))))) = xsl h := xsl_set h1 (by simp [xsz])
  have z2 : (h.set q (.inr (.inr (.inl (ci, fs.set k (.inl n)))))).length = h.length := List.length_set
  rw [z1, z2] at g1 g2
  refine ⟨g1, fun C arr H locs a1 a2 a3 a4 => ?_⟩
  exact x_putF (v := .inl n) C hc hin hk hl ty0 hty hnm hfin hin2 hdecl (by rw [hi]; rcases hz with rfl | rfl <;> rfl) (by rw [hi]; rcases hz with rfl | rfl <;> rfl) hd a2 a3 h1 hk2 (fun H1 locs1 b2 b3 => g2 C arr H1 locs1 a1 b2 b3 a4)
theorem s_putR {ci k idx N : Nat} {Tb : u_T} {Cn : String}  (hc : vwCl[ci]? = some (Cn, Tb, N)) (hin : ∀ w ∈ u_ws Cn Tb N, w ∈ xTB) (hk : k < N) (hl : Cond.fieldLink own idx (Tb k).1 (Tb k).2.1 (Tb k).2.2.1 ∈ xTB) (ty0 : Nat → FieldType) (hty : ∀ k, k < N → parseFieldDescriptor (Tb k).2.2.1 = some (ty0 k)) (hnm : ∀ a, a < N → ∀ b, b < N → a ≠ b → (Tb a).2.1 ≠ (Tb b).2.1) (hfin : (Tb k).2.2.2 = false) (hi : (∃ C, ty0 k = .object C) ∨ ∃ t, ty0 k = .array t) (hd : decode cc pc = .ok (.putfield idx, 3)) (K : xS p l e R s m args below meth c cc nL ret own nm fr lo D cA b0 hs res Q T (pc + 3)) : xS p l e R s m args below meth c cc nL ret own nm fr lo D cA b0 hs res Q (oPutR b0 ci k T) pc := by
  intro ls st h hT
  obtain ⟨n, a, st', rfl, hU⟩ : ∃ n a st', st = .inr (.inr n) :: .inr (.inr (some a)) :: st' ∧ ((xp b0 h a ci k (.inr (.inr n))).bind fun h => T ls st' h) = some res := by
    unfold oPutR at hT
    split at hT
    · exact ⟨_, _, _, rfl, hT⟩
    · cases hT
  replace hT := hU
  obtain ⟨h2, hn, hV⟩ := Option.bind_eq_some_iff.mp hT
  replace hT := hV
  obtain ⟨q, fs, rfl, h1, hk2, rfl⟩ := xp_inv hn
  obtain ⟨g1, g2⟩ := K _ _ _ hT
  have z1 : xsl (h.set q (.inr (.inr (.inl (ci, fs.set k (.inr (.inr n))))))) = xsl h := xsl_set h1 (by simp [xsz])
  have z2 : (h.set q (.inr (.inr (.inl (ci, fs.set k (.inr (.inr n))))))).length = h.length := List.length_set
  rw [z1, z2] at g1 g2
  refine ⟨g1, fun C arr H locs a1 a2 a3 a4 => ?_⟩
  exact x_put (v := .inr (.inr n)) C hc hin hk hl ty0 hty hnm hfin (by rcases hi with ⟨_, hi⟩ | ⟨_, hi⟩ <;> rw [hi] <;> cases n <;> rfl) (by rcases hi with ⟨_, hi⟩ | ⟨_, hi⟩ <;> rw [hi] <;> cases n <;> rfl) hd a2 a3 h1 hk2 (fun H1 locs1 b2 b3 => g2 C arr H1 locs1 a1 b2 b3 a4)
theorem s_putRF {ci k idx N : Nat} {Tb : u_T} {Cn : String}  (hc : vwCl[ci]? = some (Cn, Tb, N)) (hin : ∀ w ∈ u_ws Cn Tb N, w ∈ xTB) (hk : k < N) (hl : Cond.fieldLink own idx (Tb k).1 (Tb k).2.1 (Tb k).2.2.1 ∈ xTB) (ty0 : Nat → FieldType) (hty : ∀ k, k < N → parseFieldDescriptor (Tb k).2.2.1 = some (ty0 k)) (hnm : ∀ a, a < N → ∀ b, b < N → a ≠ b → (Tb a).2.1 ≠ (Tb b).2.1) (hfin : (Tb k).2.2.2 = true) (hin2 : nm = "<init>") (hdecl : (Tb k).1 = own) (hi : (∃ C, ty0 k = .object C) ∨ ∃ t, ty0 k = .array t) (hd : decode cc pc = .ok (.putfield idx, 3)) (K : xS p l e R s m args below meth c cc nL ret own nm fr lo D cA b0 hs res Q T (pc + 3)) : xS p l e R s m args below meth c cc nL ret own nm fr lo D cA b0 hs res Q (oPutR b0 ci k T) pc := by
  intro ls st h hT
  obtain ⟨n, a, st', rfl, hU⟩ : ∃ n a st', st = .inr (.inr n) :: .inr (.inr (some a)) :: st' ∧ ((xp b0 h a ci k (.inr (.inr n))).bind fun h => T ls st' h) = some res := by
    unfold oPutR at hT
    split at hT
    · exact ⟨_, _, _, rfl, hT⟩
    · cases hT
  replace hT := hU
  obtain ⟨h2, hn, hV⟩ := Option.bind_eq_some_iff.mp hT
  replace hT := hV
  obtain ⟨q, fs, rfl, h1, hk2, rfl⟩ := xp_inv hn
  obtain ⟨g1, g2⟩ := K _ _ _ hT
  have z1 : xsl (h.set q (.inr (.inr (.inl (ci, fs.set k (.inr (.inr n))))))) = xsl h := xsl_set h1 (by simp [xsz])
  have z2 : (h.set q (.inr (.inr (.inl (ci, fs.set k (.inr (.inr n))))))).length = h.length := List.length_set
  rw [z1, z2] at g1 g2
  refine ⟨g1, fun C arr H locs a1 a2 a3 a4 => ?_⟩
  exact x_putF (v := .inr (.inr n)) C hc hin hk hl ty0 hty hnm hfin hin2 hdecl (by rcases hi with ⟨_, hi⟩ | ⟨_, hi⟩ <;> rw [hi] <;> cases n <;> rfl) (by rcases hi with ⟨_, hi⟩ | ⟨_, hi⟩ <;> rw [hi] <;> cases n <;> rfl) hd a2 a3 h1 hk2 (fun H1 locs1 b2 b3 => g2 C arr H1 locs1 a1 b2 b3 a4)
def oIal (b0 : Nat) (T : xK) (ls : List (Option xV)) (st : List xV) (h : xH) : xR :=
  match st with
  | .inl i :: .inr (.inr (some a)) :: st => (xai b0 0 h a i).bind fun n => T ls (.inl n :: st) h
  | _ => none
theorem s_ial  (hd : decode cc pc = .ok (.iaload, 1)) (K : xS p l e R s m args below meth c cc nL ret own nm fr lo D cA b0 hs res Q T (pc + 1)) : xS p l e R s m args below meth c cc nL ret own nm fr lo D cA b0 hs res Q (oIal b0 T) pc := by
  intro ls st h hT
  obtain ⟨i, a, st', rfl, hU⟩ : ∃ i a st', st = .inl i :: .inr (.inr (some a)) :: st' ∧ ((xai b0 0 h a i).bind fun n => T ls (.inl n :: st') h) = some res := by
    unfold oIal at hT
    split at hT
    · exact ⟨_, _, _, rfl, hT⟩
    · cases hT
  replace hT := hU
  obtain ⟨n, hn, hV⟩ := Option.bind_eq_some_iff.mp hT
  replace hT := hV
  obtain ⟨q, xs, rfl, h1, hv, h2⟩ := xai_inv hn
  obtain ⟨g1, g2⟩ := K _ _ _ hT
  refine ⟨g1, fun C arr H locs a1 a2 a3 a4 => ?_⟩
  obtain ⟨hx, hb, hml, hown, hts, ⟨hK, hAO⟩, hb0, hR, hlk, hr, hnme, hfr, hlo⟩ := id C
  have hq : xs.getD i.toNatClampNeg 0 = n := by simp [List.getD, h2]
  have hg := g2 C arr H locs a1 a2 a3 a4
  rw [← hq] at hg
  exact va_iald hx hb hK a2.2 q 0 (xW_at h1) rfl hv hd hg
def oZal (b0 : Nat) (T : xK) (ls : List (Option xV)) (st : List xV) (h : xH) : xR :=
  match st with
  | .inl i :: .inr (.inr (some a)) :: st => (xai b0 1 h a i).bind fun n => T ls (.inl n :: st) h
  | _ => none
theorem s_zal  (hd : decode cc pc = .ok (.baload, 1)) (K : xS p l e R s m args below meth c cc nL ret own nm fr lo D cA b0 hs res Q T (pc + 1)) : xS p l e R s m args below meth c cc nL ret own nm fr lo D cA b0 hs res Q (oZal b0 T) pc := by
  intro ls st h hT
  obtain ⟨i, a, st', rfl, hU⟩ : ∃ i a st', st = .inl i :: .inr (.inr (some a)) :: st' ∧ ((xai b0 1 h a i).bind fun n => T ls (.inl n :: st') h) = some res := by
    unfold oZal at hT
    split at hT
    · exact ⟨_, _, _, rfl, hT⟩
    · cases hT
  replace hT := hU
  obtain ⟨n, hn, hV⟩ := Option.bind_eq_some_iff.mp hT
  replace hT := hV
  obtain ⟨q, xs, rfl, h1, hv, h2⟩ := xai_inv hn
  obtain ⟨g1, g2⟩ := K _ _ _ hT
  refine ⟨g1, fun C arr H locs a1 a2 a3 a4 => ?_⟩
  obtain ⟨hx, hb, hml, hown, hts, ⟨hK, hAO⟩, hb0, hR, hlk, hr, hnme, hfr, hlo⟩ := id C
  have hq : xs.getD i.toNatClampNeg 0 = n := by simp [List.getD, h2]
  have hg := g2 C arr H locs a1 a2 a3 a4
  rw [← hq] at hg
  exact va_zald hx hb hK a2.2 q 1 (xW_at h1) rfl hv hd hg
def oJal (b0 : Nat) (T : xK) (ls : List (Option xV)) (st : List xV) (h : xH) : xR :=
  match st with
  | .inl i :: .inr (.inr (some a)) :: st => (xaj b0 h a i).bind fun n => T ls (.inr (.inl n) :: st) h
  | _ => none
theorem s_jal  (hd : decode cc pc = .ok (.laload, 1)) (K : xS p l e R s m args below meth c cc nL ret own nm fr lo D cA b0 hs res Q T (pc + 1)) : xS p l e R s m args below meth c cc nL ret own nm fr lo D cA b0 hs res Q (oJal b0 T) pc := by
  intro ls st h hT
  obtain ⟨i, a, st', rfl, hU⟩ : ∃ i a st', st = .inl i :: .inr (.inr (some a)) :: st' ∧ ((xaj b0 h a i).bind fun n => T ls (.inr (.inl n) :: st') h) = some res := by
    unfold oJal at hT
    split at hT
    · exact ⟨_, _, _, rfl, hT⟩
    · cases hT
  replace hT := hU
  obtain ⟨n, hn, hV⟩ := Option.bind_eq_some_iff.mp hT
  replace hT := hV
  obtain ⟨q, xs, rfl, h1, hv, h2⟩ := xaj_inv hn
  obtain ⟨g1, g2⟩ := K _ _ _ hT
  refine ⟨g1, fun C arr H locs a1 a2 a3 a4 => ?_⟩
  obtain ⟨hx, hb, hml, hown, hts, ⟨hK, hAO⟩, hb0, hR, hlk, hr, hnme, hfr, hlo⟩ := id C
  have hq : xs.getD i.toNatClampNeg 0 = n := by simp [List.getD, h2]
  have hg := g2 C arr H locs a1 a2 a3 a4
  rw [← hq] at hg
  exact va_lald hx hb hK a2.2 q 2 (xW_at h1) rfl hv hd hg
def oQal (b0 : Nat) (T : xK) (ls : List (Option xV)) (st : List xV) (h : xH) : xR :=
  match st with
  | .inl i :: .inr (.inr (some a)) :: st => (xaq b0 h a i).bind fun n => T ls (.inr (.inr n) :: st) h
  | _ => none
theorem s_qal  (hd : decode cc pc = .ok (.aaload, 1)) (K : xS p l e R s m args below meth c cc nL ret own nm fr lo D cA b0 hs res Q T (pc + 1)) : xS p l e R s m args below meth c cc nL ret own nm fr lo D cA b0 hs res Q (oQal b0 T) pc := by
  intro ls st h hT
  obtain ⟨i, a, st', rfl, hU⟩ : ∃ i a st', st = .inl i :: .inr (.inr (some a)) :: st' ∧ ((xaq b0 h a i).bind fun n => T ls (.inr (.inr n) :: st') h) = some res := by
    unfold oQal at hT
    split at hT
    · exact ⟨_, _, _, rfl, hT⟩
    · cases hT
  replace hT := hU
  obtain ⟨n, hn, hV⟩ := Option.bind_eq_some_iff.mp hT
  replace hT := hV
  obtain ⟨q, xs, rfl, h1, hv, h2⟩ := xaq_inv hn
  obtain ⟨g1, g2⟩ := K _ _ _ hT
  refine ⟨g1, fun C arr H locs a1 a2 a3 a4 => ?_⟩
  obtain ⟨hx, hb, hml, hown, hts, ⟨hK, hAO⟩, hb0, hR, hlk, hr, hnme, hfr, hlo⟩ := id C
  have hq : xs.getD i.toNatClampNeg none = n := by simp [List.getD, h2]
  have hg := g2 C arr H locs a1 a2 a3 a4
  rw [← hq] at hg
  exact va_aldq hx hb hK a2.2 q 3 (xW_at h1) rfl hv hd hg
def oLen (b0 : Nat) (T : xK) (ls : List (Option xV)) (st : List xV) (h : xH) : xR :=
  match st with
  | .inr (.inr (some a)) :: st => (xal b0 h a).bind fun n => T ls (.inl (nI n) :: st) h
  | _ => none
theorem s_len  (hd : decode cc pc = .ok (.arraylength, 1)) (K : xS p l e R s m args below meth c cc nL ret own nm fr lo D cA b0 hs res Q T (pc + 1)) : xS p l e R s m args below meth c cc nL ret own nm fr lo D cA b0 hs res Q (oLen b0 T) pc := by
  intro ls st h hT
  obtain ⟨a, st', rfl, hU⟩ : ∃ a st', st = .inr (.inr (some a)) :: st' ∧ ((xal b0 h a).bind fun n => T ls (.inl (nI n) :: st') h) = some res := by
    unfold oLen at hT
    split at hT
    · exact ⟨_, _, rfl, hT⟩
    · cases hT
  replace hT := hU
  obtain ⟨n, hn, hV⟩ := Option.bind_eq_some_iff.mp hT
  replace hT := hV
  obtain ⟨g1, g2⟩ := K _ _ _ hT
  refine ⟨g1, fun C arr H locs a1 a2 a3 a4 => ?_⟩
  obtain ⟨hx, hb, hml, hown, hts, ⟨hK, hAO⟩, hb0, hR, hlk, hr, hnme, hfr, hlo⟩ := id C
  have hg := g2 C arr H locs a1 a2 a3 a4
  unfold xal at hn
  split at hn
  · rename_i q hq
    obtain ⟨j, rfl, h1, -⟩ := xat_inv hq
    obtain ⟨t, xs⟩ := q
    dsimp only at hn
    split at hn
    case isFalse => cases hn
    rename_i ht
    subst ht
    cases hn
    exact va_alen hx hb hK a2.2 j 0 (xW_at h1) rfl rfl hd hg
  · rename_i q hq
    obtain ⟨j, rfl, h1, -⟩ := xat_inv hq
    cases hn
    exact va_alen hx hb hK a2.2 j 2 (xW_at h1) rfl rfl hd hg
  · rename_i q hq
    obtain ⟨j, rfl, h1, -⟩ := xat_inv hq
    cases hn
    exact va_alen hx hb hK a2.2 j 3 (xW_at h1) rfl rfl hd hg
  · cases hn
theorem x_uI {xs : List Int32} {k : Nat} {n : Int32} (hk : k < xs.length) : updV (fun j => Value.int (xs.getD j 0)) k (.int n) = fun j => Value.int ((xs.set k n).getD j 0) := by
  funext j
  rw [x_getD hk]
  by_cases hj : j = k <;> simp [updV, hj]
theorem x_uJ {xs : List Int64} {k : Nat} {n : Int64} (hk : k < xs.length) : updV (fun j => Value.long (xs.getD j 0)) k (.long n) = fun j => Value.long ((xs.set k n).getD j 0) := by
  funext j
  rw [x_getD hk]
  by_cases hj : j = k <;> simp [updV, hj]
theorem x_uQ {xs : List (Option Nat)} {k r : Nat} (hk : k < xs.length) : updV (fun j => va_rf (xs.getD j none)) k (.ref r) = fun j => va_rf ((xs.set k (some r)).getD j none) := by
  funext j
  rw [x_getD hk]
  by_cases hj : j = k <;> simp [updV, hj, va_rf]
theorem x_in {i : Int32} {n : Nat} (h : vp_in i n) : i.toNatClampNeg < n := Nat.not_le.mp fun q => h (Or.inr q)
def oIas (b0 : Nat) (T : xK) (ls : List (Option xV)) (st : List xV) (h : xH) : xR :=
  match st with
  | .inl n :: .inl i :: .inr (.inr (some a)) :: st => (xsi b0 0 h a i n).bind fun h => T ls st h
  | _ => none
def oZas (b0 : Nat) (T : xK) (ls : List (Option xV)) (st : List xV) (h : xH) : xR :=
  match st with
  | .inl n :: .inl i :: .inr (.inr (some a)) :: st => if n = 0 ∨ n = 1 then (xsi b0 1 h a i n).bind fun h => T ls st h else none
  | _ => none
def oJas (b0 : Nat) (T : xK) (ls : List (Option xV)) (st : List xV) (h : xH) : xR :=
  match st with
  | .inr (.inl n) :: .inl i :: .inr (.inr (some a)) :: st => (xsj b0 h a i n).bind fun h => T ls st h
  | _ => none
def oQas (b0 ci : Nat) (T : xK) (ls : List (Option xV)) (st : List xV) (h : xH) : xR :=
  match st with
  | .inr (.inr (some r)) :: .inl i :: .inr (.inr (some a)) :: st => if xis b0 h r ci = true then (xsq b0 h a i r).bind fun h => T ls st h else none
  | _ => none
theorem s_ias  (hd : decode cc pc = .ok (.iastore, 1)) (K : xS p l e R s m args below meth c cc nL ret own nm fr lo D cA b0 hs res Q T (pc + 1)) : xS p l e R s m args below meth c cc nL ret own nm fr lo D cA b0 hs res Q (oIas b0 T) pc := by
  intro ls st h hT
  obtain ⟨n, i, a, st', rfl, hU⟩ : ∃ n i a st', st = .inl n :: .inl i :: .inr (.inr (some a)) :: st' ∧ ((xsi b0 0 h a i n).bind fun h => T ls st' h) = some res := by
    unfold oIas at hT
    split at hT
    · exact ⟨_, _, _, _, rfl, hT⟩
    · cases hT
  replace hT := hU
  obtain ⟨h2, hn, hV⟩ := Option.bind_eq_some_iff.mp hT
  replace hT := hV
  obtain ⟨q, xs, rfl, h1, hv, rfl⟩ := xsi_inv hn
  obtain ⟨g1, g2⟩ := K _ _ _ hT
  have z1 : xsl (h.set q (.inl (0, xs.set i.toNatClampNeg n))) = xsl h := xsl_set h1 (by simp [xsz])
  have z2 : (h.set q (.inl (0, xs.set i.toNatClampNeg n))).length = h.length := List.length_set
  rw [z1, z2] at g1 g2
  refine ⟨g1, fun C arr H locs a1 a2 a3 a4 => ?_⟩
  obtain ⟨hx, hb, hml, hown, hts, ⟨hK, hAO⟩, hb0, hR, hlk, hr, hnme, hfr, hlo⟩ := id C
  refine W.iast hx hb (a2.2 q _ (xW_at h1)) ((hK.2 0 _ rfl).1 xs.length (fun j => .int (xs.getD j 0))) (fun q => by cases q) (by show ¬ (i < 0 ∨ (arrV _ _ _).slots.size ≤ _); rw [arrV_size]; exact hv) rfl rfl hd fun H1 e z oq => ?_
  have he : va_at D vwCl (b0 + q, xe cA (.inl (0, xs.set i.toNatClampNeg n))) H1 := by
    show H1[b0 + q]? = some (vp_cell _ _)
    rw [e]
    show some (Cell.setSlot (vp_cell _ _) _ _) = _
    rw [vp_cell_i, vp_cell_i, arrV_store, x_uI (x_in hv), List.length_set]
  obtain ⟨r1, r2⟩ := x_upd (k := i.toNatClampNeg) a2 a3 h1 he z oq
  exact g2 C arr H1 _ a1 r1 r2 a4
theorem s_zas  (hd : decode cc pc = .ok (.bastore, 1)) (K : xS p l e R s m args below meth c cc nL ret own nm fr lo D cA b0 hs res Q T (pc + 1)) : xS p l e R s m args below meth c cc nL ret own nm fr lo D cA b0 hs res Q (oZas b0 T) pc := by
  intro ls st h hT
  obtain ⟨n, i, a, st', rfl, hU⟩ : ∃ n i a st', st = .inl n :: .inl i :: .inr (.inr (some a)) :: st' ∧ (if n = 0 ∨ n = 1 then (xsi b0 1 h a i n).bind fun h => T ls st' h else none) = some res := by
    unfold oZas at hT
    split at hT
    · exact ⟨_, _, _, _, rfl, hT⟩
    · cases hT
  replace hT := hU
  by_cases hz : n = 0 ∨ n = 1
  case neg => rw [if_neg hz] at hT; cases hT
  rw [if_pos hz] at hT
  obtain ⟨h2, hn, hV⟩ := Option.bind_eq_some_iff.mp hT
  replace hT := hV
  obtain ⟨q, xs, rfl, h1, hv, rfl⟩ := xsi_inv hn
  obtain ⟨g1, g2⟩ := K _ _ _ hT
  have z1 : xsl (h.set q (.inl (1, xs.set i.toNatClampNeg n))) = xsl h := xsl_set h1 (by simp [xsz])
  have z2 : (h.set q (.inl (1, xs.set i.toNatClampNeg n))).length = h.length := List.length_set
  rw [z1, z2] at g1 g2
  refine ⟨g1, fun C arr H locs a1 a2 a3 a4 => ?_⟩
  obtain ⟨hx, hb, hml, hown, hts, ⟨hK, hAO⟩, hb0, hR, hlk, hr, hnme, hfr, hlo⟩ := id C
  refine W.zast hx hb (a2.2 q _ (xW_at h1)) ((hK.2 1 _ rfl).1 xs.length (fun j => .int (xs.getD j 0))) (fun q => by cases q) (by show ¬ (i < 0 ∨ (arrV _ _ _).slots.size ≤ _); rw [arrV_size]; exact hv) rfl rfl hd fun H1 e z oq => ?_
  have he : va_at D vwCl (b0 + q, xe cA (.inl (1, xs.set i.toNatClampNeg n))) H1 := by
    rw [show narrow .boolean (.int n) = .int n by rcases hz with rfl | rfl <;> rfl] at e
    show H1[b0 + q]? = some (vp_cell _ _)
    rw [e]
    show some (Cell.setSlot (vp_cell _ _) _ _) = _
    rw [vp_cell_i, vp_cell_i, arrV_store, x_uI (x_in hv), List.length_set]
  obtain ⟨r1, r2⟩ := x_upd (k := i.toNatClampNeg) a2 a3 h1 he z oq
  exact g2 C arr H1 _ a1 r1 r2 a4
theorem s_jas  (hd : decode cc pc = .ok (.lastore, 1)) (K : xS p l e R s m args below meth c cc nL ret own nm fr lo D cA b0 hs res Q T (pc + 1)) : xS p l e R s m args below meth c cc nL ret own nm fr lo D cA b0 hs res Q (oJas b0 T) pc := by
  intro ls st h hT
  obtain ⟨n, i, a, st', rfl, hU⟩ : ∃ n i a st', st = .inr (.inl n) :: .inl i :: .inr (.inr (some a)) :: st' ∧ ((xsj b0 h a i n).bind fun h => T ls st' h) = some res := by
    unfold oJas at hT
    split at hT
    · exact ⟨_, _, _, _, rfl, hT⟩
    · cases hT
  replace hT := hU
  obtain ⟨h2, hn, hV⟩ := Option.bind_eq_some_iff.mp hT
  replace hT := hV
  obtain ⟨q, xs, rfl, h1, hv, rfl⟩ := xsj_inv hn
  obtain ⟨g1, g2⟩ := K _ _ _ hT
  have z1 : xsl (h.set q (.inr (.inl (xs.set i.toNatClampNeg n)))) = xsl h := xsl_set h1 (by simp [xsz])
  have z2 : (h.set q (.inr (.inl (xs.set i.toNatClampNeg n)))).length = h.length := List.length_set
  rw [z1, z2] at g1 g2
  refine ⟨g1, fun C arr H locs a1 a2 a3 a4 => ?_⟩
  obtain ⟨hx, hb, hml, hown, hts, ⟨hK, hAO⟩, hb0, hR, hlk, hr, hnme, hfr, hlo⟩ := id C
  refine W.last hx hb (a2.2 q _ (xW_at h1)) ((hK.2 2 _ rfl).1 xs.length (fun j => .long (xs.getD j 0))) (fun q => by cases q) (by show ¬ (i < 0 ∨ (arrV _ _ _).slots.size ≤ _); rw [arrV_size]; exact hv) rfl rfl hd fun H1 e z oq => ?_
  have he : va_at D vwCl (b0 + q, xe cA (.inr (.inl (xs.set i.toNatClampNeg n)))) H1 := by
    show H1[b0 + q]? = some (vp_cell _ _)
    rw [e]
    show some (Cell.setSlot (vp_cell _ _) _ _) = _
    rw [vp_cell_l, vp_cell_l, arrV_store, x_uJ (x_in hv), List.length_set]
  obtain ⟨r1, r2⟩ := x_upd (k := i.toNatClampNeg) a2 a3 h1 he z oq
  exact g2 C arr H1 _ a1 r1 r2 a4
theorem s_qas {ci : Nat} {Tb : u_T} {N : Nat}  (hci : vwCl[ci]? = some (RX5, Tb, N)) (hd : decode cc pc = .ok (.aastore, 1)) (K : xS p l e R s m args below meth c cc nL ret own nm fr lo D cA b0 hs res Q T (pc + 1)) : xS p l e R s m args below meth c cc nL ret own nm fr lo D cA b0 hs res Q (oQas b0 ci T) pc := by
  intro ls st h hT
  obtain ⟨r, i, a, st', rfl, hU⟩ : ∃ r i a st', st = .inr (.inr (some r)) :: .inl i :: .inr (.inr (some a)) :: st' ∧ (if xis b0 h r ci = true then (xsq b0 h a i r).bind fun h => T ls st' h else none) = some res := by
    unfold oQas at hT
    split at hT
    · exact ⟨_, _, _, _, rfl, hT⟩
    · cases hT
  replace hT := hU
  by_cases hz : xis b0 h r ci = true
  case neg => rw [if_neg hz] at hT; cases hT
  rw [if_pos hz] at hT
  obtain ⟨q5, f5, rfl, h5⟩ := xis_inv hz
  obtain ⟨h2, hn, hV⟩ := Option.bind_eq_some_iff.mp hT
  replace hT := hV
  obtain ⟨q, xs, rfl, h1, hv, rfl⟩ := xsq_inv hn
  obtain ⟨g1, g2⟩ := K _ _ _ hT
  have z1 : xsl (h.set q (.inr (.inr (.inr (xs.set i.toNatClampNeg (some (b0 + q5))))))) = xsl h := xsl_set h1 (by simp [xsz])
  have z2 : (h.set q (.inr (.inr (.inr (xs.set i.toNatClampNeg (some (b0 + q5))))))).length = h.length := List.length_set
  rw [z1, z2] at g1 g2
  refine ⟨g1, fun C arr H locs a1 a2 a3 a4 => ?_⟩
  obtain ⟨hx, hb, hml, hown, hts, ⟨hK, hAO⟩, hb0, hR, hlk, hr, hnme, hfr, hlo⟩ := id C
  obtain ⟨r', hr', cellV, w1, w2, w3, -⟩ := a2.2 q5 _ (xW_at h5)
  have hcls := (hK.1 ci _ hci).2
  obtain ⟨kA, comp, k1, k2, k3, -⟩ := (hK.2 3 (cA 3, .object RX5) rfl).2
  have hcomp : comp = D.1 ci := Option.some.inj (k3.symm.trans hcls.1)
  subst hcomp
  obtain ⟨kC, hkC, -⟩ := hcls.2
  refine W.aast hx hb (a2.2 q _ (xW_at h1)) (fun q h => by cases h) (fun h => by cases h) k1 k2 rfl hkC ⟨fun hh => hv (Or.inl hh), by show _ < (arrV _ _ _).slots.size; rw [arrV_size]; exact x_in hv⟩ w1 (fun q h => by rw [w3] at h; cases h) (by rw [w2]; exact hkC) (by rw [w2]; exact va_assign hcls) rfl rfl hd fun H1 e z oq => ?_
  have he : va_at D vwCl (b0 + q, xe cA (.inr (.inr (.inr (xs.set i.toNatClampNeg (some (b0 + q5))))))) H1 := by
    show H1[b0 + q]? = some (vp_cell _ _)
    rw [e]
    show some (Cell.setSlot (vp_cell _ _) _ _) = _
    rw [vp_cell_q, vp_cell_q, arrV_store, x_uQ (x_in hv), List.length_set]
  obtain ⟨r1, r2⟩ := x_upd (k := i.toNatClampNeg) a2 a3 h1 he z oq
  exact g2 C arr H1 _ a1 r1 r2 a4
end XHEAP
