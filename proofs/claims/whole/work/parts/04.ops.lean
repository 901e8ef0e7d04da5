
def xC (p : Program) (R : Room) (s : State) (m : MethodId) (args : Array Value) (meth : Method) (c : Code) (cc : ByteArray) (nL : Nat) (ret : Option FieldType) (own nm : String) (fr lo : Nat) (D : va_G) (cA : Nat → ClassId) (b0 : Nat) (hs : xH) (res : Option xV × xH) : Prop :=
  p.tables.exec = Jvm.exec ∧ c.code = cc ∧ c.maxLocals = nL ∧ s.vm.findClass own = some m.cls ∧ (∀ w ∈ xTB, w.before args s = true) ∧ (va_K D vwCl (xT cA) s ∧ va_AO RX5 s) ∧ b0 ≤ s.heap.size ∧ (res.2.length - hs.length ≤ R.cells ∧ xsl res.2 - xsl hs ≤ R.slots) ∧ meth.locks = false ∧ meth.sig.returnType = ret ∧ meth.name = nm ∧ fr ≤ R.frames ∧ lo ≤ R.locals
/-- a piece of code in the small machine, T, that stands at pc: where T ends with res, the machine comes to Q -/
def xS (p : Program) (l : Launch) (e : Env) (R : Room) (s : State) (m : MethodId) (args : Array Value) (below : List Frame) (meth : Method) (c : Code) (cc : ByteArray) (nL : Nat) (ret : Option FieldType) (own nm : String) (fr lo : Nat) (D : va_G) (cA : Nat → ClassId) (b0 : Nat) (hs : xH) (res : Option xV × xH) (Q : State → Prop) (T : xK) (pc : Nat) : Prop :=
  ∀ (ls : List (Option xV)) (st : List xV) (h : xH), T ls st h = some res → (h.length ≤ res.2.length ∧ xsl h ≤ xsl res.2) ∧
    (xC p R s m args meth c cc nL ret own nm fr lo D cA b0 hs res → ∀ (arr : Array Slot) (H : Heap) (locs : List Loc), xL arr nL ls → xRel D cA b0 h H → va_S (fun q => b0 ≤ q) s.heap H locs → (hs.length ≤ h.length ∧ xsl hs ≤ xsl h) →
      W p l e R s m args below meth c H locs (h.length - hs.length) (xsl h - xsl hs) Q (F0 m pc arr (st.map xv)))
section XOPS
variable {p : Program} {l : Launch} {e : Env} {R : Room} {s : State} {m : MethodId} {args : Array Value} {below : List Frame} {meth : Method} {c : Code} {cc : ByteArray} {nL : Nat} {ret : Option FieldType} {own nm : String} {fr lo : Nat} {D : va_G} {cA : Nat → ClassId} {b0 : Nat} {hs : xH} {res : Option xV × xH} {Q : State → Prop}
variable {pc : Nat} {T kT kF : xK}

def oCst (v : Int32) (T : xK) (ls : List (Option xV)) (st : List xV) (h : xH) : xR :=
  T ls (.inl v :: st) h
theorem s_iconst {n : Int} {v : Int32}  (hd : decode cc pc = .ok (.iconst n, 1)) (hv : Int32.ofInt n = v) (K : xS p l e R s m args below meth c cc nL ret own nm fr lo D cA b0 hs res Q T (pc + 1)) : xS p l e R s m args below meth c cc nL ret own nm fr lo D cA b0 hs res Q (oCst v T) pc := by
  intro ls st h hT
  change T ls (.inl v :: st) h = some res at hT
  obtain ⟨g1, g2⟩ := K _ _ _ hT
  exact ⟨g1, fun C arr H locs a1 a2 a3 a4 => lv_iconst C.1 C.2.1 hd hv (g2 C arr H locs a1 a2 a3 a4)⟩
theorem s_bipush {n : Int} {v : Int32}  (hd : decode cc pc = .ok (.bipush n, 2)) (hv : (Int8.ofInt n).toInt32 = v) (K : xS p l e R s m args below meth c cc nL ret own nm fr lo D cA b0 hs res Q T (pc + 2)) : xS p l e R s m args below meth c cc nL ret own nm fr lo D cA b0 hs res Q (oCst v T) pc := by
  intro ls st h hT
  change T ls (.inl v :: st) h = some res at hT
  obtain ⟨g1, g2⟩ := K _ _ _ hT
  exact ⟨g1, fun C arr H locs a1 a2 a3 a4 => lv_bipush C.1 C.2.1 hd hv (g2 C arr H locs a1 a2 a3 a4)⟩
theorem s_sipush {n : Int} {v : Int32}  (hd : decode cc pc = .ok (.sipush n, 3)) (hv : (Int16.ofInt n).toInt32 = v) (K : xS p l e R s m args below meth c cc nL ret own nm fr lo D cA b0 hs res Q T (pc + 3)) : xS p l e R s m args below meth c cc nL ret own nm fr lo D cA b0 hs res Q (oCst v T) pc := by
  intro ls st h hT
  change T ls (.inl v :: st) h = some res at hT
  obtain ⟨g1, g2⟩ := K _ _ _ hT
  exact ⟨g1, fun C arr H locs a1 a2 a3 a4 => lv_sipush C.1 C.2.1 hd hv (g2 C arr H locs a1 a2 a3 a4)⟩
def oNul (T : xK) (ls : List (Option xV)) (st : List xV) (h : xH) : xR :=
  T ls (.inr (.inr none) :: st) h
theorem s_null   (hd : decode cc pc = .ok (.aconst_null, 1)) (K : xS p l e R s m args below meth c cc nL ret own nm fr lo D cA b0 hs res Q T (pc + 1)) : xS p l e R s m args below meth c cc nL ret own nm fr lo D cA b0 hs res Q (oNul T) pc := by
  intro ls st h hT
  change T ls (.inr (.inr none) :: st) h = some res at hT
  obtain ⟨g1, g2⟩ := K _ _ _ hT
  exact ⟨g1, fun C arr H locs a1 a2 a3 a4 => lv_null C.1 C.2.1 hd (g2 C arr H locs a1 a2 a3 a4)⟩
def oILd (i : Nat) (T : xK) (ls : List (Option xV)) (st : List xV) (h : xH) : xR :=
  match xnth ls i with
  | some (.inl v) => T ls (.inl v :: st) h
  | _ => none
def oALd (i : Nat) (T : xK) (ls : List (Option xV)) (st : List xV) (h : xH) : xR :=
  match xnth ls i with
  | some (.inr (.inr v)) => T ls (.inr (.inr v) :: st) h
  | _ => none
theorem s_iload {i : Nat}  (hd : decode cc pc = .ok (.iload i, 2)) (K : xS p l e R s m args below meth c cc nL ret own nm fr lo D cA b0 hs res Q T (pc + 2)) : xS p l e R s m args below meth c cc nL ret own nm fr lo D cA b0 hs res Q (oILd i T) pc := by
  intro ls st h hT
  obtain ⟨v, hv, hT⟩ : ∃ v, xnth ls i = some (.inl v) ∧ T ls (.inl v :: st) h = some res := by
    unfold oILd at hT
    split at hT
    · rename_i v hv
      exact ⟨v, hv, hT⟩
    · cases hT
  obtain ⟨g1, g2⟩ := K _ _ _ hT
  exact ⟨g1, fun C arr H locs a1 a2 a3 a4 => lv_iload C.1 C.2.1 hd (a1.2.2 i _ hv).1 (g2 C arr H locs a1 a2 a3 a4)⟩
theorem s_iload_n {k : Fin 4} {i : Nat}  (hd : decode cc pc = .ok (.iload_n k, 1)) (hi : (k : Nat) = i) (K : xS p l e R s m args below meth c cc nL ret own nm fr lo D cA b0 hs res Q T (pc + 1)) : xS p l e R s m args below meth c cc nL ret own nm fr lo D cA b0 hs res Q (oILd i T) pc := by
  intro ls st h hT
  obtain ⟨v, hv, hT⟩ : ∃ v, xnth ls i = some (.inl v) ∧ T ls (.inl v :: st) h = some res := by
    unfold oILd at hT
    split at hT
    · rename_i v hv
      exact ⟨v, hv, hT⟩
    · cases hT
  obtain ⟨g1, g2⟩ := K _ _ _ hT
  exact ⟨g1, fun C arr H locs a1 a2 a3 a4 => lv_iload_n C.1 C.2.1 hd hi (a1.2.2 i _ hv).1 (g2 C arr H locs a1 a2 a3 a4)⟩
theorem s_aload {i : Nat}  (hd : decode cc pc = .ok (.aload i, 2)) (K : xS p l e R s m args below meth c cc nL ret own nm fr lo D cA b0 hs res Q T (pc + 2)) : xS p l e R s m args below meth c cc nL ret own nm fr lo D cA b0 hs res Q (oALd i T) pc := by
  intro ls st h hT
  obtain ⟨v, hv, hT⟩ : ∃ v, xnth ls i = some (.inr (.inr v)) ∧ T ls (.inr (.inr v) :: st) h = some res := by
    unfold oALd at hT
    split at hT
    · rename_i v hv
      exact ⟨v, hv, hT⟩
    · cases hT
  obtain ⟨g1, g2⟩ := K _ _ _ hT
  refine ⟨g1, fun C arr H locs a1 a2 a3 a4 => ?_⟩
  have hq := (a1.2.2 i _ hv).1
  have hg := g2 C arr H locs a1 a2 a3 a4
  cases v with
  | none => exact lv_aloadN C.1 C.2.1 hd hq hg
  | some a => exact lv_aload C.1 C.2.1 hd hq hg
theorem s_aload_n {k : Fin 4} {i : Nat}  (hd : decode cc pc = .ok (.aload_n k, 1)) (hi : (k : Nat) = i) (K : xS p l e R s m args below meth c cc nL ret own nm fr lo D cA b0 hs res Q T (pc + 1)) : xS p l e R s m args below meth c cc nL ret own nm fr lo D cA b0 hs res Q (oALd i T) pc := by
  intro ls st h hT
  obtain ⟨v, hv, hT⟩ : ∃ v, xnth ls i = some (.inr (.inr v)) ∧ T ls (.inr (.inr v) :: st) h = some res := by
    unfold oALd at hT
    split at hT
    · rename_i v hv
      exact ⟨v, hv, hT⟩
    · cases hT
  obtain ⟨g1, g2⟩ := K _ _ _ hT
  refine ⟨g1, fun C arr H locs a1 a2 a3 a4 => ?_⟩
  have hq := (a1.2.2 i _ hv).1
  have hg := g2 C arr H locs a1 a2 a3 a4
  cases v with
  | none => exact lv_aload_nN C.1 C.2.1 hd hi hq hg
  | some a => exact lv_aload_n C.1 C.2.1 hd hi hq hg
def oISt (i : Nat) (T : xK) (ls : List (Option xV)) (st : List xV) (h : xH) : xR :=
  match st with
  | .inl v :: st => T (xset ls i (.inl v)) st h
  | _ => none
def oASt (i : Nat) (T : xK) (ls : List (Option xV)) (st : List xV) (h : xH) : xR :=
  match st with
  | .inr (.inr v) :: st => T (xset ls i (.inr (.inr v))) st h
  | _ => none
theorem s_istore {i : Nat}  (hd : decode cc pc = .ok (.istore i, 2)) (hn : i < nL) (K : xS p l e R s m args below meth c cc nL ret own nm fr lo D cA b0 hs res Q T (pc + 2)) : xS p l e R s m args below meth c cc nL ret own nm fr lo D cA b0 hs res Q (oISt i T) pc := by
  intro ls st h hT
  obtain ⟨v, st', rfl, hU⟩ : ∃ v st', st = .inl v :: st' ∧ T (xset ls i (.inl v)) st' h = some res := by
    unfold oISt at hT
    split at hT
    · exact ⟨_, _, rfl, hT⟩
    · cases hT
  replace hT := hU
  obtain ⟨g1, g2⟩ := K _ _ _ hT
  exact ⟨g1, fun C arr H locs a1 a2 a3 a4 => lv_istore C.1 C.2.1 hd (xL_has a1) hn rfl (fun arr' h' => g2 C arr' H locs (xL_st a1 h' rfl) a2 a3 a4)⟩
theorem s_istore_n {k : Fin 4} {i : Nat}  (hd : decode cc pc = .ok (.istore_n k, 1)) (hi : (k : Nat) = i) (hn : i < nL) (K : xS p l e R s m args below meth c cc nL ret own nm fr lo D cA b0 hs res Q T (pc + 1)) : xS p l e R s m args below meth c cc nL ret own nm fr lo D cA b0 hs res Q (oISt i T) pc := by
  intro ls st h hT
  obtain ⟨v, st', rfl, hU⟩ : ∃ v st', st = .inl v :: st' ∧ T (xset ls i (.inl v)) st' h = some res := by
    unfold oISt at hT
    split at hT
    · exact ⟨_, _, rfl, hT⟩
    · cases hT
  replace hT := hU
  obtain ⟨g1, g2⟩ := K _ _ _ hT
  exact ⟨g1, fun C arr H locs a1 a2 a3 a4 => lv_istore_n C.1 C.2.1 hd hi (xL_has a1) hn rfl (fun arr' h' => g2 C arr' H locs (xL_st a1 h' rfl) a2 a3 a4)⟩
theorem s_astore {i : Nat}  (hd : decode cc pc = .ok (.astore i, 2)) (hn : i < nL) (K : xS p l e R s m args below meth c cc nL ret own nm fr lo D cA b0 hs res Q T (pc + 2)) : xS p l e R s m args below meth c cc nL ret own nm fr lo D cA b0 hs res Q (oASt i T) pc := by
  intro ls st h hT
  obtain ⟨v, st', rfl, hU⟩ : ∃ v st', st = .inr (.inr v) :: st' ∧ T (xset ls i (.inr (.inr v))) st' h = some res := by
    unfold oASt at hT
    split at hT
    · exact ⟨_, _, rfl, hT⟩
    · cases hT
  replace hT := hU
  obtain ⟨g1, g2⟩ := K _ _ _ hT
  refine ⟨g1, fun C arr H locs a1 a2 a3 a4 => ?_⟩
  cases v with
  | none => exact lv_astoreN C.1 C.2.1 hd (xL_has a1) hn rfl (fun arr' h' => g2 C arr' H locs (xL_st a1 h' rfl) a2 a3 a4)
  | some a => exact lv_astore C.1 C.2.1 hd (xL_has a1) hn rfl (fun arr' h' => g2 C arr' H locs (xL_st a1 h' rfl) a2 a3 a4)
theorem s_astore_n {k : Fin 4} {i : Nat}  (hd : decode cc pc = .ok (.astore_n k, 1)) (hi : (k : Nat) = i) (hn : i < nL) (K : xS p l e R s m args below meth c cc nL ret own nm fr lo D cA b0 hs res Q T (pc + 1)) : xS p l e R s m args below meth c cc nL ret own nm fr lo D cA b0 hs res Q (oASt i T) pc := by
  intro ls st h hT
  obtain ⟨v, st', rfl, hU⟩ : ∃ v st', st = .inr (.inr v) :: st' ∧ T (xset ls i (.inr (.inr v))) st' h = some res := by
    unfold oASt at hT
    split at hT
    · exact ⟨_, _, rfl, hT⟩
    · cases hT
  replace hT := hU
  obtain ⟨g1, g2⟩ := K _ _ _ hT
  refine ⟨g1, fun C arr H locs a1 a2 a3 a4 => ?_⟩
  cases v with
  | none => exact lv_astore_nN C.1 C.2.1 hd hi (xL_has a1) hn rfl (fun arr' h' => g2 C arr' H locs (xL_st a1 h' rfl) a2 a3 a4)
  | some a => exact lv_astore_n C.1 C.2.1 hd hi (xL_has a1) hn rfl (fun arr' h' => g2 C arr' H locs (xL_st a1 h' rfl) a2 a3 a4)
def oInc (i : Nat) (d : Int32) (T : xK) (ls : List (Option xV)) (st : List xV) (h : xH) : xR :=
  match xnth ls i with
  | some (.inl v) => T (xset ls i (.inl (v + d))) st h
  | _ => none
theorem s_iinc {i : Nat} {n : Int} {d : Int32}  (hd : decode cc pc = .ok (.iinc i n, 3)) (hv : Int32.ofInt n = d) (hn : i < nL) (K : xS p l e R s m args below meth c cc nL ret own nm fr lo D cA b0 hs res Q T (pc + 3)) : xS p l e R s m args below meth c cc nL ret own nm fr lo D cA b0 hs res Q (oInc i d T) pc := by
  intro ls st h hT
  obtain ⟨v, hx, hT⟩ : ∃ v, xnth ls i = some (.inl v) ∧ T (xset ls i (.inl (v + d))) st h = some res := by
    unfold oInc at hT
    split at hT
    · rename_i v hx
      exact ⟨v, hx, hT⟩
    · cases hT
  obtain ⟨g1, g2⟩ := K _ _ _ hT
  refine ⟨g1, fun C arr H locs a1 a2 a3 a4 => ?_⟩
  obtain ⟨k, hk⟩ := List.getElem?_of_mem (xL_mem a1 hx)
  exact lv_iinc (v := v + d) C.1 C.2.1 hd (xL_has a1) hk (by rw [hv]) hn rfl (fun arr' h' => g2 C arr' H locs (xL_st (v := .inl (v + d)) a1 h' rfl) a2 a3 a4)
def oAdd (T : xK) (ls : List (Option xV)) (st : List xV) (h : xH) : xR :=
  match st with
  | .inl y1 :: .inl x1 :: st => T ls (.inl (x1 + y1) :: st) h
  | _ => none
theorem s_iadd   (hd : decode cc pc = .ok (.iadd, 1)) (K : xS p l e R s m args below meth c cc nL ret own nm fr lo D cA b0 hs res Q T (pc + 1)) : xS p l e R s m args below meth c cc nL ret own nm fr lo D cA b0 hs res Q (oAdd T) pc := by
  intro ls st h hT
  obtain ⟨y1, x1, st', rfl, hU⟩ : ∃ y1 x1 st', st = .inl y1 :: .inl x1 :: st' ∧ T ls (.inl (x1 + y1) :: st') h = some res := by
    unfold oAdd at hT
    split at hT
    · exact ⟨_, _, _, rfl, hT⟩
    · cases hT
  replace hT := hU
  obtain ⟨g1, g2⟩ := K _ _ _ hT
  exact ⟨g1, fun C arr H locs a1 a2 a3 a4 => lv_iadd C.1 C.2.1 hd (g2 C arr H locs a1 a2 a3 a4)⟩
def oSub (T : xK) (ls : List (Option xV)) (st : List xV) (h : xH) : xR :=
  match st with
  | .inl y1 :: .inl x1 :: st => T ls (.inl (x1 - y1) :: st) h
  | _ => none
theorem s_isub   (hd : decode cc pc = .ok (.isub, 1)) (K : xS p l e R s m args below meth c cc nL ret own nm fr lo D cA b0 hs res Q T (pc + 1)) : xS p l e R s m args below meth c cc nL ret own nm fr lo D cA b0 hs res Q (oSub T) pc := by
  intro ls st h hT
  obtain ⟨y1, x1, st', rfl, hU⟩ : ∃ y1 x1 st', st = .inl y1 :: .inl x1 :: st' ∧ T ls (.inl (x1 - y1) :: st') h = some res := by
    unfold oSub at hT
    split at hT
    · exact ⟨_, _, _, rfl, hT⟩
    · cases hT
  replace hT := hU
  obtain ⟨g1, g2⟩ := K _ _ _ hT
  exact ⟨g1, fun C arr H locs a1 a2 a3 a4 => lv_isub C.1 C.2.1 hd (g2 C arr H locs a1 a2 a3 a4)⟩
def oMul (T : xK) (ls : List (Option xV)) (st : List xV) (h : xH) : xR :=
  match st with
  | .inl y1 :: .inl x1 :: st => T ls (.inl (x1 * y1) :: st) h
  | _ => none
theorem s_imul   (hd : decode cc pc = .ok (.imul, 1)) (K : xS p l e R s m args below meth c cc nL ret own nm fr lo D cA b0 hs res Q T (pc + 1)) : xS p l e R s m args below meth c cc nL ret own nm fr lo D cA b0 hs res Q (oMul T) pc := by
  intro ls st h hT
  obtain ⟨y1, x1, st', rfl, hU⟩ : ∃ y1 x1 st', st = .inl y1 :: .inl x1 :: st' ∧ T ls (.inl (x1 * y1) :: st') h = some res := by
    unfold oMul at hT
    split at hT
    · exact ⟨_, _, _, rfl, hT⟩
    · cases hT
  replace hT := hU
  obtain ⟨g1, g2⟩ := K _ _ _ hT
  exact ⟨g1, fun C arr H locs a1 a2 a3 a4 => lv_imul C.1 C.2.1 hd (g2 C arr H locs a1 a2 a3 a4)⟩
def oAnd (T : xK) (ls : List (Option xV)) (st : List xV) (h : xH) : xR :=
  match st with
  | .inl y1 :: .inl x1 :: st => T ls (.inl (x1 &&& y1) :: st) h
  | _ => none
theorem s_iand   (hd : decode cc pc = .ok (.iand, 1)) (K : xS p l e R s m args below meth c cc nL ret own nm fr lo D cA b0 hs res Q T (pc + 1)) : xS p l e R s m args below meth c cc nL ret own nm fr lo D cA b0 hs res Q (oAnd T) pc := by
  intro ls st h hT
  obtain ⟨y1, x1, st', rfl, hU⟩ : ∃ y1 x1 st', st = .inl y1 :: .inl x1 :: st' ∧ T ls (.inl (x1 &&& y1) :: st') h = some res := by
    unfold oAnd at hT
    split at hT
    · exact ⟨_, _, _, rfl, hT⟩
    · cases hT
  replace hT := hU
  obtain ⟨g1, g2⟩ := K _ _ _ hT
  exact ⟨g1, fun C arr H locs a1 a2 a3 a4 => lv_iand C.1 C.2.1 hd (g2 C arr H locs a1 a2 a3 a4)⟩
def oDiv (T : xK) (ls : List (Option xV)) (st : List xV) (h : xH) : xR :=
  match st with
  | .inl y1 :: .inl x1 :: st => if y1 = 0 then none else T ls (.inl (x1 / y1) :: st) h
  | _ => none
theorem s_idiv  (hd : decode cc pc = .ok (.idiv, 1)) (K : xS p l e R s m args below meth c cc nL ret own nm fr lo D cA b0 hs res Q T (pc + 1)) : xS p l e R s m args below meth c cc nL ret own nm fr lo D cA b0 hs res Q (oDiv T) pc := by
  intro ls st h hT
  obtain ⟨y1, x1, st', rfl, hU⟩ : ∃ y1 x1 st', st = .inl y1 :: .inl x1 :: st' ∧ (if y1 = 0 then none else T ls (.inl (x1 / y1) :: st') h) = some res := by
    unfold oDiv at hT
    split at hT
    · exact ⟨_, _, _, rfl, hT⟩
    · cases hT
  replace hT := hU
  by_cases hy : y1 = 0
  · rw [if_pos hy] at hT; cases hT
  · rw [if_neg hy] at hT
    obtain ⟨g1, g2⟩ := K _ _ _ hT
    exact ⟨g1, fun C arr H locs a1 a2 a3 a4 => lv_idiv C.1 C.2.1 hd hy (g2 C arr H locs a1 a2 a3 a4)⟩
def oI2L (T : xK) (ls : List (Option xV)) (st : List xV) (h : xH) : xR :=
  match st with
  | .inl x1 :: st => T ls (.inr (.inl x1.toInt64) :: st) h
  | _ => none
theorem s_i2l   (hd : decode cc pc = .ok (.i2l, 1)) (K : xS p l e R s m args below meth c cc nL ret own nm fr lo D cA b0 hs res Q T (pc + 1)) : xS p l e R s m args below meth c cc nL ret own nm fr lo D cA b0 hs res Q (oI2L T) pc := by
  intro ls st h hT
  obtain ⟨x1, st', rfl, hU⟩ : ∃ x1 st', st = .inl x1 :: st' ∧ T ls (.inr (.inl x1.toInt64) :: st') h = some res := by
    unfold oI2L at hT
    split at hT
    · exact ⟨_, _, rfl, hT⟩
    · cases hT
  replace hT := hU
  obtain ⟨g1, g2⟩ := K _ _ _ hT
  exact ⟨g1, fun C arr H locs a1 a2 a3 a4 => lv_i2l C.1 C.2.1 hd rfl (g2 C arr H locs a1 a2 a3 a4)⟩
def oLadd (T : xK) (ls : List (Option xV)) (st : List xV) (h : xH) : xR :=
  match st with
  | .inr (.inl y1) :: .inr (.inl x1) :: st => T ls (.inr (.inl (x1 + y1)) :: st) h
  | _ => none
theorem s_ladd   (hd : decode cc pc = .ok (.ladd, 1)) (K : xS p l e R s m args below meth c cc nL ret own nm fr lo D cA b0 hs res Q T (pc + 1)) : xS p l e R s m args below meth c cc nL ret own nm fr lo D cA b0 hs res Q (oLadd T) pc := by
  intro ls st h hT
  obtain ⟨y1, x1, st', rfl, hU⟩ : ∃ y1 x1 st', st = .inr (.inl y1) :: .inr (.inl x1) :: st' ∧ T ls (.inr (.inl (x1 + y1)) :: st') h = some res := by
    unfold oLadd at hT
    split at hT
    · exact ⟨_, _, _, rfl, hT⟩
    · cases hT
  replace hT := hU
  obtain ⟨g1, g2⟩ := K _ _ _ hT
  exact ⟨g1, fun C arr H locs a1 a2 a3 a4 => lv_ladd C.1 C.2.1 hd (g2 C arr H locs a1 a2 a3 a4)⟩
def oLcmp (T : xK) (ls : List (Option xV)) (st : List xV) (h : xH) : xR :=
  match st with
  | .inr (.inl y1) :: .inr (.inl x1) :: st => T ls (.inl (lg_cmp x1 y1) :: st) h
  | _ => none
theorem s_lcmp   (hd : decode cc pc = .ok (.lcmp, 1)) (K : xS p l e R s m args below meth c cc nL ret own nm fr lo D cA b0 hs res Q T (pc + 1)) : xS p l e R s m args below meth c cc nL ret own nm fr lo D cA b0 hs res Q (oLcmp T) pc := by
  intro ls st h hT
  obtain ⟨y1, x1, st', rfl, hU⟩ : ∃ y1 x1 st', st = .inr (.inl y1) :: .inr (.inl x1) :: st' ∧ T ls (.inl (lg_cmp x1 y1) :: st') h = some res := by
    unfold oLcmp at hT
    split at hT
    · exact ⟨_, _, _, rfl, hT⟩
    · cases hT
  replace hT := hU
  obtain ⟨g1, g2⟩ := K _ _ _ hT
  exact ⟨g1, fun C arr H locs a1 a2 a3 a4 => W.lcmp C.1 C.2.1 hd (g2 C arr H locs a1 a2 a3 a4)⟩
def oDup (T : xK) (ls : List (Option xV)) (st : List xV) (h : xH) : xR :=
  match st with
  | .inl v :: st => T ls (.inl v :: .inl v :: st) h
  | .inr (.inr v) :: st => T ls (.inr (.inr v) :: .inr (.inr v) :: st) h
  | _ => none
theorem s_dup  (hd : decode cc pc = .ok (.dup, 1)) (K : xS p l e R s m args below meth c cc nL ret own nm fr lo D cA b0 hs res Q T (pc + 1)) : xS p l e R s m args below meth c cc nL ret own nm fr lo D cA b0 hs res Q (oDup T) pc := by
  intro ls st h hT
  obtain ⟨v, st', rfl, hc, hT⟩ : ∃ v st', st = v :: st' ∧ (xv v).category = 1 ∧ T ls (v :: v :: st') h = some res := by
    unfold oDup at hT
    split at hT
    · exact ⟨_, _, rfl, rfl, hT⟩
    · exact ⟨_, _, rfl, xcat_r _, hT⟩
    · cases hT
  obtain ⟨g1, g2⟩ := K _ _ _ hT
  exact ⟨g1, fun C arr H locs a1 a2 a3 a4 => lv_dup C.1 C.2.1 hd hc (g2 C arr H locs a1 a2 a3 a4)⟩
def oDup2 (T : xK) (ls : List (Option xV)) (st : List xV) (h : xH) : xR :=
  match st with
  | .inl v :: .inr (.inr r) :: st => T ls (.inl v :: .inr (.inr r) :: .inl v :: .inr (.inr r) :: st) h
  | _ => none
theorem s_dup2  (hd : decode cc pc = .ok (.dup2, 1)) (K : xS p l e R s m args below meth c cc nL ret own nm fr lo D cA b0 hs res Q T (pc + 1)) : xS p l e R s m args below meth c cc nL ret own nm fr lo D cA b0 hs res Q (oDup2 T) pc := by
  intro ls st h hT
  obtain ⟨v, r, st', rfl, hU⟩ : ∃ v r st', st = .inl v :: .inr (.inr r) :: st' ∧ T ls (.inl v :: .inr (.inr r) :: .inl v :: .inr (.inr r) :: st') h = some res := by
    unfold oDup2 at hT
    split at hT
    · exact ⟨_, _, _, rfl, hT⟩
    · cases hT
  replace hT := hU
  obtain ⟨g1, g2⟩ := K _ _ _ hT
  exact ⟨g1, fun C arr H locs a1 a2 a3 a4 => lv_dup2_11 C.1 C.2.1 hd rfl (xcat_r r) (g2 C arr H locs a1 a2 a3 a4)⟩
def oC2eq (kT kF : xK) (ls : List (Option xV)) (st : List xV) (h : xH) : xR :=
  match st with
  | .inl y1 :: .inl x1 :: st => if x1 = y1 then kT ls st h else kF ls st h
  | _ => none
theorem s_c2eq {off : Int} {tgt : Nat}  (hd : decode cc pc = .ok (.if_icmp .eq off, 3)) (ht : (pc : Int) + off = (tgt : Int)) (KT : xS p l e R s m args below meth c cc nL ret own nm fr lo D cA b0 hs res Q kT tgt) (KF : xS p l e R s m args below meth c cc nL ret own nm fr lo D cA b0 hs res Q kF (pc + 3)) : xS p l e R s m args below meth c cc nL ret own nm fr lo D cA b0 hs res Q (oC2eq kT kF) pc := by
  intro ls st h hT
  obtain ⟨y1, x1, st', rfl, hU⟩ : ∃ y1 x1 st', st = .inl y1 :: .inl x1 :: st' ∧ (if x1 = y1 then kT ls st' h else kF ls st' h) = some res := by
    unfold oC2eq at hT
    split at hT
    · exact ⟨_, _, _, rfl, hT⟩
    · cases hT
  replace hT := hU
  by_cases hc : x1 = y1
  · rw [if_pos hc] at hT
    obtain ⟨g1, g2⟩ := KT _ _ _ hT
    exact ⟨g1, fun C arr H locs a1 a2 a3 a4 => lv_icmp_eq C.1 C.2.1 hd ht (fun _ => g2 C arr H locs a1 a2 a3 a4) (fun hn => absurd hc hn)⟩
  · rw [if_neg hc] at hT
    obtain ⟨g1, g2⟩ := KF _ _ _ hT
    exact ⟨g1, fun C arr H locs a1 a2 a3 a4 => lv_icmp_eq C.1 C.2.1 hd ht (fun hn => absurd hn hc) (fun _ => g2 C arr H locs a1 a2 a3 a4)⟩
def oC1eq (kT kF : xK) (ls : List (Option xV)) (st : List xV) (h : xH) : xR :=
  match st with
  | .inl x1 :: st => if x1 = 0 then kT ls st h else kF ls st h
  | _ => none
theorem s_c1eq {off : Int} {tgt : Nat}  (hd : decode cc pc = .ok (.ifCond .eq off, 3)) (ht : (pc : Int) + off = (tgt : Int)) (KT : xS p l e R s m args below meth c cc nL ret own nm fr lo D cA b0 hs res Q kT tgt) (KF : xS p l e R s m args below meth c cc nL ret own nm fr lo D cA b0 hs res Q kF (pc + 3)) : xS p l e R s m args below meth c cc nL ret own nm fr lo D cA b0 hs res Q (oC1eq kT kF) pc := by
  intro ls st h hT
  obtain ⟨x1, st', rfl, hU⟩ : ∃ x1 st', st = .inl x1 :: st' ∧ (if x1 = 0 then kT ls st' h else kF ls st' h) = some res := by
    unfold oC1eq at hT
    split at hT
    · exact ⟨_, _, rfl, hT⟩
    · cases hT
  replace hT := hU
  by_cases hc : x1 = 0
  · rw [if_pos hc] at hT
    obtain ⟨g1, g2⟩ := KT _ _ _ hT
    exact ⟨g1, fun C arr H locs a1 a2 a3 a4 => lv_if_eq C.1 C.2.1 hd ht (fun _ => g2 C arr H locs a1 a2 a3 a4) (fun hn => absurd hc hn)⟩
  · rw [if_neg hc] at hT
    obtain ⟨g1, g2⟩ := KF _ _ _ hT
    exact ⟨g1, fun C arr H locs a1 a2 a3 a4 => lv_if_eq C.1 C.2.1 hd ht (fun hn => absurd hn hc) (fun _ => g2 C arr H locs a1 a2 a3 a4)⟩
def oC2ne (kT kF : xK) (ls : List (Option xV)) (st : List xV) (h : xH) : xR :=
  match st with
  | .inl y1 :: .inl x1 :: st => if x1 = y1 then kF ls st h else kT ls st h
  | _ => none
theorem s_c2ne {off : Int} {tgt : Nat}  (hd : decode cc pc = .ok (.if_icmp .ne off, 3)) (ht : (pc : Int) + off = (tgt : Int)) (KT : xS p l e R s m args below meth c cc nL ret own nm fr lo D cA b0 hs res Q kT tgt) (KF : xS p l e R s m args below meth c cc nL ret own nm fr lo D cA b0 hs res Q kF (pc + 3)) : xS p l e R s m args below meth c cc nL ret own nm fr lo D cA b0 hs res Q (oC2ne kT kF) pc := by
  intro ls st h hT
  obtain ⟨y1, x1, st', rfl, hU⟩ : ∃ y1 x1 st', st = .inl y1 :: .inl x1 :: st' ∧ (if x1 = y1 then kF ls st' h else kT ls st' h) = some res := by
    unfold oC2ne at hT
    split at hT
    · exact ⟨_, _, _, rfl, hT⟩
    · cases hT
  replace hT := hU
  by_cases hc : x1 = y1
  · rw [if_pos hc] at hT
    obtain ⟨g1, g2⟩ := KF _ _ _ hT
    exact ⟨g1, fun C arr H locs a1 a2 a3 a4 => lv_icmp_ne C.1 C.2.1 hd ht (fun hn => absurd hc hn) (fun _ => g2 C arr H locs a1 a2 a3 a4)⟩
  · rw [if_neg hc] at hT
    obtain ⟨g1, g2⟩ := KT _ _ _ hT
    exact ⟨g1, fun C arr H locs a1 a2 a3 a4 => lv_icmp_ne C.1 C.2.1 hd ht (fun _ => g2 C arr H locs a1 a2 a3 a4) (fun hn => absurd hn hc)⟩
def oC1ne (kT kF : xK) (ls : List (Option xV)) (st : List xV) (h : xH) : xR :=
  match st with
  | .inl x1 :: st => if x1 = 0 then kF ls st h else kT ls st h
  | _ => none
theorem s_c1ne {off : Int} {tgt : Nat}  (hd : decode cc pc = .ok (.ifCond .ne off, 3)) (ht : (pc : Int) + off = (tgt : Int)) (KT : xS p l e R s m args below meth c cc nL ret own nm fr lo D cA b0 hs res Q kT tgt) (KF : xS p l e R s m args below meth c cc nL ret own nm fr lo D cA b0 hs res Q kF (pc + 3)) : xS p l e R s m args below meth c cc nL ret own nm fr lo D cA b0 hs res Q (oC1ne kT kF) pc := by
  intro ls st h hT
  obtain ⟨x1, st', rfl, hU⟩ : ∃ x1 st', st = .inl x1 :: st' ∧ (if x1 = 0 then kF ls st' h else kT ls st' h) = some res := by
    unfold oC1ne at hT
    split at hT
    · exact ⟨_, _, rfl, hT⟩
    · cases hT
  replace hT := hU
  by_cases hc : x1 = 0
  · rw [if_pos hc] at hT
    obtain ⟨g1, g2⟩ := KF _ _ _ hT
    exact ⟨g1, fun C arr H locs a1 a2 a3 a4 => lv_if_ne C.1 C.2.1 hd ht (fun hn => absurd hc hn) (fun _ => g2 C arr H locs a1 a2 a3 a4)⟩
  · rw [if_neg hc] at hT
    obtain ⟨g1, g2⟩ := KT _ _ _ hT
    exact ⟨g1, fun C arr H locs a1 a2 a3 a4 => lv_if_ne C.1 C.2.1 hd ht (fun _ => g2 C arr H locs a1 a2 a3 a4) (fun hn => absurd hn hc)⟩
def oC2lt (kT kF : xK) (ls : List (Option xV)) (st : List xV) (h : xH) : xR :=
  match st with
  | .inl y1 :: .inl x1 :: st => if x1 < y1 then kT ls st h else kF ls st h
  | _ => none
theorem s_c2lt {off : Int} {tgt : Nat}  (hd : decode cc pc = .ok (.if_icmp .lt off, 3)) (ht : (pc : Int) + off = (tgt : Int)) (KT : xS p l e R s m args below meth c cc nL ret own nm fr lo D cA b0 hs res Q kT tgt) (KF : xS p l e R s m args below meth c cc nL ret own nm fr lo D cA b0 hs res Q kF (pc + 3)) : xS p l e R s m args below meth c cc nL ret own nm fr lo D cA b0 hs res Q (oC2lt kT kF) pc := by
  intro ls st h hT
  obtain ⟨y1, x1, st', rfl, hU⟩ : ∃ y1 x1 st', st = .inl y1 :: .inl x1 :: st' ∧ (if x1 < y1 then kT ls st' h else kF ls st' h) = some res := by
    unfold oC2lt at hT
    split at hT
    · exact ⟨_, _, _, rfl, hT⟩
    · cases hT
  replace hT := hU
  by_cases hc : x1 < y1
  · rw [if_pos hc] at hT
    obtain ⟨g1, g2⟩ := KT _ _ _ hT
    exact ⟨g1, fun C arr H locs a1 a2 a3 a4 => lv_icmp_lt C.1 C.2.1 hd ht (fun _ => g2 C arr H locs a1 a2 a3 a4) (fun hn => absurd hc hn)⟩
  · rw [if_neg hc] at hT
    obtain ⟨g1, g2⟩ := KF _ _ _ hT
    exact ⟨g1, fun C arr H locs a1 a2 a3 a4 => lv_icmp_lt C.1 C.2.1 hd ht (fun hn => absurd hn hc) (fun _ => g2 C arr H locs a1 a2 a3 a4)⟩
def oC1lt (kT kF : xK) (ls : List (Option xV)) (st : List xV) (h : xH) : xR :=
  match st with
  | .inl x1 :: st => if x1 < 0 then kT ls st h else kF ls st h
  | _ => none
theorem s_c1lt {off : Int} {tgt : Nat}  (hd : decode cc pc = .ok (.ifCond .lt off, 3)) (ht : (pc : Int) + off = (tgt : Int)) (KT : xS p l e R s m args below meth c cc nL ret own nm fr lo D cA b0 hs res Q kT tgt) (KF : xS p l e R s m args below meth c cc nL ret own nm fr lo D cA b0 hs res Q kF (pc + 3)) : xS p l e R s m args below meth c cc nL ret own nm fr lo D cA b0 hs res Q (oC1lt kT kF) pc := by
  intro ls st h hT
  obtain ⟨x1, st', rfl, hU⟩ : ∃ x1 st', st = .inl x1 :: st' ∧ (if x1 < 0 then kT ls st' h else kF ls st' h) = some res := by
    unfold oC1lt at hT
    split at hT
    · exact ⟨_, _, rfl, hT⟩
    · cases hT
  replace hT := hU
  by_cases hc : x1 < 0
  · rw [if_pos hc] at hT
    obtain ⟨g1, g2⟩ := KT _ _ _ hT
    exact ⟨g1, fun C arr H locs a1 a2 a3 a4 => lv_if_lt C.1 C.2.1 hd ht (fun _ => g2 C arr H locs a1 a2 a3 a4) (fun hn => absurd hc hn)⟩
  · rw [if_neg hc] at hT
    obtain ⟨g1, g2⟩ := KF _ _ _ hT
    exact ⟨g1, fun C arr H locs a1 a2 a3 a4 => lv_if_lt C.1 C.2.1 hd ht (fun hn => absurd hn hc) (fun _ => g2 C arr H locs a1 a2 a3 a4)⟩
def oC2ge (kT kF : xK) (ls : List (Option xV)) (st : List xV) (h : xH) : xR :=
  match st with
  | .inl y1 :: .inl x1 :: st => if y1 ≤ x1 then kT ls st h else kF ls st h
  | _ => none
theorem s_c2ge {off : Int} {tgt : Nat}  (hd : decode cc pc = .ok (.if_icmp .ge off, 3)) (ht : (pc : Int) + off = (tgt : Int)) (KT : xS p l e R s m args below meth c cc nL ret own nm fr lo D cA b0 hs res Q kT tgt) (KF : xS p l e R s m args below meth c cc nL ret own nm fr lo D cA b0 hs res Q kF (pc + 3)) : xS p l e R s m args below meth c cc nL ret own nm fr lo D cA b0 hs res Q (oC2ge kT kF) pc := by
  intro ls st h hT
  obtain ⟨y1, x1, st', rfl, hU⟩ : ∃ y1 x1 st', st = .inl y1 :: .inl x1 :: st' ∧ (if y1 ≤ x1 then kT ls st' h else kF ls st' h) = some res := by
    unfold oC2ge at hT
    split at hT
    · exact ⟨_, _, _, rfl, hT⟩
    · cases hT
  replace hT := hU
  by_cases hc : y1 ≤ x1
  · rw [if_pos hc] at hT
    obtain ⟨g1, g2⟩ := KT _ _ _ hT
    exact ⟨g1, fun C arr H locs a1 a2 a3 a4 => lv_icmp_ge C.1 C.2.1 hd ht (fun _ => g2 C arr H locs a1 a2 a3 a4) (fun hn => absurd hc hn)⟩
  · rw [if_neg hc] at hT
    obtain ⟨g1, g2⟩ := KF _ _ _ hT
    exact ⟨g1, fun C arr H locs a1 a2 a3 a4 => lv_icmp_ge C.1 C.2.1 hd ht (fun hn => absurd hn hc) (fun _ => g2 C arr H locs a1 a2 a3 a4)⟩
def oC1ge (kT kF : xK) (ls : List (Option xV)) (st : List xV) (h : xH) : xR :=
  match st with
  | .inl x1 :: st => if 0 ≤ x1 then kT ls st h else kF ls st h
  | _ => none
theorem s_c1ge {off : Int} {tgt : Nat}  (hd : decode cc pc = .ok (.ifCond .ge off, 3)) (ht : (pc : Int) + off = (tgt : Int)) (KT : xS p l e R s m args below meth c cc nL ret own nm fr lo D cA b0 hs res Q kT tgt) (KF : xS p l e R s m args below meth c cc nL ret own nm fr lo D cA b0 hs res Q kF (pc + 3)) : xS p l e R s m args below meth c cc nL ret own nm fr lo D cA b0 hs res Q (oC1ge kT kF) pc := by
  intro ls st h hT
  obtain ⟨x1, st', rfl, hU⟩ : ∃ x1 st', st = .inl x1 :: st' ∧ (if 0 ≤ x1 then kT ls st' h else kF ls st' h) = some res := by
    unfold oC1ge at hT
    split at hT
    · exact ⟨_, _, rfl, hT⟩
    · cases hT
  replace hT := hU
  by_cases hc : 0 ≤ x1
  · rw [if_pos hc] at hT
    obtain ⟨g1, g2⟩ := KT _ _ _ hT
    exact ⟨g1, fun C arr H locs a1 a2 a3 a4 => lv_if_ge C.1 C.2.1 hd ht (fun _ => g2 C arr H locs a1 a2 a3 a4) (fun hn => absurd hc hn)⟩
  · rw [if_neg hc] at hT
    obtain ⟨g1, g2⟩ := KF _ _ _ hT
    exact ⟨g1, fun C arr H locs a1 a2 a3 a4 => lv_if_ge C.1 C.2.1 hd ht (fun hn => absurd hn hc) (fun _ => g2 C arr H locs a1 a2 a3 a4)⟩
def oC2gt (kT kF : xK) (ls : List (Option xV)) (st : List xV) (h : xH) : xR :=
  match st with
  | .inl y1 :: .inl x1 :: st => if y1 < x1 then kT ls st h else kF ls st h
  | _ => none
theorem s_c2gt {off : Int} {tgt : Nat}  (hd : decode cc pc = .ok (.if_icmp .gt off, 3)) (ht : (pc : Int) + off = (tgt : Int)) (KT : xS p l e R s m args below meth c cc nL ret own nm fr lo D cA b0 hs res Q kT tgt) (KF : xS p l e R s m args below meth c cc nL ret own nm fr lo D cA b0 hs res Q kF (pc + 3)) : xS p l e R s m args below meth c cc nL ret own nm fr lo D cA b0 hs res Q (oC2gt kT kF) pc := by
  intro ls st h hT
  obtain ⟨y1, x1, st', rfl, hU⟩ : ∃ y1 x1 st', st = .inl y1 :: .inl x1 :: st' ∧ (if y1 < x1 then kT ls st' h else kF ls st' h) = some res := by
    unfold oC2gt at hT
    split at hT
    · exact ⟨_, _, _, rfl, hT⟩
    · cases hT
  replace hT := hU
  by_cases hc : y1 < x1
  · rw [if_pos hc] at hT
    obtain ⟨g1, g2⟩ := KT _ _ _ hT
    exact ⟨g1, fun C arr H locs a1 a2 a3 a4 => lv_icmp_gt C.1 C.2.1 hd ht (fun _ => g2 C arr H locs a1 a2 a3 a4) (fun hn => absurd hc hn)⟩
  · rw [if_neg hc] at hT
    obtain ⟨g1, g2⟩ := KF _ _ _ hT
    exact ⟨g1, fun C arr H locs a1 a2 a3 a4 => lv_icmp_gt C.1 C.2.1 hd ht (fun hn => absurd hn hc) (fun _ => g2 C arr H locs a1 a2 a3 a4)⟩
def oC1gt (kT kF : xK) (ls : List (Option xV)) (st : List xV) (h : xH) : xR :=
  match st with
  | .inl x1 :: st => if 0 < x1 then kT ls st h else kF ls st h
  | _ => none
theorem s_c1gt {off : Int} {tgt : Nat}  (hd : decode cc pc = .ok (.ifCond .gt off, 3)) (ht : (pc : Int) + off = (tgt : Int)) (KT : xS p l e R s m args below meth c cc nL ret own nm fr lo D cA b0 hs res Q kT tgt) (KF : xS p l e R s m args below meth c cc nL ret own nm fr lo D cA b0 hs res Q kF (pc + 3)) : xS p l e R s m args below meth c cc nL ret own nm fr lo D cA b0 hs res Q (oC1gt kT kF) pc := by
  intro ls st h hT
  obtain ⟨x1, st', rfl, hU⟩ : ∃ x1 st', st = .inl x1 :: st' ∧ (if 0 < x1 then kT ls st' h else kF ls st' h) = some res := by
    unfold oC1gt at hT
    split at hT
    · exact ⟨_, _, rfl, hT⟩
    · cases hT
  replace hT := hU
  by_cases hc : 0 < x1
  · rw [if_pos hc] at hT
    obtain ⟨g1, g2⟩ := KT _ _ _ hT
    exact ⟨g1, fun C arr H locs a1 a2 a3 a4 => lv_if_gt C.1 C.2.1 hd ht (fun _ => g2 C arr H locs a1 a2 a3 a4) (fun hn => absurd hc hn)⟩
  · rw [if_neg hc] at hT
    obtain ⟨g1, g2⟩ := KF _ _ _ hT
    exact ⟨g1, fun C arr H locs a1 a2 a3 a4 => lv_if_gt C.1 C.2.1 hd ht (fun hn => absurd hn hc) (fun _ => g2 C arr H locs a1 a2 a3 a4)⟩
def oC2le (kT kF : xK) (ls : List (Option xV)) (st : List xV) (h : xH) : xR :=
  match st with
  | .inl y1 :: .inl x1 :: st => if x1 ≤ y1 then kT ls st h else kF ls st h
  | _ => none
theorem s_c2le {off : Int} {tgt : Nat}  (hd : decode cc pc = .ok (.if_icmp .le off, 3)) (ht : (pc : Int) + off = (tgt : Int)) (KT : xS p l e R s m args below meth c cc nL ret own nm fr lo D cA b0 hs res Q kT tgt) (KF : xS p l e R s m args below meth c cc nL ret own nm fr lo D cA b0 hs res Q kF (pc + 3)) : xS p l e R s m args below meth c cc nL ret own nm fr lo D cA b0 hs res Q (oC2le kT kF) pc := by
  intro ls st h hT
  obtain ⟨y1, x1, st', rfl, hU⟩ : ∃ y1 x1 st', st = .inl y1 :: .inl x1 :: st' ∧ (if x1 ≤ y1 then kT ls st' h else kF ls st' h) = some res := by
    unfold oC2le at hT
    split at hT
    · exact ⟨_, _, _, rfl, hT⟩
    · cases hT
  replace hT := hU
  by_cases hc : x1 ≤ y1
  · rw [if_pos hc] at hT
    obtain ⟨g1, g2⟩ := KT _ _ _ hT
    exact ⟨g1, fun C arr H locs a1 a2 a3 a4 => lv_icmp_le C.1 C.2.1 hd ht (fun _ => g2 C arr H locs a1 a2 a3 a4) (fun hn => absurd hc hn)⟩
  · rw [if_neg hc] at hT
    obtain ⟨g1, g2⟩ := KF _ _ _ hT
    exact ⟨g1, fun C arr H locs a1 a2 a3 a4 => lv_icmp_le C.1 C.2.1 hd ht (fun hn => absurd hn hc) (fun _ => g2 C arr H locs a1 a2 a3 a4)⟩
def oC1le (kT kF : xK) (ls : List (Option xV)) (st : List xV) (h : xH) : xR :=
  match st with
  | .inl x1 :: st => if x1 ≤ 0 then kT ls st h else kF ls st h
  | _ => none
theorem s_c1le {off : Int} {tgt : Nat}  (hd : decode cc pc = .ok (.ifCond .le off, 3)) (ht : (pc : Int) + off = (tgt : Int)) (KT : xS p l e R s m args below meth c cc nL ret own nm fr lo D cA b0 hs res Q kT tgt) (KF : xS p l e R s m args below meth c cc nL ret own nm fr lo D cA b0 hs res Q kF (pc + 3)) : xS p l e R s m args below meth c cc nL ret own nm fr lo D cA b0 hs res Q (oC1le kT kF) pc := by
  intro ls st h hT
  obtain ⟨x1, st', rfl, hU⟩ : ∃ x1 st', st = .inl x1 :: st' ∧ (if x1 ≤ 0 then kT ls st' h else kF ls st' h) = some res := by
    unfold oC1le at hT
    split at hT
    · exact ⟨_, _, rfl, hT⟩
    · cases hT
  replace hT := hU
  by_cases hc : x1 ≤ 0
  · rw [if_pos hc] at hT
    obtain ⟨g1, g2⟩ := KT _ _ _ hT
    exact ⟨g1, fun C arr H locs a1 a2 a3 a4 => lv_if_le C.1 C.2.1 hd ht (fun _ => g2 C arr H locs a1 a2 a3 a4) (fun hn => absurd hc hn)⟩
  · rw [if_neg hc] at hT
    obtain ⟨g1, g2⟩ := KF _ _ _ hT
    exact ⟨g1, fun C arr H locs a1 a2 a3 a4 => lv_if_le C.1 C.2.1 hd ht (fun hn => absurd hn hc) (fun _ => g2 C arr H locs a1 a2 a3 a4)⟩
def oCnull (kT kF : xK) (ls : List (Option xV)) (st : List xV) (h : xH) : xR :=
  match st with
  | .inr (.inr none) :: st => kT ls st h
  | .inr (.inr (some _)) :: st => kF ls st h
  | _ => none
theorem s_cnull {off : Int} {tgt : Nat}  (hd : decode cc pc = .ok (.ifnull off, 3)) (ht : (pc : Int) + off = (tgt : Int)) (KT : xS p l e R s m args below meth c cc nL ret own nm fr lo D cA b0 hs res Q kT tgt) (KF : xS p l e R s m args below meth c cc nL ret own nm fr lo D cA b0 hs res Q kF (pc + 3)) : xS p l e R s m args below meth c cc nL ret own nm fr lo D cA b0 hs res Q (oCnull kT kF) pc := by
  intro ls st h hT
  unfold oCnull at hT
  split at hT
  · obtain ⟨g1, g2⟩ := KT _ _ _ hT
    exact ⟨g1, fun C arr H locs a1 a2 a3 a4 => lv_ifnullN C.1 C.2.1 hd ht (g2 C arr H locs a1 a2 a3 a4)⟩
  · obtain ⟨g1, g2⟩ := KF _ _ _ hT
    exact ⟨g1, fun C arr H locs a1 a2 a3 a4 => lv_ifnull C.1 C.2.1 hd (g2 C arr H locs a1 a2 a3 a4)⟩
  · cases hT
def oCnonnull (kT kF : xK) (ls : List (Option xV)) (st : List xV) (h : xH) : xR :=
  match st with
  | .inr (.inr none) :: st => kF ls st h
  | .inr (.inr (some _)) :: st => kT ls st h
  | _ => none
theorem s_cnonnull {off : Int} {tgt : Nat}  (hd : decode cc pc = .ok (.ifnonnull off, 3)) (ht : (pc : Int) + off = (tgt : Int)) (KT : xS p l e R s m args below meth c cc nL ret own nm fr lo D cA b0 hs res Q kT tgt) (KF : xS p l e R s m args below meth c cc nL ret own nm fr lo D cA b0 hs res Q kF (pc + 3)) : xS p l e R s m args below meth c cc nL ret own nm fr lo D cA b0 hs res Q (oCnonnull kT kF) pc := by
  intro ls st h hT
  unfold oCnonnull at hT
  split at hT
  · obtain ⟨g1, g2⟩ := KF _ _ _ hT
    exact ⟨g1, fun C arr H locs a1 a2 a3 a4 => lv_ifnonnullN C.1 C.2.1 hd (g2 C arr H locs a1 a2 a3 a4)⟩
  · obtain ⟨g1, g2⟩ := KT _ _ _ hT
    exact ⟨g1, fun C arr H locs a1 a2 a3 a4 => lv_ifnonnull C.1 C.2.1 hd ht (g2 C arr H locs a1 a2 a3 a4)⟩
  · cases hT
theorem s_goto {off : Int} {tgt : Nat}  (hd : decode cc pc = .ok (.goto off, 3)) (ht : (pc : Int) + off = (tgt : Int)) (K : xS p l e R s m args below meth c cc nL ret own nm fr lo D cA b0 hs res Q T tgt) : xS p l e R s m args below meth c cc nL ret own nm fr lo D cA b0 hs res Q T pc := by
  intro ls st h hT
  obtain ⟨g1, g2⟩ := K _ _ _ hT
  exact ⟨g1, fun C arr H locs a1 a2 a3 a4 => lv_goto C.1 C.2.1 hd ht (g2 C arr H locs a1 a2 a3 a4)⟩
def oTab (n : Nat) (ks : Nat → xK) (kd : xK) (ls : List (Option xV)) (st : List xV) (h : xH) : xR :=
  match st with
  | .inl x1 :: st => if x1 < 0 then kd ls st h else if x1.toNatClampNeg < n then ks x1.toNatClampNeg ls st h else kd ls st h
  | _ => none
theorem s_tab {n : Nat} {ks : Nat → xK} {kd : xK} {dflt hi : Int} {offs : Array Int} {len dt : Nat} {tg : Nat → Nat}  (hd : decode cc pc = .ok (.tableswitch dflt 0 hi offs, len)) (hhi : hi + 1 = (n : Int)) (hdt : (pc : Int) + dflt = (dt : Int))
    (hof : ∀ k, k < n → ∃ off, offs[k]? = some off ∧ (pc : Int) + off = (tg k : Int)) (KS : ∀ k, k < n → xS p l e R s m args below meth c cc nL ret own nm fr lo D cA b0 hs res Q (ks k) (tg k)) (KD : xS p l e R s m args below meth c cc nL ret own nm fr lo D cA b0 hs res Q kd dt) : xS p l e R s m args below meth c cc nL ret own nm fr lo D cA b0 hs res Q (oTab n ks kd) pc := by
  intro ls st h hT
  obtain ⟨x1, st', rfl, hU⟩ : ∃ x1 st', st = .inl x1 :: st' ∧ (if x1 < 0 then kd ls st' h else if x1.toNatClampNeg < n then ks x1.toNatClampNeg ls st' h else kd ls st' h) = some res := by
    unfold oTab at hT
    split at hT
    · exact ⟨_, _, rfl, hT⟩
    · cases hT
  replace hT := hU
  by_cases hx : x1 < 0
  · rw [if_pos hx] at hT
    obtain ⟨g1, g2⟩ := KD _ _ _ hT
    exact ⟨g1, fun C arr H locs a1 a2 a3 a4 => lv_tableOut C.1 C.2.1 hd (Or.inl (by rw [Int32.lt_iff_toInt_lt] at hx; exact hx)) hdt (g2 C arr H locs a1 a2 a3 a4)⟩
  · rw [if_neg hx] at hT
    obtain ⟨j, hj, rfl⟩ := nI_of hx
    have hti := nI_toInt hj
    rw [nI_clamp hj] at hT
    by_cases hn : j < n
    · rw [if_pos hn] at hT
      obtain ⟨g1, g2⟩ := KS j hn _ _ _ hT
      obtain ⟨off, ho, ht⟩ := hof j hn
      exact ⟨g1, fun C arr H locs a1 a2 a3 a4 => lv_tableIn C.1 C.2.1 hd (by rw [hti]; omega) (by rw [hti]; omega) (by rw [hti]; simpa using ho) ht (g2 C arr H locs a1 a2 a3 a4)⟩
    · rw [if_neg hn] at hT
      obtain ⟨g1, g2⟩ := KD _ _ _ hT
      exact ⟨g1, fun C arr H locs a1 a2 a3 a4 => lv_tableOut C.1 C.2.1 hd (Or.inr (by rw [hti]; omega)) hdt (g2 C arr H locs a1 a2 a3 a4)⟩
end XOPS
