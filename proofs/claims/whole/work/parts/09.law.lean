/-! THE CLAIM OUT OF ONE WALK OF THE LAW'S BODY. Your part is whole_start (and what it stands on); all else here is the same for every law, but numbers. -/
def R_law : String := "TaskTurnsLaw"
def lw_P (b : Addr) (xs : List Int32) (args : Array Value) (s : State) : Prop := args = #[.ref b] ∧ s.IntsAt b xs ∧ xs.length ≤ 2560 ∧ (Jvm.Cond.and given_1 narrow_1).before args s = true
def lw_Q (_ : Array Value) (s : State) (o : Outcome) (t : State) : Prop := o = .returned (some (.int 1)) ∧ Framed s o t [] 600000 7302250
def lw_Z (below : List Frame) (a : Array Value) (s : State) : State → Prop := fun t => ∃ o, t.status = .running ∧ Ended t below o ∧ lw_Q a s o t
/-- the law's own end, with 1 on the stack, nothing written that was there before, its room as the claim has it -/
theorem lw_ret {p : Program} {l : Launch} {e : Env} {s : State} {m : MethodId} {below : List Frame} {meth : Method} {c : Code} {b : Nat} (hx : p.tables.exec = Jvm.exec) (hb : c.code = code) (hr : meth.sig.returnType = ret) (hlocks : meth.locks = false) {pc : Nat} {H : Heap} {ls : Array Slot} (hdg : decode code pc = .ok (.ireturn, 1)) : W p l e room_1 s m #[Value.ref b] below meth c H [] 600000 7302250 (lw_Z below #[Value.ref b] s) (F0 m pc ls [.int 1]) := by
  intro T hT X
  obtain ⟨fs, hret, hrun, hended, hW, hframe⟩ := X.leave (v := some (.int 1)) (hlocks := hlocks) (fun h => by rw [hr] at h; cases h)
  have hmeth' : T.vm.method? m = some meth := X.method'
  refine ⟨T.setFrames fs, ?_, .returned (some (.int 1)), hrun, hended, rfl, ⟨_, rfl⟩, hW, hframe⟩
  jvm_step X.here [X.here.top, hx, hb, hdg, hmeth', hr, ret, narrow_b1]
  (try refine ⟨rfl, ?_⟩); (try refine ⟨rfl, ?_⟩)
  first | (intro acts; rw [hret _ acts rfl rfl rfl]) | rw [hret _ _ rfl rfl rfl]
  exact Steps.refl _
/-- what holds at the law's entry: the machine, the code, the tables' words (any of lw_tbl by 'hts w (by decide +kernel)'), the script of L ints xs at the cell b, what the Statement gives of the start (any of its parts by flat_of_before) -/
def lw_At (p : Program) (s : State) (m : MethodId) (meth : Method) (c : Code) (b L : Nat) (xs : Nat → Int32) : Prop :=
  p.tables.exec = Jvm.exec ∧ c.code = code ∧ meth.sig.returnType = ret ∧ c.maxLocals = 4 ∧ s.vm.findClass R_law = some m.cls ∧ (∀ w ∈ lw_tbl, w.before #[Value.ref b] s = true) ∧ va_X b L xs s s.heap ∧ b < s.heap.size ∧ meth.locks = false ∧ (Jvm.Cond.and given_1 narrow_1).before #[Value.ref b] s = true

/-- the law's own script, which lies below all that the run makes -/
def xX (b L : Nat) (xs : Nat → Int32) (s : State) (b0 : Nat) : Prop := va_X b L xs s s.heap ∧ b < s.heap.size ∧ b < b0

section XLAW
variable {p : Program} {l : Launch} {e : Env} {R : Room} {s : State} {m : MethodId} {args : Array Value} {below : List Frame} {meth : Method} {c : Code} {cc : ByteArray} {nL : Nat} {ret : Option FieldType} {own nm : String} {fr lo : Nat} {D : va_G} {cA : Nat → ClassId} {b0 : Nat} {hs : xH} {res : Option xV × xH} {Q : State → Prop}
variable {pc : Nat} {T kT kF : xK}
variable {b L : Nat} {xs : Nat → Int32}
def oSal (b L : Nat) (xs : Nat → Int32) (T : xK) (ls : List (Option xV)) (st : List xV) (h : xH) : xR :=
  match st with
  | .inl i :: .inr (.inr (some a)) :: st => if a = b ∧ ¬ i < 0 ∧ i.toNatClampNeg < L then T ls (.inl (xs i.toNatClampNeg) :: st) h else none
  | _ => none
def oSln (b L : Nat) (T : xK) (ls : List (Option xV)) (st : List xV) (h : xH) : xR :=
  match st with
  | .inr (.inr (some a)) :: st => if a = b then T ls (.inl (nI L) :: st) h else none
  | _ => none
def oRetL  (ls : List (Option xV)) (st : List xV) (h : xH) : xR :=
  match st with
  | [.inl n] => if n = 1 then some (some (.inl n), h) else none
  | _ => none
theorem s_sal (hX : xX b L xs s b0) (hd : decode cc pc = .ok (.iaload, 1)) (K : xS p l e R s m args below meth c cc nL ret own nm fr lo D cA b0 hs res Q T (pc + 1)) : xS p l e R s m args below meth c cc nL ret own nm fr lo D cA b0 hs res Q (oSal b L xs T) pc := by
  intro ls st h hT
  obtain ⟨i, a, st', rfl, hU⟩ : ∃ i a st', st = .inl i :: .inr (.inr (some a)) :: st' ∧ (if a = b ∧ ¬ i < 0 ∧ i.toNatClampNeg < L then T ls (.inl (xs i.toNatClampNeg) :: st') h else none) = some res := by
    unfold oSal at hT
    split at hT
    · exact ⟨_, _, _, rfl, hT⟩
    · cases hT
  replace hT := hU
  by_cases hz : a = b ∧ ¬ i < 0 ∧ i.toNatClampNeg < L
  case neg => rw [if_neg hz] at hT; cases hT
  rw [if_pos hz] at hT
  obtain ⟨rfl, z1, z2⟩ := hz
  obtain ⟨g1, g2⟩ := K _ _ _ hT
  refine ⟨g1, fun C arr H locs a1 a2 a3 a4 => ?_⟩
  obtain ⟨hx, hb, hml, hown, hts, ⟨hK, hAO⟩, hb0, hR, hlk, hr, hnme, hfr, hlo⟩ := id C
  exact va_sld hx hb hX.1 hX.2.1 (Nat.not_le.mpr hX.2.2) a3 (fun hh => hh.elim z1 (fun h9 => by omega)) hd (g2 C arr H locs a1 a2 a3 a4)
theorem s_sln (hX : xX b L xs s b0) (hd : decode cc pc = .ok (.arraylength, 1)) (K : xS p l e R s m args below meth c cc nL ret own nm fr lo D cA b0 hs res Q T (pc + 1)) : xS p l e R s m args below meth c cc nL ret own nm fr lo D cA b0 hs res Q (oSln b L T) pc := by
  intro ls st h hT
  obtain ⟨a, st', rfl, hU⟩ : ∃ a st', st = .inr (.inr (some a)) :: st' ∧ (if a = b then T ls (.inl (nI L) :: st') h else none) = some res := by
    unfold oSln at hT
    split at hT
    · exact ⟨_, _, rfl, hT⟩
    · cases hT
  replace hT := hU
  by_cases hz : a = b
  case neg => rw [if_neg hz] at hT; cases hT
  rw [if_pos hz] at hT
  subst hz
  obtain ⟨g1, g2⟩ := K _ _ _ hT
  refine ⟨g1, fun C arr H locs a1 a2 a3 a4 => ?_⟩
  obtain ⟨hx, hb, hml, hown, hts, ⟨hK, hAO⟩, hb0, hR, hlk, hr, hnme, hfr, hlo⟩ := id C
  exact va_slen hx hb hX.1 hX.2.1 (Nat.not_le.mpr hX.2.2) a3 hd (g2 C arr H locs a1 a2 a3 a4)
end XLAW
section XLAW2
variable {p : Program} {l : Launch} {e : Env} {s : State} {m : MethodId} {below : List Frame} {meth : Method} {c : Code} {D : va_G} {cA : Nat → ClassId} {b0 : Nat} {hs : xH} {res : Option xV × xH} {b L : Nat} {xs : Nat → Int32} {pc : Nat}
theorem s_retL (hb9 : s.heap.size ≤ b0) (hd : decode code pc = .ok (.ireturn, 1)) : xS p l e room_1 s m #[Value.ref b] below meth c code 4 ret RL meth.name 10 378 D cA b0 hs res (lw_Z below #[Value.ref b] s) oRetL pc := by
  intro ls st h hT
  unfold oRetL at hT
  split at hT
  case h_2 => cases hT
  rename_i n
  by_cases hz : n = 1
  case neg => rw [if_neg hz] at hT; cases hT
  rw [if_pos hz] at hT
  subst hz
  cases hT
  refine ⟨⟨Nat.le_refl _, Nat.le_refl _⟩, fun C arr H locs a1 a2 a3 a4 => ?_⟩
  obtain ⟨hx, hb, hml, hown, hts, ⟨hK, hAO⟩, hb0, hR, hlk, hr, hnme, hfr, hlo⟩ := id C
  refine va_forget (fun q hq => Nat.le_trans hb9 (a3.2.2 q hq)) ?_
  refine W.widen (k := 600000) (n := 7302250) hR.1 hR.2 ?_
  exact lw_ret hx hb hr hlk hd
def k_L_law_0 (b0 b L : Nat) (xs : Nat → Int32) (k : Nat → xK) : xK := oNew b0 6 n_X6 <| oDup <| oCallI 0 (f_X6_init b0) <| oASt 1 <| oNew b0 7 n_X7 <| oDup <| oCallI 0 (f_X7_init b0) <| oASt 2 <| oCst (0) <| oISt 3 <| k 0
def k_L_law_478 (b0 b L : Nat) (xs : Nat → Int32) (k : Nat → xK) : xK := oInc 3 (5) <| k 0
def k_L_law_96 (b0 b L : Nat) (xs : Nat → Int32) (k : Nat → xK) : xK := oALd 1 <| oALd 0 <| oILd 3 <| oCst (1) <| oAdd <| oSal b L xs <| oALd 0 <| oILd 3 <| oCst (2) <| oAdd <| oSal b L xs <| oCallV b0 2 6 (f_X6_task b0) <| oALd 2 <| oALd 0 <| oILd 3 <| oCst (1) <| oAdd <| oSal b L xs <| oALd 0 <| oILd 3 <| oCst (2) <| oAdd <| oSal b L xs <| oCallV b0 2 7 (f_X7_task b0) <| oC2eq (k_L_law_478 b0 b L xs k) <| oCst (0) <| oRetL
def k_L_law_129 (b0 b L : Nat) (xs : Nat → Int32) (k : Nat → xK) : xK := oALd 1 <| oALd 0 <| oILd 3 <| oCst (1) <| oAdd <| oSal b L xs <| oALd 0 <| oILd 3 <| oCst (2) <| oAdd <| oSal b L xs <| oALd 0 <| oILd 3 <| oCst (3) <| oAdd <| oSal b L xs <| oALd 0 <| oILd 3 <| oCst (4) <| oAdd <| oSal b L xs <| oCallV b0 4 6 (f_X6_act b0) <| oALd 2 <| oALd 0 <| oILd 3 <| oCst (1) <| oAdd <| oSal b L xs <| oALd 0 <| oILd 3 <| oCst (2) <| oAdd <| oSal b L xs <| oALd 0 <| oILd 3 <| oCst (3) <| oAdd <| oSal b L xs <| oALd 0 <| oILd 3 <| oCst (4) <| oAdd <| oSal b L xs <| oCallV b0 4 7 (f_X7_act b0) <| oC2eq (k_L_law_478 b0 b L xs k) <| oCst (0) <| oRetL
def k_L_law_182 (b0 b L : Nat) (xs : Nat → Int32) (k : Nat → xK) : xK := oALd 1 <| oALd 0 <| oILd 3 <| oCst (1) <| oAdd <| oSal b L xs <| oCallV b0 1 6 (f_X6_workers b0) <| oALd 2 <| oALd 0 <| oILd 3 <| oCst (1) <| oAdd <| oSal b L xs <| oCallV b0 1 7 (f_X7_workers b0) <| oC2eq (k_L_law_478 b0 b L xs k) <| oCst (0) <| oRetL
def k_L_law_205 (b0 b L : Nat) (xs : Nat → Int32) (k : Nat → xK) : xK := oALd 1 <| oALd 0 <| oILd 3 <| oCst (1) <| oAdd <| oSal b L xs <| oCallV b0 1 6 (f_X6_turn b0) <| oALd 2 <| oALd 0 <| oILd 3 <| oCst (1) <| oAdd <| oSal b L xs <| oCallV b0 1 7 (f_X7_turn b0) <| oC2eq (k_L_law_478 b0 b L xs k) <| oCst (0) <| oRetL
def k_L_law_228 (b0 b L : Nat) (xs : Nat → Int32) (k : Nat → xK) : xK := oALd 1 <| oALd 0 <| oILd 3 <| oCst (1) <| oAdd <| oSal b L xs <| oALd 0 <| oILd 3 <| oCst (2) <| oAdd <| oSal b L xs <| oCallV b0 2 6 (f_X6_letter b0) <| oALd 2 <| oALd 0 <| oILd 3 <| oCst (1) <| oAdd <| oSal b L xs <| oALd 0 <| oILd 3 <| oCst (2) <| oAdd <| oSal b L xs <| oCallV b0 2 7 (f_X7_letter b0) <| oC2eq (k_L_law_478 b0 b L xs k) <| oCst (0) <| oRetL
def k_L_law_261 (b0 b L : Nat) (xs : Nat → Int32) (k : Nat → xK) : xK := oALd 1 <| oALd 0 <| oILd 3 <| oCst (1) <| oAdd <| oSal b L xs <| oCallV b0 1 6 (f_X6_stop b0) <| oALd 2 <| oALd 0 <| oILd 3 <| oCst (1) <| oAdd <| oSal b L xs <| oCallV b0 1 7 (f_X7_stop b0) <| oC2eq (k_L_law_478 b0 b L xs k) <| oCst (0) <| oRetL
def k_L_law_284 (b0 b L : Nat) (xs : Nat → Int32) (k : Nat → xK) : xK := oALd 1 <| oALd 0 <| oILd 3 <| oCst (1) <| oAdd <| oSal b L xs <| oCallV b0 1 6 (f_X6_again b0) <| oALd 2 <| oALd 0 <| oILd 3 <| oCst (1) <| oAdd <| oSal b L xs <| oCallV b0 1 7 (f_X7_again b0) <| oC2eq (k_L_law_478 b0 b L xs k) <| oCst (0) <| oRetL
def k_L_law_307 (b0 b L : Nat) (xs : Nat → Int32) (k : Nat → xK) : xK := oALd 1 <| oALd 0 <| oILd 3 <| oCst (1) <| oAdd <| oSal b L xs <| oALd 0 <| oILd 3 <| oCst (2) <| oAdd <| oSal b L xs <| oCallV b0 2 6 (f_X6_of b0) <| oALd 2 <| oALd 0 <| oILd 3 <| oCst (1) <| oAdd <| oSal b L xs <| oALd 0 <| oILd 3 <| oCst (2) <| oAdd <| oSal b L xs <| oCallV b0 2 7 (f_X7_of b0) <| oC2eq (k_L_law_478 b0 b L xs k) <| oCst (0) <| oRetL
def k_L_law_386 (b0 b L : Nat) (xs : Nat → Int32) (k : Nat → xK) : xK := oALd 0 <| oILd 3 <| oCst (3) <| oAdd <| oSal b L xs <| oCallV b0 3 7 (f_X7_at b0) <| oC2eq (k_L_law_478 b0 b L xs k) <| oCst (0) <| oRetL
def k_L_law_359 (b0 b L : Nat) (xs : Nat → Int32) (k : Nat → xK) : xK := oALd 0 <| oILd 3 <| oCst (3) <| oAdd <| oSal b L xs <| oCallV b0 3 6 (f_X6_at b0) <| oALd 2 <| oALd 0 <| oILd 3 <| oCst (1) <| oAdd <| oSal b L xs <| oALd 0 <| oILd 3 <| oCst (2) <| oAdd <| oSal b L xs <| oC1eq (oCst (0) <| k_L_law_386 b0 b L xs k) <| oCst (1) <| k_L_law_386 b0 b L xs k
def k_L_law_340 (b0 b L : Nat) (xs : Nat → Int32) (k : Nat → xK) : xK := oALd 1 <| oALd 0 <| oILd 3 <| oCst (1) <| oAdd <| oSal b L xs <| oALd 0 <| oILd 3 <| oCst (2) <| oAdd <| oSal b L xs <| oC1eq (oCst (0) <| k_L_law_359 b0 b L xs k) <| oCst (1) <| k_L_law_359 b0 b L xs k
def k_L_law_399 (b0 b L : Nat) (xs : Nat → Int32) (k : Nat → xK) : xK := oALd 1 <| oALd 0 <| oILd 3 <| oCst (1) <| oAdd <| oSal b L xs <| oALd 0 <| oILd 3 <| oCst (2) <| oAdd <| oSal b L xs <| oCallV b0 2 6 (f_X6_letterAt b0) <| oALd 2 <| oALd 0 <| oILd 3 <| oCst (1) <| oAdd <| oSal b L xs <| oALd 0 <| oILd 3 <| oCst (2) <| oAdd <| oSal b L xs <| oCallV b0 2 7 (f_X7_letterAt b0) <| oC2eq (k_L_law_478 b0 b L xs k) <| oCst (0) <| oRetL
def k_L_law_432 (b0 b L : Nat) (xs : Nat → Int32) (k : Nat → xK) : xK := oALd 1 <| oALd 0 <| oILd 3 <| oCst (1) <| oAdd <| oSal b L xs <| oCallV b0 1 6 (f_X6_count b0) <| oALd 2 <| oALd 0 <| oILd 3 <| oCst (1) <| oAdd <| oSal b L xs <| oCallV b0 1 7 (f_X7_count b0) <| oC2eq (k_L_law_478 b0 b L xs k) <| oCst (0) <| oRetL
def k_L_law_455 (b0 b L : Nat) (xs : Nat → Int32) (k : Nat → xK) : xK := oALd 1 <| oALd 0 <| oILd 3 <| oCst (1) <| oAdd <| oSal b L xs <| oCallV b0 1 6 (f_X6_done b0) <| oALd 2 <| oALd 0 <| oILd 3 <| oCst (1) <| oAdd <| oSal b L xs <| oCallV b0 1 7 (f_X7_done b0) <| oC2eq (k_L_law_478 b0 b L xs k) <| oCst (0) <| oRetL
def sw_L_law_32 (b0 b L : Nat) (xs : Nat → Int32) (k : Nat → xK) : Nat → xK
  | 0 => k_L_law_96 b0 b L xs k
  | 1 => k_L_law_129 b0 b L xs k
  | 2 => k_L_law_182 b0 b L xs k
  | 3 => k_L_law_205 b0 b L xs k
  | 4 => k_L_law_228 b0 b L xs k
  | 5 => k_L_law_261 b0 b L xs k
  | 6 => k_L_law_284 b0 b L xs k
  | 7 => k_L_law_307 b0 b L xs k
  | 8 => k_L_law_340 b0 b L xs k
  | 9 => k_L_law_399 b0 b L xs k
  | 10 => k_L_law_432 b0 b L xs k
  | 11 => k_L_law_455 b0 b L xs k
  | _ => k_L_law_478 b0 b L xs k
def st_L_law_32 : Nat → Nat
  | 0 => 96
  | 1 => 129
  | 2 => 182
  | 3 => 205
  | 4 => 228
  | 5 => 261
  | 6 => 284
  | 7 => 307
  | 8 => 340
  | 9 => 399
  | 10 => 432
  | 11 => 455
  | _ => 0
def k_L_law_18 (b0 b L : Nat) (xs : Nat → Int32) (k : Nat → xK) : xK := oILd 3 <| oALd 0 <| oSln b L <| oCst (5) <| oSub <| oC2gt (oCst (1) <| oRetL) <| oALd 0 <| oILd 3 <| oSal b L xs <| oCst (15) <| oAnd <| oTab 12 (sw_L_law_32 b0 b L xs k) (k_L_law_478 b0 b L xs k)
def r_L_law (b0 b L : Nat) (xs : Nat → Int32) : Nat → Nat → xK
  | 0, _ => fun _ _ _ => none
  | n + 1, i => match i with
    | 0 => k_L_law_18 b0 b L xs (r_L_law b0 b L xs n)
    | _ => fun _ _ _ => none
set_option maxRecDepth 20000 in
theorem t_L_law_0 (hX : xX b L xs s b0 ∧ s.heap.size ≤ b0) (k : Nat → xK) (hk0 : xS p l e room_1 s m #[Value.ref b] below meth c code 4 ret RL meth.name 10 378 D cA b0 hs res (lw_Z below #[Value.ref b] s) (k 0) 18) : xS p l e room_1 s m #[Value.ref b] below meth c code 4 ret RL meth.name 10 378 D cA b0 hs res (lw_Z below #[Value.ref b] s) (k_L_law_0 b0 b L xs k) 0 := by
  unfold k_L_law_0
  refine s_new (Tb := TX6) rfl inX6 tyX6 tyX6_ok w_37 w_38 w_28 nd_X6 rfl dL_law_0 ?_
  refine s_dup dL_law_3 ?_
  refine s_callI (m_X6_init l D cA b0) w_39 w_40 w_28 w_41 rfl ⟨by decide, by decide, by decide +kernel⟩ (by decide) dL_law_4 ?_
  refine s_astore_n dL_law_7 rfl (by decide) ?_
  refine s_new (Tb := TX7) rfl inX7 tyX7 tyX7_ok w_470 w_471 w_29 nd_X7 rfl dL_law_8 ?_
  refine s_dup dL_law_11 ?_
  refine s_callI (m_X7_init l D cA b0) w_472 w_473 w_29 w_474 rfl ⟨by decide, by decide, by decide +kernel⟩ (by decide) dL_law_12 ?_
  refine s_astore_n dL_law_15 rfl (by decide) ?_
  refine s_iconst dL_law_16 (by decide) ?_
  refine s_istore_n dL_law_17 rfl (by decide) ?_
  exact hk0
set_option maxRecDepth 20000 in
theorem t_L_law_478 (hX : xX b L xs s b0 ∧ s.heap.size ≤ b0) (k : Nat → xK) (hk0 : xS p l e room_1 s m #[Value.ref b] below meth c code 4 ret RL meth.name 10 378 D cA b0 hs res (lw_Z below #[Value.ref b] s) (k 0) 18) : xS p l e room_1 s m #[Value.ref b] below meth c code 4 ret RL meth.name 10 378 D cA b0 hs res (lw_Z below #[Value.ref b] s) (k_L_law_478 b0 b L xs k) 478 := by
  unfold k_L_law_478
  refine s_iinc dL_law_478 (by decide) (by decide) ?_
  refine s_goto (tgt := 18) dL_law_481 (by decide) ?_
  exact hk0
set_option maxRecDepth 20000 in
theorem t_L_law_96 (hX : xX b L xs s b0 ∧ s.heap.size ≤ b0) (k : Nat → xK) (hk0 : xS p l e room_1 s m #[Value.ref b] below meth c code 4 ret RL meth.name 10 378 D cA b0 hs res (lw_Z below #[Value.ref b] s) (k 0) 18) : xS p l e room_1 s m #[Value.ref b] below meth c code 4 ret RL meth.name 10 378 D cA b0 hs res (lw_Z below #[Value.ref b] s) (k_L_law_96 b0 b L xs k) 96 := by
  unfold k_L_law_96
  refine s_aload_n dL_law_96 rfl ?_
  refine s_aload_n dL_law_97 rfl ?_
  refine s_iload_n dL_law_98 rfl ?_
  refine s_iconst dL_law_99 (by decide) ?_
  refine s_iadd dL_law_100 ?_
  refine s_sal hX.1 dL_law_101 ?_
  refine s_aload_n dL_law_102 rfl ?_
  refine s_iload_n dL_law_103 rfl ?_
  refine s_iconst dL_law_104 (by decide) ?_
  refine s_iadd dL_law_105 ?_
  refine s_sal hX.1 dL_law_106 ?_
  refine s_callV (Tb := TX6) (m_X6_task l D cA b0) rfl w_79 w_80 w_81 w_28 w_82 ⟨rfl, by decide, by decide, by decide +kernel⟩ (by decide) dL_law_107 ?_
  refine s_aload_n dL_law_110 rfl ?_
  refine s_aload_n dL_law_111 rfl ?_
  refine s_iload_n dL_law_112 rfl ?_
  refine s_iconst dL_law_113 (by decide) ?_
  refine s_iadd dL_law_114 ?_
  refine s_sal hX.1 dL_law_115 ?_
  refine s_aload_n dL_law_116 rfl ?_
  refine s_iload_n dL_law_117 rfl ?_
  refine s_iconst dL_law_118 (by decide) ?_
  refine s_iadd dL_law_119 ?_
  refine s_sal hX.1 dL_law_120 ?_
  refine s_callV (Tb := TX7) (m_X7_task l D cA b0) rfl w_593 w_594 w_595 w_29 w_596 ⟨rfl, by decide, by decide, by decide +kernel⟩ (by decide) dL_law_121 ?_
  refine s_c2eq (tgt := 478) dL_law_124 (by decide) ?_ ?_
  · exact t_L_law_478 hX k hk0
  · refine s_iconst dL_law_127 (by decide) ?_
    exact s_retL hX.2 dL_law_128
set_option maxRecDepth 20000 in
theorem t_L_law_129 (hX : xX b L xs s b0 ∧ s.heap.size ≤ b0) (k : Nat → xK) (hk0 : xS p l e room_1 s m #[Value.ref b] below meth c code 4 ret RL meth.name 10 378 D cA b0 hs res (lw_Z below #[Value.ref b] s) (k 0) 18) : xS p l e room_1 s m #[Value.ref b] below meth c code 4 ret RL meth.name 10 378 D cA b0 hs res (lw_Z below #[Value.ref b] s) (k_L_law_129 b0 b L xs k) 129 := by
  unfold k_L_law_129
  refine s_aload_n dL_law_129 rfl ?_
  refine s_aload_n dL_law_130 rfl ?_
  refine s_iload_n dL_law_131 rfl ?_
  refine s_iconst dL_law_132 (by decide) ?_
  refine s_iadd dL_law_133 ?_
  refine s_sal hX.1 dL_law_134 ?_
  refine s_aload_n dL_law_135 rfl ?_
  refine s_iload_n dL_law_136 rfl ?_
  refine s_iconst dL_law_137 (by decide) ?_
  refine s_iadd dL_law_138 ?_
  refine s_sal hX.1 dL_law_139 ?_
  refine s_aload_n dL_law_140 rfl ?_
  refine s_iload_n dL_law_141 rfl ?_
  refine s_iconst dL_law_142 (by decide) ?_
  refine s_iadd dL_law_143 ?_
  refine s_sal hX.1 dL_law_144 ?_
  refine s_aload_n dL_law_145 rfl ?_
  refine s_iload_n dL_law_146 rfl ?_
  refine s_iconst dL_law_147 (by decide) ?_
  refine s_iadd dL_law_148 ?_
  refine s_sal hX.1 dL_law_149 ?_
  refine s_callV (Tb := TX6) (m_X6_act l D cA b0) rfl w_248 w_249 w_250 w_28 w_251 ⟨rfl, by decide, by decide, by decide +kernel⟩ (by decide) dL_law_150 ?_
  refine s_aload_n dL_law_153 rfl ?_
  refine s_aload_n dL_law_154 rfl ?_
  refine s_iload_n dL_law_155 rfl ?_
  refine s_iconst dL_law_156 (by decide) ?_
  refine s_iadd dL_law_157 ?_
  refine s_sal hX.1 dL_law_158 ?_
  refine s_aload_n dL_law_159 rfl ?_
  refine s_iload_n dL_law_160 rfl ?_
  refine s_iconst dL_law_161 (by decide) ?_
  refine s_iadd dL_law_162 ?_
  refine s_sal hX.1 dL_law_163 ?_
  refine s_aload_n dL_law_164 rfl ?_
  refine s_iload_n dL_law_165 rfl ?_
  refine s_iconst dL_law_166 (by decide) ?_
  refine s_iadd dL_law_167 ?_
  refine s_sal hX.1 dL_law_168 ?_
  refine s_aload_n dL_law_169 rfl ?_
  refine s_iload_n dL_law_170 rfl ?_
  refine s_iconst dL_law_171 (by decide) ?_
  refine s_iadd dL_law_172 ?_
  refine s_sal hX.1 dL_law_173 ?_
  refine s_callV (Tb := TX7) (m_X7_act l D cA b0) rfl w_600 w_601 w_602 w_29 w_603 ⟨rfl, by decide, by decide, by decide +kernel⟩ (by decide) dL_law_174 ?_
  refine s_c2eq (tgt := 478) dL_law_177 (by decide) ?_ ?_
  · exact t_L_law_478 hX k hk0
  · refine s_iconst dL_law_180 (by decide) ?_
    exact s_retL hX.2 dL_law_181
set_option maxRecDepth 20000 in
theorem t_L_law_182 (hX : xX b L xs s b0 ∧ s.heap.size ≤ b0) (k : Nat → xK) (hk0 : xS p l e room_1 s m #[Value.ref b] below meth c code 4 ret RL meth.name 10 378 D cA b0 hs res (lw_Z below #[Value.ref b] s) (k 0) 18) : xS p l e room_1 s m #[Value.ref b] below meth c code 4 ret RL meth.name 10 378 D cA b0 hs res (lw_Z below #[Value.ref b] s) (k_L_law_182 b0 b L xs k) 182 := by
  unfold k_L_law_182
  refine s_aload_n dL_law_182 rfl ?_
  refine s_aload_n dL_law_183 rfl ?_
  refine s_iload_n dL_law_184 rfl ?_
  refine s_iconst dL_law_185 (by decide) ?_
  refine s_iadd dL_law_186 ?_
  refine s_sal hX.1 dL_law_187 ?_
  refine s_callV (Tb := TX6) (m_X6_workers l D cA b0) rfl w_260 w_261 w_262 w_28 w_263 ⟨rfl, by decide, by decide, by decide +kernel⟩ (by decide) dL_law_188 ?_
  refine s_aload_n dL_law_191 rfl ?_
  refine s_aload_n dL_law_192 rfl ?_
  refine s_iload_n dL_law_193 rfl ?_
  refine s_iconst dL_law_194 (by decide) ?_
  refine s_iadd dL_law_195 ?_
  refine s_sal hX.1 dL_law_196 ?_
  refine s_callV (Tb := TX7) (m_X7_workers l D cA b0) rfl w_608 w_609 w_610 w_29 w_611 ⟨rfl, by decide, by decide, by decide +kernel⟩ (by decide) dL_law_197 ?_
  refine s_c2eq (tgt := 478) dL_law_200 (by decide) ?_ ?_
  · exact t_L_law_478 hX k hk0
  · refine s_iconst dL_law_203 (by decide) ?_
    exact s_retL hX.2 dL_law_204
set_option maxRecDepth 20000 in
theorem t_L_law_205 (hX : xX b L xs s b0 ∧ s.heap.size ≤ b0) (k : Nat → xK) (hk0 : xS p l e room_1 s m #[Value.ref b] below meth c code 4 ret RL meth.name 10 378 D cA b0 hs res (lw_Z below #[Value.ref b] s) (k 0) 18) : xS p l e room_1 s m #[Value.ref b] below meth c code 4 ret RL meth.name 10 378 D cA b0 hs res (lw_Z below #[Value.ref b] s) (k_L_law_205 b0 b L xs k) 205 := by
  unfold k_L_law_205
  refine s_aload_n dL_law_205 rfl ?_
  refine s_aload_n dL_law_206 rfl ?_
  refine s_iload_n dL_law_207 rfl ?_
  refine s_iconst dL_law_208 (by decide) ?_
  refine s_iadd dL_law_209 ?_
  refine s_sal hX.1 dL_law_210 ?_
  refine s_callV (Tb := TX6) (m_X6_turn l D cA b0) rfl w_264 w_265 w_266 w_28 w_267 ⟨rfl, by decide, by decide, by decide +kernel⟩ (by decide) dL_law_211 ?_
  refine s_aload_n dL_law_214 rfl ?_
  refine s_aload_n dL_law_215 rfl ?_
  refine s_iload_n dL_law_216 rfl ?_
  refine s_iconst dL_law_217 (by decide) ?_
  refine s_iadd dL_law_218 ?_
  refine s_sal hX.1 dL_law_219 ?_
  refine s_callV (Tb := TX7) (m_X7_turn l D cA b0) rfl w_612 w_613 w_614 w_29 w_615 ⟨rfl, by decide, by decide, by decide +kernel⟩ (by decide) dL_law_220 ?_
  refine s_c2eq (tgt := 478) dL_law_223 (by decide) ?_ ?_
  · exact t_L_law_478 hX k hk0
  · refine s_iconst dL_law_226 (by decide) ?_
    exact s_retL hX.2 dL_law_227
set_option maxRecDepth 20000 in
theorem t_L_law_228 (hX : xX b L xs s b0 ∧ s.heap.size ≤ b0) (k : Nat → xK) (hk0 : xS p l e room_1 s m #[Value.ref b] below meth c code 4 ret RL meth.name 10 378 D cA b0 hs res (lw_Z below #[Value.ref b] s) (k 0) 18) : xS p l e room_1 s m #[Value.ref b] below meth c code 4 ret RL meth.name 10 378 D cA b0 hs res (lw_Z below #[Value.ref b] s) (k_L_law_228 b0 b L xs k) 228 := by
  unfold k_L_law_228
  refine s_aload_n dL_law_228 rfl ?_
  refine s_aload_n dL_law_229 rfl ?_
  refine s_iload_n dL_law_230 rfl ?_
  refine s_iconst dL_law_231 (by decide) ?_
  refine s_iadd dL_law_232 ?_
  refine s_sal hX.1 dL_law_233 ?_
  refine s_aload_n dL_law_234 rfl ?_
  refine s_iload_n dL_law_235 rfl ?_
  refine s_iconst dL_law_236 (by decide) ?_
  refine s_iadd dL_law_237 ?_
  refine s_sal hX.1 dL_law_238 ?_
  refine s_callV (Tb := TX6) (m_X6_letter l D cA b0) rfl w_420 w_421 w_422 w_28 w_423 ⟨rfl, by decide, by decide, by decide +kernel⟩ (by decide) dL_law_239 ?_
  refine s_aload_n dL_law_242 rfl ?_
  refine s_aload_n dL_law_243 rfl ?_
  refine s_iload_n dL_law_244 rfl ?_
  refine s_iconst dL_law_245 (by decide) ?_
  refine s_iadd dL_law_246 ?_
  refine s_sal hX.1 dL_law_247 ?_
  refine s_aload_n dL_law_248 rfl ?_
  refine s_iload_n dL_law_249 rfl ?_
  refine s_iconst dL_law_250 (by decide) ?_
  refine s_iadd dL_law_251 ?_
  refine s_sal hX.1 dL_law_252 ?_
  refine s_callV (Tb := TX7) (m_X7_letter l D cA b0) rfl w_675 w_676 w_677 w_29 w_678 ⟨rfl, by decide, by decide, by decide +kernel⟩ (by decide) dL_law_253 ?_
  refine s_c2eq (tgt := 478) dL_law_256 (by decide) ?_ ?_
  · exact t_L_law_478 hX k hk0
  · refine s_iconst dL_law_259 (by decide) ?_
    exact s_retL hX.2 dL_law_260
set_option maxRecDepth 20000 in
theorem t_L_law_261 (hX : xX b L xs s b0 ∧ s.heap.size ≤ b0) (k : Nat → xK) (hk0 : xS p l e room_1 s m #[Value.ref b] below meth c code 4 ret RL meth.name 10 378 D cA b0 hs res (lw_Z below #[Value.ref b] s) (k 0) 18) : xS p l e room_1 s m #[Value.ref b] below meth c code 4 ret RL meth.name 10 378 D cA b0 hs res (lw_Z below #[Value.ref b] s) (k_L_law_261 b0 b L xs k) 261 := by
  unfold k_L_law_261
  refine s_aload_n dL_law_261 rfl ?_
  refine s_aload_n dL_law_262 rfl ?_
  refine s_iload_n dL_law_263 rfl ?_
  refine s_iconst dL_law_264 (by decide) ?_
  refine s_iadd dL_law_265 ?_
  refine s_sal hX.1 dL_law_266 ?_
  refine s_callV (Tb := TX6) (m_X6_stop l D cA b0) rfl w_424 w_425 w_426 w_28 w_427 ⟨rfl, by decide, by decide, by decide +kernel⟩ (by decide) dL_law_267 ?_
  refine s_aload_n dL_law_270 rfl ?_
  refine s_aload_n dL_law_271 rfl ?_
  refine s_iload_n dL_law_272 rfl ?_
  refine s_iconst dL_law_273 (by decide) ?_
  refine s_iadd dL_law_274 ?_
  refine s_sal hX.1 dL_law_275 ?_
  refine s_callV (Tb := TX7) (m_X7_stop l D cA b0) rfl w_679 w_680 w_681 w_29 w_682 ⟨rfl, by decide, by decide, by decide +kernel⟩ (by decide) dL_law_276 ?_
  refine s_c2eq (tgt := 478) dL_law_279 (by decide) ?_ ?_
  · exact t_L_law_478 hX k hk0
  · refine s_iconst dL_law_282 (by decide) ?_
    exact s_retL hX.2 dL_law_283
set_option maxRecDepth 20000 in
theorem t_L_law_284 (hX : xX b L xs s b0 ∧ s.heap.size ≤ b0) (k : Nat → xK) (hk0 : xS p l e room_1 s m #[Value.ref b] below meth c code 4 ret RL meth.name 10 378 D cA b0 hs res (lw_Z below #[Value.ref b] s) (k 0) 18) : xS p l e room_1 s m #[Value.ref b] below meth c code 4 ret RL meth.name 10 378 D cA b0 hs res (lw_Z below #[Value.ref b] s) (k_L_law_284 b0 b L xs k) 284 := by
  unfold k_L_law_284
  refine s_aload_n dL_law_284 rfl ?_
  refine s_aload_n dL_law_285 rfl ?_
  refine s_iload_n dL_law_286 rfl ?_
  refine s_iconst dL_law_287 (by decide) ?_
  refine s_iadd dL_law_288 ?_
  refine s_sal hX.1 dL_law_289 ?_
  refine s_callV (Tb := TX6) (m_X6_again l D cA b0) rfl w_428 w_429 w_430 w_28 w_431 ⟨rfl, by decide, by decide, by decide +kernel⟩ (by decide) dL_law_290 ?_
  refine s_aload_n dL_law_293 rfl ?_
  refine s_aload_n dL_law_294 rfl ?_
  refine s_iload_n dL_law_295 rfl ?_
  refine s_iconst dL_law_296 (by decide) ?_
  refine s_iadd dL_law_297 ?_
  refine s_sal hX.1 dL_law_298 ?_
  refine s_callV (Tb := TX7) (m_X7_again l D cA b0) rfl w_683 w_684 w_685 w_29 w_686 ⟨rfl, by decide, by decide, by decide +kernel⟩ (by decide) dL_law_299 ?_
  refine s_c2eq (tgt := 478) dL_law_302 (by decide) ?_ ?_
  · exact t_L_law_478 hX k hk0
  · refine s_iconst dL_law_305 (by decide) ?_
    exact s_retL hX.2 dL_law_306
set_option maxRecDepth 20000 in
theorem t_L_law_307 (hX : xX b L xs s b0 ∧ s.heap.size ≤ b0) (k : Nat → xK) (hk0 : xS p l e room_1 s m #[Value.ref b] below meth c code 4 ret RL meth.name 10 378 D cA b0 hs res (lw_Z below #[Value.ref b] s) (k 0) 18) : xS p l e room_1 s m #[Value.ref b] below meth c code 4 ret RL meth.name 10 378 D cA b0 hs res (lw_Z below #[Value.ref b] s) (k_L_law_307 b0 b L xs k) 307 := by
  unfold k_L_law_307
  refine s_aload_n dL_law_307 rfl ?_
  refine s_aload_n dL_law_308 rfl ?_
  refine s_iload_n dL_law_309 rfl ?_
  refine s_iconst dL_law_310 (by decide) ?_
  refine s_iadd dL_law_311 ?_
  refine s_sal hX.1 dL_law_312 ?_
  refine s_aload_n dL_law_313 rfl ?_
  refine s_iload_n dL_law_314 rfl ?_
  refine s_iconst dL_law_315 (by decide) ?_
  refine s_iadd dL_law_316 ?_
  refine s_sal hX.1 dL_law_317 ?_
  refine s_callV (Tb := TX6) (m_X6_of l D cA b0) rfl w_433 w_434 w_435 w_28 w_436 ⟨rfl, by decide, by decide, by decide +kernel⟩ (by decide) dL_law_318 ?_
  refine s_aload_n dL_law_321 rfl ?_
  refine s_aload_n dL_law_322 rfl ?_
  refine s_iload_n dL_law_323 rfl ?_
  refine s_iconst dL_law_324 (by decide) ?_
  refine s_iadd dL_law_325 ?_
  refine s_sal hX.1 dL_law_326 ?_
  refine s_aload_n dL_law_327 rfl ?_
  refine s_iload_n dL_law_328 rfl ?_
  refine s_iconst dL_law_329 (by decide) ?_
  refine s_iadd dL_law_330 ?_
  refine s_sal hX.1 dL_law_331 ?_
  refine s_callV (Tb := TX7) (m_X7_of l D cA b0) rfl w_687 w_688 w_689 w_29 w_690 ⟨rfl, by decide, by decide, by decide +kernel⟩ (by decide) dL_law_332 ?_
  refine s_c2eq (tgt := 478) dL_law_335 (by decide) ?_ ?_
  · exact t_L_law_478 hX k hk0
  · refine s_iconst dL_law_338 (by decide) ?_
    exact s_retL hX.2 dL_law_339
set_option maxRecDepth 20000 in
theorem t_L_law_386 (hX : xX b L xs s b0 ∧ s.heap.size ≤ b0) (k : Nat → xK) (hk0 : xS p l e room_1 s m #[Value.ref b] below meth c code 4 ret RL meth.name 10 378 D cA b0 hs res (lw_Z below #[Value.ref b] s) (k 0) 18) : xS p l e room_1 s m #[Value.ref b] below meth c code 4 ret RL meth.name 10 378 D cA b0 hs res (lw_Z below #[Value.ref b] s) (k_L_law_386 b0 b L xs k) 386 := by
  unfold k_L_law_386
  refine s_aload_n dL_law_386 rfl ?_
  refine s_iload_n dL_law_387 rfl ?_
  refine s_iconst dL_law_388 (by decide) ?_
  refine s_iadd dL_law_389 ?_
  refine s_sal hX.1 dL_law_390 ?_
  refine s_callV (Tb := TX7) (m_X7_at l D cA b0) rfl w_691 w_692 w_693 w_29 w_694 ⟨rfl, by decide, by decide, by decide +kernel⟩ (by decide) dL_law_391 ?_
  refine s_c2eq (tgt := 478) dL_law_394 (by decide) ?_ ?_
  · exact t_L_law_478 hX k hk0
  · refine s_iconst dL_law_397 (by decide) ?_
    exact s_retL hX.2 dL_law_398
set_option maxRecDepth 20000 in
theorem t_L_law_359 (hX : xX b L xs s b0 ∧ s.heap.size ≤ b0) (k : Nat → xK) (hk0 : xS p l e room_1 s m #[Value.ref b] below meth c code 4 ret RL meth.name 10 378 D cA b0 hs res (lw_Z below #[Value.ref b] s) (k 0) 18) : xS p l e room_1 s m #[Value.ref b] below meth c code 4 ret RL meth.name 10 378 D cA b0 hs res (lw_Z below #[Value.ref b] s) (k_L_law_359 b0 b L xs k) 359 := by
  unfold k_L_law_359
  refine s_aload_n dL_law_359 rfl ?_
  refine s_iload_n dL_law_360 rfl ?_
  refine s_iconst dL_law_361 (by decide) ?_
  refine s_iadd dL_law_362 ?_
  refine s_sal hX.1 dL_law_363 ?_
  refine s_callV (Tb := TX6) (m_X6_at l D cA b0) rfl w_441 w_442 w_443 w_28 w_444 ⟨rfl, by decide, by decide, by decide +kernel⟩ (by decide) dL_law_364 ?_
  refine s_aload_n dL_law_367 rfl ?_
  refine s_aload_n dL_law_368 rfl ?_
  refine s_iload_n dL_law_369 rfl ?_
  refine s_iconst dL_law_370 (by decide) ?_
  refine s_iadd dL_law_371 ?_
  refine s_sal hX.1 dL_law_372 ?_
  refine s_aload_n dL_law_373 rfl ?_
  refine s_iload_n dL_law_374 rfl ?_
  refine s_iconst dL_law_375 (by decide) ?_
  refine s_iadd dL_law_376 ?_
  refine s_sal hX.1 dL_law_377 ?_
  refine s_c1eq (tgt := 385) dL_law_378 (by decide) ?_ ?_
  · refine s_iconst dL_law_385 (by decide) ?_
    exact t_L_law_386 hX k hk0
  · refine s_iconst dL_law_381 (by decide) ?_
    refine s_goto (tgt := 386) dL_law_382 (by decide) ?_
    exact t_L_law_386 hX k hk0
set_option maxRecDepth 20000 in
theorem t_L_law_340 (hX : xX b L xs s b0 ∧ s.heap.size ≤ b0) (k : Nat → xK) (hk0 : xS p l e room_1 s m #[Value.ref b] below meth c code 4 ret RL meth.name 10 378 D cA b0 hs res (lw_Z below #[Value.ref b] s) (k 0) 18) : xS p l e room_1 s m #[Value.ref b] below meth c code 4 ret RL meth.name 10 378 D cA b0 hs res (lw_Z below #[Value.ref b] s) (k_L_law_340 b0 b L xs k) 340 := by
  unfold k_L_law_340
  refine s_aload_n dL_law_340 rfl ?_
  refine s_aload_n dL_law_341 rfl ?_
  refine s_iload_n dL_law_342 rfl ?_
  refine s_iconst dL_law_343 (by decide) ?_
  refine s_iadd dL_law_344 ?_
  refine s_sal hX.1 dL_law_345 ?_
  refine s_aload_n dL_law_346 rfl ?_
  refine s_iload_n dL_law_347 rfl ?_
  refine s_iconst dL_law_348 (by decide) ?_
  refine s_iadd dL_law_349 ?_
  refine s_sal hX.1 dL_law_350 ?_
  refine s_c1eq (tgt := 358) dL_law_351 (by decide) ?_ ?_
  · refine s_iconst dL_law_358 (by decide) ?_
    exact t_L_law_359 hX k hk0
  · refine s_iconst dL_law_354 (by decide) ?_
    refine s_goto (tgt := 359) dL_law_355 (by decide) ?_
    exact t_L_law_359 hX k hk0
set_option maxRecDepth 20000 in
theorem t_L_law_399 (hX : xX b L xs s b0 ∧ s.heap.size ≤ b0) (k : Nat → xK) (hk0 : xS p l e room_1 s m #[Value.ref b] below meth c code 4 ret RL meth.name 10 378 D cA b0 hs res (lw_Z below #[Value.ref b] s) (k 0) 18) : xS p l e room_1 s m #[Value.ref b] below meth c code 4 ret RL meth.name 10 378 D cA b0 hs res (lw_Z below #[Value.ref b] s) (k_L_law_399 b0 b L xs k) 399 := by
  unfold k_L_law_399
  refine s_aload_n dL_law_399 rfl ?_
  refine s_aload_n dL_law_400 rfl ?_
  refine s_iload_n dL_law_401 rfl ?_
  refine s_iconst dL_law_402 (by decide) ?_
  refine s_iadd dL_law_403 ?_
  refine s_sal hX.1 dL_law_404 ?_
  refine s_aload_n dL_law_405 rfl ?_
  refine s_iload_n dL_law_406 rfl ?_
  refine s_iconst dL_law_407 (by decide) ?_
  refine s_iadd dL_law_408 ?_
  refine s_sal hX.1 dL_law_409 ?_
  refine s_callV (Tb := TX6) (m_X6_letterAt l D cA b0) rfl w_450 w_451 w_452 w_28 w_453 ⟨rfl, by decide, by decide, by decide +kernel⟩ (by decide) dL_law_410 ?_
  refine s_aload_n dL_law_413 rfl ?_
  refine s_aload_n dL_law_414 rfl ?_
  refine s_iload_n dL_law_415 rfl ?_
  refine s_iconst dL_law_416 (by decide) ?_
  refine s_iadd dL_law_417 ?_
  refine s_sal hX.1 dL_law_418 ?_
  refine s_aload_n dL_law_419 rfl ?_
  refine s_iload_n dL_law_420 rfl ?_
  refine s_iconst dL_law_421 (by decide) ?_
  refine s_iadd dL_law_422 ?_
  refine s_sal hX.1 dL_law_423 ?_
  refine s_callV (Tb := TX7) (m_X7_letterAt l D cA b0) rfl w_695 w_696 w_697 w_29 w_698 ⟨rfl, by decide, by decide, by decide +kernel⟩ (by decide) dL_law_424 ?_
  refine s_c2eq (tgt := 478) dL_law_427 (by decide) ?_ ?_
  · exact t_L_law_478 hX k hk0
  · refine s_iconst dL_law_430 (by decide) ?_
    exact s_retL hX.2 dL_law_431
set_option maxRecDepth 20000 in
theorem t_L_law_432 (hX : xX b L xs s b0 ∧ s.heap.size ≤ b0) (k : Nat → xK) (hk0 : xS p l e room_1 s m #[Value.ref b] below meth c code 4 ret RL meth.name 10 378 D cA b0 hs res (lw_Z below #[Value.ref b] s) (k 0) 18) : xS p l e room_1 s m #[Value.ref b] below meth c code 4 ret RL meth.name 10 378 D cA b0 hs res (lw_Z below #[Value.ref b] s) (k_L_law_432 b0 b L xs k) 432 := by
  unfold k_L_law_432
  refine s_aload_n dL_law_432 rfl ?_
  refine s_aload_n dL_law_433 rfl ?_
  refine s_iload_n dL_law_434 rfl ?_
  refine s_iconst dL_law_435 (by decide) ?_
  refine s_iadd dL_law_436 ?_
  refine s_sal hX.1 dL_law_437 ?_
  refine s_callV (Tb := TX6) (m_X6_count l D cA b0) rfl w_458 w_459 w_460 w_28 w_461 ⟨rfl, by decide, by decide, by decide +kernel⟩ (by decide) dL_law_438 ?_
  refine s_aload_n dL_law_441 rfl ?_
  refine s_aload_n dL_law_442 rfl ?_
  refine s_iload_n dL_law_443 rfl ?_
  refine s_iconst dL_law_444 (by decide) ?_
  refine s_iadd dL_law_445 ?_
  refine s_sal hX.1 dL_law_446 ?_
  refine s_callV (Tb := TX7) (m_X7_count l D cA b0) rfl w_699 w_700 w_701 w_29 w_702 ⟨rfl, by decide, by decide, by decide +kernel⟩ (by decide) dL_law_447 ?_
  refine s_c2eq (tgt := 478) dL_law_450 (by decide) ?_ ?_
  · exact t_L_law_478 hX k hk0
  · refine s_iconst dL_law_453 (by decide) ?_
    exact s_retL hX.2 dL_law_454
set_option maxRecDepth 20000 in
theorem t_L_law_455 (hX : xX b L xs s b0 ∧ s.heap.size ≤ b0) (k : Nat → xK) (hk0 : xS p l e room_1 s m #[Value.ref b] below meth c code 4 ret RL meth.name 10 378 D cA b0 hs res (lw_Z below #[Value.ref b] s) (k 0) 18) : xS p l e room_1 s m #[Value.ref b] below meth c code 4 ret RL meth.name 10 378 D cA b0 hs res (lw_Z below #[Value.ref b] s) (k_L_law_455 b0 b L xs k) 455 := by
  unfold k_L_law_455
  refine s_aload_n dL_law_455 rfl ?_
  refine s_aload_n dL_law_456 rfl ?_
  refine s_iload_n dL_law_457 rfl ?_
  refine s_iconst dL_law_458 (by decide) ?_
  refine s_iadd dL_law_459 ?_
  refine s_sal hX.1 dL_law_460 ?_
  refine s_callV (Tb := TX6) (m_X6_done l D cA b0) rfl w_466 w_467 w_468 w_28 w_469 ⟨rfl, by decide, by decide, by decide +kernel⟩ (by decide) dL_law_461 ?_
  refine s_aload_n dL_law_464 rfl ?_
  refine s_aload_n dL_law_465 rfl ?_
  refine s_iload_n dL_law_466 rfl ?_
  refine s_iconst dL_law_467 (by decide) ?_
  refine s_iadd dL_law_468 ?_
  refine s_sal hX.1 dL_law_469 ?_
  refine s_callV (Tb := TX7) (m_X7_done l D cA b0) rfl w_703 w_704 w_705 w_29 w_706 ⟨rfl, by decide, by decide, by decide +kernel⟩ (by decide) dL_law_470 ?_
  refine s_c2eq (tgt := 478) dL_law_473 (by decide) ?_ ?_
  · exact t_L_law_478 hX k hk0
  · refine s_iconst dL_law_476 (by decide) ?_
    exact s_retL hX.2 dL_law_477
set_option maxRecDepth 20000 in
theorem t_L_law_18 (hX : xX b L xs s b0 ∧ s.heap.size ≤ b0) (k : Nat → xK) (hk0 : xS p l e room_1 s m #[Value.ref b] below meth c code 4 ret RL meth.name 10 378 D cA b0 hs res (lw_Z below #[Value.ref b] s) (k 0) 18) : xS p l e room_1 s m #[Value.ref b] below meth c code 4 ret RL meth.name 10 378 D cA b0 hs res (lw_Z below #[Value.ref b] s) (k_L_law_18 b0 b L xs k) 18 := by
  unfold k_L_law_18
  refine s_iload_n dL_law_18 rfl ?_
  refine s_aload_n dL_law_19 rfl ?_
  refine s_sln hX.1 dL_law_20 ?_
  refine s_iconst dL_law_21 (by decide) ?_
  refine s_isub dL_law_22 ?_
  refine s_c2gt (tgt := 484) dL_law_23 (by decide) ?_ ?_
  · refine s_iconst dL_law_484 (by decide) ?_
    exact s_retL hX.2 dL_law_485
  · refine s_aload_n dL_law_26 rfl ?_
    refine s_iload_n dL_law_27 rfl ?_
    refine s_sal hX.1 dL_law_28 ?_
    refine s_bipush dL_law_29 (by decide) ?_
    refine s_iand dL_law_31 ?_
    refine s_tab (tg := st_L_law_32) (dt := 478) dL_law_32 (by decide) (by decide) ?_ ?_ (t_L_law_478 hX k hk0)
    · intro j hj
      match j, hj with
      | 0, _ => exact ⟨64, rfl, by decide⟩
      | 1, _ => exact ⟨97, rfl, by decide⟩
      | 2, _ => exact ⟨150, rfl, by decide⟩
      | 3, _ => exact ⟨173, rfl, by decide⟩
      | 4, _ => exact ⟨196, rfl, by decide⟩
      | 5, _ => exact ⟨229, rfl, by decide⟩
      | 6, _ => exact ⟨252, rfl, by decide⟩
      | 7, _ => exact ⟨275, rfl, by decide⟩
      | 8, _ => exact ⟨308, rfl, by decide⟩
      | 9, _ => exact ⟨367, rfl, by decide⟩
      | 10, _ => exact ⟨400, rfl, by decide⟩
      | 11, _ => exact ⟨423, rfl, by decide⟩
      | q + 12, hj => exact absurd hj (by omega)
    · intro j hj
      match j, hj with
      | 0, _ => exact t_L_law_96 hX k hk0
      | 1, _ => exact t_L_law_129 hX k hk0
      | 2, _ => exact t_L_law_182 hX k hk0
      | 3, _ => exact t_L_law_205 hX k hk0
      | 4, _ => exact t_L_law_228 hX k hk0
      | 5, _ => exact t_L_law_261 hX k hk0
      | 6, _ => exact t_L_law_284 hX k hk0
      | 7, _ => exact t_L_law_307 hX k hk0
      | 8, _ => exact t_L_law_340 hX k hk0
      | 9, _ => exact t_L_law_399 hX k hk0
      | 10, _ => exact t_L_law_432 hX k hk0
      | 11, _ => exact t_L_law_455 hX k hk0
      | q + 12, hj => exact absurd hj (by omega)
theorem t_L_law_r (hX : xX b L xs s b0 ∧ s.heap.size ≤ b0) (n : Nat) : xS p l e room_1 s m #[Value.ref b] below meth c code 4 ret RL meth.name 10 378 D cA b0 hs res (lw_Z below #[Value.ref b] s) (r_L_law b0 b L xs n 0) 18 := by
  induction n with
  | zero => exact fun ls st h hT => by cases hT
  | succ n ih => exact t_L_law_18 hX (r_L_law b0 b L xs n) ih
end XLAW2
