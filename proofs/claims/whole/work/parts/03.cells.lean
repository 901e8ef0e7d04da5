
/-! A SMALL MACHINE of its own: values, cells, locals, stack; one operation an instruction, in continuation form; below, each operation's soundness over W -/
abbrev xV : Type := Int32 ⊕ Int64 ⊕ Option Nat
abbrev xE : Type := (Nat × List Int32) ⊕ List Int64 ⊕ (Nat × List xV) ⊕ List (Option Nat)
abbrev xH : Type := List xE
abbrev xR : Type := Option (Option xV × xH)
abbrev xK : Type := List (Option xV) → List xV → xH → xR
def xv (v : xV) : Value := match v with
  | .inl n => .int n
  | .inr (.inl n) => .long n
  | .inr (.inr r) => va_rf r
def xnth : List (Option xV) → Nat → Option xV
  | [], _ => none
  | o :: _, 0 => o
  | _ :: t, n + 1 => xnth t n
def xset : List (Option xV) → Nat → xV → List (Option xV)
  | [], _, _ => []
  | _ :: t, 0, v => some v :: t
  | o :: t, n + 1, v => o :: xset t n v
def xsz (q : xE) : Nat := match q with
  | .inl a => a.2.length
  | .inr (.inl a) => a.length
  | .inr (.inr (.inl a)) => a.2.length
  | .inr (.inr (.inr a)) => a.length
def xsl (h : xH) : Nat := (h.map xsz).sum
def xe (cA : Nat → ClassId) (q : xE) : va_E := match q with
  | .inl a => .inl (cA a.1, a.2.length, .inl (fun j => a.2.getD j 0))
  | .inr (.inl a) => .inl (cA 2, a.length, .inr (.inl (fun j => a.getD j 0)))
  | .inr (.inr (.inl a)) => .inr (a.1, a.2.map xv)
  | .inr (.inr (.inr a)) => .inl (cA 3, a.length, .inr (.inr (.inr (.inr (fun j => a.getD j none)))))
def xW (cA : Nat → ClassId) (b0 : Nat) (h : xH) : va_W := h.mapIdx (fun k q => (b0 + k, xe cA q))
def xT (cA : Nat → ClassId) : List (ClassId × FieldType) := [(cA 0, .int), (cA 1, .boolean), (cA 2, .long), (cA 3, .object RX5)]
def xRel (D : va_G) (cA : Nat → ClassId) (b0 : Nat) (h : xH) (H : Heap) : Prop := H.size = b0 + h.length ∧ va_P D vwCl (xW cA b0 h) H
def xTB : List Cond := lw_tbl.filter goodWord
def xL (arr : Array Slot) (nL : Nat) (ls : List (Option xV)) : Prop := arr.size = nL ∧ lv_wf arr ∧ ∀ (i : Nat) (v : xV), xnth ls i = some v → arr[i]? = some (.val (xv v)) ∧ (xv v).category = 1
theorem xW_get (cA : Nat → ClassId) (b0 : Nat) (h : xH) (k : Nat) : (xW cA b0 h)[k]? = (h[k]?).map (fun q => (b0 + k, xe cA q)) := by simp [xW]
theorem xW_at {cA : Nat → ClassId} {b0 : Nat} {h : xH} {k : Nat} {q : xE} (hq : h[k]? = some q) : (xW cA b0 h)[k]? = some (b0 + k, xe cA q) := by simp [xW_get, hq]
theorem xW_set (cA : Nat → ClassId) (b0 : Nat) (h : xH) (k : Nat) (q : xE) : (xW cA b0 h).set k (b0 + k, xe cA q) = xW cA b0 (h.set k q) := by
  apply List.ext_getElem?
  intro j
  rw [xW_get]
  by_cases hj : k = j
  · subst hj
    by_cases hl : k < h.length
    · simp [List.getElem?_set, hl, xW]
    · simp [List.getElem?_set, hl, xW]
  · rw [List.getElem?_set_ne hj, List.getElem?_set_ne hj, xW_get]
theorem xW_push (cA : Nat → ClassId) (b0 : Nat) (h : xH) (q : xE) : xW cA b0 (h ++ [q]) = xW cA b0 h ++ [(b0 + h.length, xe cA q)] := by simp [xW, List.mapIdx_append]
theorem xW_D (cA : Nat → ClassId) (b0 : Nat) (h : xH) : va_D (fun q => b0 ≤ q) (xW cA b0 h) := by
  refine ⟨fun i j p q hi hj he => ?_, fun k q hk => ?_⟩
  · rw [xW_get] at hi hj
    obtain ⟨a, ha, rfl⟩ := Option.map_eq_some_iff.mp hi
    obtain ⟨b, hb, rfl⟩ := Option.map_eq_some_iff.mp hj
    dsimp only at he
    omega
  · rw [xW_get] at hk
    obtain ⟨a, ha, rfl⟩ := Option.map_eq_some_iff.mp hk
    show b0 ≤ b0 + k
    omega
theorem xT_len (cA : Nat → ClassId) : (xT cA)[0]? = some (cA 0, .int) ∧ (xT cA)[1]? = some (cA 1, .boolean) ∧ (xT cA)[2]? = some (cA 2, .long) ∧ (xT cA)[3]? = some (cA 3, .object RX5) := ⟨rfl, rfl, rfl, rfl⟩
theorem xsl_push (h : xH) (q : xE) : xsl (h ++ [q]) = xsl h + xsz q := by simp [xsl]
theorem xsl_set {h : xH} {k : Nat} {q q' : xE} (hk : h[k]? = some q) (hz : xsz q' = xsz q) : xsl (h.set k q') = xsl h := by
  induction h generalizing k with
  | nil => simp at hk
  | cons a t ih =>
    cases k with
    | zero =>
      simp at hk
      subst hk
      simp [xsl, hz]
    | succ k =>
      simp at hk
      have := ih hk
      simp only [xsl, List.set_cons_succ, List.map_cons, List.sum_cons] at this ⊢
      omega
theorem xgood {ws : List Cond} (h : ∀ w ∈ ws, w ∈ xTB) : GoodIn xTB ws := fun w hw => ⟨h w hw, good_of_word (List.mem_filter.mp (h w hw)).2⟩
theorem xmem {w : Cond} (i : Nat) (h : lw_tbl[i]? = some w) (hg : goodWord w = true) : w ∈ xTB := List.mem_filter.mpr ⟨List.mem_of_getElem? h, hg⟩
theorem xnth_set_self {ls : List (Option xV)} {i : Nat} {v w : xV} (h : xnth (xset ls i v) i = some w) : w = v := by
  induction ls generalizing i with
  | nil => simp [xset, xnth] at h
  | cons a t ih =>
    cases i with
    | zero => simp [xset, xnth] at h; exact h.symm
    | succ i => simp only [xset, xnth] at h; exact ih h
theorem xnth_set_ne {ls : List (Option xV)} {i j : Nat} {v : xV} (hij : j ≠ i) : xnth (xset ls i v) j = xnth ls j := by
  induction ls generalizing i j with
  | nil => simp [xset]
  | cons a t ih =>
    cases i with
    | zero =>
      cases j with
      | zero => exact absurd rfl hij
      | succ j => simp [xset, xnth]
    | succ i =>
      cases j with
      | zero => simp [xset, xnth]
      | succ j => simp only [xset, xnth]; exact ih (by omega)
def xP (nL : Nat) (ls : List (Option xV)) : List (Nat × Value) := (List.range nL).filterMap (fun j => (xnth ls j).map (fun v => (j, xv v)))
theorem xL_has {arr : Array Slot} {nL : Nat} {ls : List (Option xV)} (h : xL arr nL ls) : lv_has arr nL (xP nL ls) := by
  refine ⟨h.1, h.2.1, fun q hq => ?_⟩
  obtain ⟨j, -, hj⟩ := List.mem_filterMap.mp hq
  obtain ⟨v, hv, rfl⟩ := Option.map_eq_some_iff.mp hj
  exact (h.2.2 j v hv).1
theorem xL_mem {arr : Array Slot} {nL : Nat} {ls : List (Option xV)} (h : xL arr nL ls) {j : Nat} {v : xV} (hv : xnth ls j = some v) : (j, xv v) ∈ xP nL ls := by
  refine List.mem_filterMap.mpr ⟨j, ?_, by rw [hv]; rfl⟩
  have := (Array.getElem?_eq_some_iff.mp (h.2.2 j v hv).1).1
  rw [h.1] at this
  exact List.mem_range.mpr this
theorem xL_st {arr arr' : Array Slot} {nL i : Nat} {ls : List (Option xV)} {v : xV} (h : xL arr nL ls) (h' : lv_has arr' nL ((i, xv v) :: (xP nL ls).filter (fun q => !(q.1 == i) && !(q.1 + 1 == i && q.2.category == 2)))) (hc : (xv v).category = 1) : xL arr' nL (xset ls i v) := by
  refine ⟨h'.1, h'.2.1, fun j w hj => ?_⟩
  by_cases hji : j = i
  · subst hji
    obtain rfl := xnth_set_self hj
    exact ⟨h'.2.2 _ List.mem_cons_self, hc⟩
  · rw [xnth_set_ne hji] at hj
    obtain ⟨g1, g2⟩ := h.2.2 j w hj
    exact ⟨h'.2.2 (j, xv w) (List.mem_cons_of_mem _ (List.mem_filter.mpr ⟨xL_mem h hj, by simp [hji, g2]⟩)), g2⟩
theorem xcat_i (n : Int32) : (xv (.inl n)).category = 1 := rfl
theorem xcat_r (r : Option Nat) : (xv (.inr (.inr r))).category = 1 := by cases r <;> rfl
theorem xcat_le (v : xV) : (xv v).category ≤ 2 := by
  rcases v with n | n | r
  · exact (by decide : 1 ≤ 2)
  · exact Nat.le_refl 2
  · rw [xcat_r]; decide
theorem xcats (st : List xV) : ((st.map xv).map fun v => v.category).sum ≤ 2 * st.length := by
  induction st with
  | nil => simp
  | cons a t ih =>
    have := xcat_le a
    simp only [List.map_cons, List.sum_cons, List.length_cons]
    omega
/-- reading and writing the cells -/
def xat (b0 : Nat) (h : xH) (a : Nat) : Option xE := if b0 ≤ a then h[a - b0]? else none
def xg (b0 : Nat) (h : xH) (a ci k : Nat) : Option xV := match xat b0 h a with
  | some (.inr (.inr (.inl q))) => if q.1 = ci then q.2[k]? else none
  | _ => none
def xgI (b0 : Nat) (h : xH) (a ci k : Nat) : Option Int32 := match xg b0 h a ci k with
  | some (.inl n) => some n
  | _ => none
def xgR (b0 : Nat) (h : xH) (a ci k : Nat) : Option (Option Nat) := match xg b0 h a ci k with
  | some (.inr (.inr r)) => some r
  | _ => none
def xp (b0 : Nat) (h : xH) (a ci k : Nat) (v : xV) : Option xH := match xat b0 h a with
  | some (.inr (.inr (.inl q))) => if q.1 = ci ∧ k < q.2.length then some (h.set (a - b0) (.inr (.inr (.inl (ci, q.2.set k v))))) else none
  | _ => none
def xis (b0 : Nat) (h : xH) (a ci : Nat) : Bool := match xat b0 h a with
  | some (.inr (.inr (.inl q))) => q.1 == ci
  | _ => false
def xal (b0 : Nat) (h : xH) (a : Nat) : Option Nat := match xat b0 h a with
  | some (.inl q) => if q.1 = 0 then some q.2.length else none
  | some (.inr (.inl q)) => some q.length
  | some (.inr (.inr (.inr q))) => some q.length
  | _ => none
/-- int (t = 0) and boolean (t = 1) arrays -/
def xai (b0 t : Nat) (h : xH) (a : Nat) (i : Int32) : Option Int32 := match xat b0 h a with
  | some (.inl q) => if q.1 = t ∧ ¬ i < 0 then q.2[i.toNatClampNeg]? else none
  | _ => none
def xsi (b0 t : Nat) (h : xH) (a : Nat) (i n : Int32) : Option xH := match xat b0 h a with
  | some (.inl q) => if q.1 = t ∧ ¬ i < 0 ∧ i.toNatClampNeg < q.2.length then some (h.set (a - b0) (.inl (t, q.2.set i.toNatClampNeg n))) else none
  | _ => none
def xaj (b0 : Nat) (h : xH) (a : Nat) (i : Int32) : Option Int64 := match xat b0 h a with
  | some (.inr (.inl q)) => if ¬ i < 0 then q[i.toNatClampNeg]? else none
  | _ => none
def xsj (b0 : Nat) (h : xH) (a : Nat) (i : Int32) (n : Int64) : Option xH := match xat b0 h a with
  | some (.inr (.inl q)) => if ¬ i < 0 ∧ i.toNatClampNeg < q.length then some (h.set (a - b0) (.inr (.inl (q.set i.toNatClampNeg n)))) else none
  | _ => none
def xaq (b0 : Nat) (h : xH) (a : Nat) (i : Int32) : Option (Option Nat) := match xat b0 h a with
  | some (.inr (.inr (.inr q))) => if ¬ i < 0 then q[i.toNatClampNeg]? else none
  | _ => none
def xsq (b0 : Nat) (h : xH) (a : Nat) (i : Int32) (r : Nat) : Option xH := match xat b0 h a with
  | some (.inr (.inr (.inr q))) => if ¬ i < 0 ∧ i.toNatClampNeg < q.length then some (h.set (a - b0) (.inr (.inr (.inr (q.set i.toNatClampNeg (some r)))))) else none
  | _ => none
theorem xat_inv {b0 : Nat} {h : xH} {a : Nat} {q : xE} (e : xat b0 h a = some q) : ∃ k, a = b0 + k ∧ h[k]? = some q ∧ a - b0 = k := by
  unfold xat at e
  split at e
  · rename_i hb
    exact ⟨a - b0, by omega, e, rfl⟩
  · cases e
theorem xg_inv {b0 : Nat} {h : xH} {a ci k : Nat} {v : xV} (e : xg b0 h a ci k = some v) : ∃ q fs, a = b0 + q ∧ h[q]? = some (.inr (.inr (.inl (ci, fs)))) ∧ fs[k]? = some v := by
  unfold xg at e
  split at e
  · rename_i q hq
    obtain ⟨j, rfl, h1, -⟩ := xat_inv hq
    split at e
    · rename_i hc
      obtain ⟨c1, fs⟩ := q
      dsimp only at hc e
      subst hc
      exact ⟨j, fs, rfl, h1, e⟩
    · cases e
  · cases e
theorem xgI_inv {b0 : Nat} {h : xH} {a ci k : Nat} {n : Int32} (e : xgI b0 h a ci k = some n) : xg b0 h a ci k = some (.inl n) := by
  unfold xgI at e
  split at e
  · rename_i m hm
    cases e
    exact hm
  · cases e
theorem xgR_inv {b0 : Nat} {h : xH} {a ci k : Nat} {r : Option Nat} (e : xgR b0 h a ci k = some r) : xg b0 h a ci k = some (.inr (.inr r)) := by
  unfold xgR at e
  split at e
  · rename_i m hm
    cases e
    exact hm
  · cases e
theorem xp_inv {b0 : Nat} {h h1 : xH} {a ci k : Nat} {v : xV} (e : xp b0 h a ci k v = some h1) : ∃ q fs, a = b0 + q ∧ h[q]? = some (.inr (.inr (.inl (ci, fs)))) ∧ k < fs.length ∧ h1 = h.set q (.inr (.inr (.inl (ci, fs.set k v)))) := by
  unfold xp at e
  split at e
  · rename_i q hq
    obtain ⟨j, rfl, h2, h3⟩ := xat_inv hq
    split at e
    · rename_i hc
      obtain ⟨c1, fs⟩ := q
      dsimp only at hc e
      obtain ⟨rfl, hk⟩ := hc
      rw [h3] at e
      cases e
      exact ⟨j, fs, rfl, h2, hk, rfl⟩
    · cases e
  · cases e
theorem xis_inv {b0 : Nat} {h : xH} {a ci : Nat} (e : xis b0 h a ci = true) : ∃ q fs, a = b0 + q ∧ h[q]? = some (.inr (.inr (.inl (ci, fs)))) := by
  unfold xis at e
  split at e
  · rename_i q hq
    obtain ⟨j, rfl, h1, -⟩ := xat_inv hq
    obtain ⟨c1, fs⟩ := q
    have : c1 = ci := by simpa using e
    subst this
    exact ⟨j, fs, rfl, h1⟩
  · cases e
theorem xai_inv {b0 t : Nat} {h : xH} {a : Nat} {i n : Int32} (e : xai b0 t h a i = some n) : ∃ q xs, a = b0 + q ∧ h[q]? = some (.inl (t, xs)) ∧ vp_in i xs.length ∧ xs[i.toNatClampNeg]? = some n := by
  unfold xai at e
  split at e
  · rename_i q hq
    obtain ⟨j, rfl, h1, -⟩ := xat_inv hq
    split at e
    · rename_i hc
      obtain ⟨c1, fs⟩ := q
      dsimp only at hc e
      obtain ⟨rfl, hi⟩ := hc
      have hlt := (List.getElem?_eq_some_iff.mp e).1
      exact ⟨j, fs, rfl, h1, fun hh => hh.elim hi (fun h9 => by omega), e⟩
    · cases e
  · cases e
theorem xsi_inv {b0 t : Nat} {h h1 : xH} {a : Nat} {i n : Int32} (e : xsi b0 t h a i n = some h1) : ∃ q xs, a = b0 + q ∧ h[q]? = some (.inl (t, xs)) ∧ vp_in i xs.length ∧ h1 = h.set q (.inl (t, xs.set i.toNatClampNeg n)) := by
  unfold xsi at e
  split at e
  · rename_i q hq
    obtain ⟨j, rfl, h2, h3⟩ := xat_inv hq
    split at e
    · rename_i hc
      obtain ⟨c1, fs⟩ := q
      dsimp only at hc e
      obtain ⟨rfl, hi, hlt⟩ := hc
      rw [h3] at e
      cases e
      exact ⟨j, fs, rfl, h2, fun hh => hh.elim hi (fun h9 => by omega), rfl⟩
    · cases e
  · cases e
theorem xaj_inv {b0 : Nat} {h : xH} {a : Nat} {i : Int32} {n : Int64} (e : xaj b0 h a i = some n) : ∃ q xs, a = b0 + q ∧ h[q]? = some (.inr (.inl xs)) ∧ vp_in i xs.length ∧ xs[i.toNatClampNeg]? = some n := by
  unfold xaj at e
  split at e
  · rename_i q hq
    obtain ⟨j, rfl, h1, -⟩ := xat_inv hq
    split at e
    · rename_i hi
      have hlt := (List.getElem?_eq_some_iff.mp e).1
      exact ⟨j, q, rfl, h1, fun hh => hh.elim hi (fun h9 => by omega), e⟩
    · cases e
  · cases e
theorem xsj_inv {b0 : Nat} {h h1 : xH} {a : Nat} {i : Int32} {n : Int64} (e : xsj b0 h a i n = some h1) : ∃ q xs, a = b0 + q ∧ h[q]? = some (.inr (.inl xs)) ∧ vp_in i xs.length ∧ h1 = h.set q (.inr (.inl (xs.set i.toNatClampNeg n))) := by
  unfold xsj at e
  split at e
  · rename_i q hq
    obtain ⟨j, rfl, h2, h3⟩ := xat_inv hq
    split at e
    · rename_i hc
      rw [h3] at e
      cases e
      exact ⟨j, q, rfl, h2, fun hh => hh.elim hc.1 (fun h9 => by omega), rfl⟩
    · cases e
  · cases e
theorem xaq_inv {b0 : Nat} {h : xH} {a : Nat} {i : Int32} {r : Option Nat} (e : xaq b0 h a i = some r) : ∃ q xs, a = b0 + q ∧ h[q]? = some (.inr (.inr (.inr xs))) ∧ vp_in i xs.length ∧ xs[i.toNatClampNeg]? = some r := by
  unfold xaq at e
  split at e
  · rename_i q hq
    obtain ⟨j, rfl, h1, -⟩ := xat_inv hq
    split at e
    · rename_i hi
      have hlt := (List.getElem?_eq_some_iff.mp e).1
      exact ⟨j, q, rfl, h1, fun hh => hh.elim hi (fun h9 => by omega), e⟩
    · cases e
  · cases e
theorem xsq_inv {b0 : Nat} {h h1 : xH} {a : Nat} {i : Int32} {r : Nat} (e : xsq b0 h a i r = some h1) : ∃ q xs, a = b0 + q ∧ h[q]? = some (.inr (.inr (.inr xs))) ∧ vp_in i xs.length ∧ h1 = h.set q (.inr (.inr (.inr (xs.set i.toNatClampNeg (some r))))) := by
  unfold xsq at e
  split at e
  · rename_i q hq
    obtain ⟨j, rfl, h2, h3⟩ := xat_inv hq
    split at e
    · rename_i hc
      rw [h3] at e
      cases e
      exact ⟨j, q, rfl, h2, fun hh => hh.elim hc.1 (fun h9 => by omega), rfl⟩
    · cases e
  · cases e
