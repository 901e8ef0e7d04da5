theorem u3_self {c : xc} {a i k : Nat} {v : Int32} (h : c a i k = v) : u3 c a i k v = c := by
  funext a1 i1 k1
  unfold u3
  split
  · rename_i e1
    split
    · rename_i e2
      split
      · rename_i e3
        rw [e1, e2, e3, h]
      · rfl
    · rfl
  · rfl
/-- the class: a task is done -/
theorem cf_becomeDone {b0 n i : Nat} {c m : xc} {wk : Nat → Int64} {q : Nat} (hi : i < n) (hq : c 8 0 3 = nI q) (hq12 : q < 12) : f_X6_becomeDone b0 [.inr (.inr (some (hA b0 0))), .inr (.inr (some (tA b0 i 0)))] (hp b0 n c m wk) = some (none, hp b0 n (u3 (u3 (u3 c 0 i 8 3) 9 0 q (c 0 i 0)) 8 0 3 (nI (q + 1))) m wk) := by
  have hc : ¬ nI 12 ≤ nI q := nI_ge hq12 (by decide)
  simp (disch := omega) [f_X6_becomeDone, k_X6_becomeDone_0, xfun, xok, xnth, xset, oCst, oALd, oAdd, oDup, oC2ge, oGetI, oGetR, oPutI, oLen, oIas, oRetV, xis_h0, xis_h3, g_h0_0, g_h0_1, g_h0_2, p_h0_2, g_h0_3, p_h0_3, g_h0_4, p_h0_4, g_h0_5, p_h0_5, g_h0_6, p_h0_6, g_h0_7, p_h0_7, g_h0_8, p_h0_8, g_h0_9, p_h0_9, g_h3_0, p_h3_0, g_h3_1, g_h3_2, g_h3_3, g_h3_4, g_h3_5, g_h3_6, g_h3_7, g_h3_8, g_h3_9, g_h3_10, g_h3_11, g_h3_12, g_h3_13, g_h3_14, g_h3_15, g_h3_16, g_h3_17, g_h3_18, g_h3_19, g_h3_20, g_h3_21, g_h3_22, g_h3_23, g_h3_24, g_h3_25, g_h3_26, g_h3_27, g_h3_28, g_h3_29, p_h3_29, g_h3_30, p_h3_30, g_h3_31, p_h3_31, g_h3_32, p_h3_32, g_h3_33, p_h3_33, g_h3_34, p_h3_34, g_h3_35, p_h3_35, g_h3_36, p_h3_36, g_h3_37, p_h3_37, a_h2, s_h2, a_h4, s_h4, a_h5, s_h5, a_h6, s_h6, a_h7, s_h7, a_h8, s_h8, a_h9, s_h9, a_h10, s_h10, a_h11, s_h11, a_h12, s_h12, a_h13, s_h13, a_h14, s_h14, a_h15, s_h15, a_h16, s_h16, a_h17, s_h17, a_h18, s_h18, a_h19, s_h19, a_h20, s_h20, a_h21, s_h21, a_h22, s_h22, a_h23, s_h23, a_h25, s_h25, a_h26, s_h26, a_h27, s_h27, a_h28, s_h28, a_h29, s_h29, a_h30, s_h30, a_h31, s_h31, a_h1, l_h1, l_h2, an_h2, sn_h2, an_h4, sn_h4, an_h5, sn_h5, an_h6, sn_h6, an_h7, sn_h7, an_h8, sn_h8, an_h9, sn_h9, an_h10, sn_h10, an_h11, sn_h11, an_h12, sn_h12, an_h13, sn_h13, an_h14, sn_h14, an_h15, sn_h15, an_h16, sn_h16, an_h17, sn_h17, an_h18, sn_h18, an_h19, sn_h19, an_h20, sn_h20, an_h21, sn_h21, an_h22, sn_h22, an_h23, sn_h23, an_h25, sn_h25, an_h26, sn_h26, an_h27, sn_h27, an_h28, sn_h28, an_h29, sn_h29, an_h30, sn_h30, an_h31, sn_h31, an_h24, sn_h24, an_h1, xis_t0, g_t0_0, p_t0_0, g_t0_1, p_t0_1, g_t0_2, p_t0_2, g_t0_3, g_t0_4, g_t0_5, g_t0_6, g_t0_7, g_t0_8, p_t0_8, g_t0_9, p_t0_9, g_t0_10, p_t0_10, g_t0_11, p_t0_11, g_t0_12, p_t0_12, g_t0_13, p_t0_13, g_t0_14, p_t0_14, g_t0_15, p_t0_15, g_t0_16, p_t0_16, g_t0_17, p_t0_17, g_t0_18, p_t0_18, xis_t1, g_t1_0, g_t1_1, g_t1_2, g_t1_3, p_t1_3, xis_t5, g_t5_0, g_t5_1, p_t5_1, xis_t7, g_t7_0, g_t7_1, p_t7_1, xis_t9, g_t9_0, g_t9_1, p_t9_1, xis_t11, g_t11_0, g_t11_1, p_t11_1, g_t11_2, p_t11_2, xis_t12, g_t12_0, g_t12_1, p_t12_1, hi, hq, hc, u3_a, u3_k, ad1]
theorem mf_maybeYes {b0 n i : Nat} {c m : xc} {wk : Nat → Int64} {q : Nat} (hi : i < 12) (h1 : m 0 i 8 ≤ 2) (h2 : ¬ m 0 i 8 = 2) (h3 : m 0 i 20 ≤ m 0 i 11) (hq : m 8 0 3 = nI q) (hq12 : q < 12) : f_X7_maybeDone b0 [.inr (.inr (some (hA b0 3))), .inl (nI i)] (hp b0 n c m wk) = some (none, hp b0 n c (u3 (u3 (u3 m 0 i 8 3) 9 0 q (nI i)) 8 0 3 (nI (q + 1))) wk) := by
  have h4 : ¬ m 0 i 11 < m 0 i 20 := k2_nlt h3
  simp (disch := omega) [f_X7_maybeDone, k_X7_maybeDone_0, xfun, xok, xnth, xset, oCst, oILd, oALd, oAdd, oDup, oC2eq, oC1ne, oC2lt, oGetI, oGetR, oPutI, oIal, oIas, oCallS, oRetV, xis_h0, xis_h3, g_h0_0, g_h0_1, g_h0_2, p_h0_2, g_h0_3, p_h0_3, g_h0_4, p_h0_4, g_h0_5, p_h0_5, g_h0_6, p_h0_6, g_h0_7, p_h0_7, g_h0_8, p_h0_8, g_h0_9, p_h0_9, g_h3_0, p_h3_0, g_h3_1, g_h3_2, g_h3_3, g_h3_4, g_h3_5, g_h3_6, g_h3_7, g_h3_8, g_h3_9, g_h3_10, g_h3_11, g_h3_12, g_h3_13, g_h3_14, g_h3_15, g_h3_16, g_h3_17, g_h3_18, g_h3_19, g_h3_20, g_h3_21, g_h3_22, g_h3_23, g_h3_24, g_h3_25, g_h3_26, g_h3_27, g_h3_28, g_h3_29, p_h3_29, g_h3_30, p_h3_30, g_h3_31, p_h3_31, g_h3_32, p_h3_32, g_h3_33, p_h3_33, g_h3_34, p_h3_34, g_h3_35, p_h3_35, g_h3_36, p_h3_36, g_h3_37, p_h3_37, an_h2, sn_h2, an_h4, sn_h4, an_h5, sn_h5, an_h6, sn_h6, an_h7, sn_h7, an_h8, sn_h8, an_h9, sn_h9, an_h10, sn_h10, an_h11, sn_h11, an_h12, sn_h12, an_h13, sn_h13, an_h14, sn_h14, an_h15, sn_h15, an_h16, sn_h16, an_h17, sn_h17, an_h18, sn_h18, an_h19, sn_h19, an_h20, sn_h20, an_h21, sn_h21, an_h22, sn_h22, an_h23, sn_h23, an_h25, sn_h25, an_h26, sn_h26, an_h27, sn_h27, an_h28, sn_h28, an_h29, sn_h29, an_h30, sn_h30, an_h31, sn_h31, an_h24, sn_h24, an_h1, dv16, md16, dv100, md100, dv6, md6, dv3, md3, dv60, md60, ml16, ml100, ml6, ml3, ad0, ad1, ad2, nI_add, Nat.mod_eq_of_lt, mf_isOver, h1, h2, h4, hq, u3_a, u3_k]
theorem mf_maybeNo {b0 n i : Nat} {c m : xc} {wk : Nat → Int64} (hi : i < 12) (h : ¬ m 0 i 8 ≤ 2 ∨ m 0 i 8 = 2 ∨ m 0 i 11 < m 0 i 20) : f_X7_maybeDone b0 [.inr (.inr (some (hA b0 3))), .inl (nI i)] (hp b0 n c m wk) = some (none, (hp b0 n c m wk)) := by
  simp (disch := omega) [f_X7_maybeDone, k_X7_maybeDone_0, xfun, xok, xnth, xset, oCst, oILd, oALd, oAdd, oDup, oC2eq, oC1ne, oC2lt, oGetI, oGetR, oPutI, oIal, oIas, oCallS, oRetV, xis_h0, xis_h3, g_h0_0, g_h0_1, g_h0_2, p_h0_2, g_h0_3, p_h0_3, g_h0_4, p_h0_4, g_h0_5, p_h0_5, g_h0_6, p_h0_6, g_h0_7, p_h0_7, g_h0_8, p_h0_8, g_h0_9, p_h0_9, g_h3_0, p_h3_0, g_h3_1, g_h3_2, g_h3_3, g_h3_4, g_h3_5, g_h3_6, g_h3_7, g_h3_8, g_h3_9, g_h3_10, g_h3_11, g_h3_12, g_h3_13, g_h3_14, g_h3_15, g_h3_16, g_h3_17, g_h3_18, g_h3_19, g_h3_20, g_h3_21, g_h3_22, g_h3_23, g_h3_24, g_h3_25, g_h3_26, g_h3_27, g_h3_28, g_h3_29, p_h3_29, g_h3_30, p_h3_30, g_h3_31, p_h3_31, g_h3_32, p_h3_32, g_h3_33, p_h3_33, g_h3_34, p_h3_34, g_h3_35, p_h3_35, g_h3_36, p_h3_36, g_h3_37, p_h3_37, an_h2, sn_h2, an_h4, sn_h4, an_h5, sn_h5, an_h6, sn_h6, an_h7, sn_h7, an_h8, sn_h8, an_h9, sn_h9, an_h10, sn_h10, an_h11, sn_h11, an_h12, sn_h12, an_h13, sn_h13, an_h14, sn_h14, an_h15, sn_h15, an_h16, sn_h16, an_h17, sn_h17, an_h18, sn_h18, an_h19, sn_h19, an_h20, sn_h20, an_h21, sn_h21, an_h22, sn_h22, an_h23, sn_h23, an_h25, sn_h25, an_h26, sn_h26, an_h27, sn_h27, an_h28, sn_h28, an_h29, sn_h29, an_h30, sn_h30, an_h31, sn_h31, an_h24, sn_h24, an_h1, dv16, md16, dv100, md100, dv6, md6, dv3, md3, dv60, md60, ml16, ml100, ml6, ml3, ad0, ad1, ad2, nI_add, Nat.mod_eq_of_lt, mf_isOver]
  rcases h with h | h | h
  · simp [h]
  · simp [h]
  · (repeat' split) <;> first | rfl | (simp_all; done) | grind
def mfl (m : xc) (i : Nat) (f : Int32) : xc := u3 (u3 (u3 (u3 m 0 i 15 (m 0 i 15 + 1)) 8 0 9 (m 8 0 9 + 1)) 0 i 16 f) 0 i 17 (m 0 i 11)
theorem fl68A {b0 n i : Nat} {c m : xc} {wk : Nat → Int64} {f mo : Int32} (hi : i < 12) (h : m 0 i 1 < 2) : k_X7_fails_68 b0 [some (.inr (.inr (some (hA b0 3)))), some (.inl (nI i)), some (.inl f), none] [.inl mo] (hp b0 n c m wk) = some (none, hp b0 n c (u3 m 0 i 8 4) wk) := by
  have h1 : ¬ 2 ≤ m 0 i 1 := k2_nle h
  simp (disch := omega) [k_X7_fails_68, xfun, xok, xnth, xset, oCst, oILd, oALd, oISt, oAdd, oDup, oDup2, oC2ne, oC2ge, oGetI, oGetR, oPutI, oIal, oIas, oCallV, oRetV, g_h3_1, g_h3_4, an_h4, sn_h7, h1]
theorem fl68B {b0 n i : Nat} {c m : xc} {wk : Nat → Int64} {f mo : Int32} {N : Nat} (hi : i < 12) (h : ¬ m 0 i 1 < 2) (hb : m 0 i 18 < mo) (hN : (m 0 i 26 = -4 ∧ N = 0) ∨ (m 0 i 26 = nI N ∧ N ≤ 40)) : k_X7_fails_68 b0 [some (.inr (.inr (some (hA b0 3)))), some (.inl (nI i)), some (.inl f), none] [.inl mo] (hp b0 n c m wk) = some (none, hp b0 n c (bf (bk1 (u3 m 0 i 18 (m 0 i 18 + 1)) i) 6 i N (m 7 i)) wk) := by
  have h1 : 2 ≤ m 0 i 1 := k2_le h
  have hb2 : ¬ mo ≤ m 0 i 18 := k2_nle hb
  have e1 : u3 m 0 i 18 (m 0 i 18 + 1) 0 i 26 = m 0 i 26 := by simp [u3]
  have e2 : u3 m 0 i 18 (m 0 i 18 + 1) 7 i = m 7 i := by funext k; simp [u3]
  have hbk := mf_back (b0 := b0) (n := n) (c := c) (wk := wk) (m := u3 m 0 i 18 (m 0 i 18 + 1)) (N := N) hi (by rw [e1]; exact hN)
  rw [e2] at hbk
  simp (disch := omega) [k_X7_fails_68, xfun, xok, xnth, xset, oCst, oILd, oALd, oISt, oAdd, oDup, oDup2, oC2ne, oC2ge, oGetI, oGetR, oPutI, oIal, oIas, oCallV, oRetV, g_h3_1, g_h3_25, xis_h3, an_h4, an_h28, sn_h28, h1, hb2, hbk]
theorem fl68C {b0 n i : Nat} {c m : xc} {wk : Nat → Int64} {f mo : Int32} (hi : i < 12) (h : ¬ m 0 i 1 < 2) (hb : ¬ m 0 i 18 < mo) : k_X7_fails_68 b0 [some (.inr (.inr (some (hA b0 3)))), some (.inl (nI i)), some (.inl f), none] [.inl mo] (hp b0 n c m wk) = some (none, hp b0 n c (u3 m 0 i 11 (m 0 i 11 + 1)) wk) := by
  have h1 : 2 ≤ m 0 i 1 := k2_le h
  have hb2 : mo ≤ m 0 i 18 := k2_le hb
  simp (disch := omega) [k_X7_fails_68, xfun, xok, xnth, xset, oCst, oILd, oALd, oISt, oAdd, oDup, oDup2, oC2ne, oC2ge, oGetI, oGetR, oPutI, oIal, oIas, oCallV, oRetV, g_h3_1, g_h3_9, g_h3_25, an_h4, an_h28, an_h12, sn_h12, h1, hb2]
theorem mf_fails0 {b0 n i : Nat} {c m : xc} {wk : Nat → Int64} {f : Int32} (hi : i < 12) : f_X7_fails b0 [.inr (.inr (some (hA b0 3))), .inl (nI i), .inl f] (hp b0 n c m wk) = k_X7_fails_68 b0 [some (.inr (.inr (some (hA b0 3)))), some (.inl (nI i)), some (.inl f), none] [.inl (bal m i)] (hp b0 n c (mfl m i f) wk) := by
  have e8 : (u3 m 0 i 15 (m 0 i 15 + 1)) 8 0 9 = m 8 0 9 := by simp [u3]
  have e11 : (u3 (u3 (u3 m 0 i 15 (m 0 i 15 + 1)) 8 0 9 (m 8 0 9 + 1)) 0 i 16 f) 0 i 11 = m 0 i 11 := by simp [u3]
  have em : u3 (u3 (u3 (u3 m 0 i 15 (m 0 i 15 + 1)) 8 0 9 (m 8 0 9 + 1)) 0 i 16 f) 0 i 17 (m 0 i 11) = mfl m i f := rfl
  have eF1 : mfl m i f 0 i 1 = m 0 i 1 := by simp [mfl, u3]
  simp (disch := omega) [f_X7_fails, k_X7_fails_0, xfun, xok, xnth, xset, oCst, oILd, oALd, oISt, oAdd, oDup, oDup2, oC2ne, oC2ge, oGetI, oGetR, oPutI, oIal, oIas, oCallV, oRetV, g_h3_1, g_h3_9, g_h3_22, g_h3_23, g_h3_24, g_h3_35, p_h3_35, an_h25, sn_h25, sn_h26, sn_h27, an_h12, an_h4, e8, e11, em, eF1, bal]
  by_cases h3 : m 0 i 1 = 3
  · simp [h3]
  · by_cases h4 : m 0 i 1 = 4
    · simp [h4]
    · simp [h3, h4]
theorem mf_failsA {b0 n i : Nat} {c m : xc} {wk : Nat → Int64} {f : Int32} (hi : i < 12) (h : m 0 i 1 < 2) : f_X7_fails b0 [.inr (.inr (some (hA b0 3))), .inl (nI i), .inl f] (hp b0 n c m wk) = some (none, hp b0 n c (u3 (mfl m i f) 0 i 8 4) wk) := by
  have eF1 : mfl m i f 0 i 1 = m 0 i 1 := by simp [mfl, u3]
  rw [mf_fails0 hi, fl68A hi (by rw [eF1]; exact h)]
theorem mf_failsB {b0 n i : Nat} {c m : xc} {wk : Nat → Int64} {f : Int32} {N : Nat} (hi : i < 12) (h : ¬ m 0 i 1 < 2) (hb : m 0 i 18 < bal m i) (hN : (m 0 i 26 = -4 ∧ N = 0) ∨ (m 0 i 26 = nI N ∧ N ≤ 40)) : f_X7_fails b0 [.inr (.inr (some (hA b0 3))), .inl (nI i), .inl f] (hp b0 n c m wk) = some (none, hp b0 n c (bf (bk1 (u3 (mfl m i f) 0 i 18 (m 0 i 18 + 1)) i) 6 i N (m 7 i)) wk) := by
  have eF1 : mfl m i f 0 i 1 = m 0 i 1 := by simp [mfl, u3]
  have eF18 : mfl m i f 0 i 18 = m 0 i 18 := by simp [mfl, u3]
  have eF26 : mfl m i f 0 i 26 = m 0 i 26 := by simp [mfl, u3]
  have eF7 : mfl m i f 7 i = m 7 i := by funext k; simp [mfl, u3]
  rw [mf_fails0 hi, fl68B hi (by rw [eF1]; exact h) (by rw [eF18]; exact hb) (by rw [eF26]; exact hN), eF18, eF7]
theorem mf_failsC {b0 n i : Nat} {c m : xc} {wk : Nat → Int64} {f : Int32} (hi : i < 12) (h : ¬ m 0 i 1 < 2) (hb : ¬ m 0 i 18 < bal m i) : f_X7_fails b0 [.inr (.inr (some (hA b0 3))), .inl (nI i), .inl f] (hp b0 n c m wk) = some (none, hp b0 n c (u3 (mfl m i f) 0 i 11 (m 0 i 11 + 1)) wk) := by
  have eF1 : mfl m i f 0 i 1 = m 0 i 1 := by simp [mfl, u3]
  have eF18 : mfl m i f 0 i 18 = m 0 i 18 := by simp [mfl, u3]
  have eF11 : mfl m i f 0 i 11 = m 0 i 11 := by simp [mfl, u3]
  rw [mf_fails0 hi, fl68C hi (by rw [eF1]; exact h) (by rw [eF18]; exact hb), eF11]

