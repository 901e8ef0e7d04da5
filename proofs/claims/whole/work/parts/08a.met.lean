section M_X0_init
variable {p : Program} {l : Launch} {e : Env} {R : Room} {s : State} {m : MethodId} {args : Array Value} {below : List Frame} {meth : Method} {c : Code} {D : va_G} {cA : Nat → ClassId} {b0 : Nat} {hs : xH} {res : Option xV × xH}
set_option maxRecDepth 20000 in
theorem t_X0_init_0  : xS p l e R s m args below meth c cX0_init 1 none yX0_init.cls yX0_init.name 1 20 D cA b0 hs res (xMQ D cA b0 below args s hs res) (k_X0_init_0 b0) 0 := by
  unfold k_X0_init_0
  refine s_aload_n dX0_init_0 rfl ?_
  refine s_obj w_93 w_43 w_44 (by decide) dX0_init_1 ?_
  refine s_aload_n dX0_init_4 rfl ?_
  refine s_bipush dX0_init_5 (by decide) ?_
  refine s_newi w_78 dX0_init_7 ?_
  refine s_putRF (Tb := TX0) rfl inX0 (by decide) w_94 tyX0 tyX0_ok nmX0 rfl rfl rfl (Or.inr ⟨_, rfl⟩) dX0_init_9 ?_
  refine s_aload_n dX0_init_12 rfl ?_
  refine s_bipush dX0_init_13 (by decide) ?_
  refine s_newi w_78 dX0_init_15 ?_
  refine s_putRF (Tb := TX0) rfl inX0 (by decide) w_96 tyX0 tyX0_ok nmX0 rfl rfl rfl (Or.inr ⟨_, rfl⟩) dX0_init_17 ?_
  refine s_aload_n dX0_init_20 rfl ?_
  refine s_bipush dX0_init_21 (by decide) ?_
  refine s_newi w_78 dX0_init_23 ?_
  refine s_putRF (Tb := TX0) rfl inX0 (by decide) w_98 tyX0 tyX0_ok nmX0 rfl rfl rfl (Or.inr ⟨_, rfl⟩) dX0_init_25 ?_
  exact s_retV rfl dX0_init_28
theorem m_X0_init (l : Launch) (D : va_G) (cA : Nat → ClassId) (b0 : Nat) : xMet l D cA b0 yX0_init (.code yX0_init cX0_init 1 none :: xTB) 1 20 (f_X0_init b0) :=
  xMet_of (n := 1) (by decide +kernel) (by decide) (fun p e R s m args below meth c hs res => t_X0_init_0)
end M_X0_init
section M_X0_append
variable {p : Program} {l : Launch} {e : Env} {R : Room} {s : State} {m : MethodId} {args : Array Value} {below : List Frame} {meth : Method} {c : Code} {D : va_G} {cA : Nat → ClassId} {b0 : Nat} {hs : xH} {res : Option xV × xH}
set_option maxRecDepth 20000 in
theorem t_X0_append_0  : xS p l e R s m args below meth c cX0_append 5 (some .int) yX0_append.cls yX0_append.name 0 0 D cA b0 hs res (xMQ D cA b0 below args s hs res) (k_X0_append_0 b0) 0 := by
  unfold k_X0_append_0
  refine s_aload_n dX0_append_0 rfl ?_
  refine s_getI (Tb := TX0) rfl inX0 (by decide) w_100 dX0_append_1 ?_
  refine s_bipush dX0_append_4 (by decide) ?_
  refine s_c2lt (tgt := 12) dX0_append_6 (by decide) ?_ ?_
  · refine s_aload_n dX0_append_12 rfl ?_
    refine s_getI (Tb := TX0) rfl inX0 (by decide) w_100 dX0_append_13 ?_
    refine s_istore dX0_append_16 (by decide) ?_
    refine s_aload_n dX0_append_18 rfl ?_
    refine s_getR (Tb := TX0) rfl inX0 (by decide) w_94 dX0_append_19 ?_
    refine s_iload dX0_append_22 ?_
    refine s_iload_n dX0_append_24 rfl ?_
    refine s_ias dX0_append_25 ?_
    refine s_aload_n dX0_append_26 rfl ?_
    refine s_getR (Tb := TX0) rfl inX0 (by decide) w_96 dX0_append_27 ?_
    refine s_iload dX0_append_30 ?_
    refine s_iload_n dX0_append_32 rfl ?_
    refine s_ias dX0_append_33 ?_
    refine s_aload_n dX0_append_34 rfl ?_
    refine s_getR (Tb := TX0) rfl inX0 (by decide) w_98 dX0_append_35 ?_
    refine s_iload dX0_append_38 ?_
    refine s_iload_n dX0_append_40 rfl ?_
    refine s_ias dX0_append_41 ?_
    refine s_aload_n dX0_append_42 rfl ?_
    refine s_dup dX0_append_43 ?_
    refine s_getI (Tb := TX0) rfl inX0 (by decide) w_100 dX0_append_44 ?_
    refine s_iconst dX0_append_47 (by decide) ?_
    refine s_iadd dX0_append_48 ?_
    refine s_putI (Tb := TX0) rfl inX0 (by decide) w_100 tyX0 tyX0_ok nmX0 rfl rfl dX0_append_49 ?_
    refine s_iload dX0_append_52 ?_
    exact s_retI rfl dX0_append_54
  · refine s_bipush dX0_append_9 (by decide) ?_
    exact s_retI rfl dX0_append_11
theorem m_X0_append (l : Launch) (D : va_G) (cA : Nat → ClassId) (b0 : Nat) : xMet l D cA b0 yX0_append (.code yX0_append cX0_append 5 (some .int) :: xTB) 0 0 (f_X0_append b0) :=
  xMet_of (n := 4) (by decide +kernel) (by decide) (fun p e R s m args below meth c hs res => t_X0_append_0)
end M_X0_append
section M_X1_init
variable {p : Program} {l : Launch} {e : Env} {R : Room} {s : State} {m : MethodId} {args : Array Value} {below : List Frame} {meth : Method} {c : Code} {D : va_G} {cA : Nat → ClassId} {b0 : Nat} {hs : xH} {res : Option xV × xH}
set_option maxRecDepth 20000 in
theorem t_X1_init_0  : xS p l e R s m args below meth c cX1_init 1 none yX1_init.cls yX1_init.name 1 20 D cA b0 hs res (xMQ D cA b0 below args s hs res) (k_X1_init_0 b0) 0 := by
  unfold k_X1_init_0
  refine s_aload_n dX1_init_0 rfl ?_
  refine s_obj w_148 w_43 w_44 (by decide) dX1_init_1 ?_
  refine s_aload_n dX1_init_4 rfl ?_
  refine s_iconst dX1_init_5 (by decide) ?_
  refine s_newi w_78 dX1_init_6 ?_
  refine s_putRF (Tb := TX1) rfl inX1 (by decide) w_149 tyX1 tyX1_ok nmX1 rfl rfl rfl (Or.inr ⟨_, rfl⟩) dX1_init_8 ?_
  refine s_aload_n dX1_init_11 rfl ?_
  refine s_bipush dX1_init_12 (by decide) ?_
  refine s_putI (Tb := TX1) rfl inX1 (by decide) w_152 tyX1 tyX1_ok nmX1 rfl rfl dX1_init_14 ?_
  exact s_retV rfl dX1_init_17
theorem m_X1_init (l : Launch) (D : va_G) (cA : Nat → ClassId) (b0 : Nat) : xMet l D cA b0 yX1_init (.code yX1_init cX1_init 1 none :: xTB) 1 20 (f_X1_init b0) :=
  xMet_of (n := 1) (by decide +kernel) (by decide) (fun p e R s m args below meth c hs res => t_X1_init_0)
end M_X1_init
section M_X1_isNothing
variable {p : Program} {l : Launch} {e : Env} {R : Room} {s : State} {m : MethodId} {args : Array Value} {below : List Frame} {meth : Method} {c : Code} {D : va_G} {cA : Nat → ClassId} {b0 : Nat} {hs : xH} {res : Option xV × xH}
set_option maxRecDepth 20000 in
theorem t_X1_isNothing_0  : xS p l e R s m args below meth c cX1_isNothing 1 (some .boolean) yX1_isNothing.cls yX1_isNothing.name 0 0 D cA b0 hs res (xMQ D cA b0 below args s hs res) (k_X1_isNothing_0 b0) 0 := by
  unfold k_X1_isNothing_0
  refine s_aload_n dX1_isNothing_0 rfl ?_
  refine s_getI (Tb := TX1) rfl inX1 (by decide) w_152 dX1_isNothing_1 ?_
  refine s_bipush dX1_isNothing_4 (by decide) ?_
  refine s_c2ne (tgt := 13) dX1_isNothing_6 (by decide) ?_ ?_
  · refine s_iconst dX1_isNothing_13 (by decide) ?_
    exact s_retZ rfl dX1_isNothing_14
  · refine s_iconst dX1_isNothing_9 (by decide) ?_
    refine s_goto (tgt := 14) dX1_isNothing_10 (by decide) ?_
    exact s_retZ rfl dX1_isNothing_14
theorem m_X1_isNothing (l : Launch) (D : va_G) (cA : Nat → ClassId) (b0 : Nat) : xMet l D cA b0 yX1_isNothing (.code yX1_isNothing cX1_isNothing 1 (some .boolean) :: xTB) 0 0 (f_X1_isNothing b0) :=
  xMet_of (n := 1) (by decide +kernel) (by decide) (fun p e R s m args below meth c hs res => t_X1_isNothing_0)
end M_X1_isNothing
section M_X1_has
variable {p : Program} {l : Launch} {e : Env} {R : Room} {s : State} {m : MethodId} {args : Array Value} {below : List Frame} {meth : Method} {c : Code} {D : va_G} {cA : Nat → ClassId} {b0 : Nat} {hs : xH} {res : Option xV × xH}
set_option maxRecDepth 20000 in
theorem t_X1_has_0  : xS p l e R s m args below meth c cX1_has 2 (some .boolean) yX1_has.cls yX1_has.name 0 0 D cA b0 hs res (xMQ D cA b0 below args s hs res) (k_X1_has_0 b0) 0 := by
  unfold k_X1_has_0
  refine s_aload_n dX1_has_0 rfl ?_
  refine s_getI (Tb := TX1) rfl inX1 (by decide) w_152 dX1_has_1 ?_
  refine s_bipush dX1_has_4 (by decide) ?_
  refine s_c2eq (tgt := 22) dX1_has_6 (by decide) ?_ ?_
  · refine s_iconst dX1_has_22 (by decide) ?_
    exact s_retZ rfl dX1_has_23
  · refine s_iload_n dX1_has_9 rfl ?_
    refine s_c1lt (tgt := 22) dX1_has_10 (by decide) ?_ ?_
    · refine s_iconst dX1_has_22 (by decide) ?_
      exact s_retZ rfl dX1_has_23
    · refine s_iload_n dX1_has_13 rfl ?_
      refine s_iconst dX1_has_14 (by decide) ?_
      refine s_c2ge (tgt := 22) dX1_has_15 (by decide) ?_ ?_
      · refine s_iconst dX1_has_22 (by decide) ?_
        exact s_retZ rfl dX1_has_23
      · refine s_iconst dX1_has_18 (by decide) ?_
        refine s_goto (tgt := 23) dX1_has_19 (by decide) ?_
        exact s_retZ rfl dX1_has_23
theorem m_X1_has (l : Launch) (D : va_G) (cA : Nat → ClassId) (b0 : Nat) : xMet l D cA b0 yX1_has (.code yX1_has cX1_has 2 (some .boolean) :: xTB) 0 0 (f_X1_has b0) :=
  xMet_of (n := 2) (by decide +kernel) (by decide) (fun p e R s m args below meth c hs res => t_X1_has_0)
end M_X1_has
section M_X1_renew
variable {p : Program} {l : Launch} {e : Env} {R : Room} {s : State} {m : MethodId} {args : Array Value} {below : List Frame} {meth : Method} {c : Code} {D : va_G} {cA : Nat → ClassId} {b0 : Nat} {hs : xH} {res : Option xV × xH}
set_option maxRecDepth 20000 in
theorem t_X1_renew_10 (k : Nat → xK) (hk0 : xS p l e R s m args below meth c cX1_renew 3 none yX1_renew.cls yX1_renew.name 0 0 D cA b0 hs res (xMQ D cA b0 below args s hs res) (k 0) 21) : xS p l e R s m args below meth c cX1_renew 3 none yX1_renew.cls yX1_renew.name 0 0 D cA b0 hs res (xMQ D cA b0 below args s hs res) (k_X1_renew_10 b0 k) 10 := by
  unfold k_X1_renew_10
  refine s_iload_n dX1_renew_10 rfl ?_
  refine s_goto (tgt := 16) dX1_renew_11 (by decide) ?_
  refine s_putI (Tb := TX1) rfl inX1 (by decide) w_152 tyX1 tyX1_ok nmX1 rfl rfl dX1_renew_16 ?_
  refine s_iconst dX1_renew_19 (by decide) ?_
  refine s_istore_n dX1_renew_20 rfl (by decide) ?_
  exact hk0
set_option maxRecDepth 20000 in
theorem t_X1_renew_0 (k : Nat → xK) (hk0 : xS p l e R s m args below meth c cX1_renew 3 none yX1_renew.cls yX1_renew.name 0 0 D cA b0 hs res (xMQ D cA b0 below args s hs res) (k 0) 21) : xS p l e R s m args below meth c cX1_renew 3 none yX1_renew.cls yX1_renew.name 0 0 D cA b0 hs res (xMQ D cA b0 below args s hs res) (k_X1_renew_0 b0 k) 0 := by
  unfold k_X1_renew_0
  refine s_aload_n dX1_renew_0 rfl ?_
  refine s_iload_n dX1_renew_1 rfl ?_
  refine s_c1eq (tgt := 10) dX1_renew_2 (by decide) ?_ ?_
  · exact t_X1_renew_10 k hk0
  · refine s_iload_n dX1_renew_5 rfl ?_
    refine s_iconst dX1_renew_6 (by decide) ?_
    refine s_c2ne (tgt := 14) dX1_renew_7 (by decide) ?_ ?_
    · refine s_bipush dX1_renew_14 (by decide) ?_
      refine s_putI (Tb := TX1) rfl inX1 (by decide) w_152 tyX1 tyX1_ok nmX1 rfl rfl dX1_renew_16 ?_
      refine s_iconst dX1_renew_19 (by decide) ?_
      refine s_istore_n dX1_renew_20 rfl (by decide) ?_
      exact hk0
    · exact t_X1_renew_10 k hk0
set_option maxRecDepth 20000 in
theorem t_X1_renew_21 (k : Nat → xK) (hk0 : xS p l e R s m args below meth c cX1_renew 3 none yX1_renew.cls yX1_renew.name 0 0 D cA b0 hs res (xMQ D cA b0 below args s hs res) (k 0) 21) : xS p l e R s m args below meth c cX1_renew 3 none yX1_renew.cls yX1_renew.name 0 0 D cA b0 hs res (xMQ D cA b0 below args s hs res) (k_X1_renew_21 b0 k) 21 := by
  unfold k_X1_renew_21
  refine s_iload_n dX1_renew_21 rfl ?_
  refine s_iconst dX1_renew_22 (by decide) ?_
  refine s_c2ge (tgt := 52) dX1_renew_23 (by decide) ?_ ?_
  · exact s_retV rfl dX1_renew_52
  · refine s_aload_n dX1_renew_26 rfl ?_
    refine s_getR (Tb := TX1) rfl inX1 (by decide) w_149 dX1_renew_27 ?_
    refine s_iload_n dX1_renew_30 rfl ?_
    refine s_aload_n dX1_renew_31 rfl ?_
    refine s_getI (Tb := TX1) rfl inX1 (by decide) w_152 dX1_renew_32 ?_
    refine s_iconst dX1_renew_35 (by decide) ?_
    refine s_c2ne (tgt := 44) dX1_renew_36 (by decide) ?_ ?_
    · refine s_iconst dX1_renew_44 (by decide) ?_
      refine s_ias dX1_renew_45 ?_
      refine s_iinc dX1_renew_46 (by decide) (by decide) ?_
      refine s_goto (tgt := 21) dX1_renew_49 (by decide) ?_
      exact hk0
    · refine s_bipush dX1_renew_39 (by decide) ?_
      refine s_goto (tgt := 45) dX1_renew_41 (by decide) ?_
      refine s_ias dX1_renew_45 ?_
      refine s_iinc dX1_renew_46 (by decide) (by decide) ?_
      refine s_goto (tgt := 21) dX1_renew_49 (by decide) ?_
      exact hk0
theorem t_X1_renew_r (n : Nat) : xS p l e R s m args below meth c cX1_renew 3 none yX1_renew.cls yX1_renew.name 0 0 D cA b0 hs res (xMQ D cA b0 below args s hs res) (r_X1_renew b0 n 0) 21 := by
  induction n with
  | zero => exact fun ls st h hT => by cases hT
  | succ n ih => exact t_X1_renew_21 (r_X1_renew b0 n) ih
theorem m_X1_renew (l : Launch) (D : va_G) (cA : Nat → ClassId) (b0 : Nat) : xMet l D cA b0 yX1_renew (.code yX1_renew cX1_renew 3 none :: xTB) 0 0 (f_X1_renew b0) :=
  xMet_of (n := 2) (by decide +kernel) (by decide) (fun p e R s m args below meth c hs res => t_X1_renew_0 (r_X1_renew b0 64) (t_X1_renew_r 64))
end M_X1_renew
section M_X1_lookAt
variable {p : Program} {l : Launch} {e : Env} {R : Room} {s : State} {m : MethodId} {args : Array Value} {below : List Frame} {meth : Method} {c : Code} {D : va_G} {cA : Nat → ClassId} {b0 : Nat} {hs : xH} {res : Option xV × xH}
set_option maxRecDepth 20000 in
theorem t_X1_lookAt_19  : xS p l e R s m args below meth c cX1_lookAt 3 (some .int) yX1_lookAt.cls yX1_lookAt.name 0 0 D cA b0 hs res (xMQ D cA b0 below args s hs res) (k_X1_lookAt_19 b0) 19 := by
  unfold k_X1_lookAt_19
  refine s_aload_n dX1_lookAt_19 rfl ?_
  refine s_getI (Tb := TX1) rfl inX1 (by decide) w_152 dX1_lookAt_20 ?_
  refine s_bipush dX1_lookAt_23 (by decide) ?_
  refine s_c2ne (tgt := 30) dX1_lookAt_25 (by decide) ?_ ?_
  · refine s_iload_n dX1_lookAt_30 rfl ?_
    refine s_c1lt (tgt := 43) dX1_lookAt_31 (by decide) ?_ ?_
    · refine s_iconst dX1_lookAt_43 (by decide) ?_
      exact s_retI rfl dX1_lookAt_44
    · refine s_iload_n dX1_lookAt_34 rfl ?_
      refine s_iconst dX1_lookAt_35 (by decide) ?_
      refine s_c2ge (tgt := 43) dX1_lookAt_36 (by decide) ?_ ?_
      · refine s_iconst dX1_lookAt_43 (by decide) ?_
        exact s_retI rfl dX1_lookAt_44
      · refine s_iconst dX1_lookAt_39 (by decide) ?_
        refine s_goto (tgt := 44) dX1_lookAt_40 (by decide) ?_
        exact s_retI rfl dX1_lookAt_44
  · refine s_iconst dX1_lookAt_28 (by decide) ?_
    exact s_retI rfl dX1_lookAt_29
set_option maxRecDepth 20000 in
theorem t_X1_lookAt_0  : xS p l e R s m args below meth c cX1_lookAt 3 (some .int) yX1_lookAt.cls yX1_lookAt.name 0 0 D cA b0 hs res (xMQ D cA b0 below args s hs res) (k_X1_lookAt_0 b0) 0 := by
  unfold k_X1_lookAt_0
  refine s_aload_n dX1_lookAt_0 rfl ?_
  refine s_getI (Tb := TX1) rfl inX1 (by decide) w_152 dX1_lookAt_1 ?_
  refine s_iload_n dX1_lookAt_4 rfl ?_
  refine s_c2eq (tgt := 19) dX1_lookAt_5 (by decide) ?_ ?_
  · exact t_X1_lookAt_19
  · refine s_aload_n dX1_lookAt_8 rfl ?_
    refine s_getI (Tb := TX1) rfl inX1 (by decide) w_152 dX1_lookAt_9 ?_
    refine s_bipush dX1_lookAt_12 (by decide) ?_
    refine s_c2eq (tgt := 19) dX1_lookAt_14 (by decide) ?_ ?_
    · exact t_X1_lookAt_19
    · refine s_iconst dX1_lookAt_17 (by decide) ?_
      exact s_retI rfl dX1_lookAt_18
theorem m_X1_lookAt (l : Launch) (D : va_G) (cA : Nat → ClassId) (b0 : Nat) : xMet l D cA b0 yX1_lookAt (.code yX1_lookAt cX1_lookAt 3 (some .int) :: xTB) 0 0 (f_X1_lookAt b0) :=
  xMet_of (n := 3) (by decide +kernel) (by decide) (fun p e R s m args below meth c hs res => t_X1_lookAt_0)
end M_X1_lookAt
section M_X1_put
variable {p : Program} {l : Launch} {e : Env} {R : Room} {s : State} {m : MethodId} {args : Array Value} {below : List Frame} {meth : Method} {c : Code} {D : va_G} {cA : Nat → ClassId} {b0 : Nat} {hs : xH} {res : Option xV × xH}
set_option maxRecDepth 20000 in
theorem t_X1_put_0  : xS p l e R s m args below meth c cX1_put 5 (some .int) yX1_put.cls yX1_put.name 1 22 D cA b0 hs res (xMQ D cA b0 below args s hs res) (k_X1_put_0 b0) 0 := by
  unfold k_X1_put_0
  refine s_aload_n dX1_put_0 rfl ?_
  refine s_iload_n dX1_put_1 rfl ?_
  refine s_iload_n dX1_put_2 rfl ?_
  refine s_callV (Tb := TX1) (m_X1_lookAt l D cA b0) rfl w_383 w_384 w_385 w_34 w_386 ⟨rfl, by decide, by decide, by decide +kernel⟩ (by decide) dX1_put_3 ?_
  refine s_istore dX1_put_6 (by decide) ?_
  refine s_iload dX1_put_8 ?_
  refine s_c1ne (tgt := 20) dX1_put_10 (by decide) ?_ ?_
  · refine s_iload dX1_put_20 ?_
    exact s_retI rfl dX1_put_22
  · refine s_aload_n dX1_put_13 rfl ?_
    refine s_getR (Tb := TX1) rfl inX1 (by decide) w_149 dX1_put_14 ?_
    refine s_iload_n dX1_put_17 rfl ?_
    refine s_iload_n dX1_put_18 rfl ?_
    refine s_ias dX1_put_19 ?_
    refine s_iload dX1_put_20 ?_
    exact s_retI rfl dX1_put_22
theorem m_X1_put (l : Launch) (D : va_G) (cA : Nat → ClassId) (b0 : Nat) : xMet l D cA b0 yX1_put (.code yX1_put cX1_put 5 (some .int) :: xTB) 1 22 (f_X1_put b0) :=
  xMet_of (n := 4) (by decide +kernel) (by decide) (fun p e R s m args below meth c hs res => t_X1_put_0)
end M_X1_put
section M_X2_init
variable {p : Program} {l : Launch} {e : Env} {R : Room} {s : State} {m : MethodId} {args : Array Value} {below : List Frame} {meth : Method} {c : Code} {D : va_G} {cA : Nat → ClassId} {b0 : Nat} {hs : xH} {res : Option xV × xH}
set_option maxRecDepth 20000 in
theorem t_X2_init_0  : xS p l e R s m args below meth c cX2_init 1 none yX2_init.cls yX2_init.name 1 20 D cA b0 hs res (xMQ D cA b0 below args s hs res) (k_X2_init_0 b0) 0 := by
  unfold k_X2_init_0
  refine s_aload_n dX2_init_0 rfl ?_
  refine s_obj w_116 w_43 w_44 (by decide) dX2_init_1 ?_
  refine s_aload_n dX2_init_4 rfl ?_
  refine s_bipush dX2_init_5 (by decide) ?_
  refine s_newi w_78 dX2_init_7 ?_
  refine s_putRF (Tb := TX2) rfl inX2 (by decide) w_117 tyX2 tyX2_ok nmX2 rfl rfl rfl (Or.inr ⟨_, rfl⟩) dX2_init_9 ?_
  exact s_retV rfl dX2_init_12
theorem m_X2_init (l : Launch) (D : va_G) (cA : Nat → ClassId) (b0 : Nat) : xMet l D cA b0 yX2_init (.code yX2_init cX2_init 1 none :: xTB) 1 20 (f_X2_init b0) :=
  xMet_of (n := 1) (by decide +kernel) (by decide) (fun p e R s m args below meth c hs res => t_X2_init_0)
end M_X2_init
section M_X2_isFull
variable {p : Program} {l : Launch} {e : Env} {R : Room} {s : State} {m : MethodId} {args : Array Value} {below : List Frame} {meth : Method} {c : Code} {D : va_G} {cA : Nat → ClassId} {b0 : Nat} {hs : xH} {res : Option xV × xH}
set_option maxRecDepth 20000 in
theorem t_X2_isFull_0  : xS p l e R s m args below meth c cX2_isFull 1 (some .boolean) yX2_isFull.cls yX2_isFull.name 0 0 D cA b0 hs res (xMQ D cA b0 below args s hs res) (k_X2_isFull_0 b0) 0 := by
  unfold k_X2_isFull_0
  refine s_aload_n dX2_isFull_0 rfl ?_
  refine s_getI (Tb := TX2) rfl inX2 (by decide) w_119 dX2_isFull_1 ?_
  refine s_bipush dX2_isFull_4 (by decide) ?_
  refine s_c2lt (tgt := 13) dX2_isFull_6 (by decide) ?_ ?_
  · refine s_iconst dX2_isFull_13 (by decide) ?_
    exact s_retZ rfl dX2_isFull_14
  · refine s_iconst dX2_isFull_9 (by decide) ?_
    refine s_goto (tgt := 14) dX2_isFull_10 (by decide) ?_
    exact s_retZ rfl dX2_isFull_14
theorem m_X2_isFull (l : Launch) (D : va_G) (cA : Nat → ClassId) (b0 : Nat) : xMet l D cA b0 yX2_isFull (.code yX2_isFull cX2_isFull 1 (some .boolean) :: xTB) 0 0 (f_X2_isFull b0) :=
  xMet_of (n := 1) (by decide +kernel) (by decide) (fun p e R s m args below meth c hs res => t_X2_isFull_0)
end M_X2_isFull
section M_X2_has
variable {p : Program} {l : Launch} {e : Env} {R : Room} {s : State} {m : MethodId} {args : Array Value} {below : List Frame} {meth : Method} {c : Code} {D : va_G} {cA : Nat → ClassId} {b0 : Nat} {hs : xH} {res : Option xV × xH}
set_option maxRecDepth 20000 in
theorem t_X2_has_0  : xS p l e R s m args below meth c cX2_has 2 (some .boolean) yX2_has.cls yX2_has.name 0 0 D cA b0 hs res (xMQ D cA b0 below args s hs res) (k_X2_has_0 b0) 0 := by
  unfold k_X2_has_0
  refine s_iload_n dX2_has_0 rfl ?_
  refine s_c1lt (tgt := 16) dX2_has_1 (by decide) ?_ ?_
  · refine s_iconst dX2_has_16 (by decide) ?_
    exact s_retZ rfl dX2_has_17
  · refine s_iload_n dX2_has_4 rfl ?_
    refine s_aload_n dX2_has_5 rfl ?_
    refine s_getI (Tb := TX2) rfl inX2 (by decide) w_119 dX2_has_6 ?_
    refine s_c2ge (tgt := 16) dX2_has_9 (by decide) ?_ ?_
    · refine s_iconst dX2_has_16 (by decide) ?_
      exact s_retZ rfl dX2_has_17
    · refine s_iconst dX2_has_12 (by decide) ?_
      refine s_goto (tgt := 17) dX2_has_13 (by decide) ?_
      exact s_retZ rfl dX2_has_17
theorem m_X2_has (l : Launch) (D : va_G) (cA : Nat → ClassId) (b0 : Nat) : xMet l D cA b0 yX2_has (.code yX2_has cX2_has 2 (some .boolean) :: xTB) 0 0 (f_X2_has b0) :=
  xMet_of (n := 2) (by decide +kernel) (by decide) (fun p e R s m args below meth c hs res => t_X2_has_0)
end M_X2_has
section M_X2_append
variable {p : Program} {l : Launch} {e : Env} {R : Room} {s : State} {m : MethodId} {args : Array Value} {below : List Frame} {meth : Method} {c : Code} {D : va_G} {cA : Nat → ClassId} {b0 : Nat} {hs : xH} {res : Option xV × xH}
set_option maxRecDepth 20000 in
theorem t_X2_append_0  : xS p l e R s m args below meth c cX2_append 2 none yX2_append.cls yX2_append.name 0 0 D cA b0 hs res (xMQ D cA b0 below args s hs res) (k_X2_append_0 b0) 0 := by
  unfold k_X2_append_0
  refine s_aload_n dX2_append_0 rfl ?_
  refine s_getI (Tb := TX2) rfl inX2 (by decide) w_119 dX2_append_1 ?_
  refine s_bipush dX2_append_4 (by decide) ?_
  refine s_c2ge (tgt := 29) dX2_append_6 (by decide) ?_ ?_
  · exact s_retV rfl dX2_append_29
  · refine s_aload_n dX2_append_9 rfl ?_
    refine s_getR (Tb := TX2) rfl inX2 (by decide) w_117 dX2_append_10 ?_
    refine s_aload_n dX2_append_13 rfl ?_
    refine s_getI (Tb := TX2) rfl inX2 (by decide) w_119 dX2_append_14 ?_
    refine s_iload_n dX2_append_17 rfl ?_
    refine s_ias dX2_append_18 ?_
    refine s_aload_n dX2_append_19 rfl ?_
    refine s_dup dX2_append_20 ?_
    refine s_getI (Tb := TX2) rfl inX2 (by decide) w_119 dX2_append_21 ?_
    refine s_iconst dX2_append_24 (by decide) ?_
    refine s_iadd dX2_append_25 ?_
    refine s_putI (Tb := TX2) rfl inX2 (by decide) w_119 tyX2 tyX2_ok nmX2 rfl rfl dX2_append_26 ?_
    exact s_retV rfl dX2_append_29
theorem m_X2_append (l : Launch) (D : va_G) (cA : Nat → ClassId) (b0 : Nat) : xMet l D cA b0 yX2_append (.code yX2_append cX2_append 2 none :: xTB) 0 0 (f_X2_append b0) :=
  xMet_of (n := 2) (by decide +kernel) (by decide) (fun p e R s m args below meth c hs res => t_X2_append_0)
end M_X2_append
section M_X2_removeEldest
variable {p : Program} {l : Launch} {e : Env} {R : Room} {s : State} {m : MethodId} {args : Array Value} {below : List Frame} {meth : Method} {c : Code} {D : va_G} {cA : Nat → ClassId} {b0 : Nat} {hs : xH} {res : Option xV × xH}
set_option maxRecDepth 20000 in
theorem t_X2_removeEldest_0 (k : Nat → xK) (hk0 : xS p l e R s m args below meth c cX2_removeEldest 3 (some .int) yX2_removeEldest.cls yX2_removeEldest.name 0 0 D cA b0 hs res (xMQ D cA b0 below args s hs res) (k 0) 28) : xS p l e R s m args below meth c cX2_removeEldest 3 (some .int) yX2_removeEldest.cls yX2_removeEldest.name 0 0 D cA b0 hs res (xMQ D cA b0 below args s hs res) (k_X2_removeEldest_0 b0 k) 0 := by
  unfold k_X2_removeEldest_0
  refine s_aload_n dX2_removeEldest_0 rfl ?_
  refine s_getI (Tb := TX2) rfl inX2 (by decide) w_119 dX2_removeEldest_1 ?_
  refine s_c1gt (tgt := 9) dX2_removeEldest_4 (by decide) ?_ ?_
  · refine s_aload_n dX2_removeEldest_9 rfl ?_
    refine s_getR (Tb := TX2) rfl inX2 (by decide) w_117 dX2_removeEldest_10 ?_
    refine s_iconst dX2_removeEldest_13 (by decide) ?_
    refine s_ial dX2_removeEldest_14 ?_
    refine s_istore_n dX2_removeEldest_15 rfl (by decide) ?_
    refine s_aload_n dX2_removeEldest_16 rfl ?_
    refine s_dup dX2_removeEldest_17 ?_
    refine s_getI (Tb := TX2) rfl inX2 (by decide) w_119 dX2_removeEldest_18 ?_
    refine s_iconst dX2_removeEldest_21 (by decide) ?_
    refine s_isub dX2_removeEldest_22 ?_
    refine s_putI (Tb := TX2) rfl inX2 (by decide) w_119 tyX2 tyX2_ok nmX2 rfl rfl dX2_removeEldest_23 ?_
    refine s_iconst dX2_removeEldest_26 (by decide) ?_
    refine s_istore_n dX2_removeEldest_27 rfl (by decide) ?_
    exact hk0
  · refine s_iconst dX2_removeEldest_7 (by decide) ?_
    exact s_retI rfl dX2_removeEldest_8
set_option maxRecDepth 20000 in
theorem t_X2_removeEldest_28 (k : Nat → xK) (hk0 : xS p l e R s m args below meth c cX2_removeEldest 3 (some .int) yX2_removeEldest.cls yX2_removeEldest.name 0 0 D cA b0 hs res (xMQ D cA b0 below args s hs res) (k 0) 28) : xS p l e R s m args below meth c cX2_removeEldest 3 (some .int) yX2_removeEldest.cls yX2_removeEldest.name 0 0 D cA b0 hs res (xMQ D cA b0 below args s hs res) (k_X2_removeEldest_28 b0 k) 28 := by
  unfold k_X2_removeEldest_28
  refine s_iload_n dX2_removeEldest_28 rfl ?_
  refine s_aload_n dX2_removeEldest_29 rfl ?_
  refine s_getI (Tb := TX2) rfl inX2 (by decide) w_119 dX2_removeEldest_30 ?_
  refine s_c2ge (tgt := 56) dX2_removeEldest_33 (by decide) ?_ ?_
  · refine s_iload_n dX2_removeEldest_56 rfl ?_
    exact s_retI rfl dX2_removeEldest_57
  · refine s_aload_n dX2_removeEldest_36 rfl ?_
    refine s_getR (Tb := TX2) rfl inX2 (by decide) w_117 dX2_removeEldest_37 ?_
    refine s_iload_n dX2_removeEldest_40 rfl ?_
    refine s_aload_n dX2_removeEldest_41 rfl ?_
    refine s_getR (Tb := TX2) rfl inX2 (by decide) w_117 dX2_removeEldest_42 ?_
    refine s_iload_n dX2_removeEldest_45 rfl ?_
    refine s_iconst dX2_removeEldest_46 (by decide) ?_
    refine s_iadd dX2_removeEldest_47 ?_
    refine s_ial dX2_removeEldest_48 ?_
    refine s_ias dX2_removeEldest_49 ?_
    refine s_iinc dX2_removeEldest_50 (by decide) (by decide) ?_
    refine s_goto (tgt := 28) dX2_removeEldest_53 (by decide) ?_
    exact hk0
theorem t_X2_removeEldest_r (n : Nat) : xS p l e R s m args below meth c cX2_removeEldest 3 (some .int) yX2_removeEldest.cls yX2_removeEldest.name 0 0 D cA b0 hs res (xMQ D cA b0 below args s hs res) (r_X2_removeEldest b0 n 0) 28 := by
  induction n with
  | zero => exact fun ls st h hT => by cases hT
  | succ n ih => exact t_X2_removeEldest_28 (r_X2_removeEldest b0 n) ih
theorem m_X2_removeEldest (l : Launch) (D : va_G) (cA : Nat → ClassId) (b0 : Nat) : xMet l D cA b0 yX2_removeEldest (.code yX2_removeEldest cX2_removeEldest 3 (some .int) :: xTB) 0 0 (f_X2_removeEldest b0) :=
  xMet_of (n := 1) (by decide +kernel) (by decide) (fun p e R s m args below meth c hs res => t_X2_removeEldest_0 (r_X2_removeEldest b0 64) (t_X2_removeEldest_r 64))
end M_X2_removeEldest
section M_X4_init
variable {p : Program} {l : Launch} {e : Env} {R : Room} {s : State} {m : MethodId} {args : Array Value} {below : List Frame} {meth : Method} {c : Code} {D : va_G} {cA : Nat → ClassId} {b0 : Nat} {hs : xH} {res : Option xV × xH}
set_option maxRecDepth 20000 in
theorem t_X4_init_0  : xS p l e R s m args below meth c cX4_init 1 none yX4_init.cls yX4_init.name 1 20 D cA b0 hs res (xMQ D cA b0 below args s hs res) (k_X4_init_0 b0) 0 := by
  unfold k_X4_init_0
  refine s_aload_n dX4_init_0 rfl ?_
  refine s_obj w_132 w_43 w_44 (by decide) dX4_init_1 ?_
  refine s_aload_n dX4_init_4 rfl ?_
  refine s_bipush dX4_init_5 (by decide) ?_
  refine s_newi w_78 dX4_init_7 ?_
  refine s_putRF (Tb := TX4) rfl inX4 (by decide) w_133 tyX4 tyX4_ok nmX4 rfl rfl rfl (Or.inr ⟨_, rfl⟩) dX4_init_9 ?_
  refine s_aload_n dX4_init_12 rfl ?_
  refine s_bipush dX4_init_13 (by decide) ?_
  refine s_putI (Tb := TX4) rfl inX4 (by decide) w_136 tyX4 tyX4_ok nmX4 rfl rfl dX4_init_15 ?_
  exact s_retV rfl dX4_init_18
theorem m_X4_init (l : Launch) (D : va_G) (cA : Nat → ClassId) (b0 : Nat) : xMet l D cA b0 yX4_init (.code yX4_init cX4_init 1 none :: xTB) 1 20 (f_X4_init b0) :=
  xMet_of (n := 1) (by decide +kernel) (by decide) (fun p e R s m args below meth c hs res => t_X4_init_0)
end M_X4_init
section M_X3_init
variable {p : Program} {l : Launch} {e : Env} {R : Room} {s : State} {m : MethodId} {args : Array Value} {below : List Frame} {meth : Method} {c : Code} {D : va_G} {cA : Nat → ClassId} {b0 : Nat} {hs : xH} {res : Option xV × xH}
set_option maxRecDepth 20000 in
theorem t_X3_init_0  : xS p l e R s m args below meth c cX3_init 1 none yX3_init.cls yX3_init.name 2 40 D cA b0 hs res (xMQ D cA b0 below args s hs res) (k_X3_init_0 b0) 0 := by
  unfold k_X3_init_0
  refine s_aload_n dX3_init_0 rfl ?_
  refine s_obj w_164 w_43 w_44 (by decide) dX3_init_1 ?_
  refine s_aload_n dX3_init_4 rfl ?_
  refine s_new (Tb := TX4) rfl inX4 tyX4 tyX4_ok w_165 w_128 w_33 nd_X4 rfl dX3_init_5 ?_
  refine s_dup dX3_init_8 ?_
  refine s_callI (m_X4_init l D cA b0) w_166 w_130 w_33 w_131 rfl ⟨by decide, by decide, by decide +kernel⟩ (by decide) dX3_init_9 ?_
  refine s_putRF (Tb := TX3) rfl inX3 (by decide) w_167 tyX3 tyX3_ok nmX3 rfl rfl rfl (Or.inl ⟨_, rfl⟩) dX3_init_12 ?_
  exact s_retV rfl dX3_init_15
theorem m_X3_init (l : Launch) (D : va_G) (cA : Nat → ClassId) (b0 : Nat) : xMet l D cA b0 yX3_init (.code yX3_init cX3_init 1 none :: xTB) 2 40 (f_X3_init b0) :=
  xMet_of (n := 1) (by decide +kernel) (by decide) (fun p e R s m args below meth c hs res => t_X3_init_0)
end M_X3_init
section M_X4_isNothing
variable {p : Program} {l : Launch} {e : Env} {R : Room} {s : State} {m : MethodId} {args : Array Value} {below : List Frame} {meth : Method} {c : Code} {D : va_G} {cA : Nat → ClassId} {b0 : Nat} {hs : xH} {res : Option xV × xH}
set_option maxRecDepth 20000 in
theorem t_X4_isNothing_0  : xS p l e R s m args below meth c cX4_isNothing 1 (some .boolean) yX4_isNothing.cls yX4_isNothing.name 0 0 D cA b0 hs res (xMQ D cA b0 below args s hs res) (k_X4_isNothing_0 b0) 0 := by
  unfold k_X4_isNothing_0
  refine s_aload_n dX4_isNothing_0 rfl ?_
  refine s_getI (Tb := TX4) rfl inX4 (by decide) w_136 dX4_isNothing_1 ?_
  refine s_bipush dX4_isNothing_4 (by decide) ?_
  refine s_c2ne (tgt := 13) dX4_isNothing_6 (by decide) ?_ ?_
  · refine s_iconst dX4_isNothing_13 (by decide) ?_
    exact s_retZ rfl dX4_isNothing_14
  · refine s_iconst dX4_isNothing_9 (by decide) ?_
    refine s_goto (tgt := 14) dX4_isNothing_10 (by decide) ?_
    exact s_retZ rfl dX4_isNothing_14
theorem m_X4_isNothing (l : Launch) (D : va_G) (cA : Nat → ClassId) (b0 : Nat) : xMet l D cA b0 yX4_isNothing (.code yX4_isNothing cX4_isNothing 1 (some .boolean) :: xTB) 0 0 (f_X4_isNothing b0) :=
  xMet_of (n := 1) (by decide +kernel) (by decide) (fun p e R s m args below meth c hs res => t_X4_isNothing_0)
end M_X4_isNothing
section M_X4_has
variable {p : Program} {l : Launch} {e : Env} {R : Room} {s : State} {m : MethodId} {args : Array Value} {below : List Frame} {meth : Method} {c : Code} {D : va_G} {cA : Nat → ClassId} {b0 : Nat} {hs : xH} {res : Option xV × xH}
set_option maxRecDepth 20000 in
theorem t_X4_has_0  : xS p l e R s m args below meth c cX4_has 2 (some .boolean) yX4_has.cls yX4_has.name 0 0 D cA b0 hs res (xMQ D cA b0 below args s hs res) (k_X4_has_0 b0) 0 := by
  unfold k_X4_has_0
  refine s_iload_n dX4_has_0 rfl ?_
  refine s_c1lt (tgt := 22) dX4_has_1 (by decide) ?_ ?_
  · refine s_iconst dX4_has_22 (by decide) ?_
    exact s_retZ rfl dX4_has_23
  · refine s_iload_n dX4_has_4 rfl ?_
    refine s_aload_n dX4_has_5 rfl ?_
    refine s_getI (Tb := TX4) rfl inX4 (by decide) w_136 dX4_has_6 ?_
    refine s_c2ge (tgt := 22) dX4_has_9 (by decide) ?_ ?_
    · refine s_iconst dX4_has_22 (by decide) ?_
      exact s_retZ rfl dX4_has_23
    · refine s_iload_n dX4_has_12 rfl ?_
      refine s_bipush dX4_has_13 (by decide) ?_
      refine s_c2ge (tgt := 22) dX4_has_15 (by decide) ?_ ?_
      · refine s_iconst dX4_has_22 (by decide) ?_
        exact s_retZ rfl dX4_has_23
      · refine s_iconst dX4_has_18 (by decide) ?_
        refine s_goto (tgt := 23) dX4_has_19 (by decide) ?_
        exact s_retZ rfl dX4_has_23
theorem m_X4_has (l : Launch) (D : va_G) (cA : Nat → ClassId) (b0 : Nat) : xMet l D cA b0 yX4_has (.code yX4_has cX4_has 2 (some .boolean) :: xTB) 0 0 (f_X4_has b0) :=
  xMet_of (n := 2) (by decide +kernel) (by decide) (fun p e R s m args below meth c hs res => t_X4_has_0)
end M_X4_has
section M_X4_renew
variable {p : Program} {l : Launch} {e : Env} {R : Room} {s : State} {m : MethodId} {args : Array Value} {below : List Frame} {meth : Method} {c : Code} {D : va_G} {cA : Nat → ClassId} {b0 : Nat} {hs : xH} {res : Option xV × xH}
set_option maxRecDepth 20000 in
theorem t_X4_renew_0 (k : Nat → xK) (hk0 : xS p l e R s m args below meth c cX4_renew 3 none yX4_renew.cls yX4_renew.name 0 0 D cA b0 hs res (xMQ D cA b0 below args s hs res) (k 0) 2) : xS p l e R s m args below meth c cX4_renew 3 none yX4_renew.cls yX4_renew.name 0 0 D cA b0 hs res (xMQ D cA b0 below args s hs res) (k_X4_renew_0 b0 k) 0 := by
  unfold k_X4_renew_0
  refine s_iconst dX4_renew_0 (by decide) ?_
  refine s_istore_n dX4_renew_1 rfl (by decide) ?_
  exact hk0
set_option maxRecDepth 20000 in
theorem t_X4_renew_2 (k : Nat → xK) (hk0 : xS p l e R s m args below meth c cX4_renew 3 none yX4_renew.cls yX4_renew.name 0 0 D cA b0 hs res (xMQ D cA b0 below args s hs res) (k 0) 2) : xS p l e R s m args below meth c cX4_renew 3 none yX4_renew.cls yX4_renew.name 0 0 D cA b0 hs res (xMQ D cA b0 below args s hs res) (k_X4_renew_2 b0 k) 2 := by
  unfold k_X4_renew_2
  refine s_iload_n dX4_renew_2 rfl ?_
  refine s_bipush dX4_renew_3 (by decide) ?_
  refine s_c2ge (tgt := 21) dX4_renew_5 (by decide) ?_ ?_
  · refine s_aload_n dX4_renew_21 rfl ?_
    refine s_iload_n dX4_renew_22 rfl ?_
    refine s_putI (Tb := TX4) rfl inX4 (by decide) w_136 tyX4 tyX4_ok nmX4 rfl rfl dX4_renew_23 ?_
    exact s_retV rfl dX4_renew_26
  · refine s_aload_n dX4_renew_8 rfl ?_
    refine s_getR (Tb := TX4) rfl inX4 (by decide) w_133 dX4_renew_9 ?_
    refine s_iload_n dX4_renew_12 rfl ?_
    refine s_iconst dX4_renew_13 (by decide) ?_
    refine s_ias dX4_renew_14 ?_
    refine s_iinc dX4_renew_15 (by decide) (by decide) ?_
    refine s_goto (tgt := 2) dX4_renew_18 (by decide) ?_
    exact hk0
theorem t_X4_renew_r (n : Nat) : xS p l e R s m args below meth c cX4_renew 3 none yX4_renew.cls yX4_renew.name 0 0 D cA b0 hs res (xMQ D cA b0 below args s hs res) (r_X4_renew b0 n 0) 2 := by
  induction n with
  | zero => exact fun ls st h hT => by cases hT
  | succ n ih => exact t_X4_renew_2 (r_X4_renew b0 n) ih
theorem m_X4_renew (l : Launch) (D : va_G) (cA : Nat → ClassId) (b0 : Nat) : xMet l D cA b0 yX4_renew (.code yX4_renew cX4_renew 3 none :: xTB) 0 0 (f_X4_renew b0) :=
  xMet_of (n := 2) (by decide +kernel) (by decide) (fun p e R s m args below meth c hs res => t_X4_renew_0 (r_X4_renew b0 64) (t_X4_renew_r 64))
end M_X4_renew
section M_X4_copyFrom
variable {p : Program} {l : Launch} {e : Env} {R : Room} {s : State} {m : MethodId} {args : Array Value} {below : List Frame} {meth : Method} {c : Code} {D : va_G} {cA : Nat → ClassId} {b0 : Nat} {hs : xH} {res : Option xV × xH}
set_option maxRecDepth 20000 in
theorem t_X4_copyFrom_0 (k : Nat → xK) (hk0 : xS p l e R s m args below meth c cX4_copyFrom 3 none yX4_copyFrom.cls yX4_copyFrom.name 0 0 D cA b0 hs res (xMQ D cA b0 below args s hs res) (k 0) 2) : xS p l e R s m args below meth c cX4_copyFrom 3 none yX4_copyFrom.cls yX4_copyFrom.name 0 0 D cA b0 hs res (xMQ D cA b0 below args s hs res) (k_X4_copyFrom_0 b0 k) 0 := by
  unfold k_X4_copyFrom_0
  refine s_iconst dX4_copyFrom_0 (by decide) ?_
  refine s_istore_n dX4_copyFrom_1 rfl (by decide) ?_
  exact hk0
set_option maxRecDepth 20000 in
theorem t_X4_copyFrom_2 (k : Nat → xK) (hk0 : xS p l e R s m args below meth c cX4_copyFrom 3 none yX4_copyFrom.cls yX4_copyFrom.name 0 0 D cA b0 hs res (xMQ D cA b0 below args s hs res) (k 0) 2) : xS p l e R s m args below meth c cX4_copyFrom 3 none yX4_copyFrom.cls yX4_copyFrom.name 0 0 D cA b0 hs res (xMQ D cA b0 below args s hs res) (k_X4_copyFrom_2 b0 k) 2 := by
  unfold k_X4_copyFrom_2
  refine s_iload_n dX4_copyFrom_2 rfl ?_
  refine s_bipush dX4_copyFrom_3 (by decide) ?_
  refine s_c2ge (tgt := 26) dX4_copyFrom_5 (by decide) ?_ ?_
  · refine s_aload_n dX4_copyFrom_26 rfl ?_
    refine s_aload_n dX4_copyFrom_27 rfl ?_
    refine s_getI (Tb := TX4) rfl inX4 (by decide) w_136 dX4_copyFrom_28 ?_
    refine s_putI (Tb := TX4) rfl inX4 (by decide) w_136 tyX4 tyX4_ok nmX4 rfl rfl dX4_copyFrom_31 ?_
    exact s_retV rfl dX4_copyFrom_34
  · refine s_aload_n dX4_copyFrom_8 rfl ?_
    refine s_getR (Tb := TX4) rfl inX4 (by decide) w_133 dX4_copyFrom_9 ?_
    refine s_iload_n dX4_copyFrom_12 rfl ?_
    refine s_aload_n dX4_copyFrom_13 rfl ?_
    refine s_getR (Tb := TX4) rfl inX4 (by decide) w_133 dX4_copyFrom_14 ?_
    refine s_iload_n dX4_copyFrom_17 rfl ?_
    refine s_ial dX4_copyFrom_18 ?_
    refine s_ias dX4_copyFrom_19 ?_
    refine s_iinc dX4_copyFrom_20 (by decide) (by decide) ?_
    refine s_goto (tgt := 2) dX4_copyFrom_23 (by decide) ?_
    exact hk0
theorem t_X4_copyFrom_r (n : Nat) : xS p l e R s m args below meth c cX4_copyFrom 3 none yX4_copyFrom.cls yX4_copyFrom.name 0 0 D cA b0 hs res (xMQ D cA b0 below args s hs res) (r_X4_copyFrom b0 n 0) 2 := by
  induction n with
  | zero => exact fun ls st h hT => by cases hT
  | succ n ih => exact t_X4_copyFrom_2 (r_X4_copyFrom b0 n) ih
theorem m_X4_copyFrom (l : Launch) (D : va_G) (cA : Nat → ClassId) (b0 : Nat) : xMet l D cA b0 yX4_copyFrom (.code yX4_copyFrom cX4_copyFrom 3 none :: xTB) 0 0 (f_X4_copyFrom b0) :=
  xMet_of (n := 2) (by decide +kernel) (by decide) (fun p e R s m args below meth c hs res => t_X4_copyFrom_0 (r_X4_copyFrom b0 64) (t_X4_copyFrom_r 64))
end M_X4_copyFrom
