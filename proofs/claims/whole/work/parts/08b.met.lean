section M_X5_init
variable {p : Program} {l : Launch} {e : Env} {R : Room} {s : State} {m : MethodId} {args : Array Value} {below : List Frame} {meth : Method} {c : Code} {D : va_G} {cA : Nat → ClassId} {b0 : Nat} {hs : xH} {res : Option xV × xH}
set_option maxRecDepth 20000 in
theorem t_X5_init_0  : xS p l e R s m args below meth c cX5_init 4 none yX5_init.cls yX5_init.name 3 60 D cA b0 hs res (xMQ D cA b0 below args s hs res) (k_X5_init_0 b0) 0 := by
  unfold k_X5_init_0
  refine s_aload_n dX5_init_0 rfl ?_
  refine s_obj w_87 w_43 w_44 (by decide) dX5_init_1 ?_
  refine s_aload_n dX5_init_4 rfl ?_
  refine s_iload_n dX5_init_5 rfl ?_
  refine s_putIF (Tb := TX5) rfl inX5 (by decide) w_178 tyX5 tyX5_ok nmX5 rfl rfl rfl rfl dX5_init_6 ?_
  refine s_aload_n dX5_init_9 rfl ?_
  refine s_iload_n dX5_init_10 rfl ?_
  refine s_putIF (Tb := TX5) rfl inX5 (by decide) w_180 tyX5 tyX5_ok nmX5 rfl rfl rfl rfl dX5_init_11 ?_
  refine s_aload_n dX5_init_14 rfl ?_
  refine s_iload_n dX5_init_15 rfl ?_
  refine s_putIF (Tb := TX5) rfl inX5 (by decide) w_181 tyX5 tyX5_ok nmX5 rfl rfl rfl rfl dX5_init_16 ?_
  refine s_aload_n dX5_init_19 rfl ?_
  refine s_new (Tb := TX0) rfl inX0 tyX0 tyX0_ok w_88 w_89 w_31 nd_X0 rfl dX5_init_20 ?_
  refine s_dup dX5_init_23 ?_
  refine s_callI (m_X0_init l D cA b0) w_90 w_91 w_31 w_92 rfl ⟨by decide, by decide, by decide +kernel⟩ (by decide) dX5_init_24 ?_
  refine s_putRF (Tb := TX5) rfl inX5 (by decide) w_183 tyX5 tyX5_ok nmX5 rfl rfl rfl (Or.inl ⟨_, rfl⟩) dX5_init_27 ?_
  refine s_aload_n dX5_init_30 rfl ?_
  refine s_new (Tb := TX2) rfl inX2 tyX2 tyX2_ok w_111 w_112 w_32 nd_X2 rfl dX5_init_31 ?_
  refine s_dup dX5_init_34 ?_
  refine s_callI (m_X2_init l D cA b0) w_113 w_114 w_32 w_115 rfl ⟨by decide, by decide, by decide +kernel⟩ (by decide) dX5_init_35 ?_
  refine s_putRF (Tb := TX5) rfl inX5 (by decide) w_185 tyX5 tyX5_ok nmX5 rfl rfl rfl (Or.inl ⟨_, rfl⟩) dX5_init_38 ?_
  refine s_aload_n dX5_init_41 rfl ?_
  refine s_new (Tb := TX4) rfl inX4 tyX4 tyX4_ok w_127 w_128 w_33 nd_X4 rfl dX5_init_42 ?_
  refine s_dup dX5_init_45 ?_
  refine s_callI (m_X4_init l D cA b0) w_129 w_130 w_33 w_131 rfl ⟨by decide, by decide, by decide +kernel⟩ (by decide) dX5_init_46 ?_
  refine s_putRF (Tb := TX5) rfl inX5 (by decide) w_187 tyX5 tyX5_ok nmX5 rfl rfl rfl (Or.inl ⟨_, rfl⟩) dX5_init_49 ?_
  refine s_aload_n dX5_init_52 rfl ?_
  refine s_new (Tb := TX1) rfl inX1 tyX1 tyX1_ok w_143 w_144 w_34 nd_X1 rfl dX5_init_53 ?_
  refine s_dup dX5_init_56 ?_
  refine s_callI (m_X1_init l D cA b0) w_145 w_146 w_34 w_147 rfl ⟨by decide, by decide, by decide +kernel⟩ (by decide) dX5_init_57 ?_
  refine s_putRF (Tb := TX5) rfl inX5 (by decide) w_189 tyX5 tyX5_ok nmX5 rfl rfl rfl (Or.inl ⟨_, rfl⟩) dX5_init_60 ?_
  refine s_aload_n dX5_init_63 rfl ?_
  refine s_new (Tb := TX3) rfl inX3 tyX3 tyX3_ok w_159 w_160 w_35 nd_X3 rfl dX5_init_64 ?_
  refine s_dup dX5_init_67 ?_
  refine s_callI (m_X3_init l D cA b0) w_161 w_162 w_35 w_163 rfl ⟨by decide, by decide, by decide +kernel⟩ (by decide) dX5_init_68 ?_
  refine s_putRF (Tb := TX5) rfl inX5 (by decide) w_191 tyX5 tyX5_ok nmX5 rfl rfl rfl (Or.inl ⟨_, rfl⟩) dX5_init_71 ?_
  refine s_aload_n dX5_init_74 rfl ?_
  refine s_iconst dX5_init_75 (by decide) ?_
  refine s_putI (Tb := TX5) rfl inX5 (by decide) w_192 tyX5 tyX5_ok nmX5 rfl rfl dX5_init_76 ?_
  refine s_aload_n dX5_init_79 rfl ?_
  refine s_iconst dX5_init_80 (by decide) ?_
  refine s_putI (Tb := TX5) rfl inX5 (by decide) w_206 tyX5 tyX5_ok nmX5 rfl rfl dX5_init_81 ?_
  refine s_aload_n dX5_init_84 rfl ?_
  refine s_bipush dX5_init_85 (by decide) ?_
  refine s_putI (Tb := TX5) rfl inX5 (by decide) w_207 tyX5 tyX5_ok nmX5 rfl rfl dX5_init_87 ?_
  exact s_retV rfl dX5_init_90
theorem m_X5_init (l : Launch) (D : va_G) (cA : Nat → ClassId) (b0 : Nat) : xMet l D cA b0 yX5_init (.code yX5_init cX5_init 4 none :: xTB) 3 60 (f_X5_init b0) :=
  xMet_of (n := 4) (by decide +kernel) (by decide) (fun p e R s m args below meth c hs res => t_X5_init_0)
end M_X5_init
section M_X5_isOver
variable {p : Program} {l : Launch} {e : Env} {R : Room} {s : State} {m : MethodId} {args : Array Value} {below : List Frame} {meth : Method} {c : Code} {D : va_G} {cA : Nat → ClassId} {b0 : Nat} {hs : xH} {res : Option xV × xH}
set_option maxRecDepth 20000 in
theorem t_X5_isOver_0  : xS p l e R s m args below meth c cX5_isOver 1 (some .boolean) yX5_isOver.cls yX5_isOver.name 0 0 D cA b0 hs res (xMQ D cA b0 below args s hs res) (k_X5_isOver_0 b0) 0 := by
  unfold k_X5_isOver_0
  refine s_aload_n dX5_isOver_0 rfl ?_
  refine s_getI (Tb := TX5) rfl inX5 (by decide) w_192 dX5_isOver_1 ?_
  refine s_iconst dX5_isOver_4 (by decide) ?_
  refine s_c2eq (tgt := 24) dX5_isOver_5 (by decide) ?_ ?_
  · refine s_iconst dX5_isOver_24 (by decide) ?_
    refine s_goto (tgt := 29) dX5_isOver_25 (by decide) ?_
    exact s_retZ rfl dX5_isOver_29
  · refine s_aload_n dX5_isOver_8 rfl ?_
    refine s_getI (Tb := TX5) rfl inX5 (by decide) w_192 dX5_isOver_9 ?_
    refine s_iconst dX5_isOver_12 (by decide) ?_
    refine s_c2eq (tgt := 24) dX5_isOver_13 (by decide) ?_ ?_
    · refine s_iconst dX5_isOver_24 (by decide) ?_
      refine s_goto (tgt := 29) dX5_isOver_25 (by decide) ?_
      exact s_retZ rfl dX5_isOver_29
    · refine s_aload_n dX5_isOver_16 rfl ?_
      refine s_getI (Tb := TX5) rfl inX5 (by decide) w_192 dX5_isOver_17 ?_
      refine s_iconst dX5_isOver_20 (by decide) ?_
      refine s_c2ne (tgt := 28) dX5_isOver_21 (by decide) ?_ ?_
      · refine s_iconst dX5_isOver_28 (by decide) ?_
        exact s_retZ rfl dX5_isOver_29
      · refine s_iconst dX5_isOver_24 (by decide) ?_
        refine s_goto (tgt := 29) dX5_isOver_25 (by decide) ?_
        exact s_retZ rfl dX5_isOver_29
theorem m_X5_isOver (l : Launch) (D : va_G) (cA : Nat → ClassId) (b0 : Nat) : xMet l D cA b0 yX5_isOver (.code yX5_isOver cX5_isOver 1 (some .boolean) :: xTB) 0 0 (f_X5_isOver b0) :=
  xMet_of (n := 1) (by decide +kernel) (by decide) (fun p e R s m args below meth c hs res => t_X5_isOver_0)
end M_X5_isOver
section M_X5_isReadyIn
variable {p : Program} {l : Launch} {e : Env} {R : Room} {s : State} {m : MethodId} {args : Array Value} {below : List Frame} {meth : Method} {c : Code} {D : va_G} {cA : Nat → ClassId} {b0 : Nat} {hs : xH} {res : Option xV × xH}
set_option maxRecDepth 20000 in
theorem t_X5_isReadyIn_0  : xS p l e R s m args below meth c cX5_isReadyIn 2 (some .boolean) yX5_isReadyIn.cls yX5_isReadyIn.name 0 0 D cA b0 hs res (xMQ D cA b0 below args s hs res) (k_X5_isReadyIn_0 b0) 0 := by
  unfold k_X5_isReadyIn_0
  refine s_aload_n dX5_isReadyIn_0 rfl ?_
  refine s_getI (Tb := TX5) rfl inX5 (by decide) w_192 dX5_isReadyIn_1 ?_
  refine s_c1ne (tgt := 19) dX5_isReadyIn_4 (by decide) ?_ ?_
  · refine s_iconst dX5_isReadyIn_19 (by decide) ?_
    exact s_retZ rfl dX5_isReadyIn_20
  · refine s_aload_n dX5_isReadyIn_7 rfl ?_
    refine s_getI (Tb := TX5) rfl inX5 (by decide) w_202 dX5_isReadyIn_8 ?_
    refine s_iload_n dX5_isReadyIn_11 rfl ?_
    refine s_c2eq (tgt := 19) dX5_isReadyIn_12 (by decide) ?_ ?_
    · refine s_iconst dX5_isReadyIn_19 (by decide) ?_
      exact s_retZ rfl dX5_isReadyIn_20
    · refine s_iconst dX5_isReadyIn_15 (by decide) ?_
      refine s_goto (tgt := 20) dX5_isReadyIn_16 (by decide) ?_
      exact s_retZ rfl dX5_isReadyIn_20
theorem m_X5_isReadyIn (l : Launch) (D : va_G) (cA : Nat → ClassId) (b0 : Nat) : xMet l D cA b0 yX5_isReadyIn (.code yX5_isReadyIn cX5_isReadyIn 2 (some .boolean) :: xTB) 0 0 (f_X5_isReadyIn b0) :=
  xMet_of (n := 2) (by decide +kernel) (by decide) (fun p e R s m args below meth c hs res => t_X5_isReadyIn_0)
end M_X5_isReadyIn
section M_X5_tell
variable {p : Program} {l : Launch} {e : Env} {R : Room} {s : State} {m : MethodId} {args : Array Value} {below : List Frame} {meth : Method} {c : Code} {D : va_G} {cA : Nat → ClassId} {b0 : Nat} {hs : xH} {res : Option xV × xH}
set_option maxRecDepth 20000 in
theorem t_X5_tell_60  : xS p l e R s m args below meth c cX5_tell 2 (some .int) yX5_tell.cls yX5_tell.name 0 0 D cA b0 hs res (xMQ D cA b0 below args s hs res) (k_X5_tell_60 b0) 60 := by
  unfold k_X5_tell_60
  refine s_aload_n dX5_tell_60 rfl ?_
  refine s_getI (Tb := TX5) rfl inX5 (by decide) w_192 dX5_tell_61 ?_
  refine s_goto (tgt := 147) dX5_tell_64 (by decide) ?_
  exact s_retI rfl dX5_tell_147
set_option maxRecDepth 20000 in
theorem t_X5_tell_67  : xS p l e R s m args below meth c cX5_tell 2 (some .int) yX5_tell.cls yX5_tell.name 0 0 D cA b0 hs res (xMQ D cA b0 below args s hs res) (k_X5_tell_67 b0) 67 := by
  unfold k_X5_tell_67
  refine s_aload_n dX5_tell_67 rfl ?_
  refine s_getI (Tb := TX5) rfl inX5 (by decide) w_196 dX5_tell_68 ?_
  refine s_goto (tgt := 147) dX5_tell_71 (by decide) ?_
  exact s_retI rfl dX5_tell_147
set_option maxRecDepth 20000 in
theorem t_X5_tell_74  : xS p l e R s m args below meth c cX5_tell 2 (some .int) yX5_tell.cls yX5_tell.name 0 0 D cA b0 hs res (xMQ D cA b0 below args s hs res) (k_X5_tell_74 b0) 74 := by
  unfold k_X5_tell_74
  refine s_aload_n dX5_tell_74 rfl ?_
  refine s_getI (Tb := TX5) rfl inX5 (by decide) w_198 dX5_tell_75 ?_
  refine s_goto (tgt := 147) dX5_tell_78 (by decide) ?_
  exact s_retI rfl dX5_tell_147
set_option maxRecDepth 20000 in
theorem t_X5_tell_81  : xS p l e R s m args below meth c cX5_tell 2 (some .int) yX5_tell.cls yX5_tell.name 0 0 D cA b0 hs res (xMQ D cA b0 below args s hs res) (k_X5_tell_81 b0) 81 := by
  unfold k_X5_tell_81
  refine s_aload_n dX5_tell_81 rfl ?_
  refine s_getR (Tb := TX5) rfl inX5 (by decide) w_185 dX5_tell_82 ?_
  refine s_getI (Tb := TX2) rfl inX2 (by decide) w_120 dX5_tell_85 ?_
  refine s_goto (tgt := 147) dX5_tell_88 (by decide) ?_
  exact s_retI rfl dX5_tell_147
set_option maxRecDepth 20000 in
theorem t_X5_tell_91  : xS p l e R s m args below meth c cX5_tell 2 (some .int) yX5_tell.cls yX5_tell.name 0 0 D cA b0 hs res (xMQ D cA b0 below args s hs res) (k_X5_tell_91 b0) 91 := by
  unfold k_X5_tell_91
  refine s_aload_n dX5_tell_91 rfl ?_
  refine s_getI (Tb := TX5) rfl inX5 (by decide) w_194 dX5_tell_92 ?_
  refine s_goto (tgt := 147) dX5_tell_95 (by decide) ?_
  exact s_retI rfl dX5_tell_147
set_option maxRecDepth 20000 in
theorem t_X5_tell_98  : xS p l e R s m args below meth c cX5_tell 2 (some .int) yX5_tell.cls yX5_tell.name 0 0 D cA b0 hs res (xMQ D cA b0 below args s hs res) (k_X5_tell_98 b0) 98 := by
  unfold k_X5_tell_98
  refine s_aload_n dX5_tell_98 rfl ?_
  refine s_getI (Tb := TX5) rfl inX5 (by decide) w_205 dX5_tell_99 ?_
  refine s_goto (tgt := 147) dX5_tell_102 (by decide) ?_
  exact s_retI rfl dX5_tell_147
set_option maxRecDepth 20000 in
theorem t_X5_tell_105  : xS p l e R s m args below meth c cX5_tell 2 (some .int) yX5_tell.cls yX5_tell.name 0 0 D cA b0 hs res (xMQ D cA b0 below args s hs res) (k_X5_tell_105 b0) 105 := by
  unfold k_X5_tell_105
  refine s_aload_n dX5_tell_105 rfl ?_
  refine s_getI (Tb := TX5) rfl inX5 (by decide) w_206 dX5_tell_106 ?_
  refine s_goto (tgt := 147) dX5_tell_109 (by decide) ?_
  exact s_retI rfl dX5_tell_147
set_option maxRecDepth 20000 in
theorem t_X5_tell_112  : xS p l e R s m args below meth c cX5_tell 2 (some .int) yX5_tell.cls yX5_tell.name 0 0 D cA b0 hs res (xMQ D cA b0 below args s hs res) (k_X5_tell_112 b0) 112 := by
  unfold k_X5_tell_112
  refine s_aload_n dX5_tell_112 rfl ?_
  refine s_getR (Tb := TX5) rfl inX5 (by decide) w_187 dX5_tell_113 ?_
  refine s_getI (Tb := TX4) rfl inX4 (by decide) w_137 dX5_tell_116 ?_
  refine s_goto (tgt := 147) dX5_tell_119 (by decide) ?_
  exact s_retI rfl dX5_tell_147
set_option maxRecDepth 20000 in
theorem t_X5_tell_122  : xS p l e R s m args below meth c cX5_tell 2 (some .int) yX5_tell.cls yX5_tell.name 0 0 D cA b0 hs res (xMQ D cA b0 below args s hs res) (k_X5_tell_122 b0) 122 := by
  unfold k_X5_tell_122
  refine s_aload_n dX5_tell_122 rfl ?_
  refine s_getR (Tb := TX5) rfl inX5 (by decide) w_189 dX5_tell_123 ?_
  refine s_getI (Tb := TX1) rfl inX1 (by decide) w_153 dX5_tell_126 ?_
  refine s_goto (tgt := 147) dX5_tell_129 (by decide) ?_
  exact s_retI rfl dX5_tell_147
set_option maxRecDepth 20000 in
theorem t_X5_tell_132  : xS p l e R s m args below meth c cX5_tell 2 (some .int) yX5_tell.cls yX5_tell.name 0 0 D cA b0 hs res (xMQ D cA b0 below args s hs res) (k_X5_tell_132 b0) 132 := by
  unfold k_X5_tell_132
  refine s_aload_n dX5_tell_132 rfl ?_
  refine s_getI (Tb := TX5) rfl inX5 (by decide) w_208 dX5_tell_133 ?_
  refine s_goto (tgt := 147) dX5_tell_136 (by decide) ?_
  exact s_retI rfl dX5_tell_147
set_option maxRecDepth 20000 in
theorem t_X5_tell_139  : xS p l e R s m args below meth c cX5_tell 2 (some .int) yX5_tell.cls yX5_tell.name 0 0 D cA b0 hs res (xMQ D cA b0 below args s hs res) (k_X5_tell_139 b0) 139 := by
  unfold k_X5_tell_139
  refine s_aload_n dX5_tell_139 rfl ?_
  refine s_getI (Tb := TX5) rfl inX5 (by decide) w_207 dX5_tell_140 ?_
  refine s_goto (tgt := 147) dX5_tell_143 (by decide) ?_
  exact s_retI rfl dX5_tell_147
set_option maxRecDepth 20000 in
theorem t_X5_tell_146  : xS p l e R s m args below meth c cX5_tell 2 (some .int) yX5_tell.cls yX5_tell.name 0 0 D cA b0 hs res (xMQ D cA b0 below args s hs res) (k_X5_tell_146 b0) 146 := by
  unfold k_X5_tell_146
  refine s_iconst dX5_tell_146 (by decide) ?_
  exact s_retI rfl dX5_tell_147
set_option maxRecDepth 20000 in
theorem t_X5_tell_0  : xS p l e R s m args below meth c cX5_tell 2 (some .int) yX5_tell.cls yX5_tell.name 0 0 D cA b0 hs res (xMQ D cA b0 below args s hs res) (k_X5_tell_0 b0) 0 := by
  unfold k_X5_tell_0
  refine s_iload_n dX5_tell_0 rfl ?_
  refine s_tab (tg := st_X5_tell_1) (dt := 146) dX5_tell_1 (by decide) (by decide) ?_ ?_ (t_X5_tell_146)
  · intro j hj
    match j, hj with
    | 0, _ => exact ⟨59, rfl, by decide⟩
    | 1, _ => exact ⟨66, rfl, by decide⟩
    | 2, _ => exact ⟨73, rfl, by decide⟩
    | 3, _ => exact ⟨80, rfl, by decide⟩
    | 4, _ => exact ⟨90, rfl, by decide⟩
    | 5, _ => exact ⟨97, rfl, by decide⟩
    | 6, _ => exact ⟨104, rfl, by decide⟩
    | 7, _ => exact ⟨111, rfl, by decide⟩
    | 8, _ => exact ⟨121, rfl, by decide⟩
    | 9, _ => exact ⟨131, rfl, by decide⟩
    | 10, _ => exact ⟨138, rfl, by decide⟩
    | q + 11, hj => exact absurd hj (by omega)
  · intro j hj
    match j, hj with
    | 0, _ => exact t_X5_tell_60
    | 1, _ => exact t_X5_tell_67
    | 2, _ => exact t_X5_tell_74
    | 3, _ => exact t_X5_tell_81
    | 4, _ => exact t_X5_tell_91
    | 5, _ => exact t_X5_tell_98
    | 6, _ => exact t_X5_tell_105
    | 7, _ => exact t_X5_tell_112
    | 8, _ => exact t_X5_tell_122
    | 9, _ => exact t_X5_tell_132
    | 10, _ => exact t_X5_tell_139
    | q + 11, hj => exact absurd hj (by omega)
theorem m_X5_tell (l : Launch) (D : va_G) (cA : Nat → ClassId) (b0 : Nat) : xMet l D cA b0 yX5_tell (.code yX5_tell cX5_tell 2 (some .int) :: xTB) 0 0 (f_X5_tell b0) :=
  xMet_of (n := 2) (by decide +kernel) (by decide) (fun p e R s m args below meth c hs res => t_X5_tell_0)
end M_X5_tell
section M_X5_wake
variable {p : Program} {l : Launch} {e : Env} {R : Room} {s : State} {m : MethodId} {args : Array Value} {below : List Frame} {meth : Method} {c : Code} {D : va_G} {cA : Nat → ClassId} {b0 : Nat} {hs : xH} {res : Option xV × xH}
set_option maxRecDepth 20000 in
theorem t_X5_wake_54  : xS p l e R s m args below meth c cX5_wake 1 none yX5_wake.cls yX5_wake.name 0 0 D cA b0 hs res (xMQ D cA b0 below args s hs res) (k_X5_wake_54 b0) 54 := by
  unfold k_X5_wake_54
  refine s_aload_n dX5_wake_54 rfl ?_
  refine s_iconst dX5_wake_55 (by decide) ?_
  refine s_putI (Tb := TX5) rfl inX5 (by decide) w_192 tyX5 tyX5_ok nmX5 rfl rfl dX5_wake_56 ?_
  exact s_retV rfl dX5_wake_59
set_option maxRecDepth 20000 in
theorem t_X5_wake_28  : xS p l e R s m args below meth c cX5_wake 1 none yX5_wake.cls yX5_wake.name 0 0 D cA b0 hs res (xMQ D cA b0 below args s hs res) (k_X5_wake_28 b0) 28 := by
  unfold k_X5_wake_28
  refine s_aload_n dX5_wake_28 rfl ?_
  refine s_getI (Tb := TX5) rfl inX5 (by decide) w_192 dX5_wake_29 ?_
  refine s_iconst dX5_wake_32 (by decide) ?_
  refine s_c2eq (tgt := 54) dX5_wake_33 (by decide) ?_ ?_
  · exact t_X5_wake_54
  · refine s_aload_n dX5_wake_36 rfl ?_
    refine s_getI (Tb := TX5) rfl inX5 (by decide) w_192 dX5_wake_37 ?_
    refine s_iconst dX5_wake_40 (by decide) ?_
    refine s_c2ne (tgt := 59) dX5_wake_41 (by decide) ?_ ?_
    · exact s_retV rfl dX5_wake_59
    · refine s_aload_n dX5_wake_44 rfl ?_
      refine s_getR (Tb := TX5) rfl inX5 (by decide) w_185 dX5_wake_45 ?_
      refine s_getI (Tb := TX2) rfl inX2 (by decide) w_120 dX5_wake_48 ?_
      refine s_c1le (tgt := 59) dX5_wake_51 (by decide) ?_ ?_
      · exact s_retV rfl dX5_wake_59
      · exact t_X5_wake_54
set_option maxRecDepth 20000 in
theorem t_X5_wake_0  : xS p l e R s m args below meth c cX5_wake 1 none yX5_wake.cls yX5_wake.name 0 0 D cA b0 hs res (xMQ D cA b0 below args s hs res) (k_X5_wake_0 b0) 0 := by
  unfold k_X5_wake_0
  refine s_aload_n dX5_wake_0 rfl ?_
  refine s_getI (Tb := TX5) rfl inX5 (by decide) w_192 dX5_wake_1 ?_
  refine s_iconst dX5_wake_4 (by decide) ?_
  refine s_c2ne (tgt := 28) dX5_wake_5 (by decide) ?_ ?_
  · exact t_X5_wake_28
  · refine s_aload_n dX5_wake_8 rfl ?_
    refine s_getI (Tb := TX5) rfl inX5 (by decide) w_200 dX5_wake_9 ?_
    refine s_c1le (tgt := 28) dX5_wake_12 (by decide) ?_ ?_
    · exact t_X5_wake_28
    · refine s_aload_n dX5_wake_15 rfl ?_
      refine s_dup dX5_wake_16 ?_
      refine s_getI (Tb := TX5) rfl inX5 (by decide) w_200 dX5_wake_17 ?_
      refine s_iconst dX5_wake_20 (by decide) ?_
      refine s_isub dX5_wake_21 ?_
      refine s_putI (Tb := TX5) rfl inX5 (by decide) w_200 tyX5 tyX5_ok nmX5 rfl rfl dX5_wake_22 ?_
      refine s_goto (tgt := 59) dX5_wake_25 (by decide) ?_
      exact s_retV rfl dX5_wake_59
theorem m_X5_wake (l : Launch) (D : va_G) (cA : Nat → ClassId) (b0 : Nat) : xMet l D cA b0 yX5_wake (.code yX5_wake cX5_wake 1 none :: xTB) 0 0 (f_X5_wake b0) :=
  xMet_of (n := 1) (by decide +kernel) (by decide) (fun p e R s m args below meth c hs res => t_X5_wake_0)
end M_X5_wake
section M_X5_backsAllowed
variable {p : Program} {l : Launch} {e : Env} {R : Room} {s : State} {m : MethodId} {args : Array Value} {below : List Frame} {meth : Method} {c : Code} {D : va_G} {cA : Nat → ClassId} {b0 : Nat} {hs : xH} {res : Option xV × xH}
set_option maxRecDepth 20000 in
theorem t_X5_backsAllowed_0  : xS p l e R s m args below meth c cX5_backsAllowed 1 (some .int) yX5_backsAllowed.cls yX5_backsAllowed.name 0 0 D cA b0 hs res (xMQ D cA b0 below args s hs res) (k_X5_backsAllowed_0 b0) 0 := by
  unfold k_X5_backsAllowed_0
  refine s_aload_n dX5_backsAllowed_0 rfl ?_
  refine s_getI (Tb := TX5) rfl inX5 (by decide) w_180 dX5_backsAllowed_1 ?_
  refine s_iconst dX5_backsAllowed_4 (by decide) ?_
  refine s_c2ne (tgt := 12) dX5_backsAllowed_5 (by decide) ?_ ?_
  · refine s_aload_n dX5_backsAllowed_12 rfl ?_
    refine s_getI (Tb := TX5) rfl inX5 (by decide) w_180 dX5_backsAllowed_13 ?_
    refine s_iconst dX5_backsAllowed_16 (by decide) ?_
    refine s_c2ne (tgt := 24) dX5_backsAllowed_17 (by decide) ?_ ?_
    · refine s_iconst dX5_backsAllowed_24 (by decide) ?_
      exact s_retI rfl dX5_backsAllowed_25
    · refine s_iconst dX5_backsAllowed_20 (by decide) ?_
      refine s_goto (tgt := 25) dX5_backsAllowed_21 (by decide) ?_
      exact s_retI rfl dX5_backsAllowed_25
  · refine s_iconst dX5_backsAllowed_8 (by decide) ?_
    refine s_goto (tgt := 25) dX5_backsAllowed_9 (by decide) ?_
    exact s_retI rfl dX5_backsAllowed_25
theorem m_X5_backsAllowed (l : Launch) (D : va_G) (cA : Nat → ClassId) (b0 : Nat) : xMet l D cA b0 yX5_backsAllowed (.code yX5_backsAllowed cX5_backsAllowed 1 (some .int) :: xTB) 0 0 (f_X5_backsAllowed b0) :=
  xMet_of (n := 1) (by decide +kernel) (by decide) (fun p e R s m args below meth c hs res => t_X5_backsAllowed_0)
end M_X5_backsAllowed
section M_X5_goBack
variable {p : Program} {l : Launch} {e : Env} {R : Room} {s : State} {m : MethodId} {args : Array Value} {below : List Frame} {meth : Method} {c : Code} {D : va_G} {cA : Nat → ClassId} {b0 : Nat} {hs : xH} {res : Option xV × xH}
set_option maxRecDepth 20000 in
theorem t_X5_goBack_0  : xS p l e R s m args below meth c cX5_goBack 1 none yX5_goBack.cls yX5_goBack.name 1 22 D cA b0 hs res (xMQ D cA b0 below args s hs res) (k_X5_goBack_0 b0) 0 := by
  unfold k_X5_goBack_0
  refine s_aload_n dX5_goBack_0 rfl ?_
  refine s_aload_n dX5_goBack_1 rfl ?_
  refine s_getR (Tb := TX5) rfl inX5 (by decide) w_191 dX5_goBack_2 ?_
  refine s_getI (Tb := TX3) rfl inX3 (by decide) w_169 dX5_goBack_5 ?_
  refine s_putI (Tb := TX5) rfl inX5 (by decide) w_196 tyX5 tyX5_ok nmX5 rfl rfl dX5_goBack_8 ?_
  refine s_aload_n dX5_goBack_11 rfl ?_
  refine s_getR (Tb := TX5) rfl inX5 (by decide) w_187 dX5_goBack_12 ?_
  refine s_aload_n dX5_goBack_15 rfl ?_
  refine s_getR (Tb := TX5) rfl inX5 (by decide) w_191 dX5_goBack_16 ?_
  refine s_getR (Tb := TX3) rfl inX3 (by decide) w_168 dX5_goBack_19 ?_
  refine s_callV (Tb := TX4) (m_X4_copyFrom l D cA b0) rfl w_367 w_368 w_369 w_33 w_370 ⟨rfl, by decide, by decide, by decide +kernel⟩ (by decide) dX5_goBack_22 ?_
  refine s_aload_n dX5_goBack_25 rfl ?_
  refine s_aload_n dX5_goBack_26 rfl ?_
  refine s_getR (Tb := TX5) rfl inX5 (by decide) w_191 dX5_goBack_27 ?_
  refine s_getI (Tb := TX3) rfl inX3 (by decide) w_170 dX5_goBack_30 ?_
  refine s_putI (Tb := TX5) rfl inX5 (by decide) w_198 tyX5 tyX5_ok nmX5 rfl rfl dX5_goBack_33 ?_
  exact s_retV rfl dX5_goBack_36
theorem m_X5_goBack (l : Launch) (D : va_G) (cA : Nat → ClassId) (b0 : Nat) : xMet l D cA b0 yX5_goBack (.code yX5_goBack cX5_goBack 1 none :: xTB) 1 22 (f_X5_goBack b0) :=
  xMet_of (n := 1) (by decide +kernel) (by decide) (fun p e R s m args below meth c hs res => t_X5_goBack_0)
end M_X5_goBack
section M_X5_fail
variable {p : Program} {l : Launch} {e : Env} {R : Room} {s : State} {m : MethodId} {args : Array Value} {below : List Frame} {meth : Method} {c : Code} {D : va_G} {cA : Nat → ClassId} {b0 : Nat} {hs : xH} {res : Option xV × xH}
set_option maxRecDepth 20000 in
theorem t_X5_fail_0  : xS p l e R s m args below meth c cX5_fail 2 none yX5_fail.cls yX5_fail.name 2 42 D cA b0 hs res (xMQ D cA b0 below args s hs res) (k_X5_fail_0 b0) 0 := by
  unfold k_X5_fail_0
  refine s_aload_n dX5_fail_0 rfl ?_
  refine s_dup dX5_fail_1 ?_
  refine s_getI (Tb := TX5) rfl inX5 (by decide) w_205 dX5_fail_2 ?_
  refine s_iconst dX5_fail_5 (by decide) ?_
  refine s_iadd dX5_fail_6 ?_
  refine s_putI (Tb := TX5) rfl inX5 (by decide) w_205 tyX5 tyX5_ok nmX5 rfl rfl dX5_fail_7 ?_
  refine s_aload_n dX5_fail_10 rfl ?_
  refine s_iload_n dX5_fail_11 rfl ?_
  refine s_putI (Tb := TX5) rfl inX5 (by decide) w_206 tyX5 tyX5_ok nmX5 rfl rfl dX5_fail_12 ?_
  refine s_aload_n dX5_fail_15 rfl ?_
  refine s_aload_n dX5_fail_16 rfl ?_
  refine s_getI (Tb := TX5) rfl inX5 (by decide) w_198 dX5_fail_17 ?_
  refine s_putI (Tb := TX5) rfl inX5 (by decide) w_207 tyX5 tyX5_ok nmX5 rfl rfl dX5_fail_20 ?_
  refine s_aload_n dX5_fail_23 rfl ?_
  refine s_getI (Tb := TX5) rfl inX5 (by decide) w_180 dX5_fail_24 ?_
  refine s_iconst dX5_fail_27 (by decide) ?_
  refine s_c2ge (tgt := 39) dX5_fail_28 (by decide) ?_ ?_
  · refine s_aload_n dX5_fail_39 rfl ?_
    refine s_getI (Tb := TX5) rfl inX5 (by decide) w_208 dX5_fail_40 ?_
    refine s_aload_n dX5_fail_43 rfl ?_
    refine s_callV (Tb := TX5) (m_X5_backsAllowed l D cA b0) rfl w_404 w_405 w_406 w_30 w_407 ⟨rfl, by decide, by decide, by decide +kernel⟩ (by decide) dX5_fail_44 ?_
    refine s_c2ge (tgt := 67) dX5_fail_47 (by decide) ?_ ?_
    · refine s_aload_n dX5_fail_67 rfl ?_
      refine s_dup dX5_fail_68 ?_
      refine s_getI (Tb := TX5) rfl inX5 (by decide) w_198 dX5_fail_69 ?_
      refine s_iconst dX5_fail_72 (by decide) ?_
      refine s_iadd dX5_fail_73 ?_
      refine s_putI (Tb := TX5) rfl inX5 (by decide) w_198 tyX5 tyX5_ok nmX5 rfl rfl dX5_fail_74 ?_
      exact s_retV rfl dX5_fail_77
    · refine s_aload_n dX5_fail_50 rfl ?_
      refine s_dup dX5_fail_51 ?_
      refine s_getI (Tb := TX5) rfl inX5 (by decide) w_208 dX5_fail_52 ?_
      refine s_iconst dX5_fail_55 (by decide) ?_
      refine s_iadd dX5_fail_56 ?_
      refine s_putI (Tb := TX5) rfl inX5 (by decide) w_208 tyX5 tyX5_ok nmX5 rfl rfl dX5_fail_57 ?_
      refine s_aload_n dX5_fail_60 rfl ?_
      refine s_callV (Tb := TX5) (m_X5_goBack l D cA b0) rfl w_408 w_409 w_410 w_30 w_411 ⟨rfl, by decide, by decide, by decide +kernel⟩ (by decide) dX5_fail_61 ?_
      refine s_goto (tgt := 77) dX5_fail_64 (by decide) ?_
      exact s_retV rfl dX5_fail_77
  · refine s_aload_n dX5_fail_31 rfl ?_
    refine s_iconst dX5_fail_32 (by decide) ?_
    refine s_putI (Tb := TX5) rfl inX5 (by decide) w_192 tyX5 tyX5_ok nmX5 rfl rfl dX5_fail_33 ?_
    refine s_goto (tgt := 77) dX5_fail_36 (by decide) ?_
    exact s_retV rfl dX5_fail_77
theorem m_X5_fail (l : Launch) (D : va_G) (cA : Nat → ClassId) (b0 : Nat) : xMet l D cA b0 yX5_fail (.code yX5_fail cX5_fail 2 none :: xTB) 2 42 (f_X5_fail b0) :=
  xMet_of (n := 2) (by decide +kernel) (by decide) (fun p e R s m args below meth c hs res => t_X5_fail_0)
end M_X5_fail
section M_X5_setMark
variable {p : Program} {l : Launch} {e : Env} {R : Room} {s : State} {m : MethodId} {args : Array Value} {below : List Frame} {meth : Method} {c : Code} {D : va_G} {cA : Nat → ClassId} {b0 : Nat} {hs : xH} {res : Option xV × xH}
set_option maxRecDepth 20000 in
theorem t_X5_setMark_0  : xS p l e R s m args below meth c cX5_setMark 1 (some .int) yX5_setMark.cls yX5_setMark.name 1 22 D cA b0 hs res (xMQ D cA b0 below args s hs res) (k_X5_setMark_0 b0) 0 := by
  unfold k_X5_setMark_0
  refine s_aload_n dX5_setMark_0 rfl ?_
  refine s_getR (Tb := TX5) rfl inX5 (by decide) w_191 dX5_setMark_1 ?_
  refine s_aload_n dX5_setMark_4 rfl ?_
  refine s_getI (Tb := TX5) rfl inX5 (by decide) w_196 dX5_setMark_5 ?_
  refine s_putI (Tb := TX3) rfl inX3 (by decide) w_169 tyX3 tyX3_ok nmX3 rfl rfl dX5_setMark_8 ?_
  refine s_aload_n dX5_setMark_11 rfl ?_
  refine s_getR (Tb := TX5) rfl inX5 (by decide) w_191 dX5_setMark_12 ?_
  refine s_getR (Tb := TX3) rfl inX3 (by decide) w_168 dX5_setMark_15 ?_
  refine s_aload_n dX5_setMark_18 rfl ?_
  refine s_getR (Tb := TX5) rfl inX5 (by decide) w_187 dX5_setMark_19 ?_
  refine s_callV (Tb := TX4) (m_X4_copyFrom l D cA b0) rfl w_367 w_368 w_369 w_33 w_370 ⟨rfl, by decide, by decide, by decide +kernel⟩ (by decide) dX5_setMark_22 ?_
  refine s_aload_n dX5_setMark_25 rfl ?_
  refine s_getR (Tb := TX5) rfl inX5 (by decide) w_191 dX5_setMark_26 ?_
  refine s_aload_n dX5_setMark_29 rfl ?_
  refine s_getI (Tb := TX5) rfl inX5 (by decide) w_198 dX5_setMark_30 ?_
  refine s_iconst dX5_setMark_33 (by decide) ?_
  refine s_iadd dX5_setMark_34 ?_
  refine s_putI (Tb := TX3) rfl inX3 (by decide) w_170 tyX3 tyX3_ok nmX3 rfl rfl dX5_setMark_35 ?_
  refine s_iconst dX5_setMark_38 (by decide) ?_
  exact s_retI rfl dX5_setMark_39
theorem m_X5_setMark (l : Launch) (D : va_G) (cA : Nat → ClassId) (b0 : Nat) : xMet l D cA b0 yX5_setMark (.code yX5_setMark cX5_setMark 1 (some .int) :: xTB) 1 22 (f_X5_setMark b0) :=
  xMet_of (n := 1) (by decide +kernel) (by decide) (fun p e R s m args below meth c hs res => t_X5_setMark_0)
end M_X5_setMark
section M_X5_add
variable {p : Program} {l : Launch} {e : Env} {R : Room} {s : State} {m : MethodId} {args : Array Value} {below : List Frame} {meth : Method} {c : Code} {D : va_G} {cA : Nat → ClassId} {b0 : Nat} {hs : xH} {res : Option xV × xH}
set_option maxRecDepth 20000 in
theorem t_X5_add_28  : xS p l e R s m args below meth c cX5_add 2 (some .int) yX5_add.cls yX5_add.name 0 0 D cA b0 hs res (xMQ D cA b0 below args s hs res) (k_X5_add_28 b0) 28 := by
  unfold k_X5_add_28
  refine s_iadd dX5_add_28 ?_
  refine s_putI (Tb := TX5) rfl inX5 (by decide) w_196 tyX5 tyX5_ok nmX5 rfl rfl dX5_add_29 ?_
  refine s_iconst dX5_add_32 (by decide) ?_
  exact s_retI rfl dX5_add_33
set_option maxRecDepth 20000 in
theorem t_X5_add_21  : xS p l e R s m args below meth c cX5_add 2 (some .int) yX5_add.cls yX5_add.name 0 0 D cA b0 hs res (xMQ D cA b0 below args s hs res) (k_X5_add_21 b0) 21 := by
  unfold k_X5_add_21
  refine s_iconst dX5_add_21 (by decide) ?_
  refine s_iload_n dX5_add_22 rfl ?_
  refine s_imul dX5_add_23 ?_
  refine s_goto (tgt := 28) dX5_add_24 (by decide) ?_
  exact t_X5_add_28
set_option maxRecDepth 20000 in
theorem t_X5_add_0  : xS p l e R s m args below meth c cX5_add 2 (some .int) yX5_add.cls yX5_add.name 0 0 D cA b0 hs res (xMQ D cA b0 below args s hs res) (k_X5_add_0 b0) 0 := by
  unfold k_X5_add_0
  refine s_aload_n dX5_add_0 rfl ?_
  refine s_dup dX5_add_1 ?_
  refine s_getI (Tb := TX5) rfl inX5 (by decide) w_196 dX5_add_2 ?_
  refine s_aload_n dX5_add_5 rfl ?_
  refine s_getI (Tb := TX5) rfl inX5 (by decide) w_180 dX5_add_6 ?_
  refine s_iconst dX5_add_9 (by decide) ?_
  refine s_c2eq (tgt := 21) dX5_add_10 (by decide) ?_ ?_
  · exact t_X5_add_21
  · refine s_aload_n dX5_add_13 rfl ?_
    refine s_getI (Tb := TX5) rfl inX5 (by decide) w_180 dX5_add_14 ?_
    refine s_iconst dX5_add_17 (by decide) ?_
    refine s_c2ne (tgt := 27) dX5_add_18 (by decide) ?_ ?_
    · refine s_iload_n dX5_add_27 rfl ?_
      exact t_X5_add_28
    · exact t_X5_add_21
theorem m_X5_add (l : Launch) (D : va_G) (cA : Nat → ClassId) (b0 : Nat) : xMet l D cA b0 yX5_add (.code yX5_add cX5_add 2 (some .int) :: xTB) 0 0 (f_X5_add b0) :=
  xMet_of (n := 2) (by decide +kernel) (by decide) (fun p e R s m args below meth c hs res => t_X5_add_0)
end M_X5_add
section M_X5_divide
variable {p : Program} {l : Launch} {e : Env} {R : Room} {s : State} {m : MethodId} {args : Array Value} {below : List Frame} {meth : Method} {c : Code} {D : va_G} {cA : Nat → ClassId} {b0 : Nat} {hs : xH} {res : Option xV × xH}
set_option maxRecDepth 20000 in
theorem t_X5_divide_0  : xS p l e R s m args below meth c cX5_divide 2 (some .int) yX5_divide.cls yX5_divide.name 0 0 D cA b0 hs res (xMQ D cA b0 below args s hs res) (k_X5_divide_0 b0) 0 := by
  unfold k_X5_divide_0
  refine s_iload_n dX5_divide_0 rfl ?_
  refine s_c1ne (tgt := 7) dX5_divide_1 (by decide) ?_ ?_
  · refine s_aload_n dX5_divide_7 rfl ?_
    refine s_dup dX5_divide_8 ?_
    refine s_getI (Tb := TX5) rfl inX5 (by decide) w_196 dX5_divide_9 ?_
    refine s_iload_n dX5_divide_12 rfl ?_
    refine s_idiv dX5_divide_13 ?_
    refine s_putI (Tb := TX5) rfl inX5 (by decide) w_196 tyX5 tyX5_ok nmX5 rfl rfl dX5_divide_14 ?_
    refine s_iconst dX5_divide_17 (by decide) ?_
    exact s_retI rfl dX5_divide_18
  · refine s_bipush dX5_divide_4 (by decide) ?_
    exact s_retI rfl dX5_divide_6
theorem m_X5_divide (l : Launch) (D : va_G) (cA : Nat → ClassId) (b0 : Nat) : xMet l D cA b0 yX5_divide (.code yX5_divide cX5_divide 2 (some .int) :: xTB) 0 0 (f_X5_divide b0) :=
  xMet_of (n := 2) (by decide +kernel) (by decide) (fun p e R s m args below meth c hs res => t_X5_divide_0)
end M_X5_divide
section M_X5_makeRow
variable {p : Program} {l : Launch} {e : Env} {R : Room} {s : State} {m : MethodId} {args : Array Value} {below : List Frame} {meth : Method} {c : Code} {D : va_G} {cA : Nat → ClassId} {b0 : Nat} {hs : xH} {res : Option xV × xH}
set_option maxRecDepth 20000 in
theorem t_X5_makeRow_0  : xS p l e R s m args below meth c cX5_makeRow 2 (some .int) yX5_makeRow.cls yX5_makeRow.name 1 22 D cA b0 hs res (xMQ D cA b0 below args s hs res) (k_X5_makeRow_0 b0) 0 := by
  unfold k_X5_makeRow_0
  refine s_iload_n dX5_makeRow_0 rfl ?_
  refine s_c1ge (tgt := 6) dX5_makeRow_1 (by decide) ?_ ?_
  · refine s_aload_n dX5_makeRow_6 rfl ?_
    refine s_getR (Tb := TX5) rfl inX5 (by decide) w_187 dX5_makeRow_7 ?_
    refine s_iload_n dX5_makeRow_10 rfl ?_
    refine s_callV (Tb := TX4) (m_X4_renew l D cA b0) rfl w_315 w_316 w_317 w_33 w_318 ⟨rfl, by decide, by decide, by decide +kernel⟩ (by decide) dX5_makeRow_11 ?_
    refine s_iconst dX5_makeRow_14 (by decide) ?_
    exact s_retI rfl dX5_makeRow_15
  · refine s_iconst dX5_makeRow_4 (by decide) ?_
    exact s_retI rfl dX5_makeRow_5
theorem m_X5_makeRow (l : Launch) (D : va_G) (cA : Nat → ClassId) (b0 : Nat) : xMet l D cA b0 yX5_makeRow (.code yX5_makeRow cX5_makeRow 2 (some .int) :: xTB) 1 22 (f_X5_makeRow b0) :=
  xMet_of (n := 2) (by decide +kernel) (by decide) (fun p e R s m args below meth c hs res => t_X5_makeRow_0)
end M_X5_makeRow
section M_X5_put
variable {p : Program} {l : Launch} {e : Env} {R : Room} {s : State} {m : MethodId} {args : Array Value} {below : List Frame} {meth : Method} {c : Code} {D : va_G} {cA : Nat → ClassId} {b0 : Nat} {hs : xH} {res : Option xV × xH}
set_option maxRecDepth 20000 in
theorem t_X5_put_0  : xS p l e R s m args below meth c cX5_put 2 (some .int) yX5_put.cls yX5_put.name 1 21 D cA b0 hs res (xMQ D cA b0 below args s hs res) (k_X5_put_0 b0) 0 := by
  unfold k_X5_put_0
  refine s_aload_n dX5_put_0 rfl ?_
  refine s_getR (Tb := TX5) rfl inX5 (by decide) w_187 dX5_put_1 ?_
  refine s_iload_n dX5_put_4 rfl ?_
  refine s_callV (Tb := TX4) (m_X4_has l D cA b0) rfl w_323 w_324 w_325 w_33 w_326 ⟨rfl, by decide, by decide, by decide +kernel⟩ (by decide) dX5_put_5 ?_
  refine s_c1eq (tgt := 26) dX5_put_8 (by decide) ?_ ?_
  · refine s_aload_n dX5_put_26 rfl ?_
    refine s_getR (Tb := TX5) rfl inX5 (by decide) w_187 dX5_put_27 ?_
    refine s_callV (Tb := TX4) (m_X4_isNothing l D cA b0) rfl w_327 w_328 w_329 w_33 w_330 ⟨rfl, by decide, by decide, by decide +kernel⟩ (by decide) dX5_put_30 ?_
    refine s_c1eq (tgt := 40) dX5_put_33 (by decide) ?_ ?_
    · refine s_iconst dX5_put_40 (by decide) ?_
      exact s_retI rfl dX5_put_41
    · refine s_iconst dX5_put_36 (by decide) ?_
      refine s_goto (tgt := 41) dX5_put_37 (by decide) ?_
      exact s_retI rfl dX5_put_41
  · refine s_aload_n dX5_put_11 rfl ?_
    refine s_getR (Tb := TX5) rfl inX5 (by decide) w_187 dX5_put_12 ?_
    refine s_getR (Tb := TX4) rfl inX4 (by decide) w_135 dX5_put_15 ?_
    refine s_iload_n dX5_put_18 rfl ?_
    refine s_aload_n dX5_put_19 rfl ?_
    refine s_getI (Tb := TX5) rfl inX5 (by decide) w_196 dX5_put_20 ?_
    refine s_ias dX5_put_23 ?_
    refine s_iconst dX5_put_24 (by decide) ?_
    exact s_retI rfl dX5_put_25
theorem m_X5_put (l : Launch) (D : va_G) (cA : Nat → ClassId) (b0 : Nat) : xMet l D cA b0 yX5_put (.code yX5_put cX5_put 2 (some .int) :: xTB) 1 21 (f_X5_put b0) :=
  xMet_of (n := 2) (by decide +kernel) (by decide) (fun p e R s m args below meth c hs res => t_X5_put_0)
end M_X5_put
section M_X5_get
variable {p : Program} {l : Launch} {e : Env} {R : Room} {s : State} {m : MethodId} {args : Array Value} {below : List Frame} {meth : Method} {c : Code} {D : va_G} {cA : Nat → ClassId} {b0 : Nat} {hs : xH} {res : Option xV × xH}
set_option maxRecDepth 20000 in
theorem t_X5_get_0  : xS p l e R s m args below meth c cX5_get 2 (some .int) yX5_get.cls yX5_get.name 1 21 D cA b0 hs res (xMQ D cA b0 below args s hs res) (k_X5_get_0 b0) 0 := by
  unfold k_X5_get_0
  refine s_aload_n dX5_get_0 rfl ?_
  refine s_getR (Tb := TX5) rfl inX5 (by decide) w_187 dX5_get_1 ?_
  refine s_iload_n dX5_get_4 rfl ?_
  refine s_callV (Tb := TX4) (m_X4_has l D cA b0) rfl w_323 w_324 w_325 w_33 w_326 ⟨rfl, by decide, by decide, by decide +kernel⟩ (by decide) dX5_get_5 ?_
  refine s_c1eq (tgt := 31) dX5_get_8 (by decide) ?_ ?_
  · refine s_aload_n dX5_get_31 rfl ?_
    refine s_getR (Tb := TX5) rfl inX5 (by decide) w_187 dX5_get_32 ?_
    refine s_callV (Tb := TX4) (m_X4_isNothing l D cA b0) rfl w_327 w_328 w_329 w_33 w_330 ⟨rfl, by decide, by decide, by decide +kernel⟩ (by decide) dX5_get_35 ?_
    refine s_c1eq (tgt := 45) dX5_get_38 (by decide) ?_ ?_
    · refine s_iconst dX5_get_45 (by decide) ?_
      exact s_retI rfl dX5_get_46
    · refine s_iconst dX5_get_41 (by decide) ?_
      refine s_goto (tgt := 46) dX5_get_42 (by decide) ?_
      exact s_retI rfl dX5_get_46
  · refine s_aload_n dX5_get_11 rfl ?_
    refine s_dup dX5_get_12 ?_
    refine s_getI (Tb := TX5) rfl inX5 (by decide) w_196 dX5_get_13 ?_
    refine s_aload_n dX5_get_16 rfl ?_
    refine s_getR (Tb := TX5) rfl inX5 (by decide) w_187 dX5_get_17 ?_
    refine s_getR (Tb := TX4) rfl inX4 (by decide) w_135 dX5_get_20 ?_
    refine s_iload_n dX5_get_23 rfl ?_
    refine s_ial dX5_get_24 ?_
    refine s_iadd dX5_get_25 ?_
    refine s_putI (Tb := TX5) rfl inX5 (by decide) w_196 tyX5 tyX5_ok nmX5 rfl rfl dX5_get_26 ?_
    refine s_iconst dX5_get_29 (by decide) ?_
    exact s_retI rfl dX5_get_30
theorem m_X5_get (l : Launch) (D : va_G) (cA : Nat → ClassId) (b0 : Nat) : xMet l D cA b0 yX5_get (.code yX5_get cX5_get 2 (some .int) :: xTB) 1 21 (f_X5_get b0) :=
  xMet_of (n := 2) (by decide +kernel) (by decide) (fun p e R s m args below meth c hs res => t_X5_get_0)
end M_X5_get
section M_X5_takeLetter
variable {p : Program} {l : Launch} {e : Env} {R : Room} {s : State} {m : MethodId} {args : Array Value} {below : List Frame} {meth : Method} {c : Code} {D : va_G} {cA : Nat → ClassId} {b0 : Nat} {hs : xH} {res : Option xV × xH}
set_option maxRecDepth 20000 in
theorem t_X5_takeLetter_0  : xS p l e R s m args below meth c cX5_takeLetter 2 (some .int) yX5_takeLetter.cls yX5_takeLetter.name 1 22 D cA b0 hs res (xMQ D cA b0 below args s hs res) (k_X5_takeLetter_0 b0) 0 := by
  unfold k_X5_takeLetter_0
  refine s_aload_n dX5_takeLetter_0 rfl ?_
  refine s_getR (Tb := TX5) rfl inX5 (by decide) w_185 dX5_takeLetter_1 ?_
  refine s_getI (Tb := TX2) rfl inX2 (by decide) w_120 dX5_takeLetter_4 ?_
  refine s_c1le (tgt := 28) dX5_takeLetter_7 (by decide) ?_ ?_
  · refine s_iload_n dX5_takeLetter_28 rfl ?_
    refine s_c1eq (tgt := 35) dX5_takeLetter_29 (by decide) ?_ ?_
    · refine s_aload_n dX5_takeLetter_35 rfl ?_
      refine s_iconst dX5_takeLetter_36 (by decide) ?_
      refine s_putI (Tb := TX5) rfl inX5 (by decide) w_192 tyX5 tyX5_ok nmX5 rfl rfl dX5_takeLetter_37 ?_
      refine s_iconst dX5_takeLetter_40 (by decide) ?_
      exact s_retI rfl dX5_takeLetter_41
    · refine s_bipush dX5_takeLetter_32 (by decide) ?_
      exact s_retI rfl dX5_takeLetter_34
  · refine s_aload_n dX5_takeLetter_10 rfl ?_
    refine s_dup dX5_takeLetter_11 ?_
    refine s_getI (Tb := TX5) rfl inX5 (by decide) w_196 dX5_takeLetter_12 ?_
    refine s_aload_n dX5_takeLetter_15 rfl ?_
    refine s_getR (Tb := TX5) rfl inX5 (by decide) w_185 dX5_takeLetter_16 ?_
    refine s_callV (Tb := TX2) (m_X2_removeEldest l D cA b0) rfl w_339 w_340 w_341 w_32 w_342 ⟨rfl, by decide, by decide, by decide +kernel⟩ (by decide) dX5_takeLetter_19 ?_
    refine s_iadd dX5_takeLetter_22 ?_
    refine s_putI (Tb := TX5) rfl inX5 (by decide) w_196 tyX5 tyX5_ok nmX5 rfl rfl dX5_takeLetter_23 ?_
    refine s_iconst dX5_takeLetter_26 (by decide) ?_
    exact s_retI rfl dX5_takeLetter_27
theorem m_X5_takeLetter (l : Launch) (D : va_G) (cA : Nat → ClassId) (b0 : Nat) : xMet l D cA b0 yX5_takeLetter (.code yX5_takeLetter cX5_takeLetter 2 (some .int) :: xTB) 1 22 (f_X5_takeLetter b0) :=
  xMet_of (n := 2) (by decide +kernel) (by decide) (fun p e R s m args below meth c hs res => t_X5_takeLetter_0)
end M_X5_takeLetter
section M_X5_waitFor
variable {p : Program} {l : Launch} {e : Env} {R : Room} {s : State} {m : MethodId} {args : Array Value} {below : List Frame} {meth : Method} {c : Code} {D : va_G} {cA : Nat → ClassId} {b0 : Nat} {hs : xH} {res : Option xV × xH}
set_option maxRecDepth 20000 in
theorem t_X5_waitFor_0  : xS p l e R s m args below meth c cX5_waitFor 2 (some .int) yX5_waitFor.cls yX5_waitFor.name 0 0 D cA b0 hs res (xMQ D cA b0 below args s hs res) (k_X5_waitFor_0 b0) 0 := by
  unfold k_X5_waitFor_0
  refine s_iload_n dX5_waitFor_0 rfl ?_
  refine s_c1le (tgt := 9) dX5_waitFor_1 (by decide) ?_ ?_
  · refine s_iconst dX5_waitFor_9 (by decide) ?_
    exact s_retI rfl dX5_waitFor_10
  · refine s_aload_n dX5_waitFor_4 rfl ?_
    refine s_iload_n dX5_waitFor_5 rfl ?_
    refine s_putI (Tb := TX5) rfl inX5 (by decide) w_200 tyX5 tyX5_ok nmX5 rfl rfl dX5_waitFor_6 ?_
    refine s_iconst dX5_waitFor_9 (by decide) ?_
    exact s_retI rfl dX5_waitFor_10
theorem m_X5_waitFor (l : Launch) (D : va_G) (cA : Nat → ClassId) (b0 : Nat) : xMet l D cA b0 yX5_waitFor (.code yX5_waitFor cX5_waitFor 2 (some .int) :: xTB) 0 0 (f_X5_waitFor b0) :=
  xMet_of (n := 2) (by decide +kernel) (by decide) (fun p e R s m args below meth c hs res => t_X5_waitFor_0)
end M_X5_waitFor
section M_X5_makeBox
variable {p : Program} {l : Launch} {e : Env} {R : Room} {s : State} {m : MethodId} {args : Array Value} {below : List Frame} {meth : Method} {c : Code} {D : va_G} {cA : Nat → ClassId} {b0 : Nat} {hs : xH} {res : Option xV × xH}
set_option maxRecDepth 20000 in
theorem t_X5_makeBox_0  : xS p l e R s m args below meth c cX5_makeBox 2 (some .int) yX5_makeBox.cls yX5_makeBox.name 1 22 D cA b0 hs res (xMQ D cA b0 below args s hs res) (k_X5_makeBox_0 b0) 0 := by
  unfold k_X5_makeBox_0
  refine s_aload_n dX5_makeBox_0 rfl ?_
  refine s_getR (Tb := TX5) rfl inX5 (by decide) w_189 dX5_makeBox_1 ?_
  refine s_iload_n dX5_makeBox_4 rfl ?_
  refine s_callV (Tb := TX1) (m_X1_renew l D cA b0) rfl w_375 w_376 w_377 w_34 w_378 ⟨rfl, by decide, by decide, by decide +kernel⟩ (by decide) dX5_makeBox_5 ?_
  refine s_iconst dX5_makeBox_8 (by decide) ?_
  exact s_retI rfl dX5_makeBox_9
theorem m_X5_makeBox (l : Launch) (D : va_G) (cA : Nat → ClassId) (b0 : Nat) : xMet l D cA b0 yX5_makeBox (.code yX5_makeBox cX5_makeBox 2 (some .int) :: xTB) 1 22 (f_X5_makeBox b0) :=
  xMet_of (n := 2) (by decide +kernel) (by decide) (fun p e R s m args below meth c hs res => t_X5_makeBox_0)
end M_X5_makeBox
section M_X5_copyToBox
variable {p : Program} {l : Launch} {e : Env} {R : Room} {s : State} {m : MethodId} {args : Array Value} {below : List Frame} {meth : Method} {c : Code} {D : va_G} {cA : Nat → ClassId} {b0 : Nat} {hs : xH} {res : Option xV × xH}
set_option maxRecDepth 20000 in
theorem t_X5_copyToBox_0 (k : Nat → xK) (hk0 : xS p l e R s m args below meth c cX5_copyToBox 3 (some .int) yX5_copyToBox.cls yX5_copyToBox.name 1 20 D cA b0 hs res (xMQ D cA b0 below args s hs res) (k 0) 58) : xS p l e R s m args below meth c cX5_copyToBox 3 (some .int) yX5_copyToBox.cls yX5_copyToBox.name 1 20 D cA b0 hs res (xMQ D cA b0 below args s hs res) (k_X5_copyToBox_0 b0 k) 0 := by
  unfold k_X5_copyToBox_0
  refine s_aload_n dX5_copyToBox_0 rfl ?_
  refine s_getR (Tb := TX5) rfl inX5 (by decide) w_187 dX5_copyToBox_1 ?_
  refine s_callV (Tb := TX4) (m_X4_isNothing l D cA b0) rfl w_327 w_328 w_329 w_33 w_330 ⟨rfl, by decide, by decide, by decide +kernel⟩ (by decide) dX5_copyToBox_4 ?_
  refine s_c1ne (tgt := 20) dX5_copyToBox_7 (by decide) ?_ ?_
  · refine s_iconst dX5_copyToBox_20 (by decide) ?_
    exact s_retI rfl dX5_copyToBox_21
  · refine s_aload_n dX5_copyToBox_10 rfl ?_
    refine s_getR (Tb := TX5) rfl inX5 (by decide) w_189 dX5_copyToBox_11 ?_
    refine s_callV (Tb := TX1) (m_X1_isNothing l D cA b0) rfl w_396 w_397 w_398 w_34 w_399 ⟨rfl, by decide, by decide, by decide +kernel⟩ (by decide) dX5_copyToBox_14 ?_
    refine s_c1eq (tgt := 22) dX5_copyToBox_17 (by decide) ?_ ?_
    · refine s_aload_n dX5_copyToBox_22 rfl ?_
      refine s_getR (Tb := TX5) rfl inX5 (by decide) w_189 dX5_copyToBox_23 ?_
      refine s_getI (Tb := TX1) rfl inX1 (by decide) w_153 dX5_copyToBox_26 ?_
      refine s_c1eq (tgt := 34) dX5_copyToBox_29 (by decide) ?_ ?_
      · refine s_iload_n dX5_copyToBox_34 rfl ?_
        refine s_c1lt (tgt := 54) dX5_copyToBox_35 (by decide) ?_ ?_
        · refine s_iconst dX5_copyToBox_54 (by decide) ?_
          exact s_retI rfl dX5_copyToBox_55
        · refine s_iload_n dX5_copyToBox_38 rfl ?_
          refine s_aload_n dX5_copyToBox_39 rfl ?_
          refine s_getR (Tb := TX5) rfl inX5 (by decide) w_187 dX5_copyToBox_40 ?_
          refine s_getI (Tb := TX4) rfl inX4 (by decide) w_137 dX5_copyToBox_43 ?_
          refine s_c2gt (tgt := 54) dX5_copyToBox_46 (by decide) ?_ ?_
          · refine s_iconst dX5_copyToBox_54 (by decide) ?_
            exact s_retI rfl dX5_copyToBox_55
          · refine s_iload_n dX5_copyToBox_49 rfl ?_
            refine s_iconst dX5_copyToBox_50 (by decide) ?_
            refine s_c2le (tgt := 56) dX5_copyToBox_51 (by decide) ?_ ?_
            · refine s_iconst dX5_copyToBox_56 (by decide) ?_
              refine s_istore_n dX5_copyToBox_57 rfl (by decide) ?_
              exact hk0
            · refine s_iconst dX5_copyToBox_54 (by decide) ?_
              exact s_retI rfl dX5_copyToBox_55
      · refine s_iconst dX5_copyToBox_32 (by decide) ?_
        exact s_retI rfl dX5_copyToBox_33
    · refine s_iconst dX5_copyToBox_20 (by decide) ?_
      exact s_retI rfl dX5_copyToBox_21
set_option maxRecDepth 20000 in
theorem t_X5_copyToBox_58 (k : Nat → xK) (hk0 : xS p l e R s m args below meth c cX5_copyToBox 3 (some .int) yX5_copyToBox.cls yX5_copyToBox.name 1 20 D cA b0 hs res (xMQ D cA b0 below args s hs res) (k 0) 58) : xS p l e R s m args below meth c cX5_copyToBox 3 (some .int) yX5_copyToBox.cls yX5_copyToBox.name 1 20 D cA b0 hs res (xMQ D cA b0 below args s hs res) (k_X5_copyToBox_58 b0 k) 58 := by
  unfold k_X5_copyToBox_58
  refine s_iload_n dX5_copyToBox_58 rfl ?_
  refine s_iload_n dX5_copyToBox_59 rfl ?_
  refine s_c2ge (tgt := 87) dX5_copyToBox_60 (by decide) ?_ ?_
  · refine s_iconst dX5_copyToBox_87 (by decide) ?_
    exact s_retI rfl dX5_copyToBox_88
  · refine s_aload_n dX5_copyToBox_63 rfl ?_
    refine s_getR (Tb := TX5) rfl inX5 (by decide) w_189 dX5_copyToBox_64 ?_
    refine s_getR (Tb := TX1) rfl inX1 (by decide) w_151 dX5_copyToBox_67 ?_
    refine s_iload_n dX5_copyToBox_70 rfl ?_
    refine s_aload_n dX5_copyToBox_71 rfl ?_
    refine s_getR (Tb := TX5) rfl inX5 (by decide) w_187 dX5_copyToBox_72 ?_
    refine s_getR (Tb := TX4) rfl inX4 (by decide) w_135 dX5_copyToBox_75 ?_
    refine s_iload_n dX5_copyToBox_78 rfl ?_
    refine s_ial dX5_copyToBox_79 ?_
    refine s_ias dX5_copyToBox_80 ?_
    refine s_iinc dX5_copyToBox_81 (by decide) (by decide) ?_
    refine s_goto (tgt := 58) dX5_copyToBox_84 (by decide) ?_
    exact hk0
theorem t_X5_copyToBox_r (n : Nat) : xS p l e R s m args below meth c cX5_copyToBox 3 (some .int) yX5_copyToBox.cls yX5_copyToBox.name 1 20 D cA b0 hs res (xMQ D cA b0 below args s hs res) (r_X5_copyToBox b0 n 0) 58 := by
  induction n with
  | zero => exact fun ls st h hT => by cases hT
  | succ n ih => exact t_X5_copyToBox_58 (r_X5_copyToBox b0 n) ih
theorem m_X5_copyToBox (l : Launch) (D : va_G) (cA : Nat → ClassId) (b0 : Nat) : xMet l D cA b0 yX5_copyToBox (.code yX5_copyToBox cX5_copyToBox 3 (some .int) :: xTB) 1 20 (f_X5_copyToBox b0) :=
  xMet_of (n := 2) (by decide +kernel) (by decide) (fun p e R s m args below meth c hs res => t_X5_copyToBox_0 (r_X5_copyToBox b0 64) (t_X5_copyToBox_r 64))
end M_X5_copyToBox
