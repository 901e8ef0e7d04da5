section M_X7_init
variable {p : Program} {l : Launch} {e : Env} {R : Room} {s : State} {m : MethodId} {args : Array Value} {below : List Frame} {meth : Method} {c : Code} {D : va_G} {cA : Nat → ClassId} {b0 : Nat} {hs : xH} {res : Option xV × xH}
set_option maxRecDepth 20000 in
theorem t_X7_init_0  : xS p l e R s m args below meth c cX7_init 1 none yX7_init.cls yX7_init.name 1 20 D cA b0 hs res (xMQ D cA b0 below args s hs res) (k_X7_init_0 b0) 0 := by
  unfold k_X7_init_0
  refine s_aload_n dX7_init_0 rfl ?_
  refine s_obj w_475 w_43 w_44 (by decide) dX7_init_1 ?_
  refine s_aload_n dX7_init_4 rfl ?_
  refine s_bipush dX7_init_5 (by decide) ?_
  refine s_newi w_78 dX7_init_7 ?_
  refine s_putRF (Tb := TX7) rfl inX7 (by decide) w_477 tyX7 tyX7_ok nmX7 rfl rfl rfl (Or.inr ⟨_, rfl⟩) dX7_init_9 ?_
  refine s_aload_n dX7_init_12 rfl ?_
  refine s_bipush dX7_init_13 (by decide) ?_
  refine s_newi w_78 dX7_init_15 ?_
  refine s_putRF (Tb := TX7) rfl inX7 (by decide) w_478 tyX7 tyX7_ok nmX7 rfl rfl rfl (Or.inr ⟨_, rfl⟩) dX7_init_17 ?_
  refine s_aload_n dX7_init_20 rfl ?_
  refine s_bipush dX7_init_21 (by decide) ?_
  refine s_newi w_78 dX7_init_23 ?_
  refine s_putRF (Tb := TX7) rfl inX7 (by decide) w_479 tyX7 tyX7_ok nmX7 rfl rfl rfl (Or.inr ⟨_, rfl⟩) dX7_init_25 ?_
  refine s_aload_n dX7_init_28 rfl ?_
  refine s_bipush dX7_init_29 (by decide) ?_
  refine s_newi w_78 dX7_init_31 ?_
  refine s_putRF (Tb := TX7) rfl inX7 (by decide) w_480 tyX7 tyX7_ok nmX7 rfl rfl rfl (Or.inr ⟨_, rfl⟩) dX7_init_33 ?_
  refine s_aload_n dX7_init_36 rfl ?_
  refine s_bipush dX7_init_37 (by decide) ?_
  refine s_newi w_78 dX7_init_39 ?_
  refine s_putRF (Tb := TX7) rfl inX7 (by decide) w_481 tyX7 tyX7_ok nmX7 rfl rfl rfl (Or.inr ⟨_, rfl⟩) dX7_init_41 ?_
  refine s_aload_n dX7_init_44 rfl ?_
  refine s_sipush dX7_init_45 (by decide) ?_
  refine s_newi w_78 dX7_init_48 ?_
  refine s_putRF (Tb := TX7) rfl inX7 (by decide) w_482 tyX7 tyX7_ok nmX7 rfl rfl rfl (Or.inr ⟨_, rfl⟩) dX7_init_50 ?_
  refine s_aload_n dX7_init_53 rfl ?_
  refine s_sipush dX7_init_54 (by decide) ?_
  refine s_newi w_78 dX7_init_57 ?_
  refine s_putRF (Tb := TX7) rfl inX7 (by decide) w_483 tyX7 tyX7_ok nmX7 rfl rfl rfl (Or.inr ⟨_, rfl⟩) dX7_init_59 ?_
  refine s_aload_n dX7_init_62 rfl ?_
  refine s_sipush dX7_init_63 (by decide) ?_
  refine s_newi w_78 dX7_init_66 ?_
  refine s_putRF (Tb := TX7) rfl inX7 (by decide) w_484 tyX7 tyX7_ok nmX7 rfl rfl rfl (Or.inr ⟨_, rfl⟩) dX7_init_68 ?_
  refine s_aload_n dX7_init_71 rfl ?_
  refine s_bipush dX7_init_72 (by decide) ?_
  refine s_newi w_78 dX7_init_74 ?_
  refine s_putRF (Tb := TX7) rfl inX7 (by decide) w_485 tyX7 tyX7_ok nmX7 rfl rfl rfl (Or.inr ⟨_, rfl⟩) dX7_init_76 ?_
  refine s_aload_n dX7_init_79 rfl ?_
  refine s_bipush dX7_init_80 (by decide) ?_
  refine s_newi w_78 dX7_init_82 ?_
  refine s_putRF (Tb := TX7) rfl inX7 (by decide) w_486 tyX7 tyX7_ok nmX7 rfl rfl rfl (Or.inr ⟨_, rfl⟩) dX7_init_84 ?_
  refine s_aload_n dX7_init_87 rfl ?_
  refine s_bipush dX7_init_88 (by decide) ?_
  refine s_newi w_78 dX7_init_90 ?_
  refine s_putRF (Tb := TX7) rfl inX7 (by decide) w_487 tyX7 tyX7_ok nmX7 rfl rfl rfl (Or.inr ⟨_, rfl⟩) dX7_init_92 ?_
  refine s_aload_n dX7_init_95 rfl ?_
  refine s_sipush dX7_init_96 (by decide) ?_
  refine s_newi w_78 dX7_init_99 ?_
  refine s_putRF (Tb := TX7) rfl inX7 (by decide) w_488 tyX7 tyX7_ok nmX7 rfl rfl rfl (Or.inr ⟨_, rfl⟩) dX7_init_101 ?_
  refine s_aload_n dX7_init_104 rfl ?_
  refine s_bipush dX7_init_105 (by decide) ?_
  refine s_newi w_78 dX7_init_107 ?_
  refine s_putRF (Tb := TX7) rfl inX7 (by decide) w_489 tyX7 tyX7_ok nmX7 rfl rfl rfl (Or.inr ⟨_, rfl⟩) dX7_init_109 ?_
  refine s_aload_n dX7_init_112 rfl ?_
  refine s_bipush dX7_init_113 (by decide) ?_
  refine s_newi w_78 dX7_init_115 ?_
  refine s_putRF (Tb := TX7) rfl inX7 (by decide) w_490 tyX7 tyX7_ok nmX7 rfl rfl rfl (Or.inr ⟨_, rfl⟩) dX7_init_117 ?_
  refine s_aload_n dX7_init_120 rfl ?_
  refine s_bipush dX7_init_121 (by decide) ?_
  refine s_newi w_78 dX7_init_123 ?_
  refine s_putRF (Tb := TX7) rfl inX7 (by decide) w_491 tyX7 tyX7_ok nmX7 rfl rfl rfl (Or.inr ⟨_, rfl⟩) dX7_init_125 ?_
  refine s_aload_n dX7_init_128 rfl ?_
  refine s_sipush dX7_init_129 (by decide) ?_
  refine s_newi w_78 dX7_init_132 ?_
  refine s_putRF (Tb := TX7) rfl inX7 (by decide) w_492 tyX7 tyX7_ok nmX7 rfl rfl rfl (Or.inr ⟨_, rfl⟩) dX7_init_134 ?_
  refine s_aload_n dX7_init_137 rfl ?_
  refine s_bipush dX7_init_138 (by decide) ?_
  refine s_newi w_78 dX7_init_140 ?_
  refine s_putRF (Tb := TX7) rfl inX7 (by decide) w_493 tyX7 tyX7_ok nmX7 rfl rfl rfl (Or.inr ⟨_, rfl⟩) dX7_init_142 ?_
  refine s_aload_n dX7_init_145 rfl ?_
  refine s_bipush dX7_init_146 (by decide) ?_
  refine s_newi w_78 dX7_init_148 ?_
  refine s_putRF (Tb := TX7) rfl inX7 (by decide) w_494 tyX7 tyX7_ok nmX7 rfl rfl rfl (Or.inr ⟨_, rfl⟩) dX7_init_150 ?_
  refine s_aload_n dX7_init_153 rfl ?_
  refine s_bipush dX7_init_154 (by decide) ?_
  refine s_newi w_78 dX7_init_156 ?_
  refine s_putRF (Tb := TX7) rfl inX7 (by decide) w_495 tyX7 tyX7_ok nmX7 rfl rfl rfl (Or.inr ⟨_, rfl⟩) dX7_init_158 ?_
  refine s_aload_n dX7_init_161 rfl ?_
  refine s_bipush dX7_init_162 (by decide) ?_
  refine s_newi w_78 dX7_init_164 ?_
  refine s_putRF (Tb := TX7) rfl inX7 (by decide) w_496 tyX7 tyX7_ok nmX7 rfl rfl rfl (Or.inr ⟨_, rfl⟩) dX7_init_166 ?_
  refine s_aload_n dX7_init_169 rfl ?_
  refine s_bipush dX7_init_170 (by decide) ?_
  refine s_newj w_591 dX7_init_172 ?_
  refine s_putRF (Tb := TX7) rfl inX7 (by decide) w_497 tyX7 tyX7_ok nmX7 rfl rfl rfl (Or.inr ⟨_, rfl⟩) dX7_init_174 ?_
  refine s_aload_n dX7_init_177 rfl ?_
  refine s_bipush dX7_init_178 (by decide) ?_
  refine s_newi w_78 dX7_init_180 ?_
  refine s_putRF (Tb := TX7) rfl inX7 (by decide) w_498 tyX7 tyX7_ok nmX7 rfl rfl rfl (Or.inr ⟨_, rfl⟩) dX7_init_182 ?_
  refine s_aload_n dX7_init_185 rfl ?_
  refine s_bipush dX7_init_186 (by decide) ?_
  refine s_newi w_78 dX7_init_188 ?_
  refine s_putRF (Tb := TX7) rfl inX7 (by decide) w_499 tyX7 tyX7_ok nmX7 rfl rfl rfl (Or.inr ⟨_, rfl⟩) dX7_init_190 ?_
  refine s_aload_n dX7_init_193 rfl ?_
  refine s_bipush dX7_init_194 (by decide) ?_
  refine s_newi w_78 dX7_init_196 ?_
  refine s_putRF (Tb := TX7) rfl inX7 (by decide) w_500 tyX7 tyX7_ok nmX7 rfl rfl rfl (Or.inr ⟨_, rfl⟩) dX7_init_198 ?_
  refine s_aload_n dX7_init_201 rfl ?_
  refine s_bipush dX7_init_202 (by decide) ?_
  refine s_newi w_78 dX7_init_204 ?_
  refine s_putRF (Tb := TX7) rfl inX7 (by decide) w_501 tyX7 tyX7_ok nmX7 rfl rfl rfl (Or.inr ⟨_, rfl⟩) dX7_init_206 ?_
  refine s_aload_n dX7_init_209 rfl ?_
  refine s_bipush dX7_init_210 (by decide) ?_
  refine s_newz w_592 dX7_init_212 ?_
  refine s_putRF (Tb := TX7) rfl inX7 (by decide) w_502 tyX7 tyX7_ok nmX7 rfl rfl rfl (Or.inr ⟨_, rfl⟩) dX7_init_214 ?_
  refine s_aload_n dX7_init_217 rfl ?_
  refine s_bipush dX7_init_218 (by decide) ?_
  refine s_newz w_592 dX7_init_220 ?_
  refine s_putRF (Tb := TX7) rfl inX7 (by decide) w_503 tyX7 tyX7_ok nmX7 rfl rfl rfl (Or.inr ⟨_, rfl⟩) dX7_init_222 ?_
  refine s_aload_n dX7_init_225 rfl ?_
  refine s_bipush dX7_init_226 (by decide) ?_
  refine s_newi w_78 dX7_init_228 ?_
  refine s_putRF (Tb := TX7) rfl inX7 (by decide) w_504 tyX7 tyX7_ok nmX7 rfl rfl rfl (Or.inr ⟨_, rfl⟩) dX7_init_230 ?_
  refine s_aload_n dX7_init_233 rfl ?_
  refine s_iconst dX7_init_234 (by decide) ?_
  refine s_putI (Tb := TX7) rfl inX7 (by decide) w_506 tyX7 tyX7_ok nmX7 rfl rfl dX7_init_235 ?_
  refine s_aload_n dX7_init_238 rfl ?_
  refine s_iconst dX7_init_239 (by decide) ?_
  refine s_putI (Tb := TX7) rfl inX7 (by decide) w_507 tyX7 tyX7_ok nmX7 rfl rfl dX7_init_240 ?_
  exact s_retV rfl dX7_init_243
theorem m_X7_init (l : Launch) (D : va_G) (cA : Nat → ClassId) (b0 : Nat) : xMet l D cA b0 yX7_init (.code yX7_init cX7_init 1 none :: xTB) 1 20 (f_X7_init b0) :=
  xMet_of (n := 1) (by decide +kernel) (by decide) (fun p e R s m args below meth c hs res => t_X7_init_0)
end M_X7_init
section M_X7_in
variable {p : Program} {l : Launch} {e : Env} {R : Room} {s : State} {m : MethodId} {args : Array Value} {below : List Frame} {meth : Method} {c : Code} {D : va_G} {cA : Nat → ClassId} {b0 : Nat} {hs : xH} {res : Option xV × xH}
set_option maxRecDepth 20000 in
theorem t_X7_in_0  : xS p l e R s m args below meth c cX7_in 3 (some .boolean) yX7_in.cls yX7_in.name 0 0 D cA b0 hs res (xMQ D cA b0 below args s hs res) (k_X7_in_0 b0) 0 := by
  unfold k_X7_in_0
  refine s_iload_n dX7_in_0 rfl ?_
  refine s_iload_n dX7_in_1 rfl ?_
  refine s_c2lt (tgt := 14) dX7_in_2 (by decide) ?_ ?_
  · refine s_iconst dX7_in_14 (by decide) ?_
    exact s_retZ rfl dX7_in_15
  · refine s_iload_n dX7_in_5 rfl ?_
    refine s_iload_n dX7_in_6 rfl ?_
    refine s_c2gt (tgt := 14) dX7_in_7 (by decide) ?_ ?_
    · refine s_iconst dX7_in_14 (by decide) ?_
      exact s_retZ rfl dX7_in_15
    · refine s_iconst dX7_in_10 (by decide) ?_
      refine s_goto (tgt := 15) dX7_in_11 (by decide) ?_
      exact s_retZ rfl dX7_in_15
theorem m_X7_in (l : Launch) (D : va_G) (cA : Nat → ClassId) (b0 : Nat) : xMet l D cA b0 yX7_in (.code yX7_in cX7_in 3 (some .boolean) :: xTB) 0 0 (f_X7_in b0) :=
  xMet_of (n := 3) (by decide +kernel) (by decide) (fun p e R s m args below meth c hs res => t_X7_in_0)
end M_X7_in
section M_X7_isTask
variable {p : Program} {l : Launch} {e : Env} {R : Room} {s : State} {m : MethodId} {args : Array Value} {below : List Frame} {meth : Method} {c : Code} {D : va_G} {cA : Nat → ClassId} {b0 : Nat} {hs : xH} {res : Option xV × xH}
set_option maxRecDepth 20000 in
theorem t_X7_isTask_0  : xS p l e R s m args below meth c cX7_isTask 2 (some .boolean) yX7_isTask.cls yX7_isTask.name 1 22 D cA b0 hs res (xMQ D cA b0 below args s hs res) (k_X7_isTask_0 b0) 0 := by
  unfold k_X7_isTask_0
  refine s_iload_n dX7_isTask_0 rfl ?_
  refine s_iconst dX7_isTask_1 (by decide) ?_
  refine s_aload_n dX7_isTask_2 rfl ?_
  refine s_getI (Tb := TX7) rfl inX7 (by decide) w_476 dX7_isTask_3 ?_
  refine s_iconst dX7_isTask_6 (by decide) ?_
  refine s_isub dX7_isTask_7 ?_
  refine s_callS (m_X7_in l D cA b0) w_597 w_598 w_29 w_599 ⟨rfl, by decide, by decide, by decide +kernel⟩ (by decide) dX7_isTask_8 ?_
  exact s_retZ rfl dX7_isTask_11
theorem m_X7_isTask (l : Launch) (D : va_G) (cA : Nat → ClassId) (b0 : Nat) : xMet l D cA b0 yX7_isTask (.code yX7_isTask cX7_isTask 2 (some .boolean) :: xTB) 1 22 (f_X7_isTask b0) :=
  xMet_of (n := 2) (by decide +kernel) (by decide) (fun p e R s m args below meth c hs res => t_X7_isTask_0)
end M_X7_isTask
section M_X7_isOver
variable {p : Program} {l : Launch} {e : Env} {R : Room} {s : State} {m : MethodId} {args : Array Value} {below : List Frame} {meth : Method} {c : Code} {D : va_G} {cA : Nat → ClassId} {b0 : Nat} {hs : xH} {res : Option xV × xH}
set_option maxRecDepth 20000 in
theorem t_X7_isOver_0  : xS p l e R s m args below meth c cX7_isOver 1 (some .boolean) yX7_isOver.cls yX7_isOver.name 0 0 D cA b0 hs res (xMQ D cA b0 below args s hs res) (k_X7_isOver_0 b0) 0 := by
  unfold k_X7_isOver_0
  refine s_iload_n dX7_isOver_0 rfl ?_
  refine s_iconst dX7_isOver_1 (by decide) ?_
  refine s_c2le (tgt := 9) dX7_isOver_2 (by decide) ?_ ?_
  · refine s_iconst dX7_isOver_9 (by decide) ?_
    exact s_retZ rfl dX7_isOver_10
  · refine s_iconst dX7_isOver_5 (by decide) ?_
    refine s_goto (tgt := 10) dX7_isOver_6 (by decide) ?_
    exact s_retZ rfl dX7_isOver_10
theorem m_X7_isOver (l : Launch) (D : va_G) (cA : Nat → ClassId) (b0 : Nat) : xMet l D cA b0 yX7_isOver (.code yX7_isOver cX7_isOver 1 (some .boolean) :: xTB) 0 0 (f_X7_isOver b0) :=
  xMet_of (n := 1) (by decide +kernel) (by decide) (fun p e R s m args below meth c hs res => t_X7_isOver_0)
end M_X7_isOver
section M_X7_task
variable {p : Program} {l : Launch} {e : Env} {R : Room} {s : State} {m : MethodId} {args : Array Value} {below : List Frame} {meth : Method} {c : Code} {D : va_G} {cA : Nat → ClassId} {b0 : Nat} {hs : xH} {res : Option xV × xH}
set_option maxRecDepth 20000 in
theorem t_X7_task_0  : xS p l e R s m args below meth c cX7_task 4 (some .int) yX7_task.cls yX7_task.name 1 22 D cA b0 hs res (xMQ D cA b0 below args s hs res) (k_X7_task_0 b0) 0 := by
  unfold k_X7_task_0
  refine s_iload_n dX7_task_0 rfl ?_
  refine s_iconst dX7_task_1 (by decide) ?_
  refine s_iconst dX7_task_2 (by decide) ?_
  refine s_callS (m_X7_in l D cA b0) w_597 w_598 w_29 w_599 ⟨rfl, by decide, by decide, by decide +kernel⟩ (by decide) dX7_task_3 ?_
  refine s_c1eq (tgt := 19) dX7_task_6 (by decide) ?_ ?_
  · refine s_iconst dX7_task_19 (by decide) ?_
    exact s_retI rfl dX7_task_20
  · refine s_iload_n dX7_task_9 rfl ?_
    refine s_iconst dX7_task_10 (by decide) ?_
    refine s_bipush dX7_task_11 (by decide) ?_
    refine s_callS (m_X7_in l D cA b0) w_597 w_598 w_29 w_599 ⟨rfl, by decide, by decide, by decide +kernel⟩ (by decide) dX7_task_13 ?_
    refine s_c1ne (tgt := 21) dX7_task_16 (by decide) ?_ ?_
    · refine s_aload_n dX7_task_21 rfl ?_
      refine s_getI (Tb := TX7) rfl inX7 (by decide) w_476 dX7_task_22 ?_
      refine s_bipush dX7_task_25 (by decide) ?_
      refine s_c2ne (tgt := 33) dX7_task_27 (by decide) ?_ ?_
      · refine s_aload_n dX7_task_33 rfl ?_
        refine s_getI (Tb := TX7) rfl inX7 (by decide) w_476 dX7_task_34 ?_
        refine s_istore_n dX7_task_37 rfl (by decide) ?_
        refine s_aload_n dX7_task_38 rfl ?_
        refine s_getR (Tb := TX7) rfl inX7 (by decide) w_477 dX7_task_39 ?_
        refine s_iload_n dX7_task_42 rfl ?_
        refine s_iload_n dX7_task_43 rfl ?_
        refine s_ias dX7_task_44 ?_
        refine s_aload_n dX7_task_45 rfl ?_
        refine s_getR (Tb := TX7) rfl inX7 (by decide) w_478 dX7_task_46 ?_
        refine s_iload_n dX7_task_49 rfl ?_
        refine s_iload_n dX7_task_50 rfl ?_
        refine s_ias dX7_task_51 ?_
        refine s_aload_n dX7_task_52 rfl ?_
        refine s_getR (Tb := TX7) rfl inX7 (by decide) w_487 dX7_task_53 ?_
        refine s_iload_n dX7_task_56 rfl ?_
        refine s_bipush dX7_task_57 (by decide) ?_
        refine s_ias dX7_task_59 ?_
        refine s_aload_n dX7_task_60 rfl ?_
        refine s_getR (Tb := TX7) rfl inX7 (by decide) w_491 dX7_task_61 ?_
        refine s_iload_n dX7_task_64 rfl ?_
        refine s_bipush dX7_task_65 (by decide) ?_
        refine s_ias dX7_task_67 ?_
        refine s_aload_n dX7_task_68 rfl ?_
        refine s_getR (Tb := TX7) rfl inX7 (by decide) w_493 dX7_task_69 ?_
        refine s_iload_n dX7_task_72 rfl ?_
        refine s_bipush dX7_task_73 (by decide) ?_
        refine s_ias dX7_task_75 ?_
        refine s_aload_n dX7_task_76 rfl ?_
        refine s_getR (Tb := TX7) rfl inX7 (by decide) w_500 dX7_task_77 ?_
        refine s_iload_n dX7_task_80 rfl ?_
        refine s_bipush dX7_task_81 (by decide) ?_
        refine s_ias dX7_task_83 ?_
        refine s_aload_n dX7_task_84 rfl ?_
        refine s_dup dX7_task_85 ?_
        refine s_getI (Tb := TX7) rfl inX7 (by decide) w_476 dX7_task_86 ?_
        refine s_iconst dX7_task_89 (by decide) ?_
        refine s_iadd dX7_task_90 ?_
        refine s_putI (Tb := TX7) rfl inX7 (by decide) w_476 tyX7 tyX7_ok nmX7 rfl rfl dX7_task_91 ?_
        refine s_iload_n dX7_task_94 rfl ?_
        exact s_retI rfl dX7_task_95
      · refine s_bipush dX7_task_30 (by decide) ?_
        exact s_retI rfl dX7_task_32
    · refine s_iconst dX7_task_19 (by decide) ?_
      exact s_retI rfl dX7_task_20
theorem m_X7_task (l : Launch) (D : va_G) (cA : Nat → ClassId) (b0 : Nat) : xMet l D cA b0 yX7_task (.code yX7_task cX7_task 4 (some .int) :: xTB) 1 22 (f_X7_task b0) :=
  xMet_of (n := 3) (by decide +kernel) (by decide) (fun p e R s m args below meth c hs res => t_X7_task_0)
end M_X7_task
section M_X7_act
variable {p : Program} {l : Launch} {e : Env} {R : Room} {s : State} {m : MethodId} {args : Array Value} {below : List Frame} {meth : Method} {c : Code} {D : va_G} {cA : Nat → ClassId} {b0 : Nat} {hs : xH} {res : Option xV × xH}
set_option maxRecDepth 20000 in
theorem t_X7_act_31  : xS p l e R s m args below meth c cX7_act 6 (some .int) yX7_act.cls yX7_act.name 2 43 D cA b0 hs res (xMQ D cA b0 below args s hs res) (k_X7_act_31 b0) 31 := by
  unfold k_X7_act_31
  refine s_aload_n dX7_act_31 rfl ?_
  refine s_getR (Tb := TX7) rfl inX7 (by decide) w_480 dX7_act_32 ?_
  refine s_iload_n dX7_act_35 rfl ?_
  refine s_ial dX7_act_36 ?_
  refine s_c1ne (tgt := 49) dX7_act_37 (by decide) ?_ ?_
  · refine s_bipush dX7_act_49 (by decide) ?_
    exact s_retI rfl dX7_act_51
  · refine s_aload_n dX7_act_40 rfl ?_
    refine s_getR (Tb := TX7) rfl inX7 (by decide) w_502 dX7_act_41 ?_
    refine s_iload_n dX7_act_44 rfl ?_
    refine s_zal dX7_act_45 ?_
    refine s_c1eq (tgt := 52) dX7_act_46 (by decide) ?_ ?_
    · refine s_aload_n dX7_act_52 rfl ?_
      refine s_getR (Tb := TX7) rfl inX7 (by decide) w_481 dX7_act_53 ?_
      refine s_iload_n dX7_act_56 rfl ?_
      refine s_ial dX7_act_57 ?_
      refine s_bipush dX7_act_58 (by decide) ?_
      refine s_c2ne (tgt := 66) dX7_act_60 (by decide) ?_ ?_
      · refine s_bipush dX7_act_66 (by decide) ?_
        refine s_iload_n dX7_act_68 rfl ?_
        refine s_imul dX7_act_69 ?_
        refine s_aload_n dX7_act_70 rfl ?_
        refine s_getR (Tb := TX7) rfl inX7 (by decide) w_481 dX7_act_71 ?_
        refine s_iload_n dX7_act_74 rfl ?_
        refine s_ial dX7_act_75 ?_
        refine s_iadd dX7_act_76 ?_
        refine s_istore dX7_act_77 (by decide) ?_
        refine s_aload_n dX7_act_79 rfl ?_
        refine s_getR (Tb := TX7) rfl inX7 (by decide) w_482 dX7_act_80 ?_
        refine s_iload dX7_act_83 ?_
        refine s_iload_n dX7_act_85 rfl ?_
        refine s_ias dX7_act_86 ?_
        refine s_aload_n dX7_act_87 rfl ?_
        refine s_getR (Tb := TX7) rfl inX7 (by decide) w_483 dX7_act_88 ?_
        refine s_iload dX7_act_91 ?_
        refine s_iload_n dX7_act_93 rfl ?_
        refine s_ias dX7_act_94 ?_
        refine s_aload_n dX7_act_95 rfl ?_
        refine s_getR (Tb := TX7) rfl inX7 (by decide) w_484 dX7_act_96 ?_
        refine s_iload dX7_act_99 ?_
        refine s_iload dX7_act_101 ?_
        refine s_ias dX7_act_103 ?_
        refine s_aload_n dX7_act_104 rfl ?_
        refine s_getR (Tb := TX7) rfl inX7 (by decide) w_481 dX7_act_105 ?_
        refine s_iload_n dX7_act_108 rfl ?_
        refine s_dup2 dX7_act_109 ?_
        refine s_ial dX7_act_110 ?_
        refine s_iconst dX7_act_111 (by decide) ?_
        refine s_iadd dX7_act_112 ?_
        refine s_ias dX7_act_113 ?_
        refine s_aload_n dX7_act_114 rfl ?_
        refine s_getR (Tb := TX7) rfl inX7 (by decide) w_481 dX7_act_115 ?_
        refine s_iload_n dX7_act_118 rfl ?_
        refine s_ial dX7_act_119 ?_
        refine s_iconst dX7_act_120 (by decide) ?_
        refine s_isub dX7_act_121 ?_
        exact s_retI rfl dX7_act_122
      · refine s_bipush dX7_act_63 (by decide) ?_
        exact s_retI rfl dX7_act_65
    · refine s_bipush dX7_act_49 (by decide) ?_
      exact s_retI rfl dX7_act_51
set_option maxRecDepth 20000 in
theorem t_X7_act_0  : xS p l e R s m args below meth c cX7_act 6 (some .int) yX7_act.cls yX7_act.name 2 43 D cA b0 hs res (xMQ D cA b0 below args s hs res) (k_X7_act_0 b0) 0 := by
  unfold k_X7_act_0
  refine s_aload_n dX7_act_0 rfl ?_
  refine s_iload_n dX7_act_1 rfl ?_
  refine s_callV (Tb := TX7) (m_X7_isTask l D cA b0) rfl w_604 w_606 w_12 w_29 w_607 ⟨rfl, by decide, by decide, by decide +kernel⟩ (by decide) dX7_act_2 ?_
  refine s_c1eq (tgt := 29) dX7_act_5 (by decide) ?_ ?_
  · refine s_iconst dX7_act_29 (by decide) ?_
    exact s_retI rfl dX7_act_30
  · refine s_iload_n dX7_act_8 rfl ?_
    refine s_iconst dX7_act_9 (by decide) ?_
    refine s_bipush dX7_act_10 (by decide) ?_
    refine s_callS (m_X7_in l D cA b0) w_597 w_598 w_29 w_599 ⟨rfl, by decide, by decide, by decide +kernel⟩ (by decide) dX7_act_12 ?_
    refine s_c1eq (tgt := 29) dX7_act_15 (by decide) ?_ ?_
    · refine s_iconst dX7_act_29 (by decide) ?_
      exact s_retI rfl dX7_act_30
    · refine s_iload_n dX7_act_18 rfl ?_
      refine s_iconst dX7_act_19 (by decide) ?_
      refine s_c2ne (tgt := 31) dX7_act_20 (by decide) ?_ ?_
      · exact t_X7_act_31
      · refine s_iload_n dX7_act_23 rfl ?_
        refine s_bipush dX7_act_24 (by decide) ?_
        refine s_c2le (tgt := 31) dX7_act_26 (by decide) ?_ ?_
        · exact t_X7_act_31
        · refine s_iconst dX7_act_29 (by decide) ?_
          exact s_retI rfl dX7_act_30
theorem m_X7_act (l : Launch) (D : va_G) (cA : Nat → ClassId) (b0 : Nat) : xMet l D cA b0 yX7_act (.code yX7_act cX7_act 6 (some .int) :: xTB) 2 43 (f_X7_act b0) :=
  xMet_of (n := 5) (by decide +kernel) (by decide) (fun p e R s m args below meth c hs res => t_X7_act_0)
end M_X7_act
section M_X7_workers
variable {p : Program} {l : Launch} {e : Env} {R : Room} {s : State} {m : MethodId} {args : Array Value} {below : List Frame} {meth : Method} {c : Code} {D : va_G} {cA : Nat → ClassId} {b0 : Nat} {hs : xH} {res : Option xV × xH}
set_option maxRecDepth 20000 in
theorem t_X7_workers_0  : xS p l e R s m args below meth c cX7_workers 3 (some .int) yX7_workers.cls yX7_workers.name 1 22 D cA b0 hs res (xMQ D cA b0 below args s hs res) (k_X7_workers_0 b0) 0 := by
  unfold k_X7_workers_0
  refine s_iload_n dX7_workers_0 rfl ?_
  refine s_iconst dX7_workers_1 (by decide) ?_
  refine s_iconst dX7_workers_2 (by decide) ?_
  refine s_callS (m_X7_in l D cA b0) w_597 w_598 w_29 w_599 ⟨rfl, by decide, by decide, by decide +kernel⟩ (by decide) dX7_workers_3 ?_
  refine s_c1ne (tgt := 11) dX7_workers_6 (by decide) ?_ ?_
  · refine s_aload_n dX7_workers_11 rfl ?_
    refine s_getI (Tb := TX7) rfl inX7 (by decide) w_506 dX7_workers_12 ?_
    refine s_istore_n dX7_workers_15 rfl (by decide) ?_
    refine s_aload_n dX7_workers_16 rfl ?_
    refine s_iload_n dX7_workers_17 rfl ?_
    refine s_putI (Tb := TX7) rfl inX7 (by decide) w_506 tyX7 tyX7_ok nmX7 rfl rfl dX7_workers_18 ?_
    refine s_iload_n dX7_workers_21 rfl ?_
    exact s_retI rfl dX7_workers_22
  · refine s_iconst dX7_workers_9 (by decide) ?_
    exact s_retI rfl dX7_workers_10
theorem m_X7_workers (l : Launch) (D : va_G) (cA : Nat → ClassId) (b0 : Nat) : xMet l D cA b0 yX7_workers (.code yX7_workers cX7_workers 3 (some .int) :: xTB) 1 22 (f_X7_workers b0) :=
  xMet_of (n := 2) (by decide +kernel) (by decide) (fun p e R s m args below meth c hs res => t_X7_workers_0)
end M_X7_workers
section M_X7_rowAct
variable {p : Program} {l : Launch} {e : Env} {R : Room} {s : State} {m : MethodId} {args : Array Value} {below : List Frame} {meth : Method} {c : Code} {D : va_G} {cA : Nat → ClassId} {b0 : Nat} {hs : xH} {res : Option xV × xH}
set_option maxRecDepth 20000 in
theorem t_X7_rowAct_0 (k : Nat → xK) (hk0 : xS p l e R s m args below meth c cX7_rowAct 5 (some .int) yX7_rowAct.cls yX7_rowAct.name 1 22 D cA b0 hs res (xMQ D cA b0 below args s hs res) (k 0) 21) : xS p l e R s m args below meth c cX7_rowAct 5 (some .int) yX7_rowAct.cls yX7_rowAct.name 1 22 D cA b0 hs res (xMQ D cA b0 below args s hs res) (k_X7_rowAct_0 b0 k) 0 := by
  unfold k_X7_rowAct_0
  refine s_iload_n dX7_rowAct_0 rfl ?_
  refine s_iconst dX7_rowAct_1 (by decide) ?_
  refine s_c2ne (tgt := 48) dX7_rowAct_2 (by decide) ?_ ?_
  · refine s_aload_n dX7_rowAct_48 rfl ?_
    refine s_getR (Tb := TX7) rfl inX7 (by decide) w_487 dX7_rowAct_49 ?_
    refine s_iload_n dX7_rowAct_52 rfl ?_
    refine s_ial dX7_rowAct_53 ?_
    refine s_bipush dX7_rowAct_54 (by decide) ?_
    refine s_c2ne (tgt := 61) dX7_rowAct_56 (by decide) ?_ ?_
    · refine s_iload_n dX7_rowAct_61 rfl ?_
      refine s_iconst dX7_rowAct_62 (by decide) ?_
      refine s_aload_n dX7_rowAct_63 rfl ?_
      refine s_getR (Tb := TX7) rfl inX7 (by decide) w_487 dX7_rowAct_64 ?_
      refine s_iload_n dX7_rowAct_67 rfl ?_
      refine s_ial dX7_rowAct_68 ?_
      refine s_iconst dX7_rowAct_69 (by decide) ?_
      refine s_isub dX7_rowAct_70 ?_
      refine s_callS (m_X7_in l D cA b0) w_597 w_598 w_29 w_599 ⟨rfl, by decide, by decide, by decide +kernel⟩ (by decide) dX7_rowAct_71 ?_
      refine s_c1ne (tgt := 79) dX7_rowAct_74 (by decide) ?_ ?_
      · refine s_iload_n dX7_rowAct_79 rfl ?_
        refine s_iconst dX7_rowAct_80 (by decide) ?_
        refine s_c2ne (tgt := 104) dX7_rowAct_81 (by decide) ?_ ?_
        · refine s_aload_n dX7_rowAct_104 rfl ?_
          refine s_getR (Tb := TX7) rfl inX7 (by decide) w_486 dX7_rowAct_105 ?_
          refine s_iload_n dX7_rowAct_108 rfl ?_
          refine s_dup2 dX7_rowAct_109 ?_
          refine s_ial dX7_rowAct_110 ?_
          refine s_aload_n dX7_rowAct_111 rfl ?_
          refine s_getR (Tb := TX7) rfl inX7 (by decide) w_488 dX7_rowAct_112 ?_
          refine s_bipush dX7_rowAct_115 (by decide) ?_
          refine s_iload_n dX7_rowAct_117 rfl ?_
          refine s_imul dX7_rowAct_118 ?_
          refine s_iload_n dX7_rowAct_119 rfl ?_
          refine s_iadd dX7_rowAct_120 ?_
          refine s_ial dX7_rowAct_121 ?_
          refine s_iadd dX7_rowAct_122 ?_
          refine s_ias dX7_rowAct_123 ?_
          refine s_iconst dX7_rowAct_124 (by decide) ?_
          exact s_retI rfl dX7_rowAct_125
        · refine s_aload_n dX7_rowAct_84 rfl ?_
          refine s_getR (Tb := TX7) rfl inX7 (by decide) w_488 dX7_rowAct_85 ?_
          refine s_bipush dX7_rowAct_88 (by decide) ?_
          refine s_iload_n dX7_rowAct_90 rfl ?_
          refine s_imul dX7_rowAct_91 ?_
          refine s_iload_n dX7_rowAct_92 rfl ?_
          refine s_iadd dX7_rowAct_93 ?_
          refine s_aload_n dX7_rowAct_94 rfl ?_
          refine s_getR (Tb := TX7) rfl inX7 (by decide) w_486 dX7_rowAct_95 ?_
          refine s_iload_n dX7_rowAct_98 rfl ?_
          refine s_ial dX7_rowAct_99 ?_
          refine s_ias dX7_rowAct_100 ?_
          refine s_goto (tgt := 124) dX7_rowAct_101 (by decide) ?_
          refine s_iconst dX7_rowAct_124 (by decide) ?_
          exact s_retI rfl dX7_rowAct_125
      · refine s_iconst dX7_rowAct_77 (by decide) ?_
        exact s_retI rfl dX7_rowAct_78
    · refine s_iconst dX7_rowAct_59 (by decide) ?_
      exact s_retI rfl dX7_rowAct_60
  · refine s_iload_n dX7_rowAct_5 rfl ?_
    refine s_c1ge (tgt := 11) dX7_rowAct_6 (by decide) ?_ ?_
    · refine s_aload_n dX7_rowAct_11 rfl ?_
      refine s_getR (Tb := TX7) rfl inX7 (by decide) w_487 dX7_rowAct_12 ?_
      refine s_iload_n dX7_rowAct_15 rfl ?_
      refine s_iload_n dX7_rowAct_16 rfl ?_
      refine s_ias dX7_rowAct_17 ?_
      refine s_iconst dX7_rowAct_18 (by decide) ?_
      refine s_istore dX7_rowAct_19 (by decide) ?_
      exact hk0
    · refine s_iconst dX7_rowAct_9 (by decide) ?_
      exact s_retI rfl dX7_rowAct_10
set_option maxRecDepth 20000 in
theorem t_X7_rowAct_21 (k : Nat → xK) (hk0 : xS p l e R s m args below meth c cX7_rowAct 5 (some .int) yX7_rowAct.cls yX7_rowAct.name 1 22 D cA b0 hs res (xMQ D cA b0 below args s hs res) (k 0) 21) : xS p l e R s m args below meth c cX7_rowAct 5 (some .int) yX7_rowAct.cls yX7_rowAct.name 1 22 D cA b0 hs res (xMQ D cA b0 below args s hs res) (k_X7_rowAct_21 b0 k) 21 := by
  unfold k_X7_rowAct_21
  refine s_iload dX7_rowAct_21 ?_
  refine s_iload_n dX7_rowAct_23 rfl ?_
  refine s_c2ge (tgt := 46) dX7_rowAct_24 (by decide) ?_ ?_
  · refine s_iconst dX7_rowAct_46 (by decide) ?_
    exact s_retI rfl dX7_rowAct_47
  · refine s_aload_n dX7_rowAct_27 rfl ?_
    refine s_getR (Tb := TX7) rfl inX7 (by decide) w_488 dX7_rowAct_28 ?_
    refine s_bipush dX7_rowAct_31 (by decide) ?_
    refine s_iload_n dX7_rowAct_33 rfl ?_
    refine s_imul dX7_rowAct_34 ?_
    refine s_iload dX7_rowAct_35 ?_
    refine s_iadd dX7_rowAct_37 ?_
    refine s_iconst dX7_rowAct_38 (by decide) ?_
    refine s_ias dX7_rowAct_39 ?_
    refine s_iinc dX7_rowAct_40 (by decide) (by decide) ?_
    refine s_goto (tgt := 21) dX7_rowAct_43 (by decide) ?_
    exact hk0
theorem t_X7_rowAct_r (n : Nat) : xS p l e R s m args below meth c cX7_rowAct 5 (some .int) yX7_rowAct.cls yX7_rowAct.name 1 22 D cA b0 hs res (xMQ D cA b0 below args s hs res) (r_X7_rowAct b0 n 0) 21 := by
  induction n with
  | zero => exact fun ls st h hT => by cases hT
  | succ n ih => exact t_X7_rowAct_21 (r_X7_rowAct b0 n) ih
theorem m_X7_rowAct (l : Launch) (D : va_G) (cA : Nat → ClassId) (b0 : Nat) : xMet l D cA b0 yX7_rowAct (.code yX7_rowAct cX7_rowAct 5 (some .int) :: xTB) 1 22 (f_X7_rowAct b0) :=
  xMet_of (n := 4) (by decide +kernel) (by decide) (fun p e R s m args below meth c hs res => t_X7_rowAct_0 (r_X7_rowAct b0 64) (t_X7_rowAct_r 64))
end M_X7_rowAct
section M_X7_takeAct
variable {p : Program} {l : Launch} {e : Env} {R : Room} {s : State} {m : MethodId} {args : Array Value} {below : List Frame} {meth : Method} {c : Code} {D : va_G} {cA : Nat → ClassId} {b0 : Nat} {hs : xH} {res : Option xV × xH}
set_option maxRecDepth 20000 in
theorem t_X7_takeAct_0 (k : Nat → xK) (hk0 : xS p l e R s m args below meth c cX7_takeAct 3 (some .int) yX7_takeAct.cls yX7_takeAct.name 0 0 D cA b0 hs res (xMQ D cA b0 below args s hs res) (k 0) 58) : xS p l e R s m args below meth c cX7_takeAct 3 (some .int) yX7_takeAct.cls yX7_takeAct.name 0 0 D cA b0 hs res (xMQ D cA b0 below args s hs res) (k_X7_takeAct_0 b0 k) 0 := by
  unfold k_X7_takeAct_0
  refine s_aload_n dX7_takeAct_0 rfl ?_
  refine s_getR (Tb := TX7) rfl inX7 (by decide) w_495 dX7_takeAct_1 ?_
  refine s_iload_n dX7_takeAct_4 rfl ?_
  refine s_ial dX7_takeAct_5 ?_
  refine s_c1ne (tgt := 28) dX7_takeAct_6 (by decide) ?_ ?_
  · refine s_aload_n dX7_takeAct_28 rfl ?_
    refine s_getR (Tb := TX7) rfl inX7 (by decide) w_486 dX7_takeAct_29 ?_
    refine s_iload_n dX7_takeAct_32 rfl ?_
    refine s_dup2 dX7_takeAct_33 ?_
    refine s_ial dX7_takeAct_34 ?_
    refine s_aload_n dX7_takeAct_35 rfl ?_
    refine s_getR (Tb := TX7) rfl inX7 (by decide) w_496 dX7_takeAct_36 ?_
    refine s_bipush dX7_takeAct_39 (by decide) ?_
    refine s_iload_n dX7_takeAct_41 rfl ?_
    refine s_imul dX7_takeAct_42 ?_
    refine s_ial dX7_takeAct_43 ?_
    refine s_iadd dX7_takeAct_44 ?_
    refine s_ias dX7_takeAct_45 ?_
    refine s_aload_n dX7_takeAct_46 rfl ?_
    refine s_getR (Tb := TX7) rfl inX7 (by decide) w_495 dX7_takeAct_47 ?_
    refine s_iload_n dX7_takeAct_50 rfl ?_
    refine s_dup2 dX7_takeAct_51 ?_
    refine s_ial dX7_takeAct_52 ?_
    refine s_iconst dX7_takeAct_53 (by decide) ?_
    refine s_isub dX7_takeAct_54 ?_
    refine s_ias dX7_takeAct_55 ?_
    refine s_iconst dX7_takeAct_56 (by decide) ?_
    refine s_istore_n dX7_takeAct_57 rfl (by decide) ?_
    exact hk0
  · refine s_aload_n dX7_takeAct_9 rfl ?_
    refine s_getI (Tb := TX7) rfl inX7 (by decide) w_513 dX7_takeAct_10 ?_
    refine s_c1eq (tgt := 19) dX7_takeAct_13 (by decide) ?_ ?_
    · refine s_aload_n dX7_takeAct_19 rfl ?_
      refine s_getR (Tb := TX7) rfl inX7 (by decide) w_480 dX7_takeAct_20 ?_
      refine s_iload_n dX7_takeAct_23 rfl ?_
      refine s_iconst dX7_takeAct_24 (by decide) ?_
      refine s_ias dX7_takeAct_25 ?_
      refine s_iconst dX7_takeAct_26 (by decide) ?_
      exact s_retI rfl dX7_takeAct_27
    · refine s_bipush dX7_takeAct_16 (by decide) ?_
      exact s_retI rfl dX7_takeAct_18
set_option maxRecDepth 20000 in
theorem t_X7_takeAct_58 (k : Nat → xK) (hk0 : xS p l e R s m args below meth c cX7_takeAct 3 (some .int) yX7_takeAct.cls yX7_takeAct.name 0 0 D cA b0 hs res (xMQ D cA b0 below args s hs res) (k 0) 58) : xS p l e R s m args below meth c cX7_takeAct 3 (some .int) yX7_takeAct.cls yX7_takeAct.name 0 0 D cA b0 hs res (xMQ D cA b0 below args s hs res) (k_X7_takeAct_58 b0 k) 58 := by
  unfold k_X7_takeAct_58
  refine s_iload_n dX7_takeAct_58 rfl ?_
  refine s_aload_n dX7_takeAct_59 rfl ?_
  refine s_getR (Tb := TX7) rfl inX7 (by decide) w_495 dX7_takeAct_60 ?_
  refine s_iload_n dX7_takeAct_63 rfl ?_
  refine s_ial dX7_takeAct_64 ?_
  refine s_c2ge (tgt := 98) dX7_takeAct_65 (by decide) ?_ ?_
  · refine s_iconst dX7_takeAct_98 (by decide) ?_
    exact s_retI rfl dX7_takeAct_99
  · refine s_aload_n dX7_takeAct_68 rfl ?_
    refine s_getR (Tb := TX7) rfl inX7 (by decide) w_496 dX7_takeAct_69 ?_
    refine s_bipush dX7_takeAct_72 (by decide) ?_
    refine s_iload_n dX7_takeAct_74 rfl ?_
    refine s_imul dX7_takeAct_75 ?_
    refine s_iload_n dX7_takeAct_76 rfl ?_
    refine s_iadd dX7_takeAct_77 ?_
    refine s_aload_n dX7_takeAct_78 rfl ?_
    refine s_getR (Tb := TX7) rfl inX7 (by decide) w_496 dX7_takeAct_79 ?_
    refine s_bipush dX7_takeAct_82 (by decide) ?_
    refine s_iload_n dX7_takeAct_84 rfl ?_
    refine s_imul dX7_takeAct_85 ?_
    refine s_iload_n dX7_takeAct_86 rfl ?_
    refine s_iadd dX7_takeAct_87 ?_
    refine s_iconst dX7_takeAct_88 (by decide) ?_
    refine s_iadd dX7_takeAct_89 ?_
    refine s_ial dX7_takeAct_90 ?_
    refine s_ias dX7_takeAct_91 ?_
    refine s_iinc dX7_takeAct_92 (by decide) (by decide) ?_
    refine s_goto (tgt := 58) dX7_takeAct_95 (by decide) ?_
    exact hk0
theorem t_X7_takeAct_r (n : Nat) : xS p l e R s m args below meth c cX7_takeAct 3 (some .int) yX7_takeAct.cls yX7_takeAct.name 0 0 D cA b0 hs res (xMQ D cA b0 below args s hs res) (r_X7_takeAct b0 n 0) 58 := by
  induction n with
  | zero => exact fun ls st h hT => by cases hT
  | succ n ih => exact t_X7_takeAct_58 (r_X7_takeAct b0 n) ih
theorem m_X7_takeAct (l : Launch) (D : va_G) (cA : Nat → ClassId) (b0 : Nat) : xMet l D cA b0 yX7_takeAct (.code yX7_takeAct cX7_takeAct 3 (some .int) :: xTB) 0 0 (f_X7_takeAct b0) :=
  xMet_of (n := 2) (by decide +kernel) (by decide) (fun p e R s m args below meth c hs res => t_X7_takeAct_0 (r_X7_takeAct b0 64) (t_X7_takeAct_r 64))
end M_X7_takeAct
section M_X7_sendAct
variable {p : Program} {l : Launch} {e : Env} {R : Room} {s : State} {m : MethodId} {args : Array Value} {below : List Frame} {meth : Method} {c : Code} {D : va_G} {cA : Nat → ClassId} {b0 : Nat} {hs : xH} {res : Option xV × xH}
set_option maxRecDepth 20000 in
theorem t_X7_sendAct_0  : xS p l e R s m args below meth c cX7_sendAct 4 (some .int) yX7_sendAct.cls yX7_sendAct.name 2 43 D cA b0 hs res (xMQ D cA b0 below args s hs res) (k_X7_sendAct_0 b0) 0 := by
  unfold k_X7_sendAct_0
  refine s_aload_n dX7_sendAct_0 rfl ?_
  refine s_iload_n dX7_sendAct_1 rfl ?_
  refine s_callV (Tb := TX7) (m_X7_isTask l D cA b0) rfl w_604 w_606 w_12 w_29 w_607 ⟨rfl, by decide, by decide, by decide +kernel⟩ (by decide) dX7_sendAct_2 ?_
  refine s_c1ne (tgt := 10) dX7_sendAct_5 (by decide) ?_ ?_
  · refine s_aload_n dX7_sendAct_10 rfl ?_
    refine s_getR (Tb := TX7) rfl inX7 (by decide) w_480 dX7_sendAct_11 ?_
    refine s_iload_n dX7_sendAct_14 rfl ?_
    refine s_ial dX7_sendAct_15 ?_
    refine s_callS (m_X7_isOver l D cA b0) w_648 w_649 w_29 w_650 ⟨rfl, by decide, by decide, by decide +kernel⟩ (by decide) dX7_sendAct_16 ?_
    refine s_c1eq (tgt := 34) dX7_sendAct_19 (by decide) ?_ ?_
    · refine s_aload_n dX7_sendAct_34 rfl ?_
      refine s_getR (Tb := TX7) rfl inX7 (by decide) w_495 dX7_sendAct_35 ?_
      refine s_iload_n dX7_sendAct_38 rfl ?_
      refine s_ial dX7_sendAct_39 ?_
      refine s_bipush dX7_sendAct_40 (by decide) ?_
      refine s_c2ne (tgt := 48) dX7_sendAct_42 (by decide) ?_ ?_
      · refine s_aload_n dX7_sendAct_48 rfl ?_
        refine s_getR (Tb := TX7) rfl inX7 (by decide) w_496 dX7_sendAct_49 ?_
        refine s_bipush dX7_sendAct_52 (by decide) ?_
        refine s_iload_n dX7_sendAct_54 rfl ?_
        refine s_imul dX7_sendAct_55 ?_
        refine s_aload_n dX7_sendAct_56 rfl ?_
        refine s_getR (Tb := TX7) rfl inX7 (by decide) w_495 dX7_sendAct_57 ?_
        refine s_iload_n dX7_sendAct_60 rfl ?_
        refine s_ial dX7_sendAct_61 ?_
        refine s_iadd dX7_sendAct_62 ?_
        refine s_aload_n dX7_sendAct_63 rfl ?_
        refine s_getR (Tb := TX7) rfl inX7 (by decide) w_486 dX7_sendAct_64 ?_
        refine s_iload_n dX7_sendAct_67 rfl ?_
        refine s_ial dX7_sendAct_68 ?_
        refine s_iload_n dX7_sendAct_69 rfl ?_
        refine s_iadd dX7_sendAct_70 ?_
        refine s_ias dX7_sendAct_71 ?_
        refine s_aload_n dX7_sendAct_72 rfl ?_
        refine s_getR (Tb := TX7) rfl inX7 (by decide) w_495 dX7_sendAct_73 ?_
        refine s_iload_n dX7_sendAct_76 rfl ?_
        refine s_dup2 dX7_sendAct_77 ?_
        refine s_ial dX7_sendAct_78 ?_
        refine s_iconst dX7_sendAct_79 (by decide) ?_
        refine s_iadd dX7_sendAct_80 ?_
        refine s_ias dX7_sendAct_81 ?_
        refine s_iconst dX7_sendAct_82 (by decide) ?_
        exact s_retI rfl dX7_sendAct_83
      · refine s_bipush dX7_sendAct_45 (by decide) ?_
        exact s_retI rfl dX7_sendAct_47
    · refine s_aload_n dX7_sendAct_22 rfl ?_
      refine s_dup dX7_sendAct_23 ?_
      refine s_getI (Tb := TX7) rfl inX7 (by decide) w_509 dX7_sendAct_24 ?_
      refine s_iconst dX7_sendAct_27 (by decide) ?_
      refine s_iadd dX7_sendAct_28 ?_
      refine s_putI (Tb := TX7) rfl inX7 (by decide) w_509 tyX7 tyX7_ok nmX7 rfl rfl dX7_sendAct_29 ?_
      refine s_iconst dX7_sendAct_32 (by decide) ?_
      exact s_retI rfl dX7_sendAct_33
  · refine s_iconst dX7_sendAct_8 (by decide) ?_
    exact s_retI rfl dX7_sendAct_9
theorem m_X7_sendAct (l : Launch) (D : va_G) (cA : Nat → ClassId) (b0 : Nat) : xMet l D cA b0 yX7_sendAct (.code yX7_sendAct cX7_sendAct 4 (some .int) :: xTB) 2 43 (f_X7_sendAct b0) :=
  xMet_of (n := 4) (by decide +kernel) (by decide) (fun p e R s m args below meth c hs res => t_X7_sendAct_0)
end M_X7_sendAct
section M_X7_mark
variable {p : Program} {l : Launch} {e : Env} {R : Room} {s : State} {m : MethodId} {args : Array Value} {below : List Frame} {meth : Method} {c : Code} {D : va_G} {cA : Nat → ClassId} {b0 : Nat} {hs : xH} {res : Option xV × xH}
set_option maxRecDepth 20000 in
theorem t_X7_mark_0 (k : Nat → xK) (hk0 : xS p l e R s m args below meth c cX7_mark 3 none yX7_mark.cls yX7_mark.name 0 0 D cA b0 hs res (xMQ D cA b0 below args s hs res) (k 0) 40) : xS p l e R s m args below meth c cX7_mark 3 none yX7_mark.cls yX7_mark.name 0 0 D cA b0 hs res (xMQ D cA b0 below args s hs res) (k_X7_mark_0 b0 k) 0 := by
  unfold k_X7_mark_0
  refine s_aload_n dX7_mark_0 rfl ?_
  refine s_getR (Tb := TX7) rfl inX7 (by decide) w_489 dX7_mark_1 ?_
  refine s_iload_n dX7_mark_4 rfl ?_
  refine s_aload_n dX7_mark_5 rfl ?_
  refine s_getR (Tb := TX7) rfl inX7 (by decide) w_486 dX7_mark_6 ?_
  refine s_iload_n dX7_mark_9 rfl ?_
  refine s_ial dX7_mark_10 ?_
  refine s_ias dX7_mark_11 ?_
  refine s_aload_n dX7_mark_12 rfl ?_
  refine s_getR (Tb := TX7) rfl inX7 (by decide) w_490 dX7_mark_13 ?_
  refine s_iload_n dX7_mark_16 rfl ?_
  refine s_aload_n dX7_mark_17 rfl ?_
  refine s_getR (Tb := TX7) rfl inX7 (by decide) w_485 dX7_mark_18 ?_
  refine s_iload_n dX7_mark_21 rfl ?_
  refine s_ial dX7_mark_22 ?_
  refine s_iconst dX7_mark_23 (by decide) ?_
  refine s_iadd dX7_mark_24 ?_
  refine s_ias dX7_mark_25 ?_
  refine s_aload_n dX7_mark_26 rfl ?_
  refine s_getR (Tb := TX7) rfl inX7 (by decide) w_491 dX7_mark_27 ?_
  refine s_iload_n dX7_mark_30 rfl ?_
  refine s_aload_n dX7_mark_31 rfl ?_
  refine s_getR (Tb := TX7) rfl inX7 (by decide) w_487 dX7_mark_32 ?_
  refine s_iload_n dX7_mark_35 rfl ?_
  refine s_ial dX7_mark_36 ?_
  refine s_ias dX7_mark_37 ?_
  refine s_iconst dX7_mark_38 (by decide) ?_
  refine s_istore_n dX7_mark_39 rfl (by decide) ?_
  exact hk0
set_option maxRecDepth 20000 in
theorem t_X7_mark_40 (k : Nat → xK) (hk0 : xS p l e R s m args below meth c cX7_mark 3 none yX7_mark.cls yX7_mark.name 0 0 D cA b0 hs res (xMQ D cA b0 below args s hs res) (k 0) 40) : xS p l e R s m args below meth c cX7_mark 3 none yX7_mark.cls yX7_mark.name 0 0 D cA b0 hs res (xMQ D cA b0 below args s hs res) (k_X7_mark_40 b0 k) 40 := by
  unfold k_X7_mark_40
  refine s_iload_n dX7_mark_40 rfl ?_
  refine s_aload_n dX7_mark_41 rfl ?_
  refine s_getR (Tb := TX7) rfl inX7 (by decide) w_487 dX7_mark_42 ?_
  refine s_iload_n dX7_mark_45 rfl ?_
  refine s_ial dX7_mark_46 ?_
  refine s_c2ge (tgt := 78) dX7_mark_47 (by decide) ?_ ?_
  · exact s_retV rfl dX7_mark_78
  · refine s_aload_n dX7_mark_50 rfl ?_
    refine s_getR (Tb := TX7) rfl inX7 (by decide) w_492 dX7_mark_51 ?_
    refine s_bipush dX7_mark_54 (by decide) ?_
    refine s_iload_n dX7_mark_56 rfl ?_
    refine s_imul dX7_mark_57 ?_
    refine s_iload_n dX7_mark_58 rfl ?_
    refine s_iadd dX7_mark_59 ?_
    refine s_aload_n dX7_mark_60 rfl ?_
    refine s_getR (Tb := TX7) rfl inX7 (by decide) w_488 dX7_mark_61 ?_
    refine s_bipush dX7_mark_64 (by decide) ?_
    refine s_iload_n dX7_mark_66 rfl ?_
    refine s_imul dX7_mark_67 ?_
    refine s_iload_n dX7_mark_68 rfl ?_
    refine s_iadd dX7_mark_69 ?_
    refine s_ial dX7_mark_70 ?_
    refine s_ias dX7_mark_71 ?_
    refine s_iinc dX7_mark_72 (by decide) (by decide) ?_
    refine s_goto (tgt := 40) dX7_mark_75 (by decide) ?_
    exact hk0
theorem t_X7_mark_r (n : Nat) : xS p l e R s m args below meth c cX7_mark 3 none yX7_mark.cls yX7_mark.name 0 0 D cA b0 hs res (xMQ D cA b0 below args s hs res) (r_X7_mark b0 n 0) 40 := by
  induction n with
  | zero => exact fun ls st h hT => by cases hT
  | succ n ih => exact t_X7_mark_40 (r_X7_mark b0 n) ih
theorem m_X7_mark (l : Launch) (D : va_G) (cA : Nat → ClassId) (b0 : Nat) : xMet l D cA b0 yX7_mark (.code yX7_mark cX7_mark 3 none :: xTB) 0 0 (f_X7_mark b0) :=
  xMet_of (n := 2) (by decide +kernel) (by decide) (fun p e R s m args below meth c hs res => t_X7_mark_0 (r_X7_mark b0 64) (t_X7_mark_r 64))
end M_X7_mark
section M_X7_back
variable {p : Program} {l : Launch} {e : Env} {R : Room} {s : State} {m : MethodId} {args : Array Value} {below : List Frame} {meth : Method} {c : Code} {D : va_G} {cA : Nat → ClassId} {b0 : Nat} {hs : xH} {res : Option xV × xH}
set_option maxRecDepth 20000 in
theorem t_X7_back_0 (k : Nat → xK) (hk0 : xS p l e R s m args below meth c cX7_back 3 none yX7_back.cls yX7_back.name 0 0 D cA b0 hs res (xMQ D cA b0 below args s hs res) (k 0) 38) : xS p l e R s m args below meth c cX7_back 3 none yX7_back.cls yX7_back.name 0 0 D cA b0 hs res (xMQ D cA b0 below args s hs res) (k_X7_back_0 b0 k) 0 := by
  unfold k_X7_back_0
  refine s_aload_n dX7_back_0 rfl ?_
  refine s_getR (Tb := TX7) rfl inX7 (by decide) w_486 dX7_back_1 ?_
  refine s_iload_n dX7_back_4 rfl ?_
  refine s_aload_n dX7_back_5 rfl ?_
  refine s_getR (Tb := TX7) rfl inX7 (by decide) w_489 dX7_back_6 ?_
  refine s_iload_n dX7_back_9 rfl ?_
  refine s_ial dX7_back_10 ?_
  refine s_ias dX7_back_11 ?_
  refine s_aload_n dX7_back_12 rfl ?_
  refine s_getR (Tb := TX7) rfl inX7 (by decide) w_485 dX7_back_13 ?_
  refine s_iload_n dX7_back_16 rfl ?_
  refine s_aload_n dX7_back_17 rfl ?_
  refine s_getR (Tb := TX7) rfl inX7 (by decide) w_490 dX7_back_18 ?_
  refine s_iload_n dX7_back_21 rfl ?_
  refine s_ial dX7_back_22 ?_
  refine s_ias dX7_back_23 ?_
  refine s_aload_n dX7_back_24 rfl ?_
  refine s_getR (Tb := TX7) rfl inX7 (by decide) w_487 dX7_back_25 ?_
  refine s_iload_n dX7_back_28 rfl ?_
  refine s_aload_n dX7_back_29 rfl ?_
  refine s_getR (Tb := TX7) rfl inX7 (by decide) w_491 dX7_back_30 ?_
  refine s_iload_n dX7_back_33 rfl ?_
  refine s_ial dX7_back_34 ?_
  refine s_ias dX7_back_35 ?_
  refine s_iconst dX7_back_36 (by decide) ?_
  refine s_istore_n dX7_back_37 rfl (by decide) ?_
  exact hk0
set_option maxRecDepth 20000 in
theorem t_X7_back_38 (k : Nat → xK) (hk0 : xS p l e R s m args below meth c cX7_back 3 none yX7_back.cls yX7_back.name 0 0 D cA b0 hs res (xMQ D cA b0 below args s hs res) (k 0) 38) : xS p l e R s m args below meth c cX7_back 3 none yX7_back.cls yX7_back.name 0 0 D cA b0 hs res (xMQ D cA b0 below args s hs res) (k_X7_back_38 b0 k) 38 := by
  unfold k_X7_back_38
  refine s_iload_n dX7_back_38 rfl ?_
  refine s_aload_n dX7_back_39 rfl ?_
  refine s_getR (Tb := TX7) rfl inX7 (by decide) w_487 dX7_back_40 ?_
  refine s_iload_n dX7_back_43 rfl ?_
  refine s_ial dX7_back_44 ?_
  refine s_c2ge (tgt := 76) dX7_back_45 (by decide) ?_ ?_
  · exact s_retV rfl dX7_back_76
  · refine s_aload_n dX7_back_48 rfl ?_
    refine s_getR (Tb := TX7) rfl inX7 (by decide) w_488 dX7_back_49 ?_
    refine s_bipush dX7_back_52 (by decide) ?_
    refine s_iload_n dX7_back_54 rfl ?_
    refine s_imul dX7_back_55 ?_
    refine s_iload_n dX7_back_56 rfl ?_
    refine s_iadd dX7_back_57 ?_
    refine s_aload_n dX7_back_58 rfl ?_
    refine s_getR (Tb := TX7) rfl inX7 (by decide) w_492 dX7_back_59 ?_
    refine s_bipush dX7_back_62 (by decide) ?_
    refine s_iload_n dX7_back_64 rfl ?_
    refine s_imul dX7_back_65 ?_
    refine s_iload_n dX7_back_66 rfl ?_
    refine s_iadd dX7_back_67 ?_
    refine s_ial dX7_back_68 ?_
    refine s_ias dX7_back_69 ?_
    refine s_iinc dX7_back_70 (by decide) (by decide) ?_
    refine s_goto (tgt := 38) dX7_back_73 (by decide) ?_
    exact hk0
theorem t_X7_back_r (n : Nat) : xS p l e R s m args below meth c cX7_back 3 none yX7_back.cls yX7_back.name 0 0 D cA b0 hs res (xMQ D cA b0 below args s hs res) (r_X7_back b0 n 0) 38 := by
  induction n with
  | zero => exact fun ls st h hT => by cases hT
  | succ n ih => exact t_X7_back_38 (r_X7_back b0 n) ih
theorem m_X7_back (l : Launch) (D : va_G) (cA : Nat → ClassId) (b0 : Nat) : xMet l D cA b0 yX7_back (.code yX7_back cX7_back 3 none :: xTB) 0 0 (f_X7_back b0) :=
  xMet_of (n := 2) (by decide +kernel) (by decide) (fun p e R s m args below meth c hs res => t_X7_back_0 (r_X7_back b0 64) (t_X7_back_r 64))
end M_X7_back
section M_X7_boxAct
variable {p : Program} {l : Launch} {e : Env} {R : Room} {s : State} {m : MethodId} {args : Array Value} {below : List Frame} {meth : Method} {c : Code} {D : va_G} {cA : Nat → ClassId} {b0 : Nat} {hs : xH} {res : Option xV × xH}
set_option maxRecDepth 20000 in
theorem t_X7_boxAct_94 (k : Nat → xK) (hk0 : xS p l e R s m args below meth c cX7_boxAct 7 (some .int) yX7_boxAct.cls yX7_boxAct.name 2 43 D cA b0 hs res (xMQ D cA b0 below args s hs res) (k 0) 30) : xS p l e R s m args below meth c cX7_boxAct 7 (some .int) yX7_boxAct.cls yX7_boxAct.name 2 43 D cA b0 hs res (xMQ D cA b0 below args s hs res) (k_X7_boxAct_94 b0 k) 94 := by
  unfold k_X7_boxAct_94
  refine s_istore dX7_boxAct_94 (by decide) ?_
  refine s_aload_n dX7_boxAct_96 rfl ?_
  refine s_getR (Tb := TX7) rfl inX7 (by decide) w_493 dX7_boxAct_97 ?_
  refine s_iload_n dX7_boxAct_100 rfl ?_
  refine s_ial dX7_boxAct_101 ?_
  refine s_iconst dX7_boxAct_102 (by decide) ?_
  refine s_iload dX7_boxAct_103 ?_
  refine s_isub dX7_boxAct_105 ?_
  refine s_c2ne (tgt := 111) dX7_boxAct_106 (by decide) ?_ ?_
  · refine s_aload_n dX7_boxAct_111 rfl ?_
    refine s_getR (Tb := TX7) rfl inX7 (by decide) w_493 dX7_boxAct_112 ?_
    refine s_iload_n dX7_boxAct_115 rfl ?_
    refine s_ial dX7_boxAct_116 ?_
    refine s_bipush dX7_boxAct_117 (by decide) ?_
    refine s_c2ne (tgt := 124) dX7_boxAct_119 (by decide) ?_ ?_
    · refine s_iload_n dX7_boxAct_124 rfl ?_
      refine s_iconst dX7_boxAct_125 (by decide) ?_
      refine s_iconst dX7_boxAct_126 (by decide) ?_
      refine s_callS (m_X7_in l D cA b0) w_597 w_598 w_29 w_599 ⟨rfl, by decide, by decide, by decide +kernel⟩ (by decide) dX7_boxAct_127 ?_
      refine s_c1ne (tgt := 135) dX7_boxAct_130 (by decide) ?_ ?_
      · refine s_iload_n dX7_boxAct_135 rfl ?_
        refine s_bipush dX7_boxAct_136 (by decide) ?_
        refine s_c2ne (tgt := 156) dX7_boxAct_138 (by decide) ?_ ?_
        · refine s_iload_n dX7_boxAct_156 rfl ?_
          refine s_bipush dX7_boxAct_157 (by decide) ?_
          refine s_c2ne (tgt := 181) dX7_boxAct_159 (by decide) ?_ ?_
          · refine s_aload_n dX7_boxAct_181 rfl ?_
            refine s_getR (Tb := TX7) rfl inX7 (by decide) w_494 dX7_boxAct_182 ?_
            refine s_iconst dX7_boxAct_185 (by decide) ?_
            refine s_iload_n dX7_boxAct_186 rfl ?_
            refine s_imul dX7_boxAct_187 ?_
            refine s_iload_n dX7_boxAct_188 rfl ?_
            refine s_iadd dX7_boxAct_189 ?_
            refine s_ial dX7_boxAct_190 ?_
            refine s_istore dX7_boxAct_191 (by decide) ?_
            refine s_iload dX7_boxAct_193 ?_
            refine s_bipush dX7_boxAct_195 (by decide) ?_
            refine s_c2ne (tgt := 202) dX7_boxAct_197 (by decide) ?_ ?_
            · refine s_aload_n dX7_boxAct_202 rfl ?_
              refine s_getR (Tb := TX7) rfl inX7 (by decide) w_486 dX7_boxAct_203 ?_
              refine s_iload_n dX7_boxAct_206 rfl ?_
              refine s_dup2 dX7_boxAct_207 ?_
              refine s_ial dX7_boxAct_208 ?_
              refine s_aload_n dX7_boxAct_209 rfl ?_
              refine s_getR (Tb := TX7) rfl inX7 (by decide) w_486 dX7_boxAct_210 ?_
              refine s_iload dX7_boxAct_213 ?_
              refine s_ial dX7_boxAct_215 ?_
              refine s_iadd dX7_boxAct_216 ?_
              refine s_ias dX7_boxAct_217 ?_
              refine s_iconst dX7_boxAct_218 (by decide) ?_
              exact s_retI rfl dX7_boxAct_219
            · refine s_iconst dX7_boxAct_200 (by decide) ?_
              exact s_retI rfl dX7_boxAct_201
          · refine s_aload_n dX7_boxAct_162 rfl ?_
            refine s_getR (Tb := TX7) rfl inX7 (by decide) w_494 dX7_boxAct_163 ?_
            refine s_iconst dX7_boxAct_166 (by decide) ?_
            refine s_iload_n dX7_boxAct_167 rfl ?_
            refine s_imul dX7_boxAct_168 ?_
            refine s_iload_n dX7_boxAct_169 rfl ?_
            refine s_iadd dX7_boxAct_170 ?_
            refine s_aload_n dX7_boxAct_171 rfl ?_
            refine s_getR (Tb := TX7) rfl inX7 (by decide) w_486 dX7_boxAct_172 ?_
            refine s_iload_n dX7_boxAct_175 rfl ?_
            refine s_ial dX7_boxAct_176 ?_
            refine s_ias dX7_boxAct_177 ?_
            refine s_goto (tgt := 218) dX7_boxAct_178 (by decide) ?_
            refine s_iconst dX7_boxAct_218 (by decide) ?_
            exact s_retI rfl dX7_boxAct_219
        · refine s_aload_n dX7_boxAct_141 rfl ?_
          refine s_getR (Tb := TX7) rfl inX7 (by decide) w_494 dX7_boxAct_142 ?_
          refine s_iconst dX7_boxAct_145 (by decide) ?_
          refine s_iload_n dX7_boxAct_146 rfl ?_
          refine s_imul dX7_boxAct_147 ?_
          refine s_iload_n dX7_boxAct_148 rfl ?_
          refine s_iadd dX7_boxAct_149 ?_
          refine s_iload dX7_boxAct_150 ?_
          refine s_ias dX7_boxAct_152 ?_
          refine s_goto (tgt := 218) dX7_boxAct_153 (by decide) ?_
          refine s_iconst dX7_boxAct_218 (by decide) ?_
          exact s_retI rfl dX7_boxAct_219
      · refine s_iconst dX7_boxAct_133 (by decide) ?_
        exact s_retI rfl dX7_boxAct_134
    · refine s_iconst dX7_boxAct_122 (by decide) ?_
      exact s_retI rfl dX7_boxAct_123
  · refine s_iconst dX7_boxAct_109 (by decide) ?_
    exact s_retI rfl dX7_boxAct_110
set_option maxRecDepth 20000 in
theorem t_X7_boxAct_83 (k : Nat → xK) (hk0 : xS p l e R s m args below meth c cX7_boxAct 7 (some .int) yX7_boxAct.cls yX7_boxAct.name 2 43 D cA b0 hs res (xMQ D cA b0 below args s hs res) (k 0) 30) : xS p l e R s m args below meth c cX7_boxAct 7 (some .int) yX7_boxAct.cls yX7_boxAct.name 2 43 D cA b0 hs res (xMQ D cA b0 below args s hs res) (k_X7_boxAct_83 b0 k) 83 := by
  unfold k_X7_boxAct_83
  refine s_iload_n dX7_boxAct_83 rfl ?_
  refine s_bipush dX7_boxAct_84 (by decide) ?_
  refine s_c2ne (tgt := 93) dX7_boxAct_86 (by decide) ?_ ?_
  · refine s_iconst dX7_boxAct_93 (by decide) ?_
    exact t_X7_boxAct_94 k hk0
  · refine s_iconst dX7_boxAct_89 (by decide) ?_
    refine s_goto (tgt := 94) dX7_boxAct_90 (by decide) ?_
    exact t_X7_boxAct_94 k hk0
set_option maxRecDepth 20000 in
theorem t_X7_boxAct_20 (k : Nat → xK) (hk0 : xS p l e R s m args below meth c cX7_boxAct 7 (some .int) yX7_boxAct.cls yX7_boxAct.name 2 43 D cA b0 hs res (xMQ D cA b0 below args s hs res) (k 0) 30) : xS p l e R s m args below meth c cX7_boxAct 7 (some .int) yX7_boxAct.cls yX7_boxAct.name 2 43 D cA b0 hs res (xMQ D cA b0 below args s hs res) (k_X7_boxAct_20 b0 k) 20 := by
  unfold k_X7_boxAct_20
  refine s_iload_n dX7_boxAct_20 rfl ?_
  refine s_goto (tgt := 26) dX7_boxAct_21 (by decide) ?_
  refine s_ias dX7_boxAct_26 ?_
  refine s_iconst dX7_boxAct_27 (by decide) ?_
  refine s_istore dX7_boxAct_28 (by decide) ?_
  exact hk0
set_option maxRecDepth 20000 in
theorem t_X7_boxAct_0 (k : Nat → xK) (hk0 : xS p l e R s m args below meth c cX7_boxAct 7 (some .int) yX7_boxAct.cls yX7_boxAct.name 2 43 D cA b0 hs res (xMQ D cA b0 below args s hs res) (k 0) 30) : xS p l e R s m args below meth c cX7_boxAct 7 (some .int) yX7_boxAct.cls yX7_boxAct.name 2 43 D cA b0 hs res (xMQ D cA b0 below args s hs res) (k_X7_boxAct_0 b0 k) 0 := by
  unfold k_X7_boxAct_0
  refine s_iload_n dX7_boxAct_0 rfl ?_
  refine s_bipush dX7_boxAct_1 (by decide) ?_
  refine s_c2ne (tgt := 66) dX7_boxAct_3 (by decide) ?_ ?_
  · refine s_iload_n dX7_boxAct_66 rfl ?_
    refine s_bipush dX7_boxAct_67 (by decide) ?_
    refine s_c2ne (tgt := 83) dX7_boxAct_69 (by decide) ?_ ?_
    · exact t_X7_boxAct_83 k hk0
    · refine s_aload_n dX7_boxAct_72 rfl ?_
      refine s_iload dX7_boxAct_73 ?_
      refine s_callV (Tb := TX7) (m_X7_isTask l D cA b0) rfl w_604 w_606 w_12 w_29 w_607 ⟨rfl, by decide, by decide, by decide +kernel⟩ (by decide) dX7_boxAct_75 ?_
      refine s_c1ne (tgt := 83) dX7_boxAct_78 (by decide) ?_ ?_
      · exact t_X7_boxAct_83 k hk0
      · refine s_iconst dX7_boxAct_81 (by decide) ?_
        exact s_retI rfl dX7_boxAct_82
  · refine s_aload_n dX7_boxAct_6 rfl ?_
    refine s_getR (Tb := TX7) rfl inX7 (by decide) w_493 dX7_boxAct_7 ?_
    refine s_iload_n dX7_boxAct_10 rfl ?_
    refine s_iload_n dX7_boxAct_11 rfl ?_
    refine s_c1eq (tgt := 20) dX7_boxAct_12 (by decide) ?_ ?_
    · exact t_X7_boxAct_20 k hk0
    · refine s_iload_n dX7_boxAct_15 rfl ?_
      refine s_iconst dX7_boxAct_16 (by decide) ?_
      refine s_c2ne (tgt := 24) dX7_boxAct_17 (by decide) ?_ ?_
      · refine s_bipush dX7_boxAct_24 (by decide) ?_
        refine s_ias dX7_boxAct_26 ?_
        refine s_iconst dX7_boxAct_27 (by decide) ?_
        refine s_istore dX7_boxAct_28 (by decide) ?_
        exact hk0
      · exact t_X7_boxAct_20 k hk0
set_option maxRecDepth 20000 in
theorem t_X7_boxAct_30 (k : Nat → xK) (hk0 : xS p l e R s m args below meth c cX7_boxAct 7 (some .int) yX7_boxAct.cls yX7_boxAct.name 2 43 D cA b0 hs res (xMQ D cA b0 below args s hs res) (k 0) 30) : xS p l e R s m args below meth c cX7_boxAct 7 (some .int) yX7_boxAct.cls yX7_boxAct.name 2 43 D cA b0 hs res (xMQ D cA b0 below args s hs res) (k_X7_boxAct_30 b0 k) 30 := by
  unfold k_X7_boxAct_30
  refine s_iload dX7_boxAct_30 ?_
  refine s_iconst dX7_boxAct_32 (by decide) ?_
  refine s_c2ge (tgt := 64) dX7_boxAct_33 (by decide) ?_ ?_
  · refine s_iconst dX7_boxAct_64 (by decide) ?_
    exact s_retI rfl dX7_boxAct_65
  · refine s_aload_n dX7_boxAct_36 rfl ?_
    refine s_getR (Tb := TX7) rfl inX7 (by decide) w_494 dX7_boxAct_37 ?_
    refine s_iconst dX7_boxAct_40 (by decide) ?_
    refine s_iload_n dX7_boxAct_41 rfl ?_
    refine s_imul dX7_boxAct_42 ?_
    refine s_iload dX7_boxAct_43 ?_
    refine s_iadd dX7_boxAct_45 ?_
    refine s_iload_n dX7_boxAct_46 rfl ?_
    refine s_iconst dX7_boxAct_47 (by decide) ?_
    refine s_c2ne (tgt := 56) dX7_boxAct_48 (by decide) ?_ ?_
    · refine s_iconst dX7_boxAct_56 (by decide) ?_
      refine s_ias dX7_boxAct_57 ?_
      refine s_iinc dX7_boxAct_58 (by decide) (by decide) ?_
      refine s_goto (tgt := 30) dX7_boxAct_61 (by decide) ?_
      exact hk0
    · refine s_bipush dX7_boxAct_51 (by decide) ?_
      refine s_goto (tgt := 57) dX7_boxAct_53 (by decide) ?_
      refine s_ias dX7_boxAct_57 ?_
      refine s_iinc dX7_boxAct_58 (by decide) (by decide) ?_
      refine s_goto (tgt := 30) dX7_boxAct_61 (by decide) ?_
      exact hk0
theorem t_X7_boxAct_r (n : Nat) : xS p l e R s m args below meth c cX7_boxAct 7 (some .int) yX7_boxAct.cls yX7_boxAct.name 2 43 D cA b0 hs res (xMQ D cA b0 below args s hs res) (r_X7_boxAct b0 n 0) 30 := by
  induction n with
  | zero => exact fun ls st h hT => by cases hT
  | succ n ih => exact t_X7_boxAct_30 (r_X7_boxAct b0 n) ih
theorem m_X7_boxAct (l : Launch) (D : va_G) (cA : Nat → ClassId) (b0 : Nat) : xMet l D cA b0 yX7_boxAct (.code yX7_boxAct cX7_boxAct 7 (some .int) :: xTB) 2 43 (f_X7_boxAct b0) :=
  xMet_of (n := 5) (by decide +kernel) (by decide) (fun p e R s m args below meth c hs res => t_X7_boxAct_0 (r_X7_boxAct b0 64) (t_X7_boxAct_r 64))
end M_X7_boxAct
section M_X7_copyAct
variable {p : Program} {l : Launch} {e : Env} {R : Room} {s : State} {m : MethodId} {args : Array Value} {below : List Frame} {meth : Method} {c : Code} {D : va_G} {cA : Nat → ClassId} {b0 : Nat} {hs : xH} {res : Option xV × xH}
set_option maxRecDepth 20000 in
theorem t_X7_copyAct_0 (k : Nat → xK) (hk0 : xS p l e R s m args below meth c cX7_copyAct 4 (some .int) yX7_copyAct.cls yX7_copyAct.name 0 0 D cA b0 hs res (xMQ D cA b0 below args s hs res) (k 0) 59) : xS p l e R s m args below meth c cX7_copyAct 4 (some .int) yX7_copyAct.cls yX7_copyAct.name 0 0 D cA b0 hs res (xMQ D cA b0 below args s hs res) (k_X7_copyAct_0 b0 k) 0 := by
  unfold k_X7_copyAct_0
  refine s_aload_n dX7_copyAct_0 rfl ?_
  refine s_getR (Tb := TX7) rfl inX7 (by decide) w_487 dX7_copyAct_1 ?_
  refine s_iload_n dX7_copyAct_4 rfl ?_
  refine s_ial dX7_copyAct_5 ?_
  refine s_bipush dX7_copyAct_6 (by decide) ?_
  refine s_c2eq (tgt := 22) dX7_copyAct_8 (by decide) ?_ ?_
  · refine s_iconst dX7_copyAct_22 (by decide) ?_
    exact s_retI rfl dX7_copyAct_23
  · refine s_aload_n dX7_copyAct_11 rfl ?_
    refine s_getR (Tb := TX7) rfl inX7 (by decide) w_493 dX7_copyAct_12 ?_
    refine s_iload_n dX7_copyAct_15 rfl ?_
    refine s_ial dX7_copyAct_16 ?_
    refine s_bipush dX7_copyAct_17 (by decide) ?_
    refine s_c2ne (tgt := 24) dX7_copyAct_19 (by decide) ?_ ?_
    · refine s_aload_n dX7_copyAct_24 rfl ?_
      refine s_getR (Tb := TX7) rfl inX7 (by decide) w_493 dX7_copyAct_25 ?_
      refine s_iload_n dX7_copyAct_28 rfl ?_
      refine s_ial dX7_copyAct_29 ?_
      refine s_iconst dX7_copyAct_30 (by decide) ?_
      refine s_c2ne (tgt := 36) dX7_copyAct_31 (by decide) ?_ ?_
      · refine s_iload_n dX7_copyAct_36 rfl ?_
        refine s_c1lt (tgt := 55) dX7_copyAct_37 (by decide) ?_ ?_
        · refine s_iconst dX7_copyAct_55 (by decide) ?_
          exact s_retI rfl dX7_copyAct_56
        · refine s_iload_n dX7_copyAct_40 rfl ?_
          refine s_iconst dX7_copyAct_41 (by decide) ?_
          refine s_c2gt (tgt := 55) dX7_copyAct_42 (by decide) ?_ ?_
          · refine s_iconst dX7_copyAct_55 (by decide) ?_
            exact s_retI rfl dX7_copyAct_56
          · refine s_iload_n dX7_copyAct_45 rfl ?_
            refine s_aload_n dX7_copyAct_46 rfl ?_
            refine s_getR (Tb := TX7) rfl inX7 (by decide) w_487 dX7_copyAct_47 ?_
            refine s_iload_n dX7_copyAct_50 rfl ?_
            refine s_ial dX7_copyAct_51 ?_
            refine s_c2le (tgt := 57) dX7_copyAct_52 (by decide) ?_ ?_
            · refine s_iconst dX7_copyAct_57 (by decide) ?_
              refine s_istore_n dX7_copyAct_58 rfl (by decide) ?_
              exact hk0
            · refine s_iconst dX7_copyAct_55 (by decide) ?_
              exact s_retI rfl dX7_copyAct_56
      · refine s_iconst dX7_copyAct_34 (by decide) ?_
        exact s_retI rfl dX7_copyAct_35
    · refine s_iconst dX7_copyAct_22 (by decide) ?_
      exact s_retI rfl dX7_copyAct_23
set_option maxRecDepth 20000 in
theorem t_X7_copyAct_59 (k : Nat → xK) (hk0 : xS p l e R s m args below meth c cX7_copyAct 4 (some .int) yX7_copyAct.cls yX7_copyAct.name 0 0 D cA b0 hs res (xMQ D cA b0 below args s hs res) (k 0) 59) : xS p l e R s m args below meth c cX7_copyAct 4 (some .int) yX7_copyAct.cls yX7_copyAct.name 0 0 D cA b0 hs res (xMQ D cA b0 below args s hs res) (k_X7_copyAct_59 b0 k) 59 := by
  unfold k_X7_copyAct_59
  refine s_iload_n dX7_copyAct_59 rfl ?_
  refine s_iload_n dX7_copyAct_60 rfl ?_
  refine s_c2ge (tgt := 91) dX7_copyAct_61 (by decide) ?_ ?_
  · refine s_iconst dX7_copyAct_91 (by decide) ?_
    exact s_retI rfl dX7_copyAct_92
  · refine s_aload_n dX7_copyAct_64 rfl ?_
    refine s_getR (Tb := TX7) rfl inX7 (by decide) w_494 dX7_copyAct_65 ?_
    refine s_iconst dX7_copyAct_68 (by decide) ?_
    refine s_iload_n dX7_copyAct_69 rfl ?_
    refine s_imul dX7_copyAct_70 ?_
    refine s_iload_n dX7_copyAct_71 rfl ?_
    refine s_iadd dX7_copyAct_72 ?_
    refine s_aload_n dX7_copyAct_73 rfl ?_
    refine s_getR (Tb := TX7) rfl inX7 (by decide) w_488 dX7_copyAct_74 ?_
    refine s_bipush dX7_copyAct_77 (by decide) ?_
    refine s_iload_n dX7_copyAct_79 rfl ?_
    refine s_imul dX7_copyAct_80 ?_
    refine s_iload_n dX7_copyAct_81 rfl ?_
    refine s_iadd dX7_copyAct_82 ?_
    refine s_ial dX7_copyAct_83 ?_
    refine s_ias dX7_copyAct_84 ?_
    refine s_iinc dX7_copyAct_85 (by decide) (by decide) ?_
    refine s_goto (tgt := 59) dX7_copyAct_88 (by decide) ?_
    exact hk0
theorem t_X7_copyAct_r (n : Nat) : xS p l e R s m args below meth c cX7_copyAct 4 (some .int) yX7_copyAct.cls yX7_copyAct.name 0 0 D cA b0 hs res (xMQ D cA b0 below args s hs res) (r_X7_copyAct b0 n 0) 59 := by
  induction n with
  | zero => exact fun ls st h hT => by cases hT
  | succ n ih => exact t_X7_copyAct_59 (r_X7_copyAct b0 n) ih
theorem m_X7_copyAct (l : Launch) (D : va_G) (cA : Nat → ClassId) (b0 : Nat) : xMet l D cA b0 yX7_copyAct (.code yX7_copyAct cX7_copyAct 4 (some .int) :: xTB) 0 0 (f_X7_copyAct b0) :=
  xMet_of (n := 3) (by decide +kernel) (by decide) (fun p e R s m args below meth c hs res => t_X7_copyAct_0 (r_X7_copyAct b0 64) (t_X7_copyAct_r 64))
end M_X7_copyAct
section M_X7_simple
variable {p : Program} {l : Launch} {e : Env} {R : Room} {s : State} {m : MethodId} {args : Array Value} {below : List Frame} {meth : Method} {c : Code} {D : va_G} {cA : Nat → ClassId} {b0 : Nat} {hs : xH} {res : Option xV × xH}
set_option maxRecDepth 20000 in
theorem t_X7_simple_140  : xS p l e R s m args below meth c cX7_simple 6 (some .int) yX7_simple.cls yX7_simple.name 3 69 D cA b0 hs res (xMQ D cA b0 below args s hs res) (k_X7_simple_140 b0) 140 := by
  unfold k_X7_simple_140
  refine s_iadd dX7_simple_140 ?_
  refine s_ias dX7_simple_141 ?_
  refine s_iconst dX7_simple_142 (by decide) ?_
  exact s_retI rfl dX7_simple_143
set_option maxRecDepth 20000 in
theorem t_X7_simple_131  : xS p l e R s m args below meth c cX7_simple 6 (some .int) yX7_simple.cls yX7_simple.name 3 69 D cA b0 hs res (xMQ D cA b0 below args s hs res) (k_X7_simple_131 b0) 131 := by
  unfold k_X7_simple_131
  refine s_iconst dX7_simple_131 (by decide) ?_
  refine s_iload dX7_simple_132 ?_
  refine s_imul dX7_simple_134 ?_
  refine s_goto (tgt := 140) dX7_simple_135 (by decide) ?_
  exact t_X7_simple_140
set_option maxRecDepth 20000 in
theorem t_X7_simple_104  : xS p l e R s m args below meth c cX7_simple 6 (some .int) yX7_simple.cls yX7_simple.name 3 69 D cA b0 hs res (xMQ D cA b0 below args s hs res) (k_X7_simple_104 b0) 104 := by
  unfold k_X7_simple_104
  refine s_aload_n dX7_simple_104 rfl ?_
  refine s_getR (Tb := TX7) rfl inX7 (by decide) w_486 dX7_simple_105 ?_
  refine s_iload_n dX7_simple_108 rfl ?_
  refine s_dup2 dX7_simple_109 ?_
  refine s_ial dX7_simple_110 ?_
  refine s_aload_n dX7_simple_111 rfl ?_
  refine s_getR (Tb := TX7) rfl inX7 (by decide) w_477 dX7_simple_112 ?_
  refine s_iload_n dX7_simple_115 rfl ?_
  refine s_ial dX7_simple_116 ?_
  refine s_iconst dX7_simple_117 (by decide) ?_
  refine s_c2eq (tgt := 131) dX7_simple_118 (by decide) ?_ ?_
  · exact t_X7_simple_131
  · refine s_aload_n dX7_simple_121 rfl ?_
    refine s_getR (Tb := TX7) rfl inX7 (by decide) w_477 dX7_simple_122 ?_
    refine s_iload_n dX7_simple_125 rfl ?_
    refine s_ial dX7_simple_126 ?_
    refine s_iconst dX7_simple_127 (by decide) ?_
    refine s_c2ne (tgt := 138) dX7_simple_128 (by decide) ?_ ?_
    · refine s_iload dX7_simple_138 ?_
      exact t_X7_simple_140
    · exact t_X7_simple_131
set_option maxRecDepth 20000 in
theorem t_X7_simple_144  : xS p l e R s m args below meth c cX7_simple 6 (some .int) yX7_simple.cls yX7_simple.name 3 69 D cA b0 hs res (xMQ D cA b0 below args s hs res) (k_X7_simple_144 b0) 144 := by
  unfold k_X7_simple_144
  refine s_iload dX7_simple_144 ?_
  refine s_c1ne (tgt := 152) dX7_simple_146 (by decide) ?_ ?_
  · refine s_aload_n dX7_simple_152 rfl ?_
    refine s_getR (Tb := TX7) rfl inX7 (by decide) w_486 dX7_simple_153 ?_
    refine s_iload_n dX7_simple_156 rfl ?_
    refine s_aload_n dX7_simple_157 rfl ?_
    refine s_getR (Tb := TX7) rfl inX7 (by decide) w_486 dX7_simple_158 ?_
    refine s_iload_n dX7_simple_161 rfl ?_
    refine s_ial dX7_simple_162 ?_
    refine s_iload dX7_simple_163 ?_
    refine s_idiv dX7_simple_165 ?_
    refine s_ias dX7_simple_166 ?_
    refine s_iconst dX7_simple_167 (by decide) ?_
    exact s_retI rfl dX7_simple_168
  · refine s_bipush dX7_simple_149 (by decide) ?_
    exact s_retI rfl dX7_simple_151
set_option maxRecDepth 20000 in
theorem t_X7_simple_169  : xS p l e R s m args below meth c cX7_simple 6 (some .int) yX7_simple.cls yX7_simple.name 3 69 D cA b0 hs res (xMQ D cA b0 below args s hs res) (k_X7_simple_169 b0) 169 := by
  unfold k_X7_simple_169
  refine s_aload_n dX7_simple_169 rfl ?_
  refine s_iload_n dX7_simple_170 rfl ?_
  refine s_iload_n dX7_simple_171 rfl ?_
  refine s_iload dX7_simple_172 ?_
  refine s_callV (Tb := TX7) (m_X7_rowAct l D cA b0) rfl w_636 w_638 w_18 w_29 w_639 ⟨rfl, by decide, by decide, by decide +kernel⟩ (by decide) dX7_simple_174 ?_
  exact s_retI rfl dX7_simple_177
set_option maxRecDepth 20000 in
theorem t_X7_simple_178  : xS p l e R s m args below meth c cX7_simple 6 (some .int) yX7_simple.cls yX7_simple.name 3 69 D cA b0 hs res (xMQ D cA b0 below args s hs res) (k_X7_simple_178 b0) 178 := by
  unfold k_X7_simple_178
  refine s_aload_n dX7_simple_178 rfl ?_
  refine s_iload_n dX7_simple_179 rfl ?_
  refine s_callV (Tb := TX7) (m_X7_takeAct l D cA b0) rfl w_640 w_642 w_19 w_29 w_643 ⟨rfl, by decide, by decide, by decide +kernel⟩ (by decide) dX7_simple_180 ?_
  exact s_retI rfl dX7_simple_183
set_option maxRecDepth 20000 in
theorem t_X7_simple_184  : xS p l e R s m args below meth c cX7_simple 6 (some .int) yX7_simple.cls yX7_simple.name 3 69 D cA b0 hs res (xMQ D cA b0 below args s hs res) (k_X7_simple_184 b0) 184 := by
  unfold k_X7_simple_184
  refine s_aload_n dX7_simple_184 rfl ?_
  refine s_iload_n dX7_simple_185 rfl ?_
  refine s_iload dX7_simple_186 ?_
  refine s_iload dX7_simple_188 ?_
  refine s_callV (Tb := TX7) (m_X7_sendAct l D cA b0) rfl w_644 w_646 w_20 w_29 w_647 ⟨rfl, by decide, by decide, by decide +kernel⟩ (by decide) dX7_simple_190 ?_
  exact s_retI rfl dX7_simple_193
set_option maxRecDepth 20000 in
theorem t_X7_simple_194  : xS p l e R s m args below meth c cX7_simple 6 (some .int) yX7_simple.cls yX7_simple.name 3 69 D cA b0 hs res (xMQ D cA b0 below args s hs res) (k_X7_simple_194 b0) 194 := by
  unfold k_X7_simple_194
  refine s_aload_n dX7_simple_194 rfl ?_
  refine s_iload dX7_simple_195 ?_
  refine s_c1le (tgt := 205) dX7_simple_197 (by decide) ?_ ?_
  · refine s_aload_n dX7_simple_205 rfl ?_
    refine s_getI (Tb := TX7) rfl inX7 (by decide) w_512 dX7_simple_206 ?_
    refine s_putI (Tb := TX7) rfl inX7 (by decide) w_512 tyX7 tyX7_ok nmX7 rfl rfl dX7_simple_209 ?_
    refine s_iconst dX7_simple_212 (by decide) ?_
    exact s_retI rfl dX7_simple_213
  · refine s_iload dX7_simple_200 ?_
    refine s_goto (tgt := 209) dX7_simple_202 (by decide) ?_
    refine s_putI (Tb := TX7) rfl inX7 (by decide) w_512 tyX7 tyX7_ok nmX7 rfl rfl dX7_simple_209 ?_
    refine s_iconst dX7_simple_212 (by decide) ?_
    exact s_retI rfl dX7_simple_213
set_option maxRecDepth 20000 in
theorem t_X7_simple_214  : xS p l e R s m args below meth c cX7_simple 6 (some .int) yX7_simple.cls yX7_simple.name 3 69 D cA b0 hs res (xMQ D cA b0 below args s hs res) (k_X7_simple_214 b0) 214 := by
  unfold k_X7_simple_214
  refine s_aload_n dX7_simple_214 rfl ?_
  refine s_iload_n dX7_simple_215 rfl ?_
  refine s_callV (Tb := TX7) (m_X7_mark l D cA b0) rfl w_651 w_653 w_21 w_29 w_654 ⟨rfl, by decide, by decide, by decide +kernel⟩ (by decide) dX7_simple_216 ?_
  refine s_iconst dX7_simple_219 (by decide) ?_
  exact s_retI rfl dX7_simple_220
set_option maxRecDepth 20000 in
theorem t_X7_simple_247  : xS p l e R s m args below meth c cX7_simple 6 (some .int) yX7_simple.cls yX7_simple.name 3 69 D cA b0 hs res (xMQ D cA b0 below args s hs res) (k_X7_simple_247 b0) 247 := by
  unfold k_X7_simple_247
  refine s_aload_n dX7_simple_247 rfl ?_
  refine s_iload_n dX7_simple_248 rfl ?_
  refine s_iload_n dX7_simple_249 rfl ?_
  refine s_iload dX7_simple_250 ?_
  refine s_iload dX7_simple_252 ?_
  refine s_callV (Tb := TX7) (m_X7_boxAct l D cA b0) rfl w_659 w_661 w_23 w_29 w_662 ⟨rfl, by decide, by decide, by decide +kernel⟩ (by decide) dX7_simple_254 ?_
  exact s_retI rfl dX7_simple_257
set_option maxRecDepth 20000 in
theorem t_X7_simple_221  : xS p l e R s m args below meth c cX7_simple 6 (some .int) yX7_simple.cls yX7_simple.name 3 69 D cA b0 hs res (xMQ D cA b0 below args s hs res) (k_X7_simple_221 b0) 221 := by
  unfold k_X7_simple_221
  refine s_aload_n dX7_simple_221 rfl ?_
  refine s_getR (Tb := TX7) rfl inX7 (by decide) w_486 dX7_simple_222 ?_
  refine s_iload_n dX7_simple_225 rfl ?_
  refine s_ial dX7_simple_226 ?_
  refine s_iload dX7_simple_227 ?_
  refine s_c2ge (tgt := 237) dX7_simple_229 (by decide) ?_ ?_
  · refine s_iconst dX7_simple_237 (by decide) ?_
    exact s_retI rfl dX7_simple_238
  · refine s_bipush dX7_simple_232 (by decide) ?_
    refine s_goto (tgt := 238) dX7_simple_234 (by decide) ?_
    exact s_retI rfl dX7_simple_238
set_option maxRecDepth 20000 in
theorem t_X7_simple_239  : xS p l e R s m args below meth c cX7_simple 6 (some .int) yX7_simple.cls yX7_simple.name 3 69 D cA b0 hs res (xMQ D cA b0 below args s hs res) (k_X7_simple_239 b0) 239 := by
  unfold k_X7_simple_239
  refine s_aload_n dX7_simple_239 rfl ?_
  refine s_iload_n dX7_simple_240 rfl ?_
  refine s_iload dX7_simple_241 ?_
  refine s_callV (Tb := TX7) (m_X7_copyAct l D cA b0) rfl w_655 w_657 w_22 w_29 w_658 ⟨rfl, by decide, by decide, by decide +kernel⟩ (by decide) dX7_simple_243 ?_
  exact s_retI rfl dX7_simple_246
set_option maxRecDepth 20000 in
theorem t_X7_simple_0  : xS p l e R s m args below meth c cX7_simple 6 (some .int) yX7_simple.cls yX7_simple.name 3 69 D cA b0 hs res (xMQ D cA b0 below args s hs res) (k_X7_simple_0 b0) 0 := by
  unfold k_X7_simple_0
  refine s_aload_n dX7_simple_0 rfl ?_
  refine s_getR (Tb := TX7) rfl inX7 (by decide) w_482 dX7_simple_1 ?_
  refine s_iload_n dX7_simple_4 rfl ?_
  refine s_ial dX7_simple_5 ?_
  refine s_istore_n dX7_simple_6 rfl (by decide) ?_
  refine s_aload_n dX7_simple_7 rfl ?_
  refine s_getR (Tb := TX7) rfl inX7 (by decide) w_483 dX7_simple_8 ?_
  refine s_iload_n dX7_simple_11 rfl ?_
  refine s_ial dX7_simple_12 ?_
  refine s_istore dX7_simple_13 (by decide) ?_
  refine s_aload_n dX7_simple_15 rfl ?_
  refine s_getR (Tb := TX7) rfl inX7 (by decide) w_484 dX7_simple_16 ?_
  refine s_iload_n dX7_simple_19 rfl ?_
  refine s_ial dX7_simple_20 ?_
  refine s_istore dX7_simple_21 (by decide) ?_
  refine s_iload_n dX7_simple_23 rfl ?_
  refine s_tab (tg := st_X7_simple_24) (dt := 247) dX7_simple_24 (by decide) (by decide) ?_ ?_ (t_X7_simple_247)
  · intro j hj
    match j, hj with
    | 0, _ => exact ⟨80, rfl, by decide⟩
    | 1, _ => exact ⟨120, rfl, by decide⟩
    | 2, _ => exact ⟨145, rfl, by decide⟩
    | 3, _ => exact ⟨145, rfl, by decide⟩
    | 4, _ => exact ⟨145, rfl, by decide⟩
    | 5, _ => exact ⟨154, rfl, by decide⟩
    | 6, _ => exact ⟨160, rfl, by decide⟩
    | 7, _ => exact ⟨170, rfl, by decide⟩
    | 8, _ => exact ⟨190, rfl, by decide⟩
    | 9, _ => exact ⟨223, rfl, by decide⟩
    | 10, _ => exact ⟨223, rfl, by decide⟩
    | 11, _ => exact ⟨223, rfl, by decide⟩
    | 12, _ => exact ⟨223, rfl, by decide⟩
    | 13, _ => exact ⟨223, rfl, by decide⟩
    | 14, _ => exact ⟨197, rfl, by decide⟩
    | 15, _ => exact ⟨215, rfl, by decide⟩
    | q + 16, hj => exact absurd hj (by omega)
  · intro j hj
    match j, hj with
    | 0, _ => exact t_X7_simple_104
    | 1, _ => exact t_X7_simple_144
    | 2, _ => exact t_X7_simple_169
    | 3, _ => exact t_X7_simple_169
    | 4, _ => exact t_X7_simple_169
    | 5, _ => exact t_X7_simple_178
    | 6, _ => exact t_X7_simple_184
    | 7, _ => exact t_X7_simple_194
    | 8, _ => exact t_X7_simple_214
    | 9, _ => exact t_X7_simple_247
    | 10, _ => exact t_X7_simple_247
    | 11, _ => exact t_X7_simple_247
    | 12, _ => exact t_X7_simple_247
    | 13, _ => exact t_X7_simple_247
    | 14, _ => exact t_X7_simple_221
    | 15, _ => exact t_X7_simple_239
    | q + 16, hj => exact absurd hj (by omega)
theorem m_X7_simple (l : Launch) (D : va_G) (cA : Nat → ClassId) (b0 : Nat) : xMet l D cA b0 yX7_simple (.code yX7_simple cX7_simple 6 (some .int) :: xTB) 3 69 (f_X7_simple b0) :=
  xMet_of (n := 3) (by decide +kernel) (by decide) (fun p e R s m args below meth c hs res => t_X7_simple_0)
end M_X7_simple
section M_X7_guard
variable {p : Program} {l : Launch} {e : Env} {R : Room} {s : State} {m : MethodId} {args : Array Value} {below : List Frame} {meth : Method} {c : Code} {D : va_G} {cA : Nat → ClassId} {b0 : Nat} {hs : xH} {res : Option xV × xH}
set_option maxRecDepth 20000 in
theorem t_X7_guard_0 (k : Nat → xK) (hk0 : xS p l e R s m args below meth c cX7_guard 6 (some .int) yX7_guard.cls yX7_guard.name 4 94 D cA b0 hs res (xMQ D cA b0 below args s hs res) (k 0) 10) : xS p l e R s m args below meth c cX7_guard 6 (some .int) yX7_guard.cls yX7_guard.name 4 94 D cA b0 hs res (xMQ D cA b0 below args s hs res) (k_X7_guard_0 b0 k) 0 := by
  unfold k_X7_guard_0
  refine s_iconst dX7_guard_0 (by decide) ?_
  refine s_istore_n dX7_guard_1 rfl (by decide) ?_
  refine s_aload_n dX7_guard_2 rfl ?_
  refine s_iconst dX7_guard_3 (by decide) ?_
  refine s_putZ (Tb := TX7) rfl inX7 (by decide) w_513 tyX7 tyX7_ok nmX7 rfl rfl dX7_guard_4 ?_
  refine s_iconst dX7_guard_7 (by decide) ?_
  refine s_istore dX7_guard_8 (by decide) ?_
  exact hk0
set_option maxRecDepth 20000 in
theorem t_X7_guard_107 (k : Nat → xK) (hk0 : xS p l e R s m args below meth c cX7_guard 6 (some .int) yX7_guard.cls yX7_guard.name 4 94 D cA b0 hs res (xMQ D cA b0 below args s hs res) (k 0) 10) : xS p l e R s m args below meth c cX7_guard 6 (some .int) yX7_guard.cls yX7_guard.name 4 94 D cA b0 hs res (xMQ D cA b0 below args s hs res) (k_X7_guard_107 b0 k) 107 := by
  unfold k_X7_guard_107
  refine s_aload_n dX7_guard_107 rfl ?_
  refine s_iconst dX7_guard_108 (by decide) ?_
  refine s_putZ (Tb := TX7) rfl inX7 (by decide) w_513 tyX7 tyX7_ok nmX7 rfl rfl dX7_guard_109 ?_
  refine s_aload_n dX7_guard_112 rfl ?_
  refine s_dup dX7_guard_113 ?_
  refine s_getI (Tb := TX7) rfl inX7 (by decide) w_510 dX7_guard_114 ?_
  refine s_iconst dX7_guard_117 (by decide) ?_
  refine s_iadd dX7_guard_118 ?_
  refine s_putI (Tb := TX7) rfl inX7 (by decide) w_510 tyX7 tyX7_ok nmX7 rfl rfl dX7_guard_119 ?_
  refine s_iload_n dX7_guard_122 rfl ?_
  exact s_retI rfl dX7_guard_123
set_option maxRecDepth 20000 in
theorem t_X7_guard_99 (k : Nat → xK) (hk0 : xS p l e R s m args below meth c cX7_guard 6 (some .int) yX7_guard.cls yX7_guard.name 4 94 D cA b0 hs res (xMQ D cA b0 below args s hs res) (k 0) 10) : xS p l e R s m args below meth c cX7_guard 6 (some .int) yX7_guard.cls yX7_guard.name 4 94 D cA b0 hs res (xMQ D cA b0 below args s hs res) (k_X7_guard_99 b0 k) 99 := by
  unfold k_X7_guard_99
  refine s_iadd dX7_guard_99 ?_
  refine s_ias dX7_guard_100 ?_
  refine s_iinc dX7_guard_101 (by decide) (by decide) ?_
  refine s_goto (tgt := 10) dX7_guard_104 (by decide) ?_
  exact hk0
set_option maxRecDepth 20000 in
theorem t_X7_guard_82 (k : Nat → xK) (hk0 : xS p l e R s m args below meth c cX7_guard 6 (some .int) yX7_guard.cls yX7_guard.name 4 94 D cA b0 hs res (xMQ D cA b0 below args s hs res) (k 0) 10) : xS p l e R s m args below meth c cX7_guard 6 (some .int) yX7_guard.cls yX7_guard.name 4 94 D cA b0 hs res (xMQ D cA b0 below args s hs res) (k_X7_guard_82 b0 k) 82 := by
  unfold k_X7_guard_82
  refine s_istore_n dX7_guard_82 rfl (by decide) ?_
  refine s_aload_n dX7_guard_83 rfl ?_
  refine s_getR (Tb := TX7) rfl inX7 (by decide) w_485 dX7_guard_84 ?_
  refine s_iload_n dX7_guard_87 rfl ?_
  refine s_dup2 dX7_guard_88 ?_
  refine s_ial dX7_guard_89 ?_
  refine s_iload_n dX7_guard_90 rfl ?_
  refine s_c1ne (tgt := 98) dX7_guard_91 (by decide) ?_ ?_
  · refine s_iconst dX7_guard_98 (by decide) ?_
    exact t_X7_guard_99 k hk0
  · refine s_iconst dX7_guard_94 (by decide) ?_
    refine s_goto (tgt := 99) dX7_guard_95 (by decide) ?_
    exact t_X7_guard_99 k hk0
set_option maxRecDepth 20000 in
theorem t_X7_guard_10 (k : Nat → xK) (hk0 : xS p l e R s m args below meth c cX7_guard 6 (some .int) yX7_guard.cls yX7_guard.name 4 94 D cA b0 hs res (xMQ D cA b0 below args s hs res) (k 0) 10) : xS p l e R s m args below meth c cX7_guard 6 (some .int) yX7_guard.cls yX7_guard.name 4 94 D cA b0 hs res (xMQ D cA b0 below args s hs res) (k_X7_guard_10 b0 k) 10 := by
  unfold k_X7_guard_10
  refine s_iload dX7_guard_10 ?_
  refine s_iload_n dX7_guard_12 rfl ?_
  refine s_c2ge (tgt := 107) dX7_guard_13 (by decide) ?_ ?_
  · exact t_X7_guard_107 k hk0
  · refine s_iload_n dX7_guard_16 rfl ?_
    refine s_c1ne (tgt := 107) dX7_guard_17 (by decide) ?_ ?_
    · exact t_X7_guard_107 k hk0
    · refine s_aload_n dX7_guard_20 rfl ?_
      refine s_getR (Tb := TX7) rfl inX7 (by decide) w_485 dX7_guard_21 ?_
      refine s_iload_n dX7_guard_24 rfl ?_
      refine s_ial dX7_guard_25 ?_
      refine s_aload_n dX7_guard_26 rfl ?_
      refine s_getR (Tb := TX7) rfl inX7 (by decide) w_481 dX7_guard_27 ?_
      refine s_iload_n dX7_guard_30 rfl ?_
      refine s_ial dX7_guard_31 ?_
      refine s_c2ge (tgt := 107) dX7_guard_32 (by decide) ?_ ?_
      · exact t_X7_guard_107 k hk0
      · refine s_bipush dX7_guard_35 (by decide) ?_
        refine s_iload_n dX7_guard_37 rfl ?_
        refine s_imul dX7_guard_38 ?_
        refine s_aload_n dX7_guard_39 rfl ?_
        refine s_getR (Tb := TX7) rfl inX7 (by decide) w_485 dX7_guard_40 ?_
        refine s_iload_n dX7_guard_43 rfl ?_
        refine s_ial dX7_guard_44 ?_
        refine s_iadd dX7_guard_45 ?_
        refine s_istore dX7_guard_46 (by decide) ?_
        refine s_aload_n dX7_guard_48 rfl ?_
        refine s_dup dX7_guard_49 ?_
        refine s_getI (Tb := TX7) rfl inX7 (by decide) w_508 dX7_guard_50 ?_
        refine s_iconst dX7_guard_53 (by decide) ?_
        refine s_iadd dX7_guard_54 ?_
        refine s_putI (Tb := TX7) rfl inX7 (by decide) w_508 tyX7 tyX7_ok nmX7 rfl rfl dX7_guard_55 ?_
        refine s_aload_n dX7_guard_58 rfl ?_
        refine s_getR (Tb := TX7) rfl inX7 (by decide) w_482 dX7_guard_59 ?_
        refine s_iload dX7_guard_62 ?_
        refine s_ial dX7_guard_64 ?_
        refine s_bipush dX7_guard_65 (by decide) ?_
        refine s_c2ne (tgt := 75) dX7_guard_67 (by decide) ?_ ?_
        · refine s_aload_n dX7_guard_75 rfl ?_
          refine s_iload_n dX7_guard_76 rfl ?_
          refine s_iload dX7_guard_77 ?_
          refine s_callV (Tb := TX7) (m_X7_simple l D cA b0) rfl w_632 w_634 w_17 w_29 w_635 ⟨rfl, by decide, by decide, by decide +kernel⟩ (by decide) dX7_guard_79 ?_
          exact t_X7_guard_82 k hk0
        · refine s_bipush dX7_guard_70 (by decide) ?_
          refine s_goto (tgt := 82) dX7_guard_72 (by decide) ?_
          exact t_X7_guard_82 k hk0
theorem t_X7_guard_r (n : Nat) : xS p l e R s m args below meth c cX7_guard 6 (some .int) yX7_guard.cls yX7_guard.name 4 94 D cA b0 hs res (xMQ D cA b0 below args s hs res) (r_X7_guard b0 n 0) 10 := by
  induction n with
  | zero => exact fun ls st h hT => by cases hT
  | succ n ih => exact t_X7_guard_10 (r_X7_guard b0 n) ih
theorem m_X7_guard (l : Launch) (D : va_G) (cA : Nat → ClassId) (b0 : Nat) : xMet l D cA b0 yX7_guard (.code yX7_guard cX7_guard 6 (some .int) :: xTB) 4 94 (f_X7_guard b0) :=
  xMet_of (n := 3) (by decide +kernel) (by decide) (fun p e R s m args below meth c hs res => t_X7_guard_0 (r_X7_guard b0 64) (t_X7_guard_r 64))
end M_X7_guard
section M_X7_fails
variable {p : Program} {l : Launch} {e : Env} {R : Room} {s : State} {m : MethodId} {args : Array Value} {below : List Frame} {meth : Method} {c : Code} {D : va_G} {cA : Nat → ClassId} {b0 : Nat} {hs : xH} {res : Option xV × xH}
set_option maxRecDepth 20000 in
theorem t_X7_fails_68  : xS p l e R s m args below meth c cX7_fails 4 none yX7_fails.cls yX7_fails.name 1 22 D cA b0 hs res (xMQ D cA b0 below args s hs res) (k_X7_fails_68 b0) 68 := by
  unfold k_X7_fails_68
  refine s_istore_n dX7_fails_68 rfl (by decide) ?_
  refine s_aload_n dX7_fails_69 rfl ?_
  refine s_getR (Tb := TX7) rfl inX7 (by decide) w_477 dX7_fails_70 ?_
  refine s_iload_n dX7_fails_73 rfl ?_
  refine s_ial dX7_fails_74 ?_
  refine s_iconst dX7_fails_75 (by decide) ?_
  refine s_c2ge (tgt := 89) dX7_fails_76 (by decide) ?_ ?_
  · refine s_aload_n dX7_fails_89 rfl ?_
    refine s_getR (Tb := TX7) rfl inX7 (by decide) w_501 dX7_fails_90 ?_
    refine s_iload_n dX7_fails_93 rfl ?_
    refine s_ial dX7_fails_94 ?_
    refine s_iload_n dX7_fails_95 rfl ?_
    refine s_c2ge (tgt := 117) dX7_fails_96 (by decide) ?_ ?_
    · refine s_aload_n dX7_fails_117 rfl ?_
      refine s_getR (Tb := TX7) rfl inX7 (by decide) w_485 dX7_fails_118 ?_
      refine s_iload_n dX7_fails_121 rfl ?_
      refine s_dup2 dX7_fails_122 ?_
      refine s_ial dX7_fails_123 ?_
      refine s_iconst dX7_fails_124 (by decide) ?_
      refine s_iadd dX7_fails_125 ?_
      refine s_ias dX7_fails_126 ?_
      exact s_retV rfl dX7_fails_127
    · refine s_aload_n dX7_fails_99 rfl ?_
      refine s_getR (Tb := TX7) rfl inX7 (by decide) w_501 dX7_fails_100 ?_
      refine s_iload_n dX7_fails_103 rfl ?_
      refine s_dup2 dX7_fails_104 ?_
      refine s_ial dX7_fails_105 ?_
      refine s_iconst dX7_fails_106 (by decide) ?_
      refine s_iadd dX7_fails_107 ?_
      refine s_ias dX7_fails_108 ?_
      refine s_aload_n dX7_fails_109 rfl ?_
      refine s_iload_n dX7_fails_110 rfl ?_
      refine s_callV (Tb := TX7) (m_X7_back l D cA b0) rfl w_667 w_669 w_25 w_29 w_670 ⟨rfl, by decide, by decide, by decide +kernel⟩ (by decide) dX7_fails_111 ?_
      refine s_goto (tgt := 127) dX7_fails_114 (by decide) ?_
      exact s_retV rfl dX7_fails_127
  · refine s_aload_n dX7_fails_79 rfl ?_
    refine s_getR (Tb := TX7) rfl inX7 (by decide) w_480 dX7_fails_80 ?_
    refine s_iload_n dX7_fails_83 rfl ?_
    refine s_iconst dX7_fails_84 (by decide) ?_
    refine s_ias dX7_fails_85 ?_
    refine s_goto (tgt := 127) dX7_fails_86 (by decide) ?_
    exact s_retV rfl dX7_fails_127
set_option maxRecDepth 20000 in
theorem t_X7_fails_0  : xS p l e R s m args below meth c cX7_fails 4 none yX7_fails.cls yX7_fails.name 1 22 D cA b0 hs res (xMQ D cA b0 below args s hs res) (k_X7_fails_0 b0) 0 := by
  unfold k_X7_fails_0
  refine s_aload_n dX7_fails_0 rfl ?_
  refine s_getR (Tb := TX7) rfl inX7 (by decide) w_498 dX7_fails_1 ?_
  refine s_iload_n dX7_fails_4 rfl ?_
  refine s_dup2 dX7_fails_5 ?_
  refine s_ial dX7_fails_6 ?_
  refine s_iconst dX7_fails_7 (by decide) ?_
  refine s_iadd dX7_fails_8 ?_
  refine s_ias dX7_fails_9 ?_
  refine s_aload_n dX7_fails_10 rfl ?_
  refine s_dup dX7_fails_11 ?_
  refine s_getI (Tb := TX7) rfl inX7 (by decide) w_511 dX7_fails_12 ?_
  refine s_iconst dX7_fails_15 (by decide) ?_
  refine s_iadd dX7_fails_16 ?_
  refine s_putI (Tb := TX7) rfl inX7 (by decide) w_511 tyX7 tyX7_ok nmX7 rfl rfl dX7_fails_17 ?_
  refine s_aload_n dX7_fails_20 rfl ?_
  refine s_getR (Tb := TX7) rfl inX7 (by decide) w_499 dX7_fails_21 ?_
  refine s_iload_n dX7_fails_24 rfl ?_
  refine s_iload_n dX7_fails_25 rfl ?_
  refine s_ias dX7_fails_26 ?_
  refine s_aload_n dX7_fails_27 rfl ?_
  refine s_getR (Tb := TX7) rfl inX7 (by decide) w_500 dX7_fails_28 ?_
  refine s_iload_n dX7_fails_31 rfl ?_
  refine s_aload_n dX7_fails_32 rfl ?_
  refine s_getR (Tb := TX7) rfl inX7 (by decide) w_485 dX7_fails_33 ?_
  refine s_iload_n dX7_fails_36 rfl ?_
  refine s_ial dX7_fails_37 ?_
  refine s_ias dX7_fails_38 ?_
  refine s_aload_n dX7_fails_39 rfl ?_
  refine s_getR (Tb := TX7) rfl inX7 (by decide) w_477 dX7_fails_40 ?_
  refine s_iload_n dX7_fails_43 rfl ?_
  refine s_ial dX7_fails_44 ?_
  refine s_iconst dX7_fails_45 (by decide) ?_
  refine s_c2ne (tgt := 53) dX7_fails_46 (by decide) ?_ ?_
  · refine s_aload_n dX7_fails_53 rfl ?_
    refine s_getR (Tb := TX7) rfl inX7 (by decide) w_477 dX7_fails_54 ?_
    refine s_iload_n dX7_fails_57 rfl ?_
    refine s_ial dX7_fails_58 ?_
    refine s_iconst dX7_fails_59 (by decide) ?_
    refine s_c2ne (tgt := 67) dX7_fails_60 (by decide) ?_ ?_
    · refine s_iconst dX7_fails_67 (by decide) ?_
      exact t_X7_fails_68
    · refine s_iconst dX7_fails_63 (by decide) ?_
      refine s_goto (tgt := 68) dX7_fails_64 (by decide) ?_
      exact t_X7_fails_68
  · refine s_iconst dX7_fails_49 (by decide) ?_
    refine s_goto (tgt := 68) dX7_fails_50 (by decide) ?_
    exact t_X7_fails_68
theorem m_X7_fails (l : Launch) (D : va_G) (cA : Nat → ClassId) (b0 : Nat) : xMet l D cA b0 yX7_fails (.code yX7_fails cX7_fails 4 none :: xTB) 1 22 (f_X7_fails b0) :=
  xMet_of (n := 3) (by decide +kernel) (by decide) (fun p e R s m args below meth c hs res => t_X7_fails_0)
end M_X7_fails
section M_X7_acts
variable {p : Program} {l : Launch} {e : Env} {R : Room} {s : State} {m : MethodId} {args : Array Value} {below : List Frame} {meth : Method} {c : Code} {D : va_G} {cA : Nat → ClassId} {b0 : Nat} {hs : xH} {res : Option xV × xH}
set_option maxRecDepth 20000 in
theorem t_X7_acts_105  : xS p l e R s m args below meth c cX7_acts 4 none yX7_acts.cls yX7_acts.name 5 119 D cA b0 hs res (xMQ D cA b0 below args s hs res) (k_X7_acts_105 b0) 105 := by
  unfold k_X7_acts_105
  refine s_iload_n dX7_acts_105 rfl ?_
  refine s_c1eq (tgt := 118) dX7_acts_106 (by decide) ?_ ?_
  · refine s_aload_n dX7_acts_118 rfl ?_
    refine s_getI (Tb := TX7) rfl inX7 (by decide) w_512 dX7_acts_119 ?_
    refine s_c1le (tgt := 149) dX7_acts_122 (by decide) ?_ ?_
    · exact s_retV rfl dX7_acts_149
    · refine s_aload_n dX7_acts_125 rfl ?_
      refine s_getR (Tb := TX7) rfl inX7 (by decide) w_480 dX7_acts_126 ?_
      refine s_iload_n dX7_acts_129 rfl ?_
      refine s_iconst dX7_acts_130 (by decide) ?_
      refine s_ias dX7_acts_131 ?_
      refine s_aload_n dX7_acts_132 rfl ?_
      refine s_getR (Tb := TX7) rfl inX7 (by decide) w_497 dX7_acts_133 ?_
      refine s_iload_n dX7_acts_136 rfl ?_
      refine s_aload_n dX7_acts_137 rfl ?_
      refine s_getI (Tb := TX7) rfl inX7 (by decide) w_507 dX7_acts_138 ?_
      refine s_i2l dX7_acts_141 ?_
      refine s_aload_n dX7_acts_142 rfl ?_
      refine s_getI (Tb := TX7) rfl inX7 (by decide) w_512 dX7_acts_143 ?_
      refine s_i2l dX7_acts_146 ?_
      refine s_ladd dX7_acts_147 ?_
      refine s_jas dX7_acts_148 ?_
      exact s_retV rfl dX7_acts_149
  · refine s_aload_n dX7_acts_109 rfl ?_
    refine s_iload_n dX7_acts_110 rfl ?_
    refine s_iload_n dX7_acts_111 rfl ?_
    refine s_callV (Tb := TX7) (m_X7_fails l D cA b0) rfl w_663 w_665 w_24 w_29 w_666 ⟨rfl, by decide, by decide, by decide +kernel⟩ (by decide) dX7_acts_112 ?_
    refine s_goto (tgt := 149) dX7_acts_115 (by decide) ?_
    exact s_retV rfl dX7_acts_149
set_option maxRecDepth 20000 in
theorem t_X7_acts_103  : xS p l e R s m args below meth c cX7_acts 4 none yX7_acts.cls yX7_acts.name 5 119 D cA b0 hs res (xMQ D cA b0 below args s hs res) (k_X7_acts_103 b0) 103 := by
  unfold k_X7_acts_103
  refine s_iadd dX7_acts_103 ?_
  refine s_ias dX7_acts_104 ?_
  exact t_X7_acts_105
set_option maxRecDepth 20000 in
theorem t_X7_acts_102  : xS p l e R s m args below meth c cX7_acts 4 none yX7_acts.cls yX7_acts.name 5 119 D cA b0 hs res (xMQ D cA b0 below args s hs res) (k_X7_acts_102 b0) 102 := by
  unfold k_X7_acts_102
  refine s_iconst dX7_acts_102 (by decide) ?_
  exact t_X7_acts_103
set_option maxRecDepth 20000 in
theorem t_X7_acts_0  : xS p l e R s m args below meth c cX7_acts 4 none yX7_acts.cls yX7_acts.name 5 119 D cA b0 hs res (xMQ D cA b0 below args s hs res) (k_X7_acts_0 b0) 0 := by
  unfold k_X7_acts_0
  refine s_bipush dX7_acts_0 (by decide) ?_
  refine s_iload_n dX7_acts_2 rfl ?_
  refine s_imul dX7_acts_3 ?_
  refine s_aload_n dX7_acts_4 rfl ?_
  refine s_getR (Tb := TX7) rfl inX7 (by decide) w_485 dX7_acts_5 ?_
  refine s_iload_n dX7_acts_8 rfl ?_
  refine s_ial dX7_acts_9 ?_
  refine s_iadd dX7_acts_10 ?_
  refine s_istore_n dX7_acts_11 rfl (by decide) ?_
  refine s_aload_n dX7_acts_12 rfl ?_
  refine s_dup dX7_acts_13 ?_
  refine s_getI (Tb := TX7) rfl inX7 (by decide) w_508 dX7_acts_14 ?_
  refine s_iconst dX7_acts_17 (by decide) ?_
  refine s_iadd dX7_acts_18 ?_
  refine s_putI (Tb := TX7) rfl inX7 (by decide) w_508 tyX7 tyX7_ok nmX7 rfl rfl dX7_acts_19 ?_
  refine s_aload_n dX7_acts_22 rfl ?_
  refine s_getR (Tb := TX7) rfl inX7 (by decide) w_502 dX7_acts_23 ?_
  refine s_iload_n dX7_acts_26 rfl ?_
  refine s_iconst dX7_acts_27 (by decide) ?_
  refine s_zas dX7_acts_28 ?_
  refine s_aload_n dX7_acts_29 rfl ?_
  refine s_iconst dX7_acts_30 (by decide) ?_
  refine s_putI (Tb := TX7) rfl inX7 (by decide) w_512 tyX7 tyX7_ok nmX7 rfl rfl dX7_acts_31 ?_
  refine s_aload_n dX7_acts_34 rfl ?_
  refine s_getR (Tb := TX7) rfl inX7 (by decide) w_482 dX7_acts_35 ?_
  refine s_iload_n dX7_acts_38 rfl ?_
  refine s_ial dX7_acts_39 ?_
  refine s_bipush dX7_acts_40 (by decide) ?_
  refine s_c2ne (tgt := 70) dX7_acts_42 (by decide) ?_ ?_
  · refine s_aload_n dX7_acts_70 rfl ?_
    refine s_iload_n dX7_acts_71 rfl ?_
    refine s_iload_n dX7_acts_72 rfl ?_
    refine s_callV (Tb := TX7) (m_X7_simple l D cA b0) rfl w_632 w_634 w_17 w_29 w_635 ⟨rfl, by decide, by decide, by decide +kernel⟩ (by decide) dX7_acts_73 ?_
    refine s_istore_n dX7_acts_76 rfl (by decide) ?_
    refine s_aload_n dX7_acts_77 rfl ?_
    refine s_getR (Tb := TX7) rfl inX7 (by decide) w_485 dX7_acts_78 ?_
    refine s_iload_n dX7_acts_81 rfl ?_
    refine s_dup2 dX7_acts_82 ?_
    refine s_ial dX7_acts_83 ?_
    refine s_iload_n dX7_acts_84 rfl ?_
    refine s_c1ne (tgt := 102) dX7_acts_85 (by decide) ?_ ?_
    · exact t_X7_acts_102
    · refine s_aload_n dX7_acts_88 rfl ?_
      refine s_getR (Tb := TX7) rfl inX7 (by decide) w_480 dX7_acts_89 ?_
      refine s_iload_n dX7_acts_92 rfl ?_
      refine s_ial dX7_acts_93 ?_
      refine s_iconst dX7_acts_94 (by decide) ?_
      refine s_c2eq (tgt := 102) dX7_acts_95 (by decide) ?_ ?_
      · exact t_X7_acts_102
      · refine s_iconst dX7_acts_98 (by decide) ?_
        refine s_goto (tgt := 103) dX7_acts_99 (by decide) ?_
        exact t_X7_acts_103
  · refine s_aload_n dX7_acts_45 rfl ?_
    refine s_getR (Tb := TX7) rfl inX7 (by decide) w_485 dX7_acts_46 ?_
    refine s_iload_n dX7_acts_49 rfl ?_
    refine s_dup2 dX7_acts_50 ?_
    refine s_ial dX7_acts_51 ?_
    refine s_iconst dX7_acts_52 (by decide) ?_
    refine s_iadd dX7_acts_53 ?_
    refine s_ias dX7_acts_54 ?_
    refine s_aload_n dX7_acts_55 rfl ?_
    refine s_iload_n dX7_acts_56 rfl ?_
    refine s_aload_n dX7_acts_57 rfl ?_
    refine s_getR (Tb := TX7) rfl inX7 (by decide) w_483 dX7_acts_58 ?_
    refine s_iload_n dX7_acts_61 rfl ?_
    refine s_ial dX7_acts_62 ?_
    refine s_callV (Tb := TX7) (m_X7_guard l D cA b0) rfl w_628 w_630 w_16 w_29 w_631 ⟨rfl, by decide, by decide, by decide +kernel⟩ (by decide) dX7_acts_63 ?_
    refine s_istore_n dX7_acts_66 rfl (by decide) ?_
    refine s_goto (tgt := 105) dX7_acts_67 (by decide) ?_
    exact t_X7_acts_105
theorem m_X7_acts (l : Launch) (D : va_G) (cA : Nat → ClassId) (b0 : Nat) : xMet l D cA b0 yX7_acts (.code yX7_acts cX7_acts 4 none :: xTB) 5 119 (f_X7_acts b0) :=
  xMet_of (n := 2) (by decide +kernel) (by decide) (fun p e R s m args below meth c hs res => t_X7_acts_0)
end M_X7_acts
section M_X7_maybeDone
variable {p : Program} {l : Launch} {e : Env} {R : Room} {s : State} {m : MethodId} {args : Array Value} {below : List Frame} {meth : Method} {c : Code} {D : va_G} {cA : Nat → ClassId} {b0 : Nat} {hs : xH} {res : Option xV × xH}
set_option maxRecDepth 20000 in
theorem t_X7_maybeDone_0  : xS p l e R s m args below meth c cX7_maybeDone 2 none yX7_maybeDone.cls yX7_maybeDone.name 1 20 D cA b0 hs res (xMQ D cA b0 below args s hs res) (k_X7_maybeDone_0 b0) 0 := by
  unfold k_X7_maybeDone_0
  refine s_aload_n dX7_maybeDone_0 rfl ?_
  refine s_getR (Tb := TX7) rfl inX7 (by decide) w_480 dX7_maybeDone_1 ?_
  refine s_iload_n dX7_maybeDone_4 rfl ?_
  refine s_ial dX7_maybeDone_5 ?_
  refine s_callS (m_X7_isOver l D cA b0) w_648 w_649 w_29 w_650 ⟨rfl, by decide, by decide, by decide +kernel⟩ (by decide) dX7_maybeDone_6 ?_
  refine s_c1ne (tgt := 64) dX7_maybeDone_9 (by decide) ?_ ?_
  · exact s_retV rfl dX7_maybeDone_64
  · refine s_aload_n dX7_maybeDone_12 rfl ?_
    refine s_getR (Tb := TX7) rfl inX7 (by decide) w_480 dX7_maybeDone_13 ?_
    refine s_iload_n dX7_maybeDone_16 rfl ?_
    refine s_ial dX7_maybeDone_17 ?_
    refine s_iconst dX7_maybeDone_18 (by decide) ?_
    refine s_c2eq (tgt := 64) dX7_maybeDone_19 (by decide) ?_ ?_
    · exact s_retV rfl dX7_maybeDone_64
    · refine s_aload_n dX7_maybeDone_22 rfl ?_
      refine s_getR (Tb := TX7) rfl inX7 (by decide) w_485 dX7_maybeDone_23 ?_
      refine s_iload_n dX7_maybeDone_26 rfl ?_
      refine s_ial dX7_maybeDone_27 ?_
      refine s_aload_n dX7_maybeDone_28 rfl ?_
      refine s_getR (Tb := TX7) rfl inX7 (by decide) w_481 dX7_maybeDone_29 ?_
      refine s_iload_n dX7_maybeDone_32 rfl ?_
      refine s_ial dX7_maybeDone_33 ?_
      refine s_c2lt (tgt := 64) dX7_maybeDone_34 (by decide) ?_ ?_
      · exact s_retV rfl dX7_maybeDone_64
      · refine s_aload_n dX7_maybeDone_37 rfl ?_
        refine s_getR (Tb := TX7) rfl inX7 (by decide) w_480 dX7_maybeDone_38 ?_
        refine s_iload_n dX7_maybeDone_41 rfl ?_
        refine s_iconst dX7_maybeDone_42 (by decide) ?_
        refine s_ias dX7_maybeDone_43 ?_
        refine s_aload_n dX7_maybeDone_44 rfl ?_
        refine s_getR (Tb := TX7) rfl inX7 (by decide) w_504 dX7_maybeDone_45 ?_
        refine s_aload_n dX7_maybeDone_48 rfl ?_
        refine s_getI (Tb := TX7) rfl inX7 (by decide) w_505 dX7_maybeDone_49 ?_
        refine s_iload_n dX7_maybeDone_52 rfl ?_
        refine s_ias dX7_maybeDone_53 ?_
        refine s_aload_n dX7_maybeDone_54 rfl ?_
        refine s_dup dX7_maybeDone_55 ?_
        refine s_getI (Tb := TX7) rfl inX7 (by decide) w_505 dX7_maybeDone_56 ?_
        refine s_iconst dX7_maybeDone_59 (by decide) ?_
        refine s_iadd dX7_maybeDone_60 ?_
        refine s_putI (Tb := TX7) rfl inX7 (by decide) w_505 tyX7 tyX7_ok nmX7 rfl rfl dX7_maybeDone_61 ?_
        exact s_retV rfl dX7_maybeDone_64
theorem m_X7_maybeDone (l : Launch) (D : va_G) (cA : Nat → ClassId) (b0 : Nat) : xMet l D cA b0 yX7_maybeDone (.code yX7_maybeDone cX7_maybeDone 2 none :: xTB) 1 20 (f_X7_maybeDone b0) :=
  xMet_of (n := 2) (by decide +kernel) (by decide) (fun p e R s m args below meth c hs res => t_X7_maybeDone_0)
end M_X7_maybeDone
section M_X7_pick
variable {p : Program} {l : Launch} {e : Env} {R : Room} {s : State} {m : MethodId} {args : Array Value} {below : List Frame} {meth : Method} {c : Code} {D : va_G} {cA : Nat → ClassId} {b0 : Nat} {hs : xH} {res : Option xV × xH}
set_option maxRecDepth 20000 in
theorem t_X7_pick_0 (k : Nat → xK) (hk0 : xS p l e R s m args below meth c cX7_pick 4 (some .int) yX7_pick.cls yX7_pick.name 0 0 D cA b0 hs res (xMQ D cA b0 below args s hs res) (k 0) 4) : xS p l e R s m args below meth c cX7_pick 4 (some .int) yX7_pick.cls yX7_pick.name 0 0 D cA b0 hs res (xMQ D cA b0 below args s hs res) (k_X7_pick_0 b0 k) 0 := by
  unfold k_X7_pick_0
  refine s_iconst dX7_pick_0 (by decide) ?_
  refine s_istore_n dX7_pick_1 rfl (by decide) ?_
  refine s_iconst dX7_pick_2 (by decide) ?_
  refine s_istore_n dX7_pick_3 rfl (by decide) ?_
  exact hk0
set_option maxRecDepth 20000 in
theorem t_X7_pick_73 (k : Nat → xK) (hk0 : xS p l e R s m args below meth c cX7_pick 4 (some .int) yX7_pick.cls yX7_pick.name 0 0 D cA b0 hs res (xMQ D cA b0 below args s hs res) (k 0) 4) : xS p l e R s m args below meth c cX7_pick 4 (some .int) yX7_pick.cls yX7_pick.name 0 0 D cA b0 hs res (xMQ D cA b0 below args s hs res) (k_X7_pick_73 b0 k) 73 := by
  unfold k_X7_pick_73
  refine s_iload_n dX7_pick_73 rfl ?_
  refine s_istore_n dX7_pick_74 rfl (by decide) ?_
  refine s_iinc dX7_pick_75 (by decide) (by decide) ?_
  refine s_goto (tgt := 4) dX7_pick_78 (by decide) ?_
  exact hk0
set_option maxRecDepth 20000 in
theorem t_X7_pick_35 (k : Nat → xK) (hk0 : xS p l e R s m args below meth c cX7_pick 4 (some .int) yX7_pick.cls yX7_pick.name 0 0 D cA b0 hs res (xMQ D cA b0 below args s hs res) (k 0) 4) : xS p l e R s m args below meth c cX7_pick 4 (some .int) yX7_pick.cls yX7_pick.name 0 0 D cA b0 hs res (xMQ D cA b0 below args s hs res) (k_X7_pick_35 b0 k) 35 := by
  unfold k_X7_pick_35
  refine s_istore_n dX7_pick_35 rfl (by decide) ?_
  refine s_iload_n dX7_pick_36 rfl ?_
  refine s_c1eq (tgt := 75) dX7_pick_37 (by decide) ?_ ?_
  · refine s_iinc dX7_pick_75 (by decide) (by decide) ?_
    refine s_goto (tgt := 4) dX7_pick_78 (by decide) ?_
    exact hk0
  · refine s_iload_n dX7_pick_40 rfl ?_
    refine s_c1lt (tgt := 73) dX7_pick_41 (by decide) ?_ ?_
    · exact t_X7_pick_73 k hk0
    · refine s_aload_n dX7_pick_44 rfl ?_
      refine s_getR (Tb := TX7) rfl inX7 (by decide) w_478 dX7_pick_45 ?_
      refine s_iload_n dX7_pick_48 rfl ?_
      refine s_ial dX7_pick_49 ?_
      refine s_aload_n dX7_pick_50 rfl ?_
      refine s_getR (Tb := TX7) rfl inX7 (by decide) w_479 dX7_pick_51 ?_
      refine s_iload_n dX7_pick_54 rfl ?_
      refine s_ial dX7_pick_55 ?_
      refine s_iadd dX7_pick_56 ?_
      refine s_aload_n dX7_pick_57 rfl ?_
      refine s_getR (Tb := TX7) rfl inX7 (by decide) w_478 dX7_pick_58 ?_
      refine s_iload_n dX7_pick_61 rfl ?_
      refine s_ial dX7_pick_62 ?_
      refine s_aload_n dX7_pick_63 rfl ?_
      refine s_getR (Tb := TX7) rfl inX7 (by decide) w_479 dX7_pick_64 ?_
      refine s_iload_n dX7_pick_67 rfl ?_
      refine s_ial dX7_pick_68 ?_
      refine s_iadd dX7_pick_69 ?_
      refine s_c2le (tgt := 75) dX7_pick_70 (by decide) ?_ ?_
      · refine s_iinc dX7_pick_75 (by decide) (by decide) ?_
        refine s_goto (tgt := 4) dX7_pick_78 (by decide) ?_
        exact hk0
      · exact t_X7_pick_73 k hk0
set_option maxRecDepth 20000 in
theorem t_X7_pick_34 (k : Nat → xK) (hk0 : xS p l e R s m args below meth c cX7_pick 4 (some .int) yX7_pick.cls yX7_pick.name 0 0 D cA b0 hs res (xMQ D cA b0 below args s hs res) (k 0) 4) : xS p l e R s m args below meth c cX7_pick 4 (some .int) yX7_pick.cls yX7_pick.name 0 0 D cA b0 hs res (xMQ D cA b0 below args s hs res) (k_X7_pick_34 b0 k) 34 := by
  unfold k_X7_pick_34
  refine s_iconst dX7_pick_34 (by decide) ?_
  exact t_X7_pick_35 k hk0
set_option maxRecDepth 20000 in
theorem t_X7_pick_4 (k : Nat → xK) (hk0 : xS p l e R s m args below meth c cX7_pick 4 (some .int) yX7_pick.cls yX7_pick.name 0 0 D cA b0 hs res (xMQ D cA b0 below args s hs res) (k 0) 4) : xS p l e R s m args below meth c cX7_pick 4 (some .int) yX7_pick.cls yX7_pick.name 0 0 D cA b0 hs res (xMQ D cA b0 below args s hs res) (k_X7_pick_4 b0 k) 4 := by
  unfold k_X7_pick_4
  refine s_iload_n dX7_pick_4 rfl ?_
  refine s_aload_n dX7_pick_5 rfl ?_
  refine s_getI (Tb := TX7) rfl inX7 (by decide) w_476 dX7_pick_6 ?_
  refine s_c2ge (tgt := 81) dX7_pick_9 (by decide) ?_ ?_
  · refine s_iload_n dX7_pick_81 rfl ?_
    exact s_retI rfl dX7_pick_82
  · refine s_aload_n dX7_pick_12 rfl ?_
    refine s_getR (Tb := TX7) rfl inX7 (by decide) w_480 dX7_pick_13 ?_
    refine s_iload_n dX7_pick_16 rfl ?_
    refine s_ial dX7_pick_17 ?_
    refine s_c1ne (tgt := 34) dX7_pick_18 (by decide) ?_ ?_
    · exact t_X7_pick_34 k hk0
    · refine s_aload_n dX7_pick_21 rfl ?_
      refine s_getR (Tb := TX7) rfl inX7 (by decide) w_503 dX7_pick_22 ?_
      refine s_iload_n dX7_pick_25 rfl ?_
      refine s_zal dX7_pick_26 ?_
      refine s_c1ne (tgt := 34) dX7_pick_27 (by decide) ?_ ?_
      · exact t_X7_pick_34 k hk0
      · refine s_iconst dX7_pick_30 (by decide) ?_
        refine s_goto (tgt := 35) dX7_pick_31 (by decide) ?_
        exact t_X7_pick_35 k hk0
theorem t_X7_pick_r (n : Nat) : xS p l e R s m args below meth c cX7_pick 4 (some .int) yX7_pick.cls yX7_pick.name 0 0 D cA b0 hs res (xMQ D cA b0 below args s hs res) (r_X7_pick b0 n 0) 4 := by
  induction n with
  | zero => exact fun ls st h hT => by cases hT
  | succ n ih => exact t_X7_pick_4 (r_X7_pick b0 n) ih
theorem m_X7_pick (l : Launch) (D : va_G) (cA : Nat → ClassId) (b0 : Nat) : xMet l D cA b0 yX7_pick (.code yX7_pick cX7_pick 4 (some .int) :: xTB) 0 0 (f_X7_pick b0) :=
  xMet_of (n := 1) (by decide +kernel) (by decide) (fun p e R s m args below meth c hs res => t_X7_pick_0 (r_X7_pick b0 64) (t_X7_pick_r 64))
end M_X7_pick
section M_X7_oneTurn
variable {p : Program} {l : Launch} {e : Env} {R : Room} {s : State} {m : MethodId} {args : Array Value} {below : List Frame} {meth : Method} {c : Code} {D : va_G} {cA : Nat → ClassId} {b0 : Nat} {hs : xH} {res : Option xV × xH}
set_option maxRecDepth 20000 in
theorem t_X7_oneTurn_0 (k : Nat → xK) (hk0 : xS p l e R s m args below meth c cX7_oneTurn 3 none yX7_oneTurn.cls yX7_oneTurn.name 6 142 D cA b0 hs res (xMQ D cA b0 below args s hs res) (k 0) 2) (hk1 : xS p l e R s m args below meth c cX7_oneTurn 3 none yX7_oneTurn.cls yX7_oneTurn.name 6 142 D cA b0 hs res (xMQ D cA b0 below args s hs res) (k 1) 95) (hk2 : xS p l e R s m args below meth c cX7_oneTurn 3 none yX7_oneTurn.cls yX7_oneTurn.name 6 142 D cA b0 hs res (xMQ D cA b0 below args s hs res) (k 2) 159) : xS p l e R s m args below meth c cX7_oneTurn 3 none yX7_oneTurn.cls yX7_oneTurn.name 6 142 D cA b0 hs res (xMQ D cA b0 below args s hs res) (k_X7_oneTurn_0 b0 k) 0 := by
  unfold k_X7_oneTurn_0
  refine s_iconst dX7_oneTurn_0 (by decide) ?_
  refine s_istore_n dX7_oneTurn_1 rfl (by decide) ?_
  exact hk0
set_option maxRecDepth 20000 in
theorem t_X7_oneTurn_66 (k : Nat → xK) (hk0 : xS p l e R s m args below meth c cX7_oneTurn 3 none yX7_oneTurn.cls yX7_oneTurn.name 6 142 D cA b0 hs res (xMQ D cA b0 below args s hs res) (k 0) 2) (hk1 : xS p l e R s m args below meth c cX7_oneTurn 3 none yX7_oneTurn.cls yX7_oneTurn.name 6 142 D cA b0 hs res (xMQ D cA b0 below args s hs res) (k 1) 95) (hk2 : xS p l e R s m args below meth c cX7_oneTurn 3 none yX7_oneTurn.cls yX7_oneTurn.name 6 142 D cA b0 hs res (xMQ D cA b0 below args s hs res) (k 2) 159) : xS p l e R s m args below meth c cX7_oneTurn 3 none yX7_oneTurn.cls yX7_oneTurn.name 6 142 D cA b0 hs res (xMQ D cA b0 below args s hs res) (k_X7_oneTurn_66 b0 k) 66 := by
  unfold k_X7_oneTurn_66
  refine s_istore_n dX7_oneTurn_66 rfl (by decide) ?_
  refine s_aload_n dX7_oneTurn_67 rfl ?_
  refine s_getR (Tb := TX7) rfl inX7 (by decide) w_480 dX7_oneTurn_68 ?_
  refine s_iload_n dX7_oneTurn_71 rfl ?_
  refine s_iload_n dX7_oneTurn_72 rfl ?_
  refine s_c1eq (tgt := 80) dX7_oneTurn_73 (by decide) ?_ ?_
  · refine s_aload_n dX7_oneTurn_80 rfl ?_
    refine s_getR (Tb := TX7) rfl inX7 (by decide) w_480 dX7_oneTurn_81 ?_
    refine s_iload_n dX7_oneTurn_84 rfl ?_
    refine s_ial dX7_oneTurn_85 ?_
    refine s_ias dX7_oneTurn_86 ?_
    refine s_iinc dX7_oneTurn_87 (by decide) (by decide) ?_
    refine s_goto (tgt := 2) dX7_oneTurn_90 (by decide) ?_
    exact hk0
  · refine s_iconst dX7_oneTurn_76 (by decide) ?_
    refine s_goto (tgt := 86) dX7_oneTurn_77 (by decide) ?_
    refine s_ias dX7_oneTurn_86 ?_
    refine s_iinc dX7_oneTurn_87 (by decide) (by decide) ?_
    refine s_goto (tgt := 2) dX7_oneTurn_90 (by decide) ?_
    exact hk0
set_option maxRecDepth 20000 in
theorem t_X7_oneTurn_65 (k : Nat → xK) (hk0 : xS p l e R s m args below meth c cX7_oneTurn 3 none yX7_oneTurn.cls yX7_oneTurn.name 6 142 D cA b0 hs res (xMQ D cA b0 below args s hs res) (k 0) 2) (hk1 : xS p l e R s m args below meth c cX7_oneTurn 3 none yX7_oneTurn.cls yX7_oneTurn.name 6 142 D cA b0 hs res (xMQ D cA b0 below args s hs res) (k 1) 95) (hk2 : xS p l e R s m args below meth c cX7_oneTurn 3 none yX7_oneTurn.cls yX7_oneTurn.name 6 142 D cA b0 hs res (xMQ D cA b0 below args s hs res) (k 2) 159) : xS p l e R s m args below meth c cX7_oneTurn 3 none yX7_oneTurn.cls yX7_oneTurn.name 6 142 D cA b0 hs res (xMQ D cA b0 below args s hs res) (k_X7_oneTurn_65 b0 k) 65 := by
  unfold k_X7_oneTurn_65
  refine s_iconst dX7_oneTurn_65 (by decide) ?_
  exact t_X7_oneTurn_66 k hk0 hk1 hk2
set_option maxRecDepth 20000 in
theorem t_X7_oneTurn_61 (k : Nat → xK) (hk0 : xS p l e R s m args below meth c cX7_oneTurn 3 none yX7_oneTurn.cls yX7_oneTurn.name 6 142 D cA b0 hs res (xMQ D cA b0 below args s hs res) (k 0) 2) (hk1 : xS p l e R s m args below meth c cX7_oneTurn 3 none yX7_oneTurn.cls yX7_oneTurn.name 6 142 D cA b0 hs res (xMQ D cA b0 below args s hs res) (k 1) 95) (hk2 : xS p l e R s m args below meth c cX7_oneTurn 3 none yX7_oneTurn.cls yX7_oneTurn.name 6 142 D cA b0 hs res (xMQ D cA b0 below args s hs res) (k 2) 159) : xS p l e R s m args below meth c cX7_oneTurn 3 none yX7_oneTurn.cls yX7_oneTurn.name 6 142 D cA b0 hs res (xMQ D cA b0 below args s hs res) (k_X7_oneTurn_61 b0 k) 61 := by
  unfold k_X7_oneTurn_61
  refine s_iconst dX7_oneTurn_61 (by decide) ?_
  refine s_goto (tgt := 66) dX7_oneTurn_62 (by decide) ?_
  exact t_X7_oneTurn_66 k hk0 hk1 hk2
set_option maxRecDepth 20000 in
theorem t_X7_oneTurn_42 (k : Nat → xK) (hk0 : xS p l e R s m args below meth c cX7_oneTurn 3 none yX7_oneTurn.cls yX7_oneTurn.name 6 142 D cA b0 hs res (xMQ D cA b0 below args s hs res) (k 0) 2) (hk1 : xS p l e R s m args below meth c cX7_oneTurn 3 none yX7_oneTurn.cls yX7_oneTurn.name 6 142 D cA b0 hs res (xMQ D cA b0 below args s hs res) (k 1) 95) (hk2 : xS p l e R s m args below meth c cX7_oneTurn 3 none yX7_oneTurn.cls yX7_oneTurn.name 6 142 D cA b0 hs res (xMQ D cA b0 below args s hs res) (k 2) 159) : xS p l e R s m args below meth c cX7_oneTurn 3 none yX7_oneTurn.cls yX7_oneTurn.name 6 142 D cA b0 hs res (xMQ D cA b0 below args s hs res) (k_X7_oneTurn_42 b0 k) 42 := by
  unfold k_X7_oneTurn_42
  refine s_aload_n dX7_oneTurn_42 rfl ?_
  refine s_getR (Tb := TX7) rfl inX7 (by decide) w_480 dX7_oneTurn_43 ?_
  refine s_iload_n dX7_oneTurn_46 rfl ?_
  refine s_ial dX7_oneTurn_47 ?_
  refine s_iconst dX7_oneTurn_48 (by decide) ?_
  refine s_c2ne (tgt := 65) dX7_oneTurn_49 (by decide) ?_ ?_
  · exact t_X7_oneTurn_65 k hk0 hk1 hk2
  · refine s_aload_n dX7_oneTurn_52 rfl ?_
    refine s_getR (Tb := TX7) rfl inX7 (by decide) w_495 dX7_oneTurn_53 ?_
    refine s_iload_n dX7_oneTurn_56 rfl ?_
    refine s_ial dX7_oneTurn_57 ?_
    refine s_c1le (tgt := 65) dX7_oneTurn_58 (by decide) ?_ ?_
    · exact t_X7_oneTurn_65 k hk0 hk1 hk2
    · exact t_X7_oneTurn_61 k hk0 hk1 hk2
set_option maxRecDepth 20000 in
theorem t_X7_oneTurn_2 (k : Nat → xK) (hk0 : xS p l e R s m args below meth c cX7_oneTurn 3 none yX7_oneTurn.cls yX7_oneTurn.name 6 142 D cA b0 hs res (xMQ D cA b0 below args s hs res) (k 0) 2) (hk1 : xS p l e R s m args below meth c cX7_oneTurn 3 none yX7_oneTurn.cls yX7_oneTurn.name 6 142 D cA b0 hs res (xMQ D cA b0 below args s hs res) (k 1) 95) (hk2 : xS p l e R s m args below meth c cX7_oneTurn 3 none yX7_oneTurn.cls yX7_oneTurn.name 6 142 D cA b0 hs res (xMQ D cA b0 below args s hs res) (k 2) 159) : xS p l e R s m args below meth c cX7_oneTurn 3 none yX7_oneTurn.cls yX7_oneTurn.name 6 142 D cA b0 hs res (xMQ D cA b0 below args s hs res) (k_X7_oneTurn_2 b0 k) 2 := by
  unfold k_X7_oneTurn_2
  refine s_iload_n dX7_oneTurn_2 rfl ?_
  refine s_aload_n dX7_oneTurn_3 rfl ?_
  refine s_getI (Tb := TX7) rfl inX7 (by decide) w_476 dX7_oneTurn_4 ?_
  refine s_c2ge (tgt := 93) dX7_oneTurn_7 (by decide) ?_ ?_
  · refine s_iconst dX7_oneTurn_93 (by decide) ?_
    refine s_istore_n dX7_oneTurn_94 rfl (by decide) ?_
    exact hk1
  · refine s_aload_n dX7_oneTurn_10 rfl ?_
    refine s_getR (Tb := TX7) rfl inX7 (by decide) w_503 dX7_oneTurn_11 ?_
    refine s_iload_n dX7_oneTurn_14 rfl ?_
    refine s_iconst dX7_oneTurn_15 (by decide) ?_
    refine s_zas dX7_oneTurn_16 ?_
    refine s_aload_n dX7_oneTurn_17 rfl ?_
    refine s_getR (Tb := TX7) rfl inX7 (by decide) w_480 dX7_oneTurn_18 ?_
    refine s_iload_n dX7_oneTurn_21 rfl ?_
    refine s_ial dX7_oneTurn_22 ?_
    refine s_iconst dX7_oneTurn_23 (by decide) ?_
    refine s_c2ne (tgt := 42) dX7_oneTurn_24 (by decide) ?_ ?_
    · exact t_X7_oneTurn_42 k hk0 hk1 hk2
    · refine s_aload_n dX7_oneTurn_27 rfl ?_
      refine s_getR (Tb := TX7) rfl inX7 (by decide) w_497 dX7_oneTurn_28 ?_
      refine s_iload_n dX7_oneTurn_31 rfl ?_
      refine s_jal dX7_oneTurn_32 ?_
      refine s_aload_n dX7_oneTurn_33 rfl ?_
      refine s_getI (Tb := TX7) rfl inX7 (by decide) w_507 dX7_oneTurn_34 ?_
      refine s_i2l dX7_oneTurn_37 ?_
      refine s_lcmp dX7_oneTurn_38 ?_
      refine s_c1lt (tgt := 61) dX7_oneTurn_39 (by decide) ?_ ?_
      · exact t_X7_oneTurn_61 k hk0 hk1 hk2
      · exact t_X7_oneTurn_42 k hk0 hk1 hk2
set_option maxRecDepth 20000 in
theorem t_X7_oneTurn_146 (k : Nat → xK) (hk0 : xS p l e R s m args below meth c cX7_oneTurn 3 none yX7_oneTurn.cls yX7_oneTurn.name 6 142 D cA b0 hs res (xMQ D cA b0 below args s hs res) (k 0) 2) (hk1 : xS p l e R s m args below meth c cX7_oneTurn 3 none yX7_oneTurn.cls yX7_oneTurn.name 6 142 D cA b0 hs res (xMQ D cA b0 below args s hs res) (k 1) 95) (hk2 : xS p l e R s m args below meth c cX7_oneTurn 3 none yX7_oneTurn.cls yX7_oneTurn.name 6 142 D cA b0 hs res (xMQ D cA b0 below args s hs res) (k 2) 159) : xS p l e R s m args below meth c cX7_oneTurn 3 none yX7_oneTurn.cls yX7_oneTurn.name 6 142 D cA b0 hs res (xMQ D cA b0 below args s hs res) (k_X7_oneTurn_146 b0 k) 146 := by
  unfold k_X7_oneTurn_146
  refine s_aload_n dX7_oneTurn_146 rfl ?_
  refine s_iload_n dX7_oneTurn_147 rfl ?_
  refine s_callV (Tb := TX7) (m_X7_maybeDone l D cA b0) rfl w_671 w_673 w_26 w_29 w_674 ⟨rfl, by decide, by decide, by decide +kernel⟩ (by decide) dX7_oneTurn_148 ?_
  refine s_iinc dX7_oneTurn_151 (by decide) (by decide) ?_
  refine s_goto (tgt := 95) dX7_oneTurn_154 (by decide) ?_
  exact hk1
set_option maxRecDepth 20000 in
theorem t_X7_oneTurn_95 (k : Nat → xK) (hk0 : xS p l e R s m args below meth c cX7_oneTurn 3 none yX7_oneTurn.cls yX7_oneTurn.name 6 142 D cA b0 hs res (xMQ D cA b0 below args s hs res) (k 0) 2) (hk1 : xS p l e R s m args below meth c cX7_oneTurn 3 none yX7_oneTurn.cls yX7_oneTurn.name 6 142 D cA b0 hs res (xMQ D cA b0 below args s hs res) (k 1) 95) (hk2 : xS p l e R s m args below meth c cX7_oneTurn 3 none yX7_oneTurn.cls yX7_oneTurn.name 6 142 D cA b0 hs res (xMQ D cA b0 below args s hs res) (k 2) 159) : xS p l e R s m args below meth c cX7_oneTurn 3 none yX7_oneTurn.cls yX7_oneTurn.name 6 142 D cA b0 hs res (xMQ D cA b0 below args s hs res) (k_X7_oneTurn_95 b0 k) 95 := by
  unfold k_X7_oneTurn_95
  refine s_iload_n dX7_oneTurn_95 rfl ?_
  refine s_aload_n dX7_oneTurn_96 rfl ?_
  refine s_getI (Tb := TX7) rfl inX7 (by decide) w_506 dX7_oneTurn_97 ?_
  refine s_c2ge (tgt := 157) dX7_oneTurn_100 (by decide) ?_ ?_
  · refine s_iconst dX7_oneTurn_157 (by decide) ?_
    refine s_istore_n dX7_oneTurn_158 rfl (by decide) ?_
    exact hk2
  · refine s_aload_n dX7_oneTurn_103 rfl ?_
    refine s_callV (Tb := TX7) (m_X7_pick l D cA b0) rfl w_620 w_622 w_14 w_29 w_623 ⟨rfl, by decide, by decide, by decide +kernel⟩ (by decide) dX7_oneTurn_104 ?_
    refine s_istore_n dX7_oneTurn_107 rfl (by decide) ?_
    refine s_iload_n dX7_oneTurn_108 rfl ?_
    refine s_c1lt (tgt := 151) dX7_oneTurn_109 (by decide) ?_ ?_
    · refine s_iinc dX7_oneTurn_151 (by decide) (by decide) ?_
      refine s_goto (tgt := 95) dX7_oneTurn_154 (by decide) ?_
      exact hk1
    · refine s_aload_n dX7_oneTurn_112 rfl ?_
      refine s_getR (Tb := TX7) rfl inX7 (by decide) w_503 dX7_oneTurn_113 ?_
      refine s_iload_n dX7_oneTurn_116 rfl ?_
      refine s_iconst dX7_oneTurn_117 (by decide) ?_
      refine s_zas dX7_oneTurn_118 ?_
      refine s_aload_n dX7_oneTurn_119 rfl ?_
      refine s_getR (Tb := TX7) rfl inX7 (by decide) w_479 dX7_oneTurn_120 ?_
      refine s_iload_n dX7_oneTurn_123 rfl ?_
      refine s_iconst dX7_oneTurn_124 (by decide) ?_
      refine s_ias dX7_oneTurn_125 ?_
      refine s_aload_n dX7_oneTurn_126 rfl ?_
      refine s_getR (Tb := TX7) rfl inX7 (by decide) w_485 dX7_oneTurn_127 ?_
      refine s_iload_n dX7_oneTurn_130 rfl ?_
      refine s_ial dX7_oneTurn_131 ?_
      refine s_aload_n dX7_oneTurn_132 rfl ?_
      refine s_getR (Tb := TX7) rfl inX7 (by decide) w_481 dX7_oneTurn_133 ?_
      refine s_iload_n dX7_oneTurn_136 rfl ?_
      refine s_ial dX7_oneTurn_137 ?_
      refine s_c2ge (tgt := 146) dX7_oneTurn_138 (by decide) ?_ ?_
      · exact t_X7_oneTurn_146 k hk0 hk1 hk2
      · refine s_aload_n dX7_oneTurn_141 rfl ?_
        refine s_iload_n dX7_oneTurn_142 rfl ?_
        refine s_callV (Tb := TX7) (m_X7_acts l D cA b0) rfl w_624 w_626 w_15 w_29 w_627 ⟨rfl, by decide, by decide, by decide +kernel⟩ (by decide) dX7_oneTurn_143 ?_
        exact t_X7_oneTurn_146 k hk0 hk1 hk2
set_option maxRecDepth 20000 in
theorem t_X7_oneTurn_197 (k : Nat → xK) (hk0 : xS p l e R s m args below meth c cX7_oneTurn 3 none yX7_oneTurn.cls yX7_oneTurn.name 6 142 D cA b0 hs res (xMQ D cA b0 below args s hs res) (k 0) 2) (hk1 : xS p l e R s m args below meth c cX7_oneTurn 3 none yX7_oneTurn.cls yX7_oneTurn.name 6 142 D cA b0 hs res (xMQ D cA b0 below args s hs res) (k 1) 95) (hk2 : xS p l e R s m args below meth c cX7_oneTurn 3 none yX7_oneTurn.cls yX7_oneTurn.name 6 142 D cA b0 hs res (xMQ D cA b0 below args s hs res) (k 2) 159) : xS p l e R s m args below meth c cX7_oneTurn 3 none yX7_oneTurn.cls yX7_oneTurn.name 6 142 D cA b0 hs res (xMQ D cA b0 below args s hs res) (k_X7_oneTurn_197 b0 k) 197 := by
  unfold k_X7_oneTurn_197
  refine s_iadd dX7_oneTurn_197 ?_
  refine s_ias dX7_oneTurn_198 ?_
  refine s_iinc dX7_oneTurn_199 (by decide) (by decide) ?_
  refine s_goto (tgt := 159) dX7_oneTurn_202 (by decide) ?_
  exact hk2
set_option maxRecDepth 20000 in
theorem t_X7_oneTurn_196 (k : Nat → xK) (hk0 : xS p l e R s m args below meth c cX7_oneTurn 3 none yX7_oneTurn.cls yX7_oneTurn.name 6 142 D cA b0 hs res (xMQ D cA b0 below args s hs res) (k 0) 2) (hk1 : xS p l e R s m args below meth c cX7_oneTurn 3 none yX7_oneTurn.cls yX7_oneTurn.name 6 142 D cA b0 hs res (xMQ D cA b0 below args s hs res) (k 1) 95) (hk2 : xS p l e R s m args below meth c cX7_oneTurn 3 none yX7_oneTurn.cls yX7_oneTurn.name 6 142 D cA b0 hs res (xMQ D cA b0 below args s hs res) (k 2) 159) : xS p l e R s m args below meth c cX7_oneTurn 3 none yX7_oneTurn.cls yX7_oneTurn.name 6 142 D cA b0 hs res (xMQ D cA b0 below args s hs res) (k_X7_oneTurn_196 b0 k) 196 := by
  unfold k_X7_oneTurn_196
  refine s_iconst dX7_oneTurn_196 (by decide) ?_
  exact t_X7_oneTurn_197 k hk0 hk1 hk2
set_option maxRecDepth 20000 in
theorem t_X7_oneTurn_159 (k : Nat → xK) (hk0 : xS p l e R s m args below meth c cX7_oneTurn 3 none yX7_oneTurn.cls yX7_oneTurn.name 6 142 D cA b0 hs res (xMQ D cA b0 below args s hs res) (k 0) 2) (hk1 : xS p l e R s m args below meth c cX7_oneTurn 3 none yX7_oneTurn.cls yX7_oneTurn.name 6 142 D cA b0 hs res (xMQ D cA b0 below args s hs res) (k 1) 95) (hk2 : xS p l e R s m args below meth c cX7_oneTurn 3 none yX7_oneTurn.cls yX7_oneTurn.name 6 142 D cA b0 hs res (xMQ D cA b0 below args s hs res) (k 2) 159) : xS p l e R s m args below meth c cX7_oneTurn 3 none yX7_oneTurn.cls yX7_oneTurn.name 6 142 D cA b0 hs res (xMQ D cA b0 below args s hs res) (k_X7_oneTurn_159 b0 k) 159 := by
  unfold k_X7_oneTurn_159
  refine s_iload_n dX7_oneTurn_159 rfl ?_
  refine s_aload_n dX7_oneTurn_160 rfl ?_
  refine s_getI (Tb := TX7) rfl inX7 (by decide) w_476 dX7_oneTurn_161 ?_
  refine s_c2ge (tgt := 205) dX7_oneTurn_164 (by decide) ?_ ?_
  · refine s_aload_n dX7_oneTurn_205 rfl ?_
    refine s_dup dX7_oneTurn_206 ?_
    refine s_getI (Tb := TX7) rfl inX7 (by decide) w_507 dX7_oneTurn_207 ?_
    refine s_iconst dX7_oneTurn_210 (by decide) ?_
    refine s_iadd dX7_oneTurn_211 ?_
    refine s_putI (Tb := TX7) rfl inX7 (by decide) w_507 tyX7 tyX7_ok nmX7 rfl rfl dX7_oneTurn_212 ?_
    exact s_retV rfl dX7_oneTurn_215
  · refine s_aload_n dX7_oneTurn_167 rfl ?_
    refine s_getR (Tb := TX7) rfl inX7 (by decide) w_479 dX7_oneTurn_168 ?_
    refine s_iload_n dX7_oneTurn_171 rfl ?_
    refine s_dup2 dX7_oneTurn_172 ?_
    refine s_ial dX7_oneTurn_173 ?_
    refine s_aload_n dX7_oneTurn_174 rfl ?_
    refine s_getR (Tb := TX7) rfl inX7 (by decide) w_480 dX7_oneTurn_175 ?_
    refine s_iload_n dX7_oneTurn_178 rfl ?_
    refine s_ial dX7_oneTurn_179 ?_
    refine s_c1ne (tgt := 196) dX7_oneTurn_180 (by decide) ?_ ?_
    · exact t_X7_oneTurn_196 k hk0 hk1 hk2
    · refine s_aload_n dX7_oneTurn_183 rfl ?_
      refine s_getR (Tb := TX7) rfl inX7 (by decide) w_503 dX7_oneTurn_184 ?_
      refine s_iload_n dX7_oneTurn_187 rfl ?_
      refine s_zal dX7_oneTurn_188 ?_
      refine s_c1ne (tgt := 196) dX7_oneTurn_189 (by decide) ?_ ?_
      · exact t_X7_oneTurn_196 k hk0 hk1 hk2
      · refine s_iconst dX7_oneTurn_192 (by decide) ?_
        refine s_goto (tgt := 197) dX7_oneTurn_193 (by decide) ?_
        exact t_X7_oneTurn_197 k hk0 hk1 hk2
theorem t_X7_oneTurn_r (n : Nat) : xS p l e R s m args below meth c cX7_oneTurn 3 none yX7_oneTurn.cls yX7_oneTurn.name 6 142 D cA b0 hs res (xMQ D cA b0 below args s hs res) (r_X7_oneTurn b0 n 0) 2 ∧ xS p l e R s m args below meth c cX7_oneTurn 3 none yX7_oneTurn.cls yX7_oneTurn.name 6 142 D cA b0 hs res (xMQ D cA b0 below args s hs res) (r_X7_oneTurn b0 n 1) 95 ∧ xS p l e R s m args below meth c cX7_oneTurn 3 none yX7_oneTurn.cls yX7_oneTurn.name 6 142 D cA b0 hs res (xMQ D cA b0 below args s hs res) (r_X7_oneTurn b0 n 2) 159 := by
  induction n with
  | zero => exact ⟨fun ls st h hT => (by cases hT), fun ls st h hT => (by cases hT), fun ls st h hT => (by cases hT)⟩
  | succ n ih =>
    obtain ⟨hk0, hk1, hk2⟩ := ih
    exact ⟨t_X7_oneTurn_2 (r_X7_oneTurn b0 n) hk0 hk1 hk2, t_X7_oneTurn_95 (r_X7_oneTurn b0 n) hk0 hk1 hk2, t_X7_oneTurn_159 (r_X7_oneTurn b0 n) hk0 hk1 hk2⟩
theorem m_X7_oneTurn (l : Launch) (D : va_G) (cA : Nat → ClassId) (b0 : Nat) : xMet l D cA b0 yX7_oneTurn (.code yX7_oneTurn cX7_oneTurn 3 none :: xTB) 6 142 (f_X7_oneTurn b0) :=
  xMet_of (n := 1) (by decide +kernel) (by decide) (fun p e R s m args below meth c hs res => t_X7_oneTurn_0 (r_X7_oneTurn b0 64) (t_X7_oneTurn_r 64).1 (t_X7_oneTurn_r 64).2.1 (t_X7_oneTurn_r 64).2.2)
end M_X7_oneTurn
section M_X7_turn
variable {p : Program} {l : Launch} {e : Env} {R : Room} {s : State} {m : MethodId} {args : Array Value} {below : List Frame} {meth : Method} {c : Code} {D : va_G} {cA : Nat → ClassId} {b0 : Nat} {hs : xH} {res : Option xV × xH}
set_option maxRecDepth 20000 in
theorem t_X7_turn_0 (k : Nat → xK) (hk0 : xS p l e R s m args below meth c cX7_turn 6 (some .int) yX7_turn.cls yX7_turn.name 7 164 D cA b0 hs res (xMQ D cA b0 below args s hs res) (k 0) 22) : xS p l e R s m args below meth c cX7_turn 6 (some .int) yX7_turn.cls yX7_turn.name 7 164 D cA b0 hs res (xMQ D cA b0 below args s hs res) (k_X7_turn_0 b0 k) 0 := by
  unfold k_X7_turn_0
  refine s_iload_n dX7_turn_0 rfl ?_
  refine s_iconst dX7_turn_1 (by decide) ?_
  refine s_bipush dX7_turn_2 (by decide) ?_
  refine s_callS (m_X7_in l D cA b0) w_597 w_598 w_29 w_599 ⟨rfl, by decide, by decide, by decide +kernel⟩ (by decide) dX7_turn_4 ?_
  refine s_c1ne (tgt := 12) dX7_turn_7 (by decide) ?_ ?_
  · refine s_aload_n dX7_turn_12 rfl ?_
    refine s_getI (Tb := TX7) rfl inX7 (by decide) w_508 dX7_turn_13 ?_
    refine s_istore_n dX7_turn_16 rfl (by decide) ?_
    refine s_iconst dX7_turn_17 (by decide) ?_
    refine s_istore_n dX7_turn_18 rfl (by decide) ?_
    refine s_iconst dX7_turn_19 (by decide) ?_
    refine s_istore dX7_turn_20 (by decide) ?_
    exact hk0
  · refine s_iconst dX7_turn_10 (by decide) ?_
    exact s_retI rfl dX7_turn_11
set_option maxRecDepth 20000 in
theorem t_X7_turn_63 (k : Nat → xK) (hk0 : xS p l e R s m args below meth c cX7_turn 6 (some .int) yX7_turn.cls yX7_turn.name 7 164 D cA b0 hs res (xMQ D cA b0 below args s hs res) (k 0) 22) : xS p l e R s m args below meth c cX7_turn 6 (some .int) yX7_turn.cls yX7_turn.name 7 164 D cA b0 hs res (xMQ D cA b0 below args s hs res) (k_X7_turn_63 b0 k) 63 := by
  unfold k_X7_turn_63
  refine s_aload_n dX7_turn_63 rfl ?_
  refine s_getI (Tb := TX7) rfl inX7 (by decide) w_508 dX7_turn_64 ?_
  refine s_iload_n dX7_turn_67 rfl ?_
  refine s_isub dX7_turn_68 ?_
  exact s_retI rfl dX7_turn_69
set_option maxRecDepth 20000 in
theorem t_X7_turn_22 (k : Nat → xK) (hk0 : xS p l e R s m args below meth c cX7_turn 6 (some .int) yX7_turn.cls yX7_turn.name 7 164 D cA b0 hs res (xMQ D cA b0 below args s hs res) (k 0) 22) : xS p l e R s m args below meth c cX7_turn 6 (some .int) yX7_turn.cls yX7_turn.name 7 164 D cA b0 hs res (xMQ D cA b0 below args s hs res) (k_X7_turn_22 b0 k) 22 := by
  unfold k_X7_turn_22
  refine s_iload dX7_turn_22 ?_
  refine s_iload_n dX7_turn_24 rfl ?_
  refine s_c2ge (tgt := 63) dX7_turn_25 (by decide) ?_ ?_
  · exact t_X7_turn_63 k hk0
  · refine s_iload_n dX7_turn_28 rfl ?_
    refine s_c1eq (tgt := 63) dX7_turn_29 (by decide) ?_ ?_
    · exact t_X7_turn_63 k hk0
    · refine s_aload_n dX7_turn_32 rfl ?_
      refine s_getI (Tb := TX7) rfl inX7 (by decide) w_508 dX7_turn_33 ?_
      refine s_istore dX7_turn_36 (by decide) ?_
      refine s_aload_n dX7_turn_38 rfl ?_
      refine s_callV (Tb := TX7) (m_X7_oneTurn l D cA b0) rfl w_616 w_618 w_13 w_29 w_619 ⟨rfl, by decide, by decide, by decide +kernel⟩ (by decide) dX7_turn_39 ?_
      refine s_aload_n dX7_turn_42 rfl ?_
      refine s_getI (Tb := TX7) rfl inX7 (by decide) w_508 dX7_turn_43 ?_
      refine s_iload dX7_turn_46 ?_
      refine s_c2le (tgt := 55) dX7_turn_48 (by decide) ?_ ?_
      · refine s_iconst dX7_turn_55 (by decide) ?_
        refine s_istore_n dX7_turn_56 rfl (by decide) ?_
        refine s_iinc dX7_turn_57 (by decide) (by decide) ?_
        refine s_goto (tgt := 22) dX7_turn_60 (by decide) ?_
        exact hk0
      · refine s_iconst dX7_turn_51 (by decide) ?_
        refine s_goto (tgt := 56) dX7_turn_52 (by decide) ?_
        refine s_istore_n dX7_turn_56 rfl (by decide) ?_
        refine s_iinc dX7_turn_57 (by decide) (by decide) ?_
        refine s_goto (tgt := 22) dX7_turn_60 (by decide) ?_
        exact hk0
theorem t_X7_turn_r (n : Nat) : xS p l e R s m args below meth c cX7_turn 6 (some .int) yX7_turn.cls yX7_turn.name 7 164 D cA b0 hs res (xMQ D cA b0 below args s hs res) (r_X7_turn b0 n 0) 22 := by
  induction n with
  | zero => exact fun ls st h hT => by cases hT
  | succ n ih => exact t_X7_turn_22 (r_X7_turn b0 n) ih
theorem m_X7_turn (l : Launch) (D : va_G) (cA : Nat → ClassId) (b0 : Nat) : xMet l D cA b0 yX7_turn (.code yX7_turn cX7_turn 6 (some .int) :: xTB) 7 164 (f_X7_turn b0) :=
  xMet_of (n := 2) (by decide +kernel) (by decide) (fun p e R s m args below meth c hs res => t_X7_turn_0 (r_X7_turn b0 64) (t_X7_turn_r 64))
end M_X7_turn
section M_X7_letter
variable {p : Program} {l : Launch} {e : Env} {R : Room} {s : State} {m : MethodId} {args : Array Value} {below : List Frame} {meth : Method} {c : Code} {D : va_G} {cA : Nat → ClassId} {b0 : Nat} {hs : xH} {res : Option xV × xH}
set_option maxRecDepth 20000 in
theorem t_X7_letter_0  : xS p l e R s m args below meth c cX7_letter 3 (some .int) yX7_letter.cls yX7_letter.name 2 43 D cA b0 hs res (xMQ D cA b0 below args s hs res) (k_X7_letter_0 b0) 0 := by
  unfold k_X7_letter_0
  refine s_aload_n dX7_letter_0 rfl ?_
  refine s_iload_n dX7_letter_1 rfl ?_
  refine s_callV (Tb := TX7) (m_X7_isTask l D cA b0) rfl w_604 w_606 w_12 w_29 w_607 ⟨rfl, by decide, by decide, by decide +kernel⟩ (by decide) dX7_letter_2 ?_
  refine s_c1ne (tgt := 10) dX7_letter_5 (by decide) ?_ ?_
  · refine s_aload_n dX7_letter_10 rfl ?_
    refine s_getR (Tb := TX7) rfl inX7 (by decide) w_480 dX7_letter_11 ?_
    refine s_iload_n dX7_letter_14 rfl ?_
    refine s_ial dX7_letter_15 ?_
    refine s_callS (m_X7_isOver l D cA b0) w_648 w_649 w_29 w_650 ⟨rfl, by decide, by decide, by decide +kernel⟩ (by decide) dX7_letter_16 ?_
    refine s_c1eq (tgt := 25) dX7_letter_19 (by decide) ?_ ?_
    · refine s_aload_n dX7_letter_25 rfl ?_
      refine s_getR (Tb := TX7) rfl inX7 (by decide) w_495 dX7_letter_26 ?_
      refine s_iload_n dX7_letter_29 rfl ?_
      refine s_ial dX7_letter_30 ?_
      refine s_bipush dX7_letter_31 (by decide) ?_
      refine s_c2ne (tgt := 39) dX7_letter_33 (by decide) ?_ ?_
      · refine s_aload_n dX7_letter_39 rfl ?_
        refine s_getR (Tb := TX7) rfl inX7 (by decide) w_496 dX7_letter_40 ?_
        refine s_bipush dX7_letter_43 (by decide) ?_
        refine s_iload_n dX7_letter_45 rfl ?_
        refine s_imul dX7_letter_46 ?_
        refine s_aload_n dX7_letter_47 rfl ?_
        refine s_getR (Tb := TX7) rfl inX7 (by decide) w_495 dX7_letter_48 ?_
        refine s_iload_n dX7_letter_51 rfl ?_
        refine s_ial dX7_letter_52 ?_
        refine s_iadd dX7_letter_53 ?_
        refine s_iload_n dX7_letter_54 rfl ?_
        refine s_ias dX7_letter_55 ?_
        refine s_aload_n dX7_letter_56 rfl ?_
        refine s_getR (Tb := TX7) rfl inX7 (by decide) w_495 dX7_letter_57 ?_
        refine s_iload_n dX7_letter_60 rfl ?_
        refine s_dup2 dX7_letter_61 ?_
        refine s_ial dX7_letter_62 ?_
        refine s_iconst dX7_letter_63 (by decide) ?_
        refine s_iadd dX7_letter_64 ?_
        refine s_ias dX7_letter_65 ?_
        refine s_aload_n dX7_letter_66 rfl ?_
        refine s_getR (Tb := TX7) rfl inX7 (by decide) w_495 dX7_letter_67 ?_
        refine s_iload_n dX7_letter_70 rfl ?_
        refine s_ial dX7_letter_71 ?_
        exact s_retI rfl dX7_letter_72
      · refine s_bipush dX7_letter_36 (by decide) ?_
        exact s_retI rfl dX7_letter_38
    · refine s_bipush dX7_letter_22 (by decide) ?_
      exact s_retI rfl dX7_letter_24
  · refine s_iconst dX7_letter_8 (by decide) ?_
    exact s_retI rfl dX7_letter_9
theorem m_X7_letter (l : Launch) (D : va_G) (cA : Nat → ClassId) (b0 : Nat) : xMet l D cA b0 yX7_letter (.code yX7_letter cX7_letter 3 (some .int) :: xTB) 2 43 (f_X7_letter b0) :=
  xMet_of (n := 3) (by decide +kernel) (by decide) (fun p e R s m args below meth c hs res => t_X7_letter_0)
end M_X7_letter
section M_X7_stop
variable {p : Program} {l : Launch} {e : Env} {R : Room} {s : State} {m : MethodId} {args : Array Value} {below : List Frame} {meth : Method} {c : Code} {D : va_G} {cA : Nat → ClassId} {b0 : Nat} {hs : xH} {res : Option xV × xH}
set_option maxRecDepth 20000 in
theorem t_X7_stop_0  : xS p l e R s m args below meth c cX7_stop 2 (some .int) yX7_stop.cls yX7_stop.name 2 43 D cA b0 hs res (xMQ D cA b0 below args s hs res) (k_X7_stop_0 b0) 0 := by
  unfold k_X7_stop_0
  refine s_aload_n dX7_stop_0 rfl ?_
  refine s_iload_n dX7_stop_1 rfl ?_
  refine s_callV (Tb := TX7) (m_X7_isTask l D cA b0) rfl w_604 w_606 w_12 w_29 w_607 ⟨rfl, by decide, by decide, by decide +kernel⟩ (by decide) dX7_stop_2 ?_
  refine s_c1ne (tgt := 10) dX7_stop_5 (by decide) ?_ ?_
  · refine s_aload_n dX7_stop_10 rfl ?_
    refine s_getR (Tb := TX7) rfl inX7 (by decide) w_480 dX7_stop_11 ?_
    refine s_iload_n dX7_stop_14 rfl ?_
    refine s_ial dX7_stop_15 ?_
    refine s_callS (m_X7_isOver l D cA b0) w_648 w_649 w_29 w_650 ⟨rfl, by decide, by decide, by decide +kernel⟩ (by decide) dX7_stop_16 ?_
    refine s_c1eq (tgt := 25) dX7_stop_19 (by decide) ?_ ?_
    · refine s_aload_n dX7_stop_25 rfl ?_
      refine s_getR (Tb := TX7) rfl inX7 (by decide) w_480 dX7_stop_26 ?_
      refine s_iload_n dX7_stop_29 rfl ?_
      refine s_iconst dX7_stop_30 (by decide) ?_
      refine s_ias dX7_stop_31 ?_
      refine s_iconst dX7_stop_32 (by decide) ?_
      exact s_retI rfl dX7_stop_33
    · refine s_bipush dX7_stop_22 (by decide) ?_
      exact s_retI rfl dX7_stop_24
  · refine s_iconst dX7_stop_8 (by decide) ?_
    exact s_retI rfl dX7_stop_9
theorem m_X7_stop (l : Launch) (D : va_G) (cA : Nat → ClassId) (b0 : Nat) : xMet l D cA b0 yX7_stop (.code yX7_stop cX7_stop 2 (some .int) :: xTB) 2 43 (f_X7_stop b0) :=
  xMet_of (n := 2) (by decide +kernel) (by decide) (fun p e R s m args below meth c hs res => t_X7_stop_0)
end M_X7_stop
section M_X7_again
variable {p : Program} {l : Launch} {e : Env} {R : Room} {s : State} {m : MethodId} {args : Array Value} {below : List Frame} {meth : Method} {c : Code} {D : va_G} {cA : Nat → ClassId} {b0 : Nat} {hs : xH} {res : Option xV × xH}
set_option maxRecDepth 20000 in
theorem t_X7_again_33  : xS p l e R s m args below meth c cX7_again 2 (some .int) yX7_again.cls yX7_again.name 2 43 D cA b0 hs res (xMQ D cA b0 below args s hs res) (k_X7_again_33 b0) 33 := by
  unfold k_X7_again_33
  refine s_aload_n dX7_again_33 rfl ?_
  refine s_getR (Tb := TX7) rfl inX7 (by decide) w_480 dX7_again_34 ?_
  refine s_iload_n dX7_again_37 rfl ?_
  refine s_iconst dX7_again_38 (by decide) ?_
  refine s_ias dX7_again_39 ?_
  refine s_aload_n dX7_again_40 rfl ?_
  refine s_iload_n dX7_again_41 rfl ?_
  refine s_callV (Tb := TX7) (m_X7_back l D cA b0) rfl w_667 w_669 w_25 w_29 w_670 ⟨rfl, by decide, by decide, by decide +kernel⟩ (by decide) dX7_again_42 ?_
  refine s_iconst dX7_again_45 (by decide) ?_
  exact s_retI rfl dX7_again_46
set_option maxRecDepth 20000 in
theorem t_X7_again_0  : xS p l e R s m args below meth c cX7_again 2 (some .int) yX7_again.cls yX7_again.name 2 43 D cA b0 hs res (xMQ D cA b0 below args s hs res) (k_X7_again_0 b0) 0 := by
  unfold k_X7_again_0
  refine s_aload_n dX7_again_0 rfl ?_
  refine s_iload_n dX7_again_1 rfl ?_
  refine s_callV (Tb := TX7) (m_X7_isTask l D cA b0) rfl w_604 w_606 w_12 w_29 w_607 ⟨rfl, by decide, by decide, by decide +kernel⟩ (by decide) dX7_again_2 ?_
  refine s_c1ne (tgt := 10) dX7_again_5 (by decide) ?_ ?_
  · refine s_aload_n dX7_again_10 rfl ?_
    refine s_getR (Tb := TX7) rfl inX7 (by decide) w_480 dX7_again_11 ?_
    refine s_iload_n dX7_again_14 rfl ?_
    refine s_ial dX7_again_15 ?_
    refine s_iconst dX7_again_16 (by decide) ?_
    refine s_c2eq (tgt := 33) dX7_again_17 (by decide) ?_ ?_
    · exact t_X7_again_33
    · refine s_aload_n dX7_again_20 rfl ?_
      refine s_getR (Tb := TX7) rfl inX7 (by decide) w_480 dX7_again_21 ?_
      refine s_iload_n dX7_again_24 rfl ?_
      refine s_ial dX7_again_25 ?_
      refine s_iconst dX7_again_26 (by decide) ?_
      refine s_c2eq (tgt := 33) dX7_again_27 (by decide) ?_ ?_
      · exact t_X7_again_33
      · refine s_bipush dX7_again_30 (by decide) ?_
        exact s_retI rfl dX7_again_32
  · refine s_iconst dX7_again_8 (by decide) ?_
    exact s_retI rfl dX7_again_9
theorem m_X7_again (l : Launch) (D : va_G) (cA : Nat → ClassId) (b0 : Nat) : xMet l D cA b0 yX7_again (.code yX7_again cX7_again 2 (some .int) :: xTB) 2 43 (f_X7_again b0) :=
  xMet_of (n := 2) (by decide +kernel) (by decide) (fun p e R s m args below meth c hs res => t_X7_again_0)
end M_X7_again
section M_X7_of
variable {p : Program} {l : Launch} {e : Env} {R : Room} {s : State} {m : MethodId} {args : Array Value} {below : List Frame} {meth : Method} {c : Code} {D : va_G} {cA : Nat → ClassId} {b0 : Nat} {hs : xH} {res : Option xV × xH}
set_option maxRecDepth 20000 in
theorem t_X7_of_68  : xS p l e R s m args below meth c cX7_of 3 (some .int) yX7_of.cls yX7_of.name 2 43 D cA b0 hs res (xMQ D cA b0 below args s hs res) (k_X7_of_68 b0) 68 := by
  unfold k_X7_of_68
  refine s_aload_n dX7_of_68 rfl ?_
  refine s_getR (Tb := TX7) rfl inX7 (by decide) w_480 dX7_of_69 ?_
  refine s_iload_n dX7_of_72 rfl ?_
  refine s_ial dX7_of_73 ?_
  exact s_retI rfl dX7_of_74
set_option maxRecDepth 20000 in
theorem t_X7_of_75  : xS p l e R s m args below meth c cX7_of 3 (some .int) yX7_of.cls yX7_of.name 2 43 D cA b0 hs res (xMQ D cA b0 below args s hs res) (k_X7_of_75 b0) 75 := by
  unfold k_X7_of_75
  refine s_aload_n dX7_of_75 rfl ?_
  refine s_getR (Tb := TX7) rfl inX7 (by decide) w_486 dX7_of_76 ?_
  refine s_iload_n dX7_of_79 rfl ?_
  refine s_ial dX7_of_80 ?_
  exact s_retI rfl dX7_of_81
set_option maxRecDepth 20000 in
theorem t_X7_of_82  : xS p l e R s m args below meth c cX7_of 3 (some .int) yX7_of.cls yX7_of.name 2 43 D cA b0 hs res (xMQ D cA b0 below args s hs res) (k_X7_of_82 b0) 82 := by
  unfold k_X7_of_82
  refine s_aload_n dX7_of_82 rfl ?_
  refine s_getR (Tb := TX7) rfl inX7 (by decide) w_485 dX7_of_83 ?_
  refine s_iload_n dX7_of_86 rfl ?_
  refine s_ial dX7_of_87 ?_
  exact s_retI rfl dX7_of_88
set_option maxRecDepth 20000 in
theorem t_X7_of_89  : xS p l e R s m args below meth c cX7_of 3 (some .int) yX7_of.cls yX7_of.name 2 43 D cA b0 hs res (xMQ D cA b0 below args s hs res) (k_X7_of_89 b0) 89 := by
  unfold k_X7_of_89
  refine s_aload_n dX7_of_89 rfl ?_
  refine s_getR (Tb := TX7) rfl inX7 (by decide) w_495 dX7_of_90 ?_
  refine s_iload_n dX7_of_93 rfl ?_
  refine s_ial dX7_of_94 ?_
  exact s_retI rfl dX7_of_95
set_option maxRecDepth 20000 in
theorem t_X7_of_96  : xS p l e R s m args below meth c cX7_of 3 (some .int) yX7_of.cls yX7_of.name 2 43 D cA b0 hs res (xMQ D cA b0 below args s hs res) (k_X7_of_96 b0) 96 := by
  unfold k_X7_of_96
  refine s_aload_n dX7_of_96 rfl ?_
  refine s_getR (Tb := TX7) rfl inX7 (by decide) w_479 dX7_of_97 ?_
  refine s_iload_n dX7_of_100 rfl ?_
  refine s_ial dX7_of_101 ?_
  exact s_retI rfl dX7_of_102
set_option maxRecDepth 20000 in
theorem t_X7_of_103  : xS p l e R s m args below meth c cX7_of 3 (some .int) yX7_of.cls yX7_of.name 2 43 D cA b0 hs res (xMQ D cA b0 below args s hs res) (k_X7_of_103 b0) 103 := by
  unfold k_X7_of_103
  refine s_aload_n dX7_of_103 rfl ?_
  refine s_getR (Tb := TX7) rfl inX7 (by decide) w_498 dX7_of_104 ?_
  refine s_iload_n dX7_of_107 rfl ?_
  refine s_ial dX7_of_108 ?_
  exact s_retI rfl dX7_of_109
set_option maxRecDepth 20000 in
theorem t_X7_of_110  : xS p l e R s m args below meth c cX7_of 3 (some .int) yX7_of.cls yX7_of.name 2 43 D cA b0 hs res (xMQ D cA b0 below args s hs res) (k_X7_of_110 b0) 110 := by
  unfold k_X7_of_110
  refine s_aload_n dX7_of_110 rfl ?_
  refine s_getR (Tb := TX7) rfl inX7 (by decide) w_499 dX7_of_111 ?_
  refine s_iload_n dX7_of_114 rfl ?_
  refine s_ial dX7_of_115 ?_
  exact s_retI rfl dX7_of_116
set_option maxRecDepth 20000 in
theorem t_X7_of_117  : xS p l e R s m args below meth c cX7_of 3 (some .int) yX7_of.cls yX7_of.name 2 43 D cA b0 hs res (xMQ D cA b0 below args s hs res) (k_X7_of_117 b0) 117 := by
  unfold k_X7_of_117
  refine s_aload_n dX7_of_117 rfl ?_
  refine s_getR (Tb := TX7) rfl inX7 (by decide) w_487 dX7_of_118 ?_
  refine s_iload_n dX7_of_121 rfl ?_
  refine s_ial dX7_of_122 ?_
  exact s_retI rfl dX7_of_123
set_option maxRecDepth 20000 in
theorem t_X7_of_124  : xS p l e R s m args below meth c cX7_of 3 (some .int) yX7_of.cls yX7_of.name 2 43 D cA b0 hs res (xMQ D cA b0 below args s hs res) (k_X7_of_124 b0) 124 := by
  unfold k_X7_of_124
  refine s_aload_n dX7_of_124 rfl ?_
  refine s_getR (Tb := TX7) rfl inX7 (by decide) w_493 dX7_of_125 ?_
  refine s_iload_n dX7_of_128 rfl ?_
  refine s_ial dX7_of_129 ?_
  exact s_retI rfl dX7_of_130
set_option maxRecDepth 20000 in
theorem t_X7_of_131  : xS p l e R s m args below meth c cX7_of 3 (some .int) yX7_of.cls yX7_of.name 2 43 D cA b0 hs res (xMQ D cA b0 below args s hs res) (k_X7_of_131 b0) 131 := by
  unfold k_X7_of_131
  refine s_aload_n dX7_of_131 rfl ?_
  refine s_getR (Tb := TX7) rfl inX7 (by decide) w_501 dX7_of_132 ?_
  refine s_iload_n dX7_of_135 rfl ?_
  refine s_ial dX7_of_136 ?_
  exact s_retI rfl dX7_of_137
set_option maxRecDepth 20000 in
theorem t_X7_of_138  : xS p l e R s m args below meth c cX7_of 3 (some .int) yX7_of.cls yX7_of.name 2 43 D cA b0 hs res (xMQ D cA b0 below args s hs res) (k_X7_of_138 b0) 138 := by
  unfold k_X7_of_138
  refine s_aload_n dX7_of_138 rfl ?_
  refine s_getR (Tb := TX7) rfl inX7 (by decide) w_500 dX7_of_139 ?_
  refine s_iload_n dX7_of_142 rfl ?_
  refine s_ial dX7_of_143 ?_
  exact s_retI rfl dX7_of_144
set_option maxRecDepth 20000 in
theorem t_X7_of_145  : xS p l e R s m args below meth c cX7_of 3 (some .int) yX7_of.cls yX7_of.name 2 43 D cA b0 hs res (xMQ D cA b0 below args s hs res) (k_X7_of_145 b0) 145 := by
  unfold k_X7_of_145
  refine s_iconst dX7_of_145 (by decide) ?_
  exact s_retI rfl dX7_of_146
set_option maxRecDepth 20000 in
theorem t_X7_of_0  : xS p l e R s m args below meth c cX7_of 3 (some .int) yX7_of.cls yX7_of.name 2 43 D cA b0 hs res (xMQ D cA b0 below args s hs res) (k_X7_of_0 b0) 0 := by
  unfold k_X7_of_0
  refine s_aload_n dX7_of_0 rfl ?_
  refine s_iload_n dX7_of_1 rfl ?_
  refine s_callV (Tb := TX7) (m_X7_isTask l D cA b0) rfl w_604 w_606 w_12 w_29 w_607 ⟨rfl, by decide, by decide, by decide +kernel⟩ (by decide) dX7_of_2 ?_
  refine s_c1ne (tgt := 10) dX7_of_5 (by decide) ?_ ?_
  · refine s_iload_n dX7_of_10 rfl ?_
    refine s_tab (tg := st_X7_of_11) (dt := 145) dX7_of_11 (by decide) (by decide) ?_ ?_ (t_X7_of_145)
    · intro j hj
      match j, hj with
      | 0, _ => exact ⟨57, rfl, by decide⟩
      | 1, _ => exact ⟨64, rfl, by decide⟩
      | 2, _ => exact ⟨71, rfl, by decide⟩
      | 3, _ => exact ⟨78, rfl, by decide⟩
      | 4, _ => exact ⟨85, rfl, by decide⟩
      | 5, _ => exact ⟨92, rfl, by decide⟩
      | 6, _ => exact ⟨99, rfl, by decide⟩
      | 7, _ => exact ⟨106, rfl, by decide⟩
      | 8, _ => exact ⟨113, rfl, by decide⟩
      | 9, _ => exact ⟨120, rfl, by decide⟩
      | 10, _ => exact ⟨127, rfl, by decide⟩
      | q + 11, hj => exact absurd hj (by omega)
    · intro j hj
      match j, hj with
      | 0, _ => exact t_X7_of_68
      | 1, _ => exact t_X7_of_75
      | 2, _ => exact t_X7_of_82
      | 3, _ => exact t_X7_of_89
      | 4, _ => exact t_X7_of_96
      | 5, _ => exact t_X7_of_103
      | 6, _ => exact t_X7_of_110
      | 7, _ => exact t_X7_of_117
      | 8, _ => exact t_X7_of_124
      | 9, _ => exact t_X7_of_131
      | 10, _ => exact t_X7_of_138
      | q + 11, hj => exact absurd hj (by omega)
  · refine s_iconst dX7_of_8 (by decide) ?_
    exact s_retI rfl dX7_of_9
theorem m_X7_of (l : Launch) (D : va_G) (cA : Nat → ClassId) (b0 : Nat) : xMet l D cA b0 yX7_of (.code yX7_of cX7_of 3 (some .int) :: xTB) 2 43 (f_X7_of b0) :=
  xMet_of (n := 3) (by decide +kernel) (by decide) (fun p e R s m args below meth c hs res => t_X7_of_0)
end M_X7_of
section M_X7_at
variable {p : Program} {l : Launch} {e : Env} {R : Room} {s : State} {m : MethodId} {args : Array Value} {below : List Frame} {meth : Method} {c : Code} {D : va_G} {cA : Nat → ClassId} {b0 : Nat} {hs : xH} {res : Option xV × xH}
set_option maxRecDepth 20000 in
theorem t_X7_at_0  : xS p l e R s m args below meth c cX7_at 4 (some .int) yX7_at.cls yX7_at.name 2 43 D cA b0 hs res (xMQ D cA b0 below args s hs res) (k_X7_at_0 b0) 0 := by
  unfold k_X7_at_0
  refine s_aload_n dX7_at_0 rfl ?_
  refine s_iload_n dX7_at_1 rfl ?_
  refine s_callV (Tb := TX7) (m_X7_isTask l D cA b0) rfl w_604 w_606 w_12 w_29 w_607 ⟨rfl, by decide, by decide, by decide +kernel⟩ (by decide) dX7_at_2 ?_
  refine s_c1ne (tgt := 10) dX7_at_5 (by decide) ?_ ?_
  · refine s_iload_n dX7_at_10 rfl ?_
    refine s_c1eq (tgt := 49) dX7_at_11 (by decide) ?_ ?_
    · refine s_iload_n dX7_at_49 rfl ?_
      refine s_iconst dX7_at_50 (by decide) ?_
      refine s_aload_n dX7_at_51 rfl ?_
      refine s_getR (Tb := TX7) rfl inX7 (by decide) w_487 dX7_at_52 ?_
      refine s_iload_n dX7_at_55 rfl ?_
      refine s_ial dX7_at_56 ?_
      refine s_iconst dX7_at_57 (by decide) ?_
      refine s_isub dX7_at_58 ?_
      refine s_callS (m_X7_in l D cA b0) w_597 w_598 w_29 w_599 ⟨rfl, by decide, by decide, by decide +kernel⟩ (by decide) dX7_at_59 ?_
      refine s_c1eq (tgt := 79) dX7_at_62 (by decide) ?_ ?_
      · refine s_iconst dX7_at_79 (by decide) ?_
        exact s_retI rfl dX7_at_80
      · refine s_aload_n dX7_at_65 rfl ?_
        refine s_getR (Tb := TX7) rfl inX7 (by decide) w_488 dX7_at_66 ?_
        refine s_bipush dX7_at_69 (by decide) ?_
        refine s_iload_n dX7_at_71 rfl ?_
        refine s_imul dX7_at_72 ?_
        refine s_iload_n dX7_at_73 rfl ?_
        refine s_iadd dX7_at_74 ?_
        refine s_ial dX7_at_75 ?_
        refine s_goto (tgt := 80) dX7_at_76 (by decide) ?_
        exact s_retI rfl dX7_at_80
    · refine s_aload_n dX7_at_14 rfl ?_
      refine s_getR (Tb := TX7) rfl inX7 (by decide) w_493 dX7_at_15 ?_
      refine s_iload_n dX7_at_18 rfl ?_
      refine s_ial dX7_at_19 ?_
      refine s_bipush dX7_at_20 (by decide) ?_
      refine s_c2eq (tgt := 34) dX7_at_22 (by decide) ?_ ?_
      · refine s_iconst dX7_at_34 (by decide) ?_
        refine s_goto (tgt := 48) dX7_at_35 (by decide) ?_
        exact s_retI rfl dX7_at_48
      · refine s_iload_n dX7_at_25 rfl ?_
        refine s_iconst dX7_at_26 (by decide) ?_
        refine s_iconst dX7_at_27 (by decide) ?_
        refine s_callS (m_X7_in l D cA b0) w_597 w_598 w_29 w_599 ⟨rfl, by decide, by decide, by decide +kernel⟩ (by decide) dX7_at_28 ?_
        refine s_c1ne (tgt := 38) dX7_at_31 (by decide) ?_ ?_
        · refine s_aload_n dX7_at_38 rfl ?_
          refine s_getR (Tb := TX7) rfl inX7 (by decide) w_494 dX7_at_39 ?_
          refine s_iconst dX7_at_42 (by decide) ?_
          refine s_iload_n dX7_at_43 rfl ?_
          refine s_imul dX7_at_44 ?_
          refine s_iload_n dX7_at_45 rfl ?_
          refine s_iadd dX7_at_46 ?_
          refine s_ial dX7_at_47 ?_
          exact s_retI rfl dX7_at_48
        · refine s_iconst dX7_at_34 (by decide) ?_
          refine s_goto (tgt := 48) dX7_at_35 (by decide) ?_
          exact s_retI rfl dX7_at_48
  · refine s_iconst dX7_at_8 (by decide) ?_
    exact s_retI rfl dX7_at_9
theorem m_X7_at (l : Launch) (D : va_G) (cA : Nat → ClassId) (b0 : Nat) : xMet l D cA b0 yX7_at (.code yX7_at cX7_at 4 (some .int) :: xTB) 2 43 (f_X7_at b0) :=
  xMet_of (n := 4) (by decide +kernel) (by decide) (fun p e R s m args below meth c hs res => t_X7_at_0)
end M_X7_at
section M_X7_letterAt
variable {p : Program} {l : Launch} {e : Env} {R : Room} {s : State} {m : MethodId} {args : Array Value} {below : List Frame} {meth : Method} {c : Code} {D : va_G} {cA : Nat → ClassId} {b0 : Nat} {hs : xH} {res : Option xV × xH}
set_option maxRecDepth 20000 in
theorem t_X7_letterAt_0  : xS p l e R s m args below meth c cX7_letterAt 3 (some .int) yX7_letterAt.cls yX7_letterAt.name 2 43 D cA b0 hs res (xMQ D cA b0 below args s hs res) (k_X7_letterAt_0 b0) 0 := by
  unfold k_X7_letterAt_0
  refine s_aload_n dX7_letterAt_0 rfl ?_
  refine s_iload_n dX7_letterAt_1 rfl ?_
  refine s_callV (Tb := TX7) (m_X7_isTask l D cA b0) rfl w_604 w_606 w_12 w_29 w_607 ⟨rfl, by decide, by decide, by decide +kernel⟩ (by decide) dX7_letterAt_2 ?_
  refine s_c1eq (tgt := 38) dX7_letterAt_5 (by decide) ?_ ?_
  · refine s_iconst dX7_letterAt_38 (by decide) ?_
    exact s_retI rfl dX7_letterAt_39
  · refine s_iload_n dX7_letterAt_8 rfl ?_
    refine s_iconst dX7_letterAt_9 (by decide) ?_
    refine s_aload_n dX7_letterAt_10 rfl ?_
    refine s_getR (Tb := TX7) rfl inX7 (by decide) w_495 dX7_letterAt_11 ?_
    refine s_iload_n dX7_letterAt_14 rfl ?_
    refine s_ial dX7_letterAt_15 ?_
    refine s_iconst dX7_letterAt_16 (by decide) ?_
    refine s_isub dX7_letterAt_17 ?_
    refine s_callS (m_X7_in l D cA b0) w_597 w_598 w_29 w_599 ⟨rfl, by decide, by decide, by decide +kernel⟩ (by decide) dX7_letterAt_18 ?_
    refine s_c1eq (tgt := 38) dX7_letterAt_21 (by decide) ?_ ?_
    · refine s_iconst dX7_letterAt_38 (by decide) ?_
      exact s_retI rfl dX7_letterAt_39
    · refine s_aload_n dX7_letterAt_24 rfl ?_
      refine s_getR (Tb := TX7) rfl inX7 (by decide) w_496 dX7_letterAt_25 ?_
      refine s_bipush dX7_letterAt_28 (by decide) ?_
      refine s_iload_n dX7_letterAt_30 rfl ?_
      refine s_imul dX7_letterAt_31 ?_
      refine s_iload_n dX7_letterAt_32 rfl ?_
      refine s_iadd dX7_letterAt_33 ?_
      refine s_ial dX7_letterAt_34 ?_
      refine s_goto (tgt := 39) dX7_letterAt_35 (by decide) ?_
      exact s_retI rfl dX7_letterAt_39
theorem m_X7_letterAt (l : Launch) (D : va_G) (cA : Nat → ClassId) (b0 : Nat) : xMet l D cA b0 yX7_letterAt (.code yX7_letterAt cX7_letterAt 3 (some .int) :: xTB) 2 43 (f_X7_letterAt b0) :=
  xMet_of (n := 3) (by decide +kernel) (by decide) (fun p e R s m args below meth c hs res => t_X7_letterAt_0)
end M_X7_letterAt
section M_X7_count
variable {p : Program} {l : Launch} {e : Env} {R : Room} {s : State} {m : MethodId} {args : Array Value} {below : List Frame} {meth : Method} {c : Code} {D : va_G} {cA : Nat → ClassId} {b0 : Nat} {hs : xH} {res : Option xV × xH}
set_option maxRecDepth 20000 in
theorem t_X7_count_0 (k : Nat → xK) (hk0 : xS p l e R s m args below meth c cX7_count 4 (some .int) yX7_count.cls yX7_count.name 1 20 D cA b0 hs res (xMQ D cA b0 below args s hs res) (k 0) 4) : xS p l e R s m args below meth c cX7_count 4 (some .int) yX7_count.cls yX7_count.name 1 20 D cA b0 hs res (xMQ D cA b0 below args s hs res) (k_X7_count_0 b0 k) 0 := by
  unfold k_X7_count_0
  refine s_iconst dX7_count_0 (by decide) ?_
  refine s_istore_n dX7_count_1 rfl (by decide) ?_
  refine s_iconst dX7_count_2 (by decide) ?_
  refine s_istore_n dX7_count_3 rfl (by decide) ?_
  exact hk0
set_option maxRecDepth 20000 in
theorem t_X7_count_80 (k : Nat → xK) (hk0 : xS p l e R s m args below meth c cX7_count 4 (some .int) yX7_count.cls yX7_count.name 1 20 D cA b0 hs res (xMQ D cA b0 below args s hs res) (k 0) 4) : xS p l e R s m args below meth c cX7_count 4 (some .int) yX7_count.cls yX7_count.name 1 20 D cA b0 hs res (xMQ D cA b0 below args s hs res) (k_X7_count_80 b0 k) 80 := by
  unfold k_X7_count_80
  refine s_aload_n dX7_count_80 rfl ?_
  refine s_getI (Tb := TX7) rfl inX7 (by decide) w_476 dX7_count_81 ?_
  exact s_retI rfl dX7_count_84
set_option maxRecDepth 20000 in
theorem t_X7_count_85 (k : Nat → xK) (hk0 : xS p l e R s m args below meth c cX7_count 4 (some .int) yX7_count.cls yX7_count.name 1 20 D cA b0 hs res (xMQ D cA b0 below args s hs res) (k 0) 4) : xS p l e R s m args below meth c cX7_count 4 (some .int) yX7_count.cls yX7_count.name 1 20 D cA b0 hs res (xMQ D cA b0 below args s hs res) (k_X7_count_85 b0 k) 85 := by
  unfold k_X7_count_85
  refine s_aload_n dX7_count_85 rfl ?_
  refine s_getI (Tb := TX7) rfl inX7 (by decide) w_507 dX7_count_86 ?_
  exact s_retI rfl dX7_count_89
set_option maxRecDepth 20000 in
theorem t_X7_count_90 (k : Nat → xK) (hk0 : xS p l e R s m args below meth c cX7_count 4 (some .int) yX7_count.cls yX7_count.name 1 20 D cA b0 hs res (xMQ D cA b0 below args s hs res) (k 0) 4) : xS p l e R s m args below meth c cX7_count 4 (some .int) yX7_count.cls yX7_count.name 1 20 D cA b0 hs res (xMQ D cA b0 below args s hs res) (k_X7_count_90 b0 k) 90 := by
  unfold k_X7_count_90
  refine s_aload_n dX7_count_90 rfl ?_
  refine s_getI (Tb := TX7) rfl inX7 (by decide) w_508 dX7_count_91 ?_
  exact s_retI rfl dX7_count_94
set_option maxRecDepth 20000 in
theorem t_X7_count_95 (k : Nat → xK) (hk0 : xS p l e R s m args below meth c cX7_count 4 (some .int) yX7_count.cls yX7_count.name 1 20 D cA b0 hs res (xMQ D cA b0 below args s hs res) (k 0) 4) : xS p l e R s m args below meth c cX7_count 4 (some .int) yX7_count.cls yX7_count.name 1 20 D cA b0 hs res (xMQ D cA b0 below args s hs res) (k_X7_count_95 b0 k) 95 := by
  unfold k_X7_count_95
  refine s_aload_n dX7_count_95 rfl ?_
  refine s_getI (Tb := TX7) rfl inX7 (by decide) w_509 dX7_count_96 ?_
  exact s_retI rfl dX7_count_99
set_option maxRecDepth 20000 in
theorem t_X7_count_100 (k : Nat → xK) (hk0 : xS p l e R s m args below meth c cX7_count 4 (some .int) yX7_count.cls yX7_count.name 1 20 D cA b0 hs res (xMQ D cA b0 below args s hs res) (k 0) 4) : xS p l e R s m args below meth c cX7_count 4 (some .int) yX7_count.cls yX7_count.name 1 20 D cA b0 hs res (xMQ D cA b0 below args s hs res) (k_X7_count_100 b0 k) 100 := by
  unfold k_X7_count_100
  refine s_aload_n dX7_count_100 rfl ?_
  refine s_getI (Tb := TX7) rfl inX7 (by decide) w_510 dX7_count_101 ?_
  exact s_retI rfl dX7_count_104
set_option maxRecDepth 20000 in
theorem t_X7_count_105 (k : Nat → xK) (hk0 : xS p l e R s m args below meth c cX7_count 4 (some .int) yX7_count.cls yX7_count.name 1 20 D cA b0 hs res (xMQ D cA b0 below args s hs res) (k 0) 4) : xS p l e R s m args below meth c cX7_count 4 (some .int) yX7_count.cls yX7_count.name 1 20 D cA b0 hs res (xMQ D cA b0 below args s hs res) (k_X7_count_105 b0 k) 105 := by
  unfold k_X7_count_105
  refine s_aload_n dX7_count_105 rfl ?_
  refine s_getI (Tb := TX7) rfl inX7 (by decide) w_511 dX7_count_106 ?_
  exact s_retI rfl dX7_count_109
set_option maxRecDepth 20000 in
theorem t_X7_count_110 (k : Nat → xK) (hk0 : xS p l e R s m args below meth c cX7_count 4 (some .int) yX7_count.cls yX7_count.name 1 20 D cA b0 hs res (xMQ D cA b0 below args s hs res) (k 0) 4) : xS p l e R s m args below meth c cX7_count 4 (some .int) yX7_count.cls yX7_count.name 1 20 D cA b0 hs res (xMQ D cA b0 below args s hs res) (k_X7_count_110 b0 k) 110 := by
  unfold k_X7_count_110
  refine s_iload_n dX7_count_110 rfl ?_
  exact s_retI rfl dX7_count_111
set_option maxRecDepth 20000 in
theorem t_X7_count_112 (k : Nat → xK) (hk0 : xS p l e R s m args below meth c cX7_count 4 (some .int) yX7_count.cls yX7_count.name 1 20 D cA b0 hs res (xMQ D cA b0 below args s hs res) (k 0) 4) : xS p l e R s m args below meth c cX7_count 4 (some .int) yX7_count.cls yX7_count.name 1 20 D cA b0 hs res (xMQ D cA b0 below args s hs res) (k_X7_count_112 b0 k) 112 := by
  unfold k_X7_count_112
  refine s_iconst dX7_count_112 (by decide) ?_
  exact s_retI rfl dX7_count_113
set_option maxRecDepth 20000 in
theorem t_X7_count_30 (k : Nat → xK) (hk0 : xS p l e R s m args below meth c cX7_count 4 (some .int) yX7_count.cls yX7_count.name 1 20 D cA b0 hs res (xMQ D cA b0 below args s hs res) (k 0) 4) : xS p l e R s m args below meth c cX7_count 4 (some .int) yX7_count.cls yX7_count.name 1 20 D cA b0 hs res (xMQ D cA b0 below args s hs res) (k_X7_count_30 b0 k) 30 := by
  unfold k_X7_count_30
  refine s_iadd dX7_count_30 ?_
  refine s_istore_n dX7_count_31 rfl (by decide) ?_
  refine s_iinc dX7_count_32 (by decide) (by decide) ?_
  refine s_goto (tgt := 4) dX7_count_35 (by decide) ?_
  exact hk0
set_option maxRecDepth 20000 in
theorem t_X7_count_4 (k : Nat → xK) (hk0 : xS p l e R s m args below meth c cX7_count 4 (some .int) yX7_count.cls yX7_count.name 1 20 D cA b0 hs res (xMQ D cA b0 below args s hs res) (k 0) 4) : xS p l e R s m args below meth c cX7_count 4 (some .int) yX7_count.cls yX7_count.name 1 20 D cA b0 hs res (xMQ D cA b0 below args s hs res) (k_X7_count_4 b0 k) 4 := by
  unfold k_X7_count_4
  refine s_iload_n dX7_count_4 rfl ?_
  refine s_aload_n dX7_count_5 rfl ?_
  refine s_getI (Tb := TX7) rfl inX7 (by decide) w_476 dX7_count_6 ?_
  refine s_c2ge (tgt := 38) dX7_count_9 (by decide) ?_ ?_
  · refine s_iload_n dX7_count_38 rfl ?_
    refine s_tab (tg := st_X7_count_39) (dt := 112) dX7_count_39 (by decide) (by decide) ?_ ?_ (t_X7_count_112 k hk0)
    · intro j hj
      match j, hj with
      | 0, _ => exact ⟨41, rfl, by decide⟩
      | 1, _ => exact ⟨46, rfl, by decide⟩
      | 2, _ => exact ⟨51, rfl, by decide⟩
      | 3, _ => exact ⟨56, rfl, by decide⟩
      | 4, _ => exact ⟨61, rfl, by decide⟩
      | 5, _ => exact ⟨66, rfl, by decide⟩
      | 6, _ => exact ⟨71, rfl, by decide⟩
      | q + 7, hj => exact absurd hj (by omega)
    · intro j hj
      match j, hj with
      | 0, _ => exact t_X7_count_80 k hk0
      | 1, _ => exact t_X7_count_85 k hk0
      | 2, _ => exact t_X7_count_90 k hk0
      | 3, _ => exact t_X7_count_95 k hk0
      | 4, _ => exact t_X7_count_100 k hk0
      | 5, _ => exact t_X7_count_105 k hk0
      | 6, _ => exact t_X7_count_110 k hk0
      | q + 7, hj => exact absurd hj (by omega)
  · refine s_iload_n dX7_count_12 rfl ?_
    refine s_aload_n dX7_count_13 rfl ?_
    refine s_getR (Tb := TX7) rfl inX7 (by decide) w_480 dX7_count_14 ?_
    refine s_iload_n dX7_count_17 rfl ?_
    refine s_ial dX7_count_18 ?_
    refine s_callS (m_X7_isOver l D cA b0) w_648 w_649 w_29 w_650 ⟨rfl, by decide, by decide, by decide +kernel⟩ (by decide) dX7_count_19 ?_
    refine s_c1eq (tgt := 29) dX7_count_22 (by decide) ?_ ?_
    · refine s_iconst dX7_count_29 (by decide) ?_
      exact t_X7_count_30 k hk0
    · refine s_iconst dX7_count_25 (by decide) ?_
      refine s_goto (tgt := 30) dX7_count_26 (by decide) ?_
      exact t_X7_count_30 k hk0
theorem t_X7_count_r (n : Nat) : xS p l e R s m args below meth c cX7_count 4 (some .int) yX7_count.cls yX7_count.name 1 20 D cA b0 hs res (xMQ D cA b0 below args s hs res) (r_X7_count b0 n 0) 4 := by
  induction n with
  | zero => exact fun ls st h hT => by cases hT
  | succ n ih => exact t_X7_count_4 (r_X7_count b0 n) ih
theorem m_X7_count (l : Launch) (D : va_G) (cA : Nat → ClassId) (b0 : Nat) : xMet l D cA b0 yX7_count (.code yX7_count cX7_count 4 (some .int) :: xTB) 1 20 (f_X7_count b0) :=
  xMet_of (n := 2) (by decide +kernel) (by decide) (fun p e R s m args below meth c hs res => t_X7_count_0 (r_X7_count b0 64) (t_X7_count_r 64))
end M_X7_count
section M_X7_done
variable {p : Program} {l : Launch} {e : Env} {R : Room} {s : State} {m : MethodId} {args : Array Value} {below : List Frame} {meth : Method} {c : Code} {D : va_G} {cA : Nat → ClassId} {b0 : Nat} {hs : xH} {res : Option xV × xH}
set_option maxRecDepth 20000 in
theorem t_X7_done_0  : xS p l e R s m args below meth c cX7_done 2 (some .int) yX7_done.cls yX7_done.name 1 22 D cA b0 hs res (xMQ D cA b0 below args s hs res) (k_X7_done_0 b0) 0 := by
  unfold k_X7_done_0
  refine s_iload_n dX7_done_0 rfl ?_
  refine s_iconst dX7_done_1 (by decide) ?_
  refine s_aload_n dX7_done_2 rfl ?_
  refine s_getI (Tb := TX7) rfl inX7 (by decide) w_505 dX7_done_3 ?_
  refine s_iconst dX7_done_6 (by decide) ?_
  refine s_isub dX7_done_7 ?_
  refine s_callS (m_X7_in l D cA b0) w_597 w_598 w_29 w_599 ⟨rfl, by decide, by decide, by decide +kernel⟩ (by decide) dX7_done_8 ?_
  refine s_c1eq (tgt := 23) dX7_done_11 (by decide) ?_ ?_
  · refine s_bipush dX7_done_23 (by decide) ?_
    exact s_retI rfl dX7_done_25
  · refine s_aload_n dX7_done_14 rfl ?_
    refine s_getR (Tb := TX7) rfl inX7 (by decide) w_504 dX7_done_15 ?_
    refine s_iload_n dX7_done_18 rfl ?_
    refine s_ial dX7_done_19 ?_
    refine s_goto (tgt := 25) dX7_done_20 (by decide) ?_
    exact s_retI rfl dX7_done_25
theorem m_X7_done (l : Launch) (D : va_G) (cA : Nat → ClassId) (b0 : Nat) : xMet l D cA b0 yX7_done (.code yX7_done cX7_done 2 (some .int) :: xTB) 1 22 (f_X7_done b0) :=
  xMet_of (n := 2) (by decide +kernel) (by decide) (fun p e R s m args below meth c hs res => t_X7_done_0)
end M_X7_done
