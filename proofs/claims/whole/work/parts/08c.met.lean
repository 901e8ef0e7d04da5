section M_X6_init
variable {p : Program} {l : Launch} {e : Env} {R : Room} {s : State} {m : MethodId} {args : Array Value} {below : List Frame} {meth : Method} {c : Code} {D : va_G} {cA : Nat → ClassId} {b0 : Nat} {hs : xH} {res : Option xV × xH}
set_option maxRecDepth 20000 in
theorem t_X6_init_0  : xS p l e R s m args below meth c cX6_init 1 none yX6_init.cls yX6_init.name 1 20 D cA b0 hs res (xMQ D cA b0 below args s hs res) (k_X6_init_0 b0) 0 := by
  unfold k_X6_init_0
  refine s_aload_n dX6_init_0 rfl ?_
  refine s_obj w_42 w_43 w_44 (by decide) dX6_init_1 ?_
  refine s_aload_n dX6_init_4 rfl ?_
  refine s_bipush dX6_init_5 (by decide) ?_
  refine s_newq w_45 dX6_init_7 ?_
  refine s_putRF (Tb := TX6) rfl inX6 (by decide) w_47 tyX6 tyX6_ok nmX6 rfl rfl rfl (Or.inr ⟨_, rfl⟩) dX6_init_10 ?_
  refine s_aload_n dX6_init_13 rfl ?_
  refine s_bipush dX6_init_14 (by decide) ?_
  refine s_newi w_78 dX6_init_16 ?_
  refine s_putRF (Tb := TX6) rfl inX6 (by decide) w_48 tyX6 tyX6_ok nmX6 rfl rfl rfl (Or.inr ⟨_, rfl⟩) dX6_init_18 ?_
  refine s_aload_n dX6_init_21 rfl ?_
  refine s_iconst dX6_init_22 (by decide) ?_
  refine s_putI (Tb := TX6) rfl inX6 (by decide) w_51 tyX6 tyX6_ok nmX6 rfl rfl dX6_init_23 ?_
  exact s_retV rfl dX6_init_26
theorem m_X6_init (l : Launch) (D : va_G) (cA : Nat → ClassId) (b0 : Nat) : xMet l D cA b0 yX6_init (.code yX6_init cX6_init 1 none :: xTB) 1 20 (f_X6_init b0) :=
  xMet_of (n := 1) (by decide +kernel) (by decide) (fun p e R s m args below meth c hs res => t_X6_init_0)
end M_X6_init
section M_X6_task
variable {p : Program} {l : Launch} {e : Env} {R : Room} {s : State} {m : MethodId} {args : Array Value} {below : List Frame} {meth : Method} {c : Code} {D : va_G} {cA : Nat → ClassId} {b0 : Nat} {hs : xH} {res : Option xV × xH}
set_option maxRecDepth 20000 in
theorem t_X6_task_0  : xS p l e R s m args below meth c cX6_task 4 (some .int) yX6_task.cls yX6_task.name 4 83 D cA b0 hs res (xMQ D cA b0 below args s hs res) (k_X6_task_0 b0) 0 := by
  unfold k_X6_task_0
  refine s_iload_n dX6_task_0 rfl ?_
  refine s_c1lt (tgt := 19) dX6_task_1 (by decide) ?_ ?_
  · refine s_iconst dX6_task_19 (by decide) ?_
    exact s_retI rfl dX6_task_20
  · refine s_iload_n dX6_task_4 rfl ?_
    refine s_iconst dX6_task_5 (by decide) ?_
    refine s_c2gt (tgt := 19) dX6_task_6 (by decide) ?_ ?_
    · refine s_iconst dX6_task_19 (by decide) ?_
      exact s_retI rfl dX6_task_20
    · refine s_iload_n dX6_task_9 rfl ?_
      refine s_c1lt (tgt := 19) dX6_task_10 (by decide) ?_ ?_
      · refine s_iconst dX6_task_19 (by decide) ?_
        exact s_retI rfl dX6_task_20
      · refine s_iload_n dX6_task_13 rfl ?_
        refine s_bipush dX6_task_14 (by decide) ?_
        refine s_c2le (tgt := 21) dX6_task_16 (by decide) ?_ ?_
        · refine s_aload_n dX6_task_21 rfl ?_
          refine s_getI (Tb := TX6) rfl inX6 (by decide) w_49 dX6_task_22 ?_
          refine s_aload_n dX6_task_25 rfl ?_
          refine s_getR (Tb := TX6) rfl inX6 (by decide) w_47 dX6_task_26 ?_
          refine s_len dX6_task_29 ?_
          refine s_c2lt (tgt := 36) dX6_task_30 (by decide) ?_ ?_
          · refine s_aload_n dX6_task_36 rfl ?_
            refine s_getI (Tb := TX6) rfl inX6 (by decide) w_49 dX6_task_37 ?_
            refine s_istore_n dX6_task_40 rfl (by decide) ?_
            refine s_aload_n dX6_task_41 rfl ?_
            refine s_getR (Tb := TX6) rfl inX6 (by decide) w_47 dX6_task_42 ?_
            refine s_iload_n dX6_task_45 rfl ?_
            refine s_new (Tb := TX5) rfl inX5 tyX5 tyX5_ok w_45 w_83 w_30 nd_X5 rfl dX6_task_46 ?_
            refine s_dup dX6_task_49 ?_
            refine s_iload_n dX6_task_50 rfl ?_
            refine s_iload_n dX6_task_51 rfl ?_
            refine s_iload_n dX6_task_52 rfl ?_
            refine s_callI (m_X5_init l D cA b0) w_84 w_85 w_30 w_86 rfl ⟨by decide, by decide, by decide +kernel⟩ (by decide) dX6_task_53 ?_
            refine s_qas (ci := 5) rfl dX6_task_56 ?_
            refine s_aload_n dX6_task_57 rfl ?_
            refine s_dup dX6_task_58 ?_
            refine s_getI (Tb := TX6) rfl inX6 (by decide) w_49 dX6_task_59 ?_
            refine s_iconst dX6_task_62 (by decide) ?_
            refine s_iadd dX6_task_63 ?_
            refine s_putI (Tb := TX6) rfl inX6 (by decide) w_49 tyX6 tyX6_ok nmX6 rfl rfl dX6_task_64 ?_
            refine s_iload_n dX6_task_67 rfl ?_
            exact s_retI rfl dX6_task_68
          · refine s_bipush dX6_task_33 (by decide) ?_
            exact s_retI rfl dX6_task_35
        · refine s_iconst dX6_task_19 (by decide) ?_
          exact s_retI rfl dX6_task_20
theorem m_X6_task (l : Launch) (D : va_G) (cA : Nat → ClassId) (b0 : Nat) : xMet l D cA b0 yX6_task (.code yX6_task cX6_task 4 (some .int) :: xTB) 4 83 (f_X6_task b0) :=
  xMet_of (n := 3) (by decide +kernel) (by decide) (fun p e R s m args below meth c hs res => t_X6_task_0)
end M_X6_task
section M_X6_find
variable {p : Program} {l : Launch} {e : Env} {R : Room} {s : State} {m : MethodId} {args : Array Value} {below : List Frame} {meth : Method} {c : Code} {D : va_G} {cA : Nat → ClassId} {b0 : Nat} {hs : xH} {res : Option xV × xH}
set_option maxRecDepth 20000 in
theorem t_X6_find_0  : xS p l e R s m args below meth c cX6_find 2 (some (.object "TaskTurns$Task")) yX6_find.cls yX6_find.name 0 0 D cA b0 hs res (xMQ D cA b0 below args s hs res) (k_X6_find_0 b0) 0 := by
  unfold k_X6_find_0
  refine s_iload_n dX6_find_0 rfl ?_
  refine s_c1lt (tgt := 22) dX6_find_1 (by decide) ?_ ?_
  · refine s_null dX6_find_22 ?_
    exact s_retR rfl (Or.inl ⟨_, rfl⟩) dX6_find_23
  · refine s_iload_n dX6_find_4 rfl ?_
    refine s_aload_n dX6_find_5 rfl ?_
    refine s_getR (Tb := TX6) rfl inX6 (by decide) w_47 dX6_find_6 ?_
    refine s_len dX6_find_9 ?_
    refine s_c2ge (tgt := 22) dX6_find_10 (by decide) ?_ ?_
    · refine s_null dX6_find_22 ?_
      exact s_retR rfl (Or.inl ⟨_, rfl⟩) dX6_find_23
    · refine s_aload_n dX6_find_13 rfl ?_
      refine s_getR (Tb := TX6) rfl inX6 (by decide) w_47 dX6_find_14 ?_
      refine s_iload_n dX6_find_17 rfl ?_
      refine s_qal dX6_find_18 ?_
      refine s_goto (tgt := 23) dX6_find_19 (by decide) ?_
      exact s_retR rfl (Or.inl ⟨_, rfl⟩) dX6_find_23
theorem m_X6_find (l : Launch) (D : va_G) (cA : Nat → ClassId) (b0 : Nat) : xMet l D cA b0 yX6_find (.code yX6_find cX6_find 2 (some (.object "TaskTurns$Task")) :: xTB) 0 0 (f_X6_find b0) :=
  xMet_of (n := 2) (by decide +kernel) (by decide) (fun p e R s m args below meth c hs res => t_X6_find_0)
end M_X6_find
section M_X6_act
variable {p : Program} {l : Launch} {e : Env} {R : Room} {s : State} {m : MethodId} {args : Array Value} {below : List Frame} {meth : Method} {c : Code} {D : va_G} {cA : Nat → ClassId} {b0 : Nat} {hs : xH} {res : Option xV × xH}
set_option maxRecDepth 20000 in
theorem t_X6_act_35  : xS p l e R s m args below meth c cX6_act 6 (some .int) yX6_act.cls yX6_act.name 1 24 D cA b0 hs res (xMQ D cA b0 below args s hs res) (k_X6_act_35 b0) 35 := by
  unfold k_X6_act_35
  refine s_aload dX6_act_35 ?_
  refine s_getI (Tb := TX5) rfl inX5 (by decide) w_193 dX6_act_37 ?_
  refine s_c1ne (tgt := 51) dX6_act_40 (by decide) ?_ ?_
  · refine s_bipush dX6_act_51 (by decide) ?_
    exact s_retI rfl dX6_act_53
  · refine s_aload dX6_act_43 ?_
    refine s_getI (Tb := TX5) rfl inX5 (by decide) w_204 dX6_act_45 ?_
    refine s_c1eq (tgt := 54) dX6_act_48 (by decide) ?_ ?_
    · refine s_aload dX6_act_54 ?_
      refine s_getR (Tb := TX5) rfl inX5 (by decide) w_184 dX6_act_56 ?_
      refine s_iload_n dX6_act_59 rfl ?_
      refine s_iload_n dX6_act_60 rfl ?_
      refine s_iload dX6_act_61 ?_
      refine s_callV (Tb := TX0) (m_X0_append l D cA b0) rfl w_256 w_257 w_258 w_31 w_259 ⟨rfl, by decide, by decide, by decide +kernel⟩ (by decide) dX6_act_63 ?_
      exact s_retI rfl dX6_act_66
    · refine s_bipush dX6_act_51 (by decide) ?_
      exact s_retI rfl dX6_act_53
set_option maxRecDepth 20000 in
theorem t_X6_act_0  : xS p l e R s m args below meth c cX6_act 6 (some .int) yX6_act.cls yX6_act.name 1 24 D cA b0 hs res (xMQ D cA b0 below args s hs res) (k_X6_act_0 b0) 0 := by
  unfold k_X6_act_0
  refine s_aload_n dX6_act_0 rfl ?_
  refine s_iload_n dX6_act_1 rfl ?_
  refine s_callV (Tb := TX6) (m_X6_find l D cA b0) rfl w_252 w_254 w_0 w_28 w_255 ⟨rfl, by decide, by decide, by decide +kernel⟩ (by decide) dX6_act_2 ?_
  refine s_astore dX6_act_5 (by decide) ?_
  refine s_aload dX6_act_7 ?_
  refine s_cnull (tgt := 33) dX6_act_9 (by decide) ?_ ?_
  · refine s_iconst dX6_act_33 (by decide) ?_
    exact s_retI rfl dX6_act_34
  · refine s_iload_n dX6_act_12 rfl ?_
    refine s_c1lt (tgt := 33) dX6_act_13 (by decide) ?_ ?_
    · refine s_iconst dX6_act_33 (by decide) ?_
      exact s_retI rfl dX6_act_34
    · refine s_iload_n dX6_act_16 rfl ?_
      refine s_bipush dX6_act_17 (by decide) ?_
      refine s_c2gt (tgt := 33) dX6_act_19 (by decide) ?_ ?_
      · refine s_iconst dX6_act_33 (by decide) ?_
        exact s_retI rfl dX6_act_34
      · refine s_iload_n dX6_act_22 rfl ?_
        refine s_iconst dX6_act_23 (by decide) ?_
        refine s_c2ne (tgt := 35) dX6_act_24 (by decide) ?_ ?_
        · exact t_X6_act_35
        · refine s_iload_n dX6_act_27 rfl ?_
          refine s_bipush dX6_act_28 (by decide) ?_
          refine s_c2le (tgt := 35) dX6_act_30 (by decide) ?_ ?_
          · exact t_X6_act_35
          · refine s_iconst dX6_act_33 (by decide) ?_
            exact s_retI rfl dX6_act_34
theorem m_X6_act (l : Launch) (D : va_G) (cA : Nat → ClassId) (b0 : Nat) : xMet l D cA b0 yX6_act (.code yX6_act cX6_act 6 (some .int) :: xTB) 1 24 (f_X6_act b0) :=
  xMet_of (n := 5) (by decide +kernel) (by decide) (fun p e R s m args below meth c hs res => t_X6_act_0)
end M_X6_act
section M_X6_workers
variable {p : Program} {l : Launch} {e : Env} {R : Room} {s : State} {m : MethodId} {args : Array Value} {below : List Frame} {meth : Method} {c : Code} {D : va_G} {cA : Nat → ClassId} {b0 : Nat} {hs : xH} {res : Option xV × xH}
set_option maxRecDepth 20000 in
theorem t_X6_workers_0  : xS p l e R s m args below meth c cX6_workers 3 (some .int) yX6_workers.cls yX6_workers.name 0 0 D cA b0 hs res (xMQ D cA b0 below args s hs res) (k_X6_workers_0 b0) 0 := by
  unfold k_X6_workers_0
  refine s_iload_n dX6_workers_0 rfl ?_
  refine s_iconst dX6_workers_1 (by decide) ?_
  refine s_c2lt (tgt := 10) dX6_workers_2 (by decide) ?_ ?_
  · refine s_iconst dX6_workers_10 (by decide) ?_
    exact s_retI rfl dX6_workers_11
  · refine s_iload_n dX6_workers_5 rfl ?_
    refine s_iconst dX6_workers_6 (by decide) ?_
    refine s_c2le (tgt := 12) dX6_workers_7 (by decide) ?_ ?_
    · refine s_aload_n dX6_workers_12 rfl ?_
      refine s_getI (Tb := TX6) rfl inX6 (by decide) w_51 dX6_workers_13 ?_
      refine s_istore_n dX6_workers_16 rfl (by decide) ?_
      refine s_aload_n dX6_workers_17 rfl ?_
      refine s_iload_n dX6_workers_18 rfl ?_
      refine s_putI (Tb := TX6) rfl inX6 (by decide) w_51 tyX6 tyX6_ok nmX6 rfl rfl dX6_workers_19 ?_
      refine s_iload_n dX6_workers_22 rfl ?_
      exact s_retI rfl dX6_workers_23
    · refine s_iconst dX6_workers_10 (by decide) ?_
      exact s_retI rfl dX6_workers_11
theorem m_X6_workers (l : Launch) (D : va_G) (cA : Nat → ClassId) (b0 : Nat) : xMet l D cA b0 yX6_workers (.code yX6_workers cX6_workers 3 (some .int) :: xTB) 0 0 (f_X6_workers b0) :=
  xMet_of (n := 2) (by decide +kernel) (by decide) (fun p e R s m args below meth c hs res => t_X6_workers_0)
end M_X6_workers
section M_X6_wakeTasks
variable {p : Program} {l : Launch} {e : Env} {R : Room} {s : State} {m : MethodId} {args : Array Value} {below : List Frame} {meth : Method} {c : Code} {D : va_G} {cA : Nat → ClassId} {b0 : Nat} {hs : xH} {res : Option xV × xH}
set_option maxRecDepth 20000 in
theorem t_X6_wakeTasks_0 (k : Nat → xK) (hk0 : xS p l e R s m args below meth c cX6_wakeTasks 3 none yX6_wakeTasks.cls yX6_wakeTasks.name 1 20 D cA b0 hs res (xMQ D cA b0 below args s hs res) (k 0) 2) : xS p l e R s m args below meth c cX6_wakeTasks 3 none yX6_wakeTasks.cls yX6_wakeTasks.name 1 20 D cA b0 hs res (xMQ D cA b0 below args s hs res) (k_X6_wakeTasks_0 b0 k) 0 := by
  unfold k_X6_wakeTasks_0
  refine s_iconst dX6_wakeTasks_0 (by decide) ?_
  refine s_istore_n dX6_wakeTasks_1 rfl (by decide) ?_
  exact hk0
set_option maxRecDepth 20000 in
theorem t_X6_wakeTasks_2 (k : Nat → xK) (hk0 : xS p l e R s m args below meth c cX6_wakeTasks 3 none yX6_wakeTasks.cls yX6_wakeTasks.name 1 20 D cA b0 hs res (xMQ D cA b0 below args s hs res) (k 0) 2) : xS p l e R s m args below meth c cX6_wakeTasks 3 none yX6_wakeTasks.cls yX6_wakeTasks.name 1 20 D cA b0 hs res (xMQ D cA b0 below args s hs res) (k_X6_wakeTasks_2 b0 k) 2 := by
  unfold k_X6_wakeTasks_2
  refine s_iload_n dX6_wakeTasks_2 rfl ?_
  refine s_aload_n dX6_wakeTasks_3 rfl ?_
  refine s_getR (Tb := TX6) rfl inX6 (by decide) w_47 dX6_wakeTasks_4 ?_
  refine s_len dX6_wakeTasks_7 ?_
  refine s_c2ge (tgt := 32) dX6_wakeTasks_8 (by decide) ?_ ?_
  · exact s_retV rfl dX6_wakeTasks_32
  · refine s_aload_n dX6_wakeTasks_11 rfl ?_
    refine s_getR (Tb := TX6) rfl inX6 (by decide) w_47 dX6_wakeTasks_12 ?_
    refine s_iload_n dX6_wakeTasks_15 rfl ?_
    refine s_qal dX6_wakeTasks_16 ?_
    refine s_astore_n dX6_wakeTasks_17 rfl (by decide) ?_
    refine s_aload_n dX6_wakeTasks_18 rfl ?_
    refine s_cnull (tgt := 26) dX6_wakeTasks_19 (by decide) ?_ ?_
    · refine s_iinc dX6_wakeTasks_26 (by decide) (by decide) ?_
      refine s_goto (tgt := 2) dX6_wakeTasks_29 (by decide) ?_
      exact hk0
    · refine s_aload_n dX6_wakeTasks_22 rfl ?_
      refine s_callV (Tb := TX5) (m_X5_wake l D cA b0) rfl w_276 w_277 w_278 w_30 w_279 ⟨rfl, by decide, by decide, by decide +kernel⟩ (by decide) dX6_wakeTasks_23 ?_
      refine s_iinc dX6_wakeTasks_26 (by decide) (by decide) ?_
      refine s_goto (tgt := 2) dX6_wakeTasks_29 (by decide) ?_
      exact hk0
theorem t_X6_wakeTasks_r (n : Nat) : xS p l e R s m args below meth c cX6_wakeTasks 3 none yX6_wakeTasks.cls yX6_wakeTasks.name 1 20 D cA b0 hs res (xMQ D cA b0 below args s hs res) (r_X6_wakeTasks b0 n 0) 2 := by
  induction n with
  | zero => exact fun ls st h hT => by cases hT
  | succ n ih => exact t_X6_wakeTasks_2 (r_X6_wakeTasks b0 n) ih
theorem m_X6_wakeTasks (l : Launch) (D : va_G) (cA : Nat → ClassId) (b0 : Nat) : xMet l D cA b0 yX6_wakeTasks (.code yX6_wakeTasks cX6_wakeTasks 3 none :: xTB) 1 20 (f_X6_wakeTasks b0) :=
  xMet_of (n := 1) (by decide +kernel) (by decide) (fun p e R s m args below meth c hs res => t_X6_wakeTasks_0 (r_X6_wakeTasks b0 64) (t_X6_wakeTasks_r 64))
end M_X6_wakeTasks
section M_X6_findNextToWork
variable {p : Program} {l : Launch} {e : Env} {R : Room} {s : State} {m : MethodId} {args : Array Value} {below : List Frame} {meth : Method} {c : Code} {D : va_G} {cA : Nat → ClassId} {b0 : Nat} {hs : xH} {res : Option xV × xH}
set_option maxRecDepth 20000 in
theorem t_X6_findNextToWork_0 (k : Nat → xK) (hk0 : xS p l e R s m args below meth c cX6_findNextToWork 4 (some (.object "TaskTurns$Task")) yX6_findNextToWork.cls yX6_findNextToWork.name 1 21 D cA b0 hs res (xMQ D cA b0 below args s hs res) (k 0) 4) : xS p l e R s m args below meth c cX6_findNextToWork 4 (some (.object "TaskTurns$Task")) yX6_findNextToWork.cls yX6_findNextToWork.name 1 21 D cA b0 hs res (xMQ D cA b0 below args s hs res) (k_X6_findNextToWork_0 b0 k) 0 := by
  unfold k_X6_findNextToWork_0
  refine s_null dX6_findNextToWork_0 ?_
  refine s_astore_n dX6_findNextToWork_1 rfl (by decide) ?_
  refine s_iconst dX6_findNextToWork_2 (by decide) ?_
  refine s_istore_n dX6_findNextToWork_3 rfl (by decide) ?_
  exact hk0
set_option maxRecDepth 20000 in
theorem t_X6_findNextToWork_60 (k : Nat → xK) (hk0 : xS p l e R s m args below meth c cX6_findNextToWork 4 (some (.object "TaskTurns$Task")) yX6_findNextToWork.cls yX6_findNextToWork.name 1 21 D cA b0 hs res (xMQ D cA b0 below args s hs res) (k 0) 4) : xS p l e R s m args below meth c cX6_findNextToWork 4 (some (.object "TaskTurns$Task")) yX6_findNextToWork.cls yX6_findNextToWork.name 1 21 D cA b0 hs res (xMQ D cA b0 below args s hs res) (k_X6_findNextToWork_60 b0 k) 60 := by
  unfold k_X6_findNextToWork_60
  refine s_aload_n dX6_findNextToWork_60 rfl ?_
  refine s_astore_n dX6_findNextToWork_61 rfl (by decide) ?_
  refine s_iinc dX6_findNextToWork_62 (by decide) (by decide) ?_
  refine s_goto (tgt := 4) dX6_findNextToWork_65 (by decide) ?_
  exact hk0
set_option maxRecDepth 20000 in
theorem t_X6_findNextToWork_4 (k : Nat → xK) (hk0 : xS p l e R s m args below meth c cX6_findNextToWork 4 (some (.object "TaskTurns$Task")) yX6_findNextToWork.cls yX6_findNextToWork.name 1 21 D cA b0 hs res (xMQ D cA b0 below args s hs res) (k 0) 4) : xS p l e R s m args below meth c cX6_findNextToWork 4 (some (.object "TaskTurns$Task")) yX6_findNextToWork.cls yX6_findNextToWork.name 1 21 D cA b0 hs res (xMQ D cA b0 below args s hs res) (k_X6_findNextToWork_4 b0 k) 4 := by
  unfold k_X6_findNextToWork_4
  refine s_iload_n dX6_findNextToWork_4 rfl ?_
  refine s_aload_n dX6_findNextToWork_5 rfl ?_
  refine s_getR (Tb := TX6) rfl inX6 (by decide) w_47 dX6_findNextToWork_6 ?_
  refine s_len dX6_findNextToWork_9 ?_
  refine s_c2ge (tgt := 68) dX6_findNextToWork_10 (by decide) ?_ ?_
  · refine s_aload_n dX6_findNextToWork_68 rfl ?_
    exact s_retR rfl (Or.inl ⟨_, rfl⟩) dX6_findNextToWork_69
  · refine s_aload_n dX6_findNextToWork_13 rfl ?_
    refine s_getR (Tb := TX6) rfl inX6 (by decide) w_47 dX6_findNextToWork_14 ?_
    refine s_iload_n dX6_findNextToWork_17 rfl ?_
    refine s_qal dX6_findNextToWork_18 ?_
    refine s_astore_n dX6_findNextToWork_19 rfl (by decide) ?_
    refine s_aload_n dX6_findNextToWork_20 rfl ?_
    refine s_cnull (tgt := 62) dX6_findNextToWork_21 (by decide) ?_ ?_
    · refine s_iinc dX6_findNextToWork_62 (by decide) (by decide) ?_
      refine s_goto (tgt := 4) dX6_findNextToWork_65 (by decide) ?_
      exact hk0
    · refine s_aload_n dX6_findNextToWork_24 rfl ?_
      refine s_aload_n dX6_findNextToWork_25 rfl ?_
      refine s_getI (Tb := TX6) rfl inX6 (by decide) w_52 dX6_findNextToWork_26 ?_
      refine s_callV (Tb := TX5) (m_X5_isReadyIn l D cA b0) rfl w_284 w_285 w_286 w_30 w_287 ⟨rfl, by decide, by decide, by decide +kernel⟩ (by decide) dX6_findNextToWork_29 ?_
      refine s_c1eq (tgt := 62) dX6_findNextToWork_32 (by decide) ?_ ?_
      · refine s_iinc dX6_findNextToWork_62 (by decide) (by decide) ?_
        refine s_goto (tgt := 4) dX6_findNextToWork_65 (by decide) ?_
        exact hk0
      · refine s_aload_n dX6_findNextToWork_35 rfl ?_
        refine s_cnull (tgt := 60) dX6_findNextToWork_36 (by decide) ?_ ?_
        · exact t_X6_findNextToWork_60 k hk0
        · refine s_aload_n dX6_findNextToWork_39 rfl ?_
          refine s_getI (Tb := TX5) rfl inX5 (by decide) w_182 dX6_findNextToWork_40 ?_
          refine s_aload_n dX6_findNextToWork_43 rfl ?_
          refine s_getI (Tb := TX5) rfl inX5 (by decide) w_195 dX6_findNextToWork_44 ?_
          refine s_iadd dX6_findNextToWork_47 ?_
          refine s_aload_n dX6_findNextToWork_48 rfl ?_
          refine s_getI (Tb := TX5) rfl inX5 (by decide) w_182 dX6_findNextToWork_49 ?_
          refine s_aload_n dX6_findNextToWork_52 rfl ?_
          refine s_getI (Tb := TX5) rfl inX5 (by decide) w_195 dX6_findNextToWork_53 ?_
          refine s_iadd dX6_findNextToWork_56 ?_
          refine s_c2le (tgt := 62) dX6_findNextToWork_57 (by decide) ?_ ?_
          · refine s_iinc dX6_findNextToWork_62 (by decide) (by decide) ?_
            refine s_goto (tgt := 4) dX6_findNextToWork_65 (by decide) ?_
            exact hk0
          · exact t_X6_findNextToWork_60 k hk0
theorem t_X6_findNextToWork_r (n : Nat) : xS p l e R s m args below meth c cX6_findNextToWork 4 (some (.object "TaskTurns$Task")) yX6_findNextToWork.cls yX6_findNextToWork.name 1 21 D cA b0 hs res (xMQ D cA b0 below args s hs res) (r_X6_findNextToWork b0 n 0) 4 := by
  induction n with
  | zero => exact fun ls st h hT => by cases hT
  | succ n ih => exact t_X6_findNextToWork_4 (r_X6_findNextToWork b0 n) ih
theorem m_X6_findNextToWork (l : Launch) (D : va_G) (cA : Nat → ClassId) (b0 : Nat) : xMet l D cA b0 yX6_findNextToWork (.code yX6_findNextToWork cX6_findNextToWork 4 (some (.object "TaskTurns$Task")) :: xTB) 1 21 (f_X6_findNextToWork b0) :=
  xMet_of (n := 1) (by decide +kernel) (by decide) (fun p e R s m args below meth c hs res => t_X6_findNextToWork_0 (r_X6_findNextToWork b0 64) (t_X6_findNextToWork_r 64))
end M_X6_findNextToWork
section M_X6_send
variable {p : Program} {l : Launch} {e : Env} {R : Room} {s : State} {m : MethodId} {args : Array Value} {below : List Frame} {meth : Method} {c : Code} {D : va_G} {cA : Nat → ClassId} {b0 : Nat} {hs : xH} {res : Option xV × xH}
set_option maxRecDepth 20000 in
theorem t_X6_send_0  : xS p l e R s m args below meth c cX6_send 4 (some .int) yX6_send.cls yX6_send.name 1 21 D cA b0 hs res (xMQ D cA b0 below args s hs res) (k_X6_send_0 b0) 0 := by
  unfold k_X6_send_0
  refine s_aload_n dX6_send_0 rfl ?_
  refine s_iload_n dX6_send_1 rfl ?_
  refine s_callV (Tb := TX6) (m_X6_find l D cA b0) rfl w_252 w_254 w_0 w_28 w_255 ⟨rfl, by decide, by decide, by decide +kernel⟩ (by decide) dX6_send_2 ?_
  refine s_astore_n dX6_send_5 rfl (by decide) ?_
  refine s_aload_n dX6_send_6 rfl ?_
  refine s_cnonnull (tgt := 12) dX6_send_7 (by decide) ?_ ?_
  · refine s_aload_n dX6_send_12 rfl ?_
    refine s_callV (Tb := TX5) (m_X5_isOver l D cA b0) rfl w_347 w_348 w_349 w_30 w_350 ⟨rfl, by decide, by decide, by decide +kernel⟩ (by decide) dX6_send_13 ?_
    refine s_c1eq (tgt := 31) dX6_send_16 (by decide) ?_ ?_
    · refine s_aload_n dX6_send_31 rfl ?_
      refine s_getR (Tb := TX5) rfl inX5 (by decide) w_186 dX6_send_32 ?_
      refine s_callV (Tb := TX2) (m_X2_isFull l D cA b0) rfl w_351 w_352 w_353 w_32 w_354 ⟨rfl, by decide, by decide, by decide +kernel⟩ (by decide) dX6_send_35 ?_
      refine s_c1eq (tgt := 44) dX6_send_38 (by decide) ?_ ?_
      · refine s_aload_n dX6_send_44 rfl ?_
        refine s_getR (Tb := TX5) rfl inX5 (by decide) w_186 dX6_send_45 ?_
        refine s_iload_n dX6_send_48 rfl ?_
        refine s_callV (Tb := TX2) (m_X2_append l D cA b0) rfl w_355 w_356 w_357 w_32 w_358 ⟨rfl, by decide, by decide, by decide +kernel⟩ (by decide) dX6_send_49 ?_
        refine s_iconst dX6_send_52 (by decide) ?_
        exact s_retI rfl dX6_send_53
      · refine s_bipush dX6_send_41 (by decide) ?_
        exact s_retI rfl dX6_send_43
    · refine s_aload_n dX6_send_19 rfl ?_
      refine s_dup dX6_send_20 ?_
      refine s_getI (Tb := TX6) rfl inX6 (by decide) w_54 dX6_send_21 ?_
      refine s_iconst dX6_send_24 (by decide) ?_
      refine s_iadd dX6_send_25 ?_
      refine s_putI (Tb := TX6) rfl inX6 (by decide) w_54 tyX6 tyX6_ok nmX6 rfl rfl dX6_send_26 ?_
      refine s_iconst dX6_send_29 (by decide) ?_
      exact s_retI rfl dX6_send_30
  · refine s_iconst dX6_send_10 (by decide) ?_
    exact s_retI rfl dX6_send_11
theorem m_X6_send (l : Launch) (D : va_G) (cA : Nat → ClassId) (b0 : Nat) : xMet l D cA b0 yX6_send (.code yX6_send cX6_send 4 (some .int) :: xTB) 1 21 (f_X6_send b0) :=
  xMet_of (n := 3) (by decide +kernel) (by decide) (fun p e R s m args below meth c hs res => t_X6_send_0)
end M_X6_send
section M_X6_ask
variable {p : Program} {l : Launch} {e : Env} {R : Room} {s : State} {m : MethodId} {args : Array Value} {below : List Frame} {meth : Method} {c : Code} {D : va_G} {cA : Nat → ClassId} {b0 : Nat} {hs : xH} {res : Option xV × xH}
set_option maxRecDepth 20000 in
theorem t_X6_ask_0  : xS p l e R s m args below meth c cX6_ask 5 (some .int) yX6_ask.cls yX6_ask.name 1 22 D cA b0 hs res (xMQ D cA b0 below args s hs res) (k_X6_ask_0 b0) 0 := by
  unfold k_X6_ask_0
  refine s_aload_n dX6_ask_0 rfl ?_
  refine s_getR (Tb := TX5) rfl inX5 (by decide) w_190 dX6_ask_1 ?_
  refine s_iconst dX6_ask_4 (by decide) ?_
  refine s_iload_n dX6_ask_5 rfl ?_
  refine s_callV (Tb := TX1) (m_X1_lookAt l D cA b0) rfl w_391 w_384 w_385 w_34 w_386 ⟨rfl, by decide, by decide, by decide +kernel⟩ (by decide) dX6_ask_6 ?_
  refine s_istore_n dX6_ask_9 rfl (by decide) ?_
  refine s_iload_n dX6_ask_10 rfl ?_
  refine s_c1eq (tgt := 16) dX6_ask_11 (by decide) ?_ ?_
  · refine s_aload_n dX6_ask_16 rfl ?_
    refine s_aload_n dX6_ask_17 rfl ?_
    refine s_getR (Tb := TX5) rfl inX5 (by decide) w_190 dX6_ask_18 ?_
    refine s_getR (Tb := TX1) rfl inX1 (by decide) w_150 dX6_ask_21 ?_
    refine s_iload_n dX6_ask_24 rfl ?_
    refine s_ial dX6_ask_25 ?_
    refine s_callV (Tb := TX6) (m_X6_find l D cA b0) rfl w_252 w_254 w_0 w_28 w_255 ⟨rfl, by decide, by decide, by decide +kernel⟩ (by decide) dX6_ask_26 ?_
    refine s_astore dX6_ask_29 (by decide) ?_
    refine s_aload dX6_ask_31 ?_
    refine s_cnonnull (tgt := 38) dX6_ask_33 (by decide) ?_ ?_
    · refine s_aload_n dX6_ask_38 rfl ?_
      refine s_dup dX6_ask_39 ?_
      refine s_getI (Tb := TX5) rfl inX5 (by decide) w_197 dX6_ask_40 ?_
      refine s_aload dX6_ask_43 ?_
      refine s_getI (Tb := TX5) rfl inX5 (by decide) w_197 dX6_ask_45 ?_
      refine s_iadd dX6_ask_48 ?_
      refine s_putI (Tb := TX5) rfl inX5 (by decide) w_197 tyX5 tyX5_ok nmX5 rfl rfl dX6_ask_49 ?_
      refine s_iconst dX6_ask_52 (by decide) ?_
      exact s_retI rfl dX6_ask_53
    · refine s_iconst dX6_ask_36 (by decide) ?_
      exact s_retI rfl dX6_ask_37
  · refine s_iload_n dX6_ask_14 rfl ?_
    exact s_retI rfl dX6_ask_15
theorem m_X6_ask (l : Launch) (D : va_G) (cA : Nat → ClassId) (b0 : Nat) : xMet l D cA b0 yX6_ask (.code yX6_ask cX6_ask 5 (some .int) :: xTB) 1 22 (f_X6_ask b0) :=
  xMet_of (n := 3) (by decide +kernel) (by decide) (fun p e R s m args below meth c hs res => t_X6_ask_0)
end M_X6_ask
section M_X6_doAct
variable {p : Program} {l : Launch} {e : Env} {R : Room} {s : State} {m : MethodId} {args : Array Value} {below : List Frame} {meth : Method} {c : Code} {D : va_G} {cA : Nat → ClassId} {b0 : Nat} {hs : xH} {res : Option xV × xH}
set_option maxRecDepth 20000 in
theorem t_X6_doAct_301  : xS p l e R s m args below meth c cX6_doAct 6 (some .int) yX6_doAct.cls yX6_doAct.name 2 46 D cA b0 hs res (xMQ D cA b0 below args s hs res) (k_X6_doAct_301 b0) 301 := by
  unfold k_X6_doAct_301
  refine s_istore dX6_doAct_301 (by decide) ?_
  refine s_iload dX6_doAct_303 ?_
  refine s_c1ne (tgt := 326) dX6_doAct_305 (by decide) ?_ ?_
  · refine s_iload dX6_doAct_326 ?_
    exact s_retI rfl dX6_doAct_328
  · refine s_aload_n dX6_doAct_308 rfl ?_
    refine s_getI (Tb := TX5) rfl inX5 (by decide) w_193 dX6_doAct_309 ?_
    refine s_iconst dX6_doAct_312 (by decide) ?_
    refine s_c2eq (tgt := 326) dX6_doAct_313 (by decide) ?_ ?_
    · refine s_iload dX6_doAct_326 ?_
      exact s_retI rfl dX6_doAct_328
    · refine s_aload_n dX6_doAct_316 rfl ?_
      refine s_dup dX6_doAct_317 ?_
      refine s_getI (Tb := TX5) rfl inX5 (by decide) w_199 dX6_doAct_318 ?_
      refine s_iconst dX6_doAct_321 (by decide) ?_
      refine s_iadd dX6_doAct_322 ?_
      refine s_putI (Tb := TX5) rfl inX5 (by decide) w_199 tyX5 tyX5_ok nmX5 rfl rfl dX6_doAct_323 ?_
      refine s_iload dX6_doAct_326 ?_
      exact s_retI rfl dX6_doAct_328
set_option maxRecDepth 20000 in
theorem t_X6_doAct_132  : xS p l e R s m args below meth c cX6_doAct 6 (some .int) yX6_doAct.cls yX6_doAct.name 2 46 D cA b0 hs res (xMQ D cA b0 below args s hs res) (k_X6_doAct_132 b0) 132 := by
  unfold k_X6_doAct_132
  refine s_aload_n dX6_doAct_132 rfl ?_
  refine s_iload_n dX6_doAct_133 rfl ?_
  refine s_callV (Tb := TX5) (m_X5_add l D cA b0) rfl w_303 w_304 w_305 w_30 w_306 ⟨rfl, by decide, by decide, by decide +kernel⟩ (by decide) dX6_doAct_134 ?_
  refine s_goto (tgt := 301) dX6_doAct_137 (by decide) ?_
  exact t_X6_doAct_301
set_option maxRecDepth 20000 in
theorem t_X6_doAct_140  : xS p l e R s m args below meth c cX6_doAct 6 (some .int) yX6_doAct.cls yX6_doAct.name 2 46 D cA b0 hs res (xMQ D cA b0 below args s hs res) (k_X6_doAct_140 b0) 140 := by
  unfold k_X6_doAct_140
  refine s_aload_n dX6_doAct_140 rfl ?_
  refine s_iload_n dX6_doAct_141 rfl ?_
  refine s_callV (Tb := TX5) (m_X5_divide l D cA b0) rfl w_307 w_308 w_309 w_30 w_310 ⟨rfl, by decide, by decide, by decide +kernel⟩ (by decide) dX6_doAct_142 ?_
  refine s_goto (tgt := 301) dX6_doAct_145 (by decide) ?_
  exact t_X6_doAct_301
set_option maxRecDepth 20000 in
theorem t_X6_doAct_148  : xS p l e R s m args below meth c cX6_doAct 6 (some .int) yX6_doAct.cls yX6_doAct.name 2 46 D cA b0 hs res (xMQ D cA b0 below args s hs res) (k_X6_doAct_148 b0) 148 := by
  unfold k_X6_doAct_148
  refine s_aload_n dX6_doAct_148 rfl ?_
  refine s_iload_n dX6_doAct_149 rfl ?_
  refine s_callV (Tb := TX5) (m_X5_makeRow l D cA b0) rfl w_311 w_312 w_313 w_30 w_314 ⟨rfl, by decide, by decide, by decide +kernel⟩ (by decide) dX6_doAct_150 ?_
  refine s_goto (tgt := 301) dX6_doAct_153 (by decide) ?_
  exact t_X6_doAct_301
set_option maxRecDepth 20000 in
theorem t_X6_doAct_156  : xS p l e R s m args below meth c cX6_doAct 6 (some .int) yX6_doAct.cls yX6_doAct.name 2 46 D cA b0 hs res (xMQ D cA b0 below args s hs res) (k_X6_doAct_156 b0) 156 := by
  unfold k_X6_doAct_156
  refine s_aload_n dX6_doAct_156 rfl ?_
  refine s_iload_n dX6_doAct_157 rfl ?_
  refine s_callV (Tb := TX5) (m_X5_put l D cA b0) rfl w_319 w_320 w_321 w_30 w_322 ⟨rfl, by decide, by decide, by decide +kernel⟩ (by decide) dX6_doAct_158 ?_
  refine s_goto (tgt := 301) dX6_doAct_161 (by decide) ?_
  exact t_X6_doAct_301
set_option maxRecDepth 20000 in
theorem t_X6_doAct_164  : xS p l e R s m args below meth c cX6_doAct 6 (some .int) yX6_doAct.cls yX6_doAct.name 2 46 D cA b0 hs res (xMQ D cA b0 below args s hs res) (k_X6_doAct_164 b0) 164 := by
  unfold k_X6_doAct_164
  refine s_aload_n dX6_doAct_164 rfl ?_
  refine s_iload_n dX6_doAct_165 rfl ?_
  refine s_callV (Tb := TX5) (m_X5_get l D cA b0) rfl w_331 w_332 w_333 w_30 w_334 ⟨rfl, by decide, by decide, by decide +kernel⟩ (by decide) dX6_doAct_166 ?_
  refine s_goto (tgt := 301) dX6_doAct_169 (by decide) ?_
  exact t_X6_doAct_301
set_option maxRecDepth 20000 in
theorem t_X6_doAct_172  : xS p l e R s m args below meth c cX6_doAct 6 (some .int) yX6_doAct.cls yX6_doAct.name 2 46 D cA b0 hs res (xMQ D cA b0 below args s hs res) (k_X6_doAct_172 b0) 172 := by
  unfold k_X6_doAct_172
  refine s_aload_n dX6_doAct_172 rfl ?_
  refine s_iload_n dX6_doAct_173 rfl ?_
  refine s_callV (Tb := TX5) (m_X5_takeLetter l D cA b0) rfl w_335 w_336 w_337 w_30 w_338 ⟨rfl, by decide, by decide, by decide +kernel⟩ (by decide) dX6_doAct_174 ?_
  refine s_goto (tgt := 301) dX6_doAct_177 (by decide) ?_
  exact t_X6_doAct_301
set_option maxRecDepth 20000 in
theorem t_X6_doAct_180  : xS p l e R s m args below meth c cX6_doAct 6 (some .int) yX6_doAct.cls yX6_doAct.name 2 46 D cA b0 hs res (xMQ D cA b0 below args s hs res) (k_X6_doAct_180 b0) 180 := by
  unfold k_X6_doAct_180
  refine s_aload_n dX6_doAct_180 rfl ?_
  refine s_aload_n dX6_doAct_181 rfl ?_
  refine s_getI (Tb := TX5) rfl inX5 (by decide) w_197 dX6_doAct_182 ?_
  refine s_iload dX6_doAct_185 ?_
  refine s_iadd dX6_doAct_187 ?_
  refine s_iload_n dX6_doAct_188 rfl ?_
  refine s_callV (Tb := TX6) (m_X6_send l D cA b0) rfl w_343 w_345 w_7 w_28 w_346 ⟨rfl, by decide, by decide, by decide +kernel⟩ (by decide) dX6_doAct_189 ?_
  refine s_goto (tgt := 301) dX6_doAct_192 (by decide) ?_
  exact t_X6_doAct_301
set_option maxRecDepth 20000 in
theorem t_X6_doAct_195  : xS p l e R s m args below meth c cX6_doAct 6 (some .int) yX6_doAct.cls yX6_doAct.name 2 46 D cA b0 hs res (xMQ D cA b0 below args s hs res) (k_X6_doAct_195 b0) 195 := by
  unfold k_X6_doAct_195
  refine s_aload_n dX6_doAct_195 rfl ?_
  refine s_iload_n dX6_doAct_196 rfl ?_
  refine s_callV (Tb := TX5) (m_X5_waitFor l D cA b0) rfl w_359 w_360 w_361 w_30 w_362 ⟨rfl, by decide, by decide, by decide +kernel⟩ (by decide) dX6_doAct_197 ?_
  refine s_goto (tgt := 301) dX6_doAct_200 (by decide) ?_
  exact t_X6_doAct_301
set_option maxRecDepth 20000 in
theorem t_X6_doAct_203  : xS p l e R s m args below meth c cX6_doAct 6 (some .int) yX6_doAct.cls yX6_doAct.name 2 46 D cA b0 hs res (xMQ D cA b0 below args s hs res) (k_X6_doAct_203 b0) 203 := by
  unfold k_X6_doAct_203
  refine s_aload_n dX6_doAct_203 rfl ?_
  refine s_callV (Tb := TX5) (m_X5_setMark l D cA b0) rfl w_363 w_364 w_365 w_30 w_366 ⟨rfl, by decide, by decide, by decide +kernel⟩ (by decide) dX6_doAct_204 ?_
  refine s_goto (tgt := 301) dX6_doAct_207 (by decide) ?_
  exact t_X6_doAct_301
set_option maxRecDepth 20000 in
theorem t_X6_doAct_210  : xS p l e R s m args below meth c cX6_doAct 6 (some .int) yX6_doAct.cls yX6_doAct.name 2 46 D cA b0 hs res (xMQ D cA b0 below args s hs res) (k_X6_doAct_210 b0) 210 := by
  unfold k_X6_doAct_210
  refine s_bipush dX6_doAct_210 (by decide) ?_
  refine s_goto (tgt := 301) dX6_doAct_212 (by decide) ?_
  exact t_X6_doAct_301
set_option maxRecDepth 20000 in
theorem t_X6_doAct_215  : xS p l e R s m args below meth c cX6_doAct 6 (some .int) yX6_doAct.cls yX6_doAct.name 2 46 D cA b0 hs res (xMQ D cA b0 below args s hs res) (k_X6_doAct_215 b0) 215 := by
  unfold k_X6_doAct_215
  refine s_aload_n dX6_doAct_215 rfl ?_
  refine s_iload_n dX6_doAct_216 rfl ?_
  refine s_callV (Tb := TX5) (m_X5_makeBox l D cA b0) rfl w_371 w_372 w_373 w_30 w_374 ⟨rfl, by decide, by decide, by decide +kernel⟩ (by decide) dX6_doAct_217 ?_
  refine s_goto (tgt := 301) dX6_doAct_220 (by decide) ?_
  exact t_X6_doAct_301
set_option maxRecDepth 20000 in
theorem t_X6_doAct_223  : xS p l e R s m args below meth c cX6_doAct 6 (some .int) yX6_doAct.cls yX6_doAct.name 2 46 D cA b0 hs res (xMQ D cA b0 below args s hs res) (k_X6_doAct_223 b0) 223 := by
  unfold k_X6_doAct_223
  refine s_aload_n dX6_doAct_223 rfl ?_
  refine s_getR (Tb := TX5) rfl inX5 (by decide) w_190 dX6_doAct_224 ?_
  refine s_iconst dX6_doAct_227 (by decide) ?_
  refine s_iload_n dX6_doAct_228 rfl ?_
  refine s_aload_n dX6_doAct_229 rfl ?_
  refine s_getI (Tb := TX5) rfl inX5 (by decide) w_197 dX6_doAct_230 ?_
  refine s_callV (Tb := TX1) (m_X1_put l D cA b0) rfl w_379 w_380 w_381 w_34 w_382 ⟨rfl, by decide, by decide, by decide +kernel⟩ (by decide) dX6_doAct_233 ?_
  refine s_goto (tgt := 301) dX6_doAct_236 (by decide) ?_
  exact t_X6_doAct_301
set_option maxRecDepth 20000 in
theorem t_X6_doAct_239  : xS p l e R s m args below meth c cX6_doAct 6 (some .int) yX6_doAct.cls yX6_doAct.name 2 46 D cA b0 hs res (xMQ D cA b0 below args s hs res) (k_X6_doAct_239 b0) 239 := by
  unfold k_X6_doAct_239
  refine s_aload_n dX6_doAct_239 rfl ?_
  refine s_iload dX6_doAct_240 ?_
  refine s_callV (Tb := TX6) (m_X6_find l D cA b0) rfl w_252 w_254 w_0 w_28 w_255 ⟨rfl, by decide, by decide, by decide +kernel⟩ (by decide) dX6_doAct_242 ?_
  refine s_cnonnull (tgt := 252) dX6_doAct_245 (by decide) ?_ ?_
  · refine s_aload_n dX6_doAct_252 rfl ?_
    refine s_getR (Tb := TX5) rfl inX5 (by decide) w_190 dX6_doAct_253 ?_
    refine s_iconst dX6_doAct_256 (by decide) ?_
    refine s_iload_n dX6_doAct_257 rfl ?_
    refine s_iload dX6_doAct_258 ?_
    refine s_callV (Tb := TX1) (m_X1_put l D cA b0) rfl w_379 w_380 w_381 w_34 w_382 ⟨rfl, by decide, by decide, by decide +kernel⟩ (by decide) dX6_doAct_260 ?_
    refine s_goto (tgt := 301) dX6_doAct_263 (by decide) ?_
    exact t_X6_doAct_301
  · refine s_iconst dX6_doAct_248 (by decide) ?_
    refine s_goto (tgt := 301) dX6_doAct_249 (by decide) ?_
    exact t_X6_doAct_301
set_option maxRecDepth 20000 in
theorem t_X6_doAct_266  : xS p l e R s m args below meth c cX6_doAct 6 (some .int) yX6_doAct.cls yX6_doAct.name 2 46 D cA b0 hs res (xMQ D cA b0 below args s hs res) (k_X6_doAct_266 b0) 266 := by
  unfold k_X6_doAct_266
  refine s_aload_n dX6_doAct_266 rfl ?_
  refine s_aload_n dX6_doAct_267 rfl ?_
  refine s_iload_n dX6_doAct_268 rfl ?_
  refine s_callV (Tb := TX6) (m_X6_ask l D cA b0) rfl w_387 w_389 w_8 w_28 w_390 ⟨rfl, by decide, by decide, by decide +kernel⟩ (by decide) dX6_doAct_269 ?_
  refine s_goto (tgt := 301) dX6_doAct_272 (by decide) ?_
  exact t_X6_doAct_301
set_option maxRecDepth 20000 in
theorem t_X6_doAct_275  : xS p l e R s m args below meth c cX6_doAct 6 (some .int) yX6_doAct.cls yX6_doAct.name 2 46 D cA b0 hs res (xMQ D cA b0 below args s hs res) (k_X6_doAct_275 b0) 275 := by
  unfold k_X6_doAct_275
  refine s_aload_n dX6_doAct_275 rfl ?_
  refine s_getI (Tb := TX5) rfl inX5 (by decide) w_197 dX6_doAct_276 ?_
  refine s_iload_n dX6_doAct_279 rfl ?_
  refine s_c2ge (tgt := 288) dX6_doAct_280 (by decide) ?_ ?_
  · refine s_iconst dX6_doAct_288 (by decide) ?_
    refine s_goto (tgt := 301) dX6_doAct_289 (by decide) ?_
    exact t_X6_doAct_301
  · refine s_bipush dX6_doAct_283 (by decide) ?_
    refine s_goto (tgt := 301) dX6_doAct_285 (by decide) ?_
    exact t_X6_doAct_301
set_option maxRecDepth 20000 in
theorem t_X6_doAct_292  : xS p l e R s m args below meth c cX6_doAct 6 (some .int) yX6_doAct.cls yX6_doAct.name 2 46 D cA b0 hs res (xMQ D cA b0 below args s hs res) (k_X6_doAct_292 b0) 292 := by
  unfold k_X6_doAct_292
  refine s_aload_n dX6_doAct_292 rfl ?_
  refine s_iload_n dX6_doAct_293 rfl ?_
  refine s_callV (Tb := TX5) (m_X5_copyToBox l D cA b0) rfl w_392 w_393 w_394 w_30 w_395 ⟨rfl, by decide, by decide, by decide +kernel⟩ (by decide) dX6_doAct_294 ?_
  refine s_goto (tgt := 301) dX6_doAct_297 (by decide) ?_
  exact t_X6_doAct_301
set_option maxRecDepth 20000 in
theorem t_X6_doAct_300  : xS p l e R s m args below meth c cX6_doAct 6 (some .int) yX6_doAct.cls yX6_doAct.name 2 46 D cA b0 hs res (xMQ D cA b0 below args s hs res) (k_X6_doAct_300 b0) 300 := by
  unfold k_X6_doAct_300
  refine s_iconst dX6_doAct_300 (by decide) ?_
  exact t_X6_doAct_301
set_option maxRecDepth 20000 in
theorem t_X6_doAct_0  : xS p l e R s m args below meth c cX6_doAct 6 (some .int) yX6_doAct.cls yX6_doAct.name 2 46 D cA b0 hs res (xMQ D cA b0 below args s hs res) (k_X6_doAct_0 b0) 0 := by
  unfold k_X6_doAct_0
  refine s_aload_n dX6_doAct_0 rfl ?_
  refine s_getR (Tb := TX5) rfl inX5 (by decide) w_184 dX6_doAct_1 ?_
  refine s_getR (Tb := TX0) rfl inX0 (by decide) w_97 dX6_doAct_4 ?_
  refine s_aload_n dX6_doAct_7 rfl ?_
  refine s_getI (Tb := TX5) rfl inX5 (by decide) w_199 dX6_doAct_8 ?_
  refine s_ial dX6_doAct_11 ?_
  refine s_istore_n dX6_doAct_12 rfl (by decide) ?_
  refine s_aload_n dX6_doAct_13 rfl ?_
  refine s_getR (Tb := TX5) rfl inX5 (by decide) w_184 dX6_doAct_14 ?_
  refine s_getR (Tb := TX0) rfl inX0 (by decide) w_99 dX6_doAct_17 ?_
  refine s_aload_n dX6_doAct_20 rfl ?_
  refine s_getI (Tb := TX5) rfl inX5 (by decide) w_199 dX6_doAct_21 ?_
  refine s_ial dX6_doAct_24 ?_
  refine s_istore dX6_doAct_25 (by decide) ?_
  refine s_aload_n dX6_doAct_27 rfl ?_
  refine s_dup dX6_doAct_28 ?_
  refine s_getI (Tb := TX6) rfl inX6 (by decide) w_53 dX6_doAct_29 ?_
  refine s_iconst dX6_doAct_32 (by decide) ?_
  refine s_iadd dX6_doAct_33 ?_
  refine s_putI (Tb := TX6) rfl inX6 (by decide) w_53 tyX6 tyX6_ok nmX6 rfl rfl dX6_doAct_34 ?_
  refine s_aload_n dX6_doAct_37 rfl ?_
  refine s_iconst dX6_doAct_38 (by decide) ?_
  refine s_putZ (Tb := TX5) rfl inX5 (by decide) w_204 tyX5 tyX5_ok nmX5 rfl rfl dX6_doAct_39 ?_
  refine s_aload_n dX6_doAct_42 rfl ?_
  refine s_getR (Tb := TX5) rfl inX5 (by decide) w_184 dX6_doAct_43 ?_
  refine s_getR (Tb := TX0) rfl inX0 (by decide) w_95 dX6_doAct_46 ?_
  refine s_aload_n dX6_doAct_49 rfl ?_
  refine s_getI (Tb := TX5) rfl inX5 (by decide) w_199 dX6_doAct_50 ?_
  refine s_ial dX6_doAct_53 ?_
  refine s_tab (tg := st_X6_doAct_54) (dt := 300) dX6_doAct_54 (by decide) (by decide) ?_ ?_ (t_X6_doAct_300)
  · intro j hj
    match j, hj with
    | 0, _ => exact ⟨78, rfl, by decide⟩
    | 1, _ => exact ⟨86, rfl, by decide⟩
    | 2, _ => exact ⟨94, rfl, by decide⟩
    | 3, _ => exact ⟨102, rfl, by decide⟩
    | 4, _ => exact ⟨110, rfl, by decide⟩
    | 5, _ => exact ⟨118, rfl, by decide⟩
    | 6, _ => exact ⟨126, rfl, by decide⟩
    | 7, _ => exact ⟨141, rfl, by decide⟩
    | 8, _ => exact ⟨149, rfl, by decide⟩
    | 9, _ => exact ⟨156, rfl, by decide⟩
    | 10, _ => exact ⟨161, rfl, by decide⟩
    | 11, _ => exact ⟨169, rfl, by decide⟩
    | 12, _ => exact ⟨185, rfl, by decide⟩
    | 13, _ => exact ⟨212, rfl, by decide⟩
    | 14, _ => exact ⟨221, rfl, by decide⟩
    | 15, _ => exact ⟨238, rfl, by decide⟩
    | q + 16, hj => exact absurd hj (by omega)
  · intro j hj
    match j, hj with
    | 0, _ => exact t_X6_doAct_132
    | 1, _ => exact t_X6_doAct_140
    | 2, _ => exact t_X6_doAct_148
    | 3, _ => exact t_X6_doAct_156
    | 4, _ => exact t_X6_doAct_164
    | 5, _ => exact t_X6_doAct_172
    | 6, _ => exact t_X6_doAct_180
    | 7, _ => exact t_X6_doAct_195
    | 8, _ => exact t_X6_doAct_203
    | 9, _ => exact t_X6_doAct_210
    | 10, _ => exact t_X6_doAct_215
    | 11, _ => exact t_X6_doAct_223
    | 12, _ => exact t_X6_doAct_239
    | 13, _ => exact t_X6_doAct_266
    | 14, _ => exact t_X6_doAct_275
    | 15, _ => exact t_X6_doAct_292
    | q + 16, hj => exact absurd hj (by omega)
theorem m_X6_doAct (l : Launch) (D : va_G) (cA : Nat → ClassId) (b0 : Nat) : xMet l D cA b0 yX6_doAct (.code yX6_doAct cX6_doAct 6 (some .int) :: xTB) 2 46 (f_X6_doAct b0) :=
  xMet_of (n := 3) (by decide +kernel) (by decide) (fun p e R s m args below meth c hs res => t_X6_doAct_0)
end M_X6_doAct
section M_X6_doGuard
variable {p : Program} {l : Launch} {e : Env} {R : Room} {s : State} {m : MethodId} {args : Array Value} {below : List Frame} {meth : Method} {c : Code} {D : va_G} {cA : Nat → ClassId} {b0 : Nat} {hs : xH} {res : Option xV × xH}
set_option maxRecDepth 20000 in
theorem t_X6_doGuard_0 (k : Nat → xK) (hk0 : xS p l e R s m args below meth c cX6_doGuard 5 (some .int) yX6_doGuard.cls yX6_doGuard.name 3 71 D cA b0 hs res (xMQ D cA b0 below args s hs res) (k 0) 60) : xS p l e R s m args below meth c cX6_doGuard 5 (some .int) yX6_doGuard.cls yX6_doGuard.name 3 71 D cA b0 hs res (xMQ D cA b0 below args s hs res) (k_X6_doGuard_0 b0 k) 0 := by
  unfold k_X6_doGuard_0
  refine s_aload_n dX6_doGuard_0 rfl ?_
  refine s_getR (Tb := TX5) rfl inX5 (by decide) w_184 dX6_doGuard_1 ?_
  refine s_getR (Tb := TX0) rfl inX0 (by decide) w_97 dX6_doGuard_4 ?_
  refine s_aload_n dX6_doGuard_7 rfl ?_
  refine s_getI (Tb := TX5) rfl inX5 (by decide) w_199 dX6_doGuard_8 ?_
  refine s_ial dX6_doGuard_11 ?_
  refine s_aload_n dX6_doGuard_12 rfl ?_
  refine s_getR (Tb := TX5) rfl inX5 (by decide) w_184 dX6_doGuard_13 ?_
  refine s_getI (Tb := TX0) rfl inX0 (by decide) w_101 dX6_doGuard_16 ?_
  refine s_aload_n dX6_doGuard_19 rfl ?_
  refine s_getI (Tb := TX5) rfl inX5 (by decide) w_199 dX6_doGuard_20 ?_
  refine s_isub dX6_doGuard_23 ?_
  refine s_iconst dX6_doGuard_24 (by decide) ?_
  refine s_isub dX6_doGuard_25 ?_
  refine s_min w_296 w_297 w_36 w_298 (by decide) dX6_doGuard_26 ?_
  refine s_istore_n dX6_doGuard_29 rfl (by decide) ?_
  refine s_aload_n dX6_doGuard_30 rfl ?_
  refine s_dup dX6_doGuard_31 ?_
  refine s_getI (Tb := TX6) rfl inX6 (by decide) w_53 dX6_doGuard_32 ?_
  refine s_iconst dX6_doGuard_35 (by decide) ?_
  refine s_iadd dX6_doGuard_36 ?_
  refine s_putI (Tb := TX6) rfl inX6 (by decide) w_53 tyX6 tyX6_ok nmX6 rfl rfl dX6_doGuard_37 ?_
  refine s_aload_n dX6_doGuard_40 rfl ?_
  refine s_iconst dX6_doGuard_41 (by decide) ?_
  refine s_putZ (Tb := TX5) rfl inX5 (by decide) w_204 tyX5 tyX5_ok nmX5 rfl rfl dX6_doGuard_42 ?_
  refine s_aload_n dX6_doGuard_45 rfl ?_
  refine s_dup dX6_doGuard_46 ?_
  refine s_getI (Tb := TX5) rfl inX5 (by decide) w_199 dX6_doGuard_47 ?_
  refine s_iconst dX6_doGuard_50 (by decide) ?_
  refine s_iadd dX6_doGuard_51 ?_
  refine s_putI (Tb := TX5) rfl inX5 (by decide) w_199 tyX5 tyX5_ok nmX5 rfl rfl dX6_doGuard_52 ?_
  refine s_iconst dX6_doGuard_55 (by decide) ?_
  refine s_istore_n dX6_doGuard_56 rfl (by decide) ?_
  refine s_iconst dX6_doGuard_57 (by decide) ?_
  refine s_istore dX6_doGuard_58 (by decide) ?_
  exact hk0
set_option maxRecDepth 20000 in
theorem t_X6_doGuard_83 (k : Nat → xK) (hk0 : xS p l e R s m args below meth c cX6_doGuard 5 (some .int) yX6_doGuard.cls yX6_doGuard.name 3 71 D cA b0 hs res (xMQ D cA b0 below args s hs res) (k 0) 60) : xS p l e R s m args below meth c cX6_doGuard 5 (some .int) yX6_doGuard.cls yX6_doGuard.name 3 71 D cA b0 hs res (xMQ D cA b0 below args s hs res) (k_X6_doGuard_83 b0 k) 83 := by
  unfold k_X6_doGuard_83
  refine s_aload_n dX6_doGuard_83 rfl ?_
  refine s_dup dX6_doGuard_84 ?_
  refine s_getI (Tb := TX6) rfl inX6 (by decide) w_55 dX6_doGuard_85 ?_
  refine s_iconst dX6_doGuard_88 (by decide) ?_
  refine s_iadd dX6_doGuard_89 ?_
  refine s_putI (Tb := TX6) rfl inX6 (by decide) w_55 tyX6 tyX6_ok nmX6 rfl rfl dX6_doGuard_90 ?_
  refine s_iload_n dX6_doGuard_93 rfl ?_
  exact s_retI rfl dX6_doGuard_94
set_option maxRecDepth 20000 in
theorem t_X6_doGuard_60 (k : Nat → xK) (hk0 : xS p l e R s m args below meth c cX6_doGuard 5 (some .int) yX6_doGuard.cls yX6_doGuard.name 3 71 D cA b0 hs res (xMQ D cA b0 below args s hs res) (k 0) 60) : xS p l e R s m args below meth c cX6_doGuard 5 (some .int) yX6_doGuard.cls yX6_doGuard.name 3 71 D cA b0 hs res (xMQ D cA b0 below args s hs res) (k_X6_doGuard_60 b0 k) 60 := by
  unfold k_X6_doGuard_60
  refine s_iload dX6_doGuard_60 ?_
  refine s_iload_n dX6_doGuard_62 rfl ?_
  refine s_c2ge (tgt := 83) dX6_doGuard_63 (by decide) ?_ ?_
  · exact t_X6_doGuard_83 k hk0
  · refine s_iload_n dX6_doGuard_66 rfl ?_
    refine s_c1ne (tgt := 83) dX6_doGuard_67 (by decide) ?_ ?_
    · exact t_X6_doGuard_83 k hk0
    · refine s_aload_n dX6_doGuard_70 rfl ?_
      refine s_aload_n dX6_doGuard_71 rfl ?_
      refine s_iconst dX6_doGuard_72 (by decide) ?_
      refine s_callV (Tb := TX6) (m_X6_doAct l D cA b0) rfl w_299 w_301 w_6 w_28 w_302 ⟨rfl, by decide, by decide, by decide +kernel⟩ (by decide) dX6_doGuard_73 ?_
      refine s_istore_n dX6_doGuard_76 rfl (by decide) ?_
      refine s_iinc dX6_doGuard_77 (by decide) (by decide) ?_
      refine s_goto (tgt := 60) dX6_doGuard_80 (by decide) ?_
      exact hk0
theorem t_X6_doGuard_r (n : Nat) : xS p l e R s m args below meth c cX6_doGuard 5 (some .int) yX6_doGuard.cls yX6_doGuard.name 3 71 D cA b0 hs res (xMQ D cA b0 below args s hs res) (r_X6_doGuard b0 n 0) 60 := by
  induction n with
  | zero => exact fun ls st h hT => by cases hT
  | succ n ih => exact t_X6_doGuard_60 (r_X6_doGuard b0 n) ih
theorem m_X6_doGuard (l : Launch) (D : va_G) (cA : Nat → ClassId) (b0 : Nat) : xMet l D cA b0 yX6_doGuard (.code yX6_doGuard cX6_doGuard 5 (some .int) :: xTB) 3 71 (f_X6_doGuard b0) :=
  xMet_of (n := 2) (by decide +kernel) (by decide) (fun p e R s m args below meth c hs res => t_X6_doGuard_0 (r_X6_doGuard b0 64) (t_X6_doGuard_r 64))
end M_X6_doGuard
section M_X6_becomeDone
variable {p : Program} {l : Launch} {e : Env} {R : Room} {s : State} {m : MethodId} {args : Array Value} {below : List Frame} {meth : Method} {c : Code} {D : va_G} {cA : Nat → ClassId} {b0 : Nat} {hs : xH} {res : Option xV × xH}
set_option maxRecDepth 20000 in
theorem t_X6_becomeDone_0  : xS p l e R s m args below meth c cX6_becomeDone 2 none yX6_becomeDone.cls yX6_becomeDone.name 0 0 D cA b0 hs res (xMQ D cA b0 below args s hs res) (k_X6_becomeDone_0 b0) 0 := by
  unfold k_X6_becomeDone_0
  refine s_aload_n dX6_becomeDone_0 rfl ?_
  refine s_iconst dX6_becomeDone_1 (by decide) ?_
  refine s_putI (Tb := TX5) rfl inX5 (by decide) w_193 tyX5 tyX5_ok nmX5 rfl rfl dX6_becomeDone_2 ?_
  refine s_aload_n dX6_becomeDone_5 rfl ?_
  refine s_getI (Tb := TX6) rfl inX6 (by decide) w_50 dX6_becomeDone_6 ?_
  refine s_aload_n dX6_becomeDone_9 rfl ?_
  refine s_getR (Tb := TX6) rfl inX6 (by decide) w_48 dX6_becomeDone_10 ?_
  refine s_len dX6_becomeDone_13 ?_
  refine s_c2ge (tgt := 40) dX6_becomeDone_14 (by decide) ?_ ?_
  · exact s_retV rfl dX6_becomeDone_40
  · refine s_aload_n dX6_becomeDone_17 rfl ?_
    refine s_getR (Tb := TX6) rfl inX6 (by decide) w_48 dX6_becomeDone_18 ?_
    refine s_aload_n dX6_becomeDone_21 rfl ?_
    refine s_getI (Tb := TX6) rfl inX6 (by decide) w_50 dX6_becomeDone_22 ?_
    refine s_aload_n dX6_becomeDone_25 rfl ?_
    refine s_getI (Tb := TX5) rfl inX5 (by decide) w_179 dX6_becomeDone_26 ?_
    refine s_ias dX6_becomeDone_29 ?_
    refine s_aload_n dX6_becomeDone_30 rfl ?_
    refine s_dup dX6_becomeDone_31 ?_
    refine s_getI (Tb := TX6) rfl inX6 (by decide) w_50 dX6_becomeDone_32 ?_
    refine s_iconst dX6_becomeDone_35 (by decide) ?_
    refine s_iadd dX6_becomeDone_36 ?_
    refine s_putI (Tb := TX6) rfl inX6 (by decide) w_50 tyX6 tyX6_ok nmX6 rfl rfl dX6_becomeDone_37 ?_
    exact s_retV rfl dX6_becomeDone_40
theorem m_X6_becomeDone (l : Launch) (D : va_G) (cA : Nat → ClassId) (b0 : Nat) : xMet l D cA b0 yX6_becomeDone (.code yX6_becomeDone cX6_becomeDone 2 none :: xTB) 0 0 (f_X6_becomeDone b0) :=
  xMet_of (n := 2) (by decide +kernel) (by decide) (fun p e R s m args below meth c hs res => t_X6_becomeDone_0)
end M_X6_becomeDone
section M_X6_giveTurn
variable {p : Program} {l : Launch} {e : Env} {R : Room} {s : State} {m : MethodId} {args : Array Value} {below : List Frame} {meth : Method} {c : Code} {D : va_G} {cA : Nat → ClassId} {b0 : Nat} {hs : xH} {res : Option xV × xH}
set_option maxRecDepth 20000 in
theorem t_X6_giveTurn_98  : xS p l e R s m args below meth c cX6_giveTurn 3 none yX6_giveTurn.cls yX6_giveTurn.name 4 95 D cA b0 hs res (xMQ D cA b0 below args s hs res) (k_X6_giveTurn_98 b0) 98 := by
  unfold k_X6_giveTurn_98
  refine s_aload_n dX6_giveTurn_98 rfl ?_
  refine s_getI (Tb := TX5) rfl inX5 (by decide) w_199 dX6_giveTurn_99 ?_
  refine s_aload_n dX6_giveTurn_102 rfl ?_
  refine s_getR (Tb := TX5) rfl inX5 (by decide) w_184 dX6_giveTurn_103 ?_
  refine s_getI (Tb := TX0) rfl inX0 (by decide) w_101 dX6_giveTurn_106 ?_
  refine s_c2lt (tgt := 117) dX6_giveTurn_109 (by decide) ?_ ?_
  · exact s_retV rfl dX6_giveTurn_117
  · refine s_aload_n dX6_giveTurn_112 rfl ?_
    refine s_aload_n dX6_giveTurn_113 rfl ?_
    refine s_callV (Tb := TX6) (m_X6_becomeDone l D cA b0) rfl w_412 w_414 w_9 w_28 w_415 ⟨rfl, by decide, by decide, by decide +kernel⟩ (by decide) dX6_giveTurn_114 ?_
    exact s_retV rfl dX6_giveTurn_117
set_option maxRecDepth 20000 in
theorem t_X6_giveTurn_63  : xS p l e R s m args below meth c cX6_giveTurn 3 none yX6_giveTurn.cls yX6_giveTurn.name 4 95 D cA b0 hs res (xMQ D cA b0 below args s hs res) (k_X6_giveTurn_63 b0) 63 := by
  unfold k_X6_giveTurn_63
  refine s_istore_n dX6_giveTurn_63 rfl (by decide) ?_
  refine s_iload_n dX6_giveTurn_64 rfl ?_
  refine s_c1eq (tgt := 86) dX6_giveTurn_65 (by decide) ?_ ?_
  · refine s_aload_n dX6_giveTurn_86 rfl ?_
    refine s_getI (Tb := TX5) rfl inX5 (by decide) w_201 dX6_giveTurn_87 ?_
    refine s_c1le (tgt := 98) dX6_giveTurn_90 (by decide) ?_ ?_
    · exact t_X6_giveTurn_98
    · refine s_aload_n dX6_giveTurn_93 rfl ?_
      refine s_iconst dX6_giveTurn_94 (by decide) ?_
      refine s_putI (Tb := TX5) rfl inX5 (by decide) w_193 tyX5 tyX5_ok nmX5 rfl rfl dX6_giveTurn_95 ?_
      exact t_X6_giveTurn_98
  · refine s_aload_n dX6_giveTurn_68 rfl ?_
    refine s_dup dX6_giveTurn_69 ?_
    refine s_getI (Tb := TX6) rfl inX6 (by decide) w_56 dX6_giveTurn_70 ?_
    refine s_iconst dX6_giveTurn_73 (by decide) ?_
    refine s_iadd dX6_giveTurn_74 ?_
    refine s_putI (Tb := TX6) rfl inX6 (by decide) w_56 tyX6 tyX6_ok nmX6 rfl rfl dX6_giveTurn_75 ?_
    refine s_aload_n dX6_giveTurn_78 rfl ?_
    refine s_iload_n dX6_giveTurn_79 rfl ?_
    refine s_callV (Tb := TX5) (m_X5_fail l D cA b0) rfl w_400 w_401 w_402 w_30 w_403 ⟨rfl, by decide, by decide, by decide +kernel⟩ (by decide) dX6_giveTurn_80 ?_
    refine s_goto (tgt := 98) dX6_giveTurn_83 (by decide) ?_
    exact t_X6_giveTurn_98
set_option maxRecDepth 20000 in
theorem t_X6_giveTurn_0  : xS p l e R s m args below meth c cX6_giveTurn 3 none yX6_giveTurn.cls yX6_giveTurn.name 4 95 D cA b0 hs res (xMQ D cA b0 below args s hs res) (k_X6_giveTurn_0 b0) 0 := by
  unfold k_X6_giveTurn_0
  refine s_aload_n dX6_giveTurn_0 rfl ?_
  refine s_aload_n dX6_giveTurn_1 rfl ?_
  refine s_getI (Tb := TX6) rfl inX6 (by decide) w_52 dX6_giveTurn_2 ?_
  refine s_putI (Tb := TX5) rfl inX5 (by decide) w_203 tyX5 tyX5_ok nmX5 rfl rfl dX6_giveTurn_5 ?_
  refine s_aload_n dX6_giveTurn_8 rfl ?_
  refine s_iconst dX6_giveTurn_9 (by decide) ?_
  refine s_putI (Tb := TX5) rfl inX5 (by decide) w_195 tyX5 tyX5_ok nmX5 rfl rfl dX6_giveTurn_10 ?_
  refine s_aload_n dX6_giveTurn_13 rfl ?_
  refine s_iconst dX6_giveTurn_14 (by decide) ?_
  refine s_putI (Tb := TX5) rfl inX5 (by decide) w_201 tyX5 tyX5_ok nmX5 rfl rfl dX6_giveTurn_15 ?_
  refine s_aload_n dX6_giveTurn_18 rfl ?_
  refine s_getI (Tb := TX5) rfl inX5 (by decide) w_199 dX6_giveTurn_19 ?_
  refine s_aload_n dX6_giveTurn_22 rfl ?_
  refine s_getR (Tb := TX5) rfl inX5 (by decide) w_184 dX6_giveTurn_23 ?_
  refine s_getI (Tb := TX0) rfl inX0 (by decide) w_101 dX6_giveTurn_26 ?_
  refine s_c2ge (tgt := 98) dX6_giveTurn_29 (by decide) ?_ ?_
  · exact t_X6_giveTurn_98
  · refine s_aload_n dX6_giveTurn_32 rfl ?_
    refine s_getR (Tb := TX5) rfl inX5 (by decide) w_184 dX6_giveTurn_33 ?_
    refine s_getR (Tb := TX0) rfl inX0 (by decide) w_95 dX6_giveTurn_36 ?_
    refine s_aload_n dX6_giveTurn_39 rfl ?_
    refine s_getI (Tb := TX5) rfl inX5 (by decide) w_199 dX6_giveTurn_40 ?_
    refine s_ial dX6_giveTurn_43 ?_
    refine s_bipush dX6_giveTurn_44 (by decide) ?_
    refine s_c2ne (tgt := 57) dX6_giveTurn_46 (by decide) ?_ ?_
    · refine s_aload_n dX6_giveTurn_57 rfl ?_
      refine s_aload_n dX6_giveTurn_58 rfl ?_
      refine s_iconst dX6_giveTurn_59 (by decide) ?_
      refine s_callV (Tb := TX6) (m_X6_doAct l D cA b0) rfl w_299 w_301 w_6 w_28 w_302 ⟨rfl, by decide, by decide, by decide +kernel⟩ (by decide) dX6_giveTurn_60 ?_
      exact t_X6_giveTurn_63
    · refine s_aload_n dX6_giveTurn_49 rfl ?_
      refine s_aload_n dX6_giveTurn_50 rfl ?_
      refine s_callV (Tb := TX6) (m_X6_doGuard l D cA b0) rfl w_292 w_294 w_5 w_28 w_295 ⟨rfl, by decide, by decide, by decide +kernel⟩ (by decide) dX6_giveTurn_51 ?_
      refine s_goto (tgt := 63) dX6_giveTurn_54 (by decide) ?_
      exact t_X6_giveTurn_63
theorem m_X6_giveTurn (l : Launch) (D : va_G) (cA : Nat → ClassId) (b0 : Nat) : xMet l D cA b0 yX6_giveTurn (.code yX6_giveTurn cX6_giveTurn 3 none :: xTB) 4 95 (f_X6_giveTurn b0) :=
  xMet_of (n := 2) (by decide +kernel) (by decide) (fun p e R s m args below meth c hs res => t_X6_giveTurn_0)
end M_X6_giveTurn
section M_X6_ageTasks
variable {p : Program} {l : Launch} {e : Env} {R : Room} {s : State} {m : MethodId} {args : Array Value} {below : List Frame} {meth : Method} {c : Code} {D : va_G} {cA : Nat → ClassId} {b0 : Nat} {hs : xH} {res : Option xV × xH}
set_option maxRecDepth 20000 in
theorem t_X6_ageTasks_0 (k : Nat → xK) (hk0 : xS p l e R s m args below meth c cX6_ageTasks 3 none yX6_ageTasks.cls yX6_ageTasks.name 1 21 D cA b0 hs res (xMQ D cA b0 below args s hs res) (k 0) 2) : xS p l e R s m args below meth c cX6_ageTasks 3 none yX6_ageTasks.cls yX6_ageTasks.name 1 21 D cA b0 hs res (xMQ D cA b0 below args s hs res) (k_X6_ageTasks_0 b0 k) 0 := by
  unfold k_X6_ageTasks_0
  refine s_iconst dX6_ageTasks_0 (by decide) ?_
  refine s_istore_n dX6_ageTasks_1 rfl (by decide) ?_
  exact hk0
set_option maxRecDepth 20000 in
theorem t_X6_ageTasks_2 (k : Nat → xK) (hk0 : xS p l e R s m args below meth c cX6_ageTasks 3 none yX6_ageTasks.cls yX6_ageTasks.name 1 21 D cA b0 hs res (xMQ D cA b0 below args s hs res) (k 0) 2) : xS p l e R s m args below meth c cX6_ageTasks 3 none yX6_ageTasks.cls yX6_ageTasks.name 1 21 D cA b0 hs res (xMQ D cA b0 below args s hs res) (k_X6_ageTasks_2 b0 k) 2 := by
  unfold k_X6_ageTasks_2
  refine s_iload_n dX6_ageTasks_2 rfl ?_
  refine s_aload_n dX6_ageTasks_3 rfl ?_
  refine s_getR (Tb := TX6) rfl inX6 (by decide) w_47 dX6_ageTasks_4 ?_
  refine s_len dX6_ageTasks_7 ?_
  refine s_c2ge (tgt := 49) dX6_ageTasks_8 (by decide) ?_ ?_
  · exact s_retV rfl dX6_ageTasks_49
  · refine s_aload_n dX6_ageTasks_11 rfl ?_
    refine s_getR (Tb := TX6) rfl inX6 (by decide) w_47 dX6_ageTasks_12 ?_
    refine s_iload_n dX6_ageTasks_15 rfl ?_
    refine s_qal dX6_ageTasks_16 ?_
    refine s_astore_n dX6_ageTasks_17 rfl (by decide) ?_
    refine s_aload_n dX6_ageTasks_18 rfl ?_
    refine s_cnull (tgt := 43) dX6_ageTasks_19 (by decide) ?_ ?_
    · refine s_iinc dX6_ageTasks_43 (by decide) (by decide) ?_
      refine s_goto (tgt := 2) dX6_ageTasks_46 (by decide) ?_
      exact hk0
    · refine s_aload_n dX6_ageTasks_22 rfl ?_
      refine s_aload_n dX6_ageTasks_23 rfl ?_
      refine s_getI (Tb := TX6) rfl inX6 (by decide) w_52 dX6_ageTasks_24 ?_
      refine s_callV (Tb := TX5) (m_X5_isReadyIn l D cA b0) rfl w_284 w_285 w_286 w_30 w_287 ⟨rfl, by decide, by decide, by decide +kernel⟩ (by decide) dX6_ageTasks_27 ?_
      refine s_c1eq (tgt := 43) dX6_ageTasks_30 (by decide) ?_ ?_
      · refine s_iinc dX6_ageTasks_43 (by decide) (by decide) ?_
        refine s_goto (tgt := 2) dX6_ageTasks_46 (by decide) ?_
        exact hk0
      · refine s_aload_n dX6_ageTasks_33 rfl ?_
        refine s_dup dX6_ageTasks_34 ?_
        refine s_getI (Tb := TX5) rfl inX5 (by decide) w_195 dX6_ageTasks_35 ?_
        refine s_iconst dX6_ageTasks_38 (by decide) ?_
        refine s_iadd dX6_ageTasks_39 ?_
        refine s_putI (Tb := TX5) rfl inX5 (by decide) w_195 tyX5 tyX5_ok nmX5 rfl rfl dX6_ageTasks_40 ?_
        refine s_iinc dX6_ageTasks_43 (by decide) (by decide) ?_
        refine s_goto (tgt := 2) dX6_ageTasks_46 (by decide) ?_
        exact hk0
theorem t_X6_ageTasks_r (n : Nat) : xS p l e R s m args below meth c cX6_ageTasks 3 none yX6_ageTasks.cls yX6_ageTasks.name 1 21 D cA b0 hs res (xMQ D cA b0 below args s hs res) (r_X6_ageTasks b0 n 0) 2 := by
  induction n with
  | zero => exact fun ls st h hT => by cases hT
  | succ n ih => exact t_X6_ageTasks_2 (r_X6_ageTasks b0 n) ih
theorem m_X6_ageTasks (l : Launch) (D : va_G) (cA : Nat → ClassId) (b0 : Nat) : xMet l D cA b0 yX6_ageTasks (.code yX6_ageTasks cX6_ageTasks 3 none :: xTB) 1 21 (f_X6_ageTasks b0) :=
  xMet_of (n := 1) (by decide +kernel) (by decide) (fun p e R s m args below meth c hs res => t_X6_ageTasks_0 (r_X6_ageTasks b0 64) (t_X6_ageTasks_r 64))
end M_X6_ageTasks
section M_X6_doTurn
variable {p : Program} {l : Launch} {e : Env} {R : Room} {s : State} {m : MethodId} {args : Array Value} {below : List Frame} {meth : Method} {c : Code} {D : va_G} {cA : Nat → ClassId} {b0 : Nat} {hs : xH} {res : Option xV × xH}
set_option maxRecDepth 20000 in
theorem t_X6_doTurn_0 (k : Nat → xK) (hk0 : xS p l e R s m args below meth c cX6_doTurn 3 none yX6_doTurn.cls yX6_doTurn.name 5 117 D cA b0 hs res (xMQ D cA b0 below args s hs res) (k 0) 16) : xS p l e R s m args below meth c cX6_doTurn 3 none yX6_doTurn.cls yX6_doTurn.name 5 117 D cA b0 hs res (xMQ D cA b0 below args s hs res) (k_X6_doTurn_0 b0 k) 0 := by
  unfold k_X6_doTurn_0
  refine s_aload_n dX6_doTurn_0 rfl ?_
  refine s_dup dX6_doTurn_1 ?_
  refine s_getI (Tb := TX6) rfl inX6 (by decide) w_52 dX6_doTurn_2 ?_
  refine s_iconst dX6_doTurn_5 (by decide) ?_
  refine s_iadd dX6_doTurn_6 ?_
  refine s_putI (Tb := TX6) rfl inX6 (by decide) w_52 tyX6 tyX6_ok nmX6 rfl rfl dX6_doTurn_7 ?_
  refine s_aload_n dX6_doTurn_10 rfl ?_
  refine s_callV (Tb := TX6) (m_X6_wakeTasks l D cA b0) rfl w_272 w_274 w_2 w_28 w_275 ⟨rfl, by decide, by decide, by decide +kernel⟩ (by decide) dX6_doTurn_11 ?_
  refine s_iconst dX6_doTurn_14 (by decide) ?_
  refine s_istore_n dX6_doTurn_15 rfl (by decide) ?_
  exact hk0
set_option maxRecDepth 20000 in
theorem t_X6_doTurn_16 (k : Nat → xK) (hk0 : xS p l e R s m args below meth c cX6_doTurn 3 none yX6_doTurn.cls yX6_doTurn.name 5 117 D cA b0 hs res (xMQ D cA b0 below args s hs res) (k 0) 16) : xS p l e R s m args below meth c cX6_doTurn 3 none yX6_doTurn.cls yX6_doTurn.name 5 117 D cA b0 hs res (xMQ D cA b0 below args s hs res) (k_X6_doTurn_16 b0 k) 16 := by
  unfold k_X6_doTurn_16
  refine s_iload_n dX6_doTurn_16 rfl ?_
  refine s_aload_n dX6_doTurn_17 rfl ?_
  refine s_getI (Tb := TX6) rfl inX6 (by decide) w_51 dX6_doTurn_18 ?_
  refine s_c2ge (tgt := 44) dX6_doTurn_21 (by decide) ?_ ?_
  · refine s_aload_n dX6_doTurn_44 rfl ?_
    refine s_callV (Tb := TX6) (m_X6_ageTasks l D cA b0) rfl w_416 w_418 w_10 w_28 w_419 ⟨rfl, by decide, by decide, by decide +kernel⟩ (by decide) dX6_doTurn_45 ?_
    exact s_retV rfl dX6_doTurn_48
  · refine s_aload_n dX6_doTurn_24 rfl ?_
    refine s_callV (Tb := TX6) (m_X6_findNextToWork l D cA b0) rfl w_280 w_282 w_3 w_28 w_283 ⟨rfl, by decide, by decide, by decide +kernel⟩ (by decide) dX6_doTurn_25 ?_
    refine s_astore_n dX6_doTurn_28 rfl (by decide) ?_
    refine s_aload_n dX6_doTurn_29 rfl ?_
    refine s_cnull (tgt := 38) dX6_doTurn_30 (by decide) ?_ ?_
    · refine s_iinc dX6_doTurn_38 (by decide) (by decide) ?_
      refine s_goto (tgt := 16) dX6_doTurn_41 (by decide) ?_
      exact hk0
    · refine s_aload_n dX6_doTurn_33 rfl ?_
      refine s_aload_n dX6_doTurn_34 rfl ?_
      refine s_callV (Tb := TX6) (m_X6_giveTurn l D cA b0) rfl w_288 w_290 w_4 w_28 w_291 ⟨rfl, by decide, by decide, by decide +kernel⟩ (by decide) dX6_doTurn_35 ?_
      refine s_iinc dX6_doTurn_38 (by decide) (by decide) ?_
      refine s_goto (tgt := 16) dX6_doTurn_41 (by decide) ?_
      exact hk0
theorem t_X6_doTurn_r (n : Nat) : xS p l e R s m args below meth c cX6_doTurn 3 none yX6_doTurn.cls yX6_doTurn.name 5 117 D cA b0 hs res (xMQ D cA b0 below args s hs res) (r_X6_doTurn b0 n 0) 16 := by
  induction n with
  | zero => exact fun ls st h hT => by cases hT
  | succ n ih => exact t_X6_doTurn_16 (r_X6_doTurn b0 n) ih
theorem m_X6_doTurn (l : Launch) (D : va_G) (cA : Nat → ClassId) (b0 : Nat) : xMet l D cA b0 yX6_doTurn (.code yX6_doTurn cX6_doTurn 3 none :: xTB) 5 117 (f_X6_doTurn b0) :=
  xMet_of (n := 1) (by decide +kernel) (by decide) (fun p e R s m args below meth c hs res => t_X6_doTurn_0 (r_X6_doTurn b0 64) (t_X6_doTurn_r 64))
end M_X6_doTurn
section M_X6_turn
variable {p : Program} {l : Launch} {e : Env} {R : Room} {s : State} {m : MethodId} {args : Array Value} {below : List Frame} {meth : Method} {c : Code} {D : va_G} {cA : Nat → ClassId} {b0 : Nat} {hs : xH} {res : Option xV × xH}
set_option maxRecDepth 20000 in
theorem t_X6_turn_0 (k : Nat → xK) (hk0 : xS p l e R s m args below meth c cX6_turn 6 (some .int) yX6_turn.cls yX6_turn.name 6 139 D cA b0 hs res (xMQ D cA b0 below args s hs res) (k 0) 23) : xS p l e R s m args below meth c cX6_turn 6 (some .int) yX6_turn.cls yX6_turn.name 6 139 D cA b0 hs res (xMQ D cA b0 below args s hs res) (k_X6_turn_0 b0 k) 0 := by
  unfold k_X6_turn_0
  refine s_iload_n dX6_turn_0 rfl ?_
  refine s_iconst dX6_turn_1 (by decide) ?_
  refine s_c2lt (tgt := 11) dX6_turn_2 (by decide) ?_ ?_
  · refine s_iconst dX6_turn_11 (by decide) ?_
    exact s_retI rfl dX6_turn_12
  · refine s_iload_n dX6_turn_5 rfl ?_
    refine s_bipush dX6_turn_6 (by decide) ?_
    refine s_c2le (tgt := 13) dX6_turn_8 (by decide) ?_ ?_
    · refine s_aload_n dX6_turn_13 rfl ?_
      refine s_getI (Tb := TX6) rfl inX6 (by decide) w_53 dX6_turn_14 ?_
      refine s_istore_n dX6_turn_17 rfl (by decide) ?_
      refine s_iconst dX6_turn_18 (by decide) ?_
      refine s_istore_n dX6_turn_19 rfl (by decide) ?_
      refine s_iconst dX6_turn_20 (by decide) ?_
      refine s_istore dX6_turn_21 (by decide) ?_
      exact hk0
    · refine s_iconst dX6_turn_11 (by decide) ?_
      exact s_retI rfl dX6_turn_12
set_option maxRecDepth 20000 in
theorem t_X6_turn_64 (k : Nat → xK) (hk0 : xS p l e R s m args below meth c cX6_turn 6 (some .int) yX6_turn.cls yX6_turn.name 6 139 D cA b0 hs res (xMQ D cA b0 below args s hs res) (k 0) 23) : xS p l e R s m args below meth c cX6_turn 6 (some .int) yX6_turn.cls yX6_turn.name 6 139 D cA b0 hs res (xMQ D cA b0 below args s hs res) (k_X6_turn_64 b0 k) 64 := by
  unfold k_X6_turn_64
  refine s_aload_n dX6_turn_64 rfl ?_
  refine s_getI (Tb := TX6) rfl inX6 (by decide) w_53 dX6_turn_65 ?_
  refine s_iload_n dX6_turn_68 rfl ?_
  refine s_isub dX6_turn_69 ?_
  exact s_retI rfl dX6_turn_70
set_option maxRecDepth 20000 in
theorem t_X6_turn_23 (k : Nat → xK) (hk0 : xS p l e R s m args below meth c cX6_turn 6 (some .int) yX6_turn.cls yX6_turn.name 6 139 D cA b0 hs res (xMQ D cA b0 below args s hs res) (k 0) 23) : xS p l e R s m args below meth c cX6_turn 6 (some .int) yX6_turn.cls yX6_turn.name 6 139 D cA b0 hs res (xMQ D cA b0 below args s hs res) (k_X6_turn_23 b0 k) 23 := by
  unfold k_X6_turn_23
  refine s_iload dX6_turn_23 ?_
  refine s_iload_n dX6_turn_25 rfl ?_
  refine s_c2ge (tgt := 64) dX6_turn_26 (by decide) ?_ ?_
  · exact t_X6_turn_64 k hk0
  · refine s_iload_n dX6_turn_29 rfl ?_
    refine s_c1ne (tgt := 64) dX6_turn_30 (by decide) ?_ ?_
    · exact t_X6_turn_64 k hk0
    · refine s_aload_n dX6_turn_33 rfl ?_
      refine s_getI (Tb := TX6) rfl inX6 (by decide) w_53 dX6_turn_34 ?_
      refine s_istore dX6_turn_37 (by decide) ?_
      refine s_aload_n dX6_turn_39 rfl ?_
      refine s_callV (Tb := TX6) (m_X6_doTurn l D cA b0) rfl w_268 w_270 w_1 w_28 w_271 ⟨rfl, by decide, by decide, by decide +kernel⟩ (by decide) dX6_turn_40 ?_
      refine s_aload_n dX6_turn_43 rfl ?_
      refine s_getI (Tb := TX6) rfl inX6 (by decide) w_53 dX6_turn_44 ?_
      refine s_iload dX6_turn_47 ?_
      refine s_c2ne (tgt := 56) dX6_turn_49 (by decide) ?_ ?_
      · refine s_iconst dX6_turn_56 (by decide) ?_
        refine s_istore_n dX6_turn_57 rfl (by decide) ?_
        refine s_iinc dX6_turn_58 (by decide) (by decide) ?_
        refine s_goto (tgt := 23) dX6_turn_61 (by decide) ?_
        exact hk0
      · refine s_iconst dX6_turn_52 (by decide) ?_
        refine s_goto (tgt := 57) dX6_turn_53 (by decide) ?_
        refine s_istore_n dX6_turn_57 rfl (by decide) ?_
        refine s_iinc dX6_turn_58 (by decide) (by decide) ?_
        refine s_goto (tgt := 23) dX6_turn_61 (by decide) ?_
        exact hk0
theorem t_X6_turn_r (n : Nat) : xS p l e R s m args below meth c cX6_turn 6 (some .int) yX6_turn.cls yX6_turn.name 6 139 D cA b0 hs res (xMQ D cA b0 below args s hs res) (r_X6_turn b0 n 0) 23 := by
  induction n with
  | zero => exact fun ls st h hT => by cases hT
  | succ n ih => exact t_X6_turn_23 (r_X6_turn b0 n) ih
theorem m_X6_turn (l : Launch) (D : va_G) (cA : Nat → ClassId) (b0 : Nat) : xMet l D cA b0 yX6_turn (.code yX6_turn cX6_turn 6 (some .int) :: xTB) 6 139 (f_X6_turn b0) :=
  xMet_of (n := 2) (by decide +kernel) (by decide) (fun p e R s m args below meth c hs res => t_X6_turn_0 (r_X6_turn b0 64) (t_X6_turn_r 64))
end M_X6_turn
section M_X6_letter
variable {p : Program} {l : Launch} {e : Env} {R : Room} {s : State} {m : MethodId} {args : Array Value} {below : List Frame} {meth : Method} {c : Code} {D : va_G} {cA : Nat → ClassId} {b0 : Nat} {hs : xH} {res : Option xV × xH}
set_option maxRecDepth 20000 in
theorem t_X6_letter_0  : xS p l e R s m args below meth c cX6_letter 4 (some .int) yX6_letter.cls yX6_letter.name 1 21 D cA b0 hs res (xMQ D cA b0 below args s hs res) (k_X6_letter_0 b0) 0 := by
  unfold k_X6_letter_0
  refine s_aload_n dX6_letter_0 rfl ?_
  refine s_iload_n dX6_letter_1 rfl ?_
  refine s_callV (Tb := TX6) (m_X6_find l D cA b0) rfl w_252 w_254 w_0 w_28 w_255 ⟨rfl, by decide, by decide, by decide +kernel⟩ (by decide) dX6_letter_2 ?_
  refine s_astore_n dX6_letter_5 rfl (by decide) ?_
  refine s_aload_n dX6_letter_6 rfl ?_
  refine s_cnonnull (tgt := 12) dX6_letter_7 (by decide) ?_ ?_
  · refine s_aload_n dX6_letter_12 rfl ?_
    refine s_callV (Tb := TX5) (m_X5_isOver l D cA b0) rfl w_347 w_348 w_349 w_30 w_350 ⟨rfl, by decide, by decide, by decide +kernel⟩ (by decide) dX6_letter_13 ?_
    refine s_c1eq (tgt := 22) dX6_letter_16 (by decide) ?_ ?_
    · refine s_aload_n dX6_letter_22 rfl ?_
      refine s_getR (Tb := TX5) rfl inX5 (by decide) w_186 dX6_letter_23 ?_
      refine s_callV (Tb := TX2) (m_X2_isFull l D cA b0) rfl w_351 w_352 w_353 w_32 w_354 ⟨rfl, by decide, by decide, by decide +kernel⟩ (by decide) dX6_letter_26 ?_
      refine s_c1eq (tgt := 35) dX6_letter_29 (by decide) ?_ ?_
      · refine s_aload_n dX6_letter_35 rfl ?_
        refine s_getR (Tb := TX5) rfl inX5 (by decide) w_186 dX6_letter_36 ?_
        refine s_iload_n dX6_letter_39 rfl ?_
        refine s_callV (Tb := TX2) (m_X2_append l D cA b0) rfl w_355 w_356 w_357 w_32 w_358 ⟨rfl, by decide, by decide, by decide +kernel⟩ (by decide) dX6_letter_40 ?_
        refine s_aload_n dX6_letter_43 rfl ?_
        refine s_getR (Tb := TX5) rfl inX5 (by decide) w_186 dX6_letter_44 ?_
        refine s_getI (Tb := TX2) rfl inX2 (by decide) w_121 dX6_letter_47 ?_
        exact s_retI rfl dX6_letter_50
      · refine s_bipush dX6_letter_32 (by decide) ?_
        exact s_retI rfl dX6_letter_34
    · refine s_bipush dX6_letter_19 (by decide) ?_
      exact s_retI rfl dX6_letter_21
  · refine s_iconst dX6_letter_10 (by decide) ?_
    exact s_retI rfl dX6_letter_11
theorem m_X6_letter (l : Launch) (D : va_G) (cA : Nat → ClassId) (b0 : Nat) : xMet l D cA b0 yX6_letter (.code yX6_letter cX6_letter 4 (some .int) :: xTB) 1 21 (f_X6_letter b0) :=
  xMet_of (n := 3) (by decide +kernel) (by decide) (fun p e R s m args below meth c hs res => t_X6_letter_0)
end M_X6_letter
section M_X6_stop
variable {p : Program} {l : Launch} {e : Env} {R : Room} {s : State} {m : MethodId} {args : Array Value} {below : List Frame} {meth : Method} {c : Code} {D : va_G} {cA : Nat → ClassId} {b0 : Nat} {hs : xH} {res : Option xV × xH}
set_option maxRecDepth 20000 in
theorem t_X6_stop_0  : xS p l e R s m args below meth c cX6_stop 3 (some .int) yX6_stop.cls yX6_stop.name 1 21 D cA b0 hs res (xMQ D cA b0 below args s hs res) (k_X6_stop_0 b0) 0 := by
  unfold k_X6_stop_0
  refine s_aload_n dX6_stop_0 rfl ?_
  refine s_iload_n dX6_stop_1 rfl ?_
  refine s_callV (Tb := TX6) (m_X6_find l D cA b0) rfl w_252 w_254 w_0 w_28 w_255 ⟨rfl, by decide, by decide, by decide +kernel⟩ (by decide) dX6_stop_2 ?_
  refine s_astore_n dX6_stop_5 rfl (by decide) ?_
  refine s_aload_n dX6_stop_6 rfl ?_
  refine s_cnonnull (tgt := 12) dX6_stop_7 (by decide) ?_ ?_
  · refine s_aload_n dX6_stop_12 rfl ?_
    refine s_callV (Tb := TX5) (m_X5_isOver l D cA b0) rfl w_347 w_348 w_349 w_30 w_350 ⟨rfl, by decide, by decide, by decide +kernel⟩ (by decide) dX6_stop_13 ?_
    refine s_c1eq (tgt := 22) dX6_stop_16 (by decide) ?_ ?_
    · refine s_aload_n dX6_stop_22 rfl ?_
      refine s_iconst dX6_stop_23 (by decide) ?_
      refine s_putI (Tb := TX5) rfl inX5 (by decide) w_193 tyX5 tyX5_ok nmX5 rfl rfl dX6_stop_24 ?_
      refine s_iconst dX6_stop_27 (by decide) ?_
      exact s_retI rfl dX6_stop_28
    · refine s_bipush dX6_stop_19 (by decide) ?_
      exact s_retI rfl dX6_stop_21
  · refine s_iconst dX6_stop_10 (by decide) ?_
    exact s_retI rfl dX6_stop_11
theorem m_X6_stop (l : Launch) (D : va_G) (cA : Nat → ClassId) (b0 : Nat) : xMet l D cA b0 yX6_stop (.code yX6_stop cX6_stop 3 (some .int) :: xTB) 1 21 (f_X6_stop b0) :=
  xMet_of (n := 2) (by decide +kernel) (by decide) (fun p e R s m args below meth c hs res => t_X6_stop_0)
end M_X6_stop
section M_X6_again
variable {p : Program} {l : Launch} {e : Env} {R : Room} {s : State} {m : MethodId} {args : Array Value} {below : List Frame} {meth : Method} {c : Code} {D : va_G} {cA : Nat → ClassId} {b0 : Nat} {hs : xH} {res : Option xV × xH}
set_option maxRecDepth 20000 in
theorem t_X6_again_31  : xS p l e R s m args below meth c cX6_again 3 (some .int) yX6_again.cls yX6_again.name 2 42 D cA b0 hs res (xMQ D cA b0 below args s hs res) (k_X6_again_31 b0) 31 := by
  unfold k_X6_again_31
  refine s_aload_n dX6_again_31 rfl ?_
  refine s_iconst dX6_again_32 (by decide) ?_
  refine s_putI (Tb := TX5) rfl inX5 (by decide) w_193 tyX5 tyX5_ok nmX5 rfl rfl dX6_again_33 ?_
  refine s_aload_n dX6_again_36 rfl ?_
  refine s_callV (Tb := TX5) (m_X5_goBack l D cA b0) rfl w_432 w_409 w_410 w_30 w_411 ⟨rfl, by decide, by decide, by decide +kernel⟩ (by decide) dX6_again_37 ?_
  refine s_iconst dX6_again_40 (by decide) ?_
  exact s_retI rfl dX6_again_41
set_option maxRecDepth 20000 in
theorem t_X6_again_0  : xS p l e R s m args below meth c cX6_again 3 (some .int) yX6_again.cls yX6_again.name 2 42 D cA b0 hs res (xMQ D cA b0 below args s hs res) (k_X6_again_0 b0) 0 := by
  unfold k_X6_again_0
  refine s_aload_n dX6_again_0 rfl ?_
  refine s_iload_n dX6_again_1 rfl ?_
  refine s_callV (Tb := TX6) (m_X6_find l D cA b0) rfl w_252 w_254 w_0 w_28 w_255 ⟨rfl, by decide, by decide, by decide +kernel⟩ (by decide) dX6_again_2 ?_
  refine s_astore_n dX6_again_5 rfl (by decide) ?_
  refine s_aload_n dX6_again_6 rfl ?_
  refine s_cnonnull (tgt := 12) dX6_again_7 (by decide) ?_ ?_
  · refine s_aload_n dX6_again_12 rfl ?_
    refine s_getI (Tb := TX5) rfl inX5 (by decide) w_193 dX6_again_13 ?_
    refine s_iconst dX6_again_16 (by decide) ?_
    refine s_c2eq (tgt := 31) dX6_again_17 (by decide) ?_ ?_
    · exact t_X6_again_31
    · refine s_aload_n dX6_again_20 rfl ?_
      refine s_getI (Tb := TX5) rfl inX5 (by decide) w_193 dX6_again_21 ?_
      refine s_iconst dX6_again_24 (by decide) ?_
      refine s_c2eq (tgt := 31) dX6_again_25 (by decide) ?_ ?_
      · exact t_X6_again_31
      · refine s_bipush dX6_again_28 (by decide) ?_
        exact s_retI rfl dX6_again_30
  · refine s_iconst dX6_again_10 (by decide) ?_
    exact s_retI rfl dX6_again_11
theorem m_X6_again (l : Launch) (D : va_G) (cA : Nat → ClassId) (b0 : Nat) : xMet l D cA b0 yX6_again (.code yX6_again cX6_again 3 (some .int) :: xTB) 2 42 (f_X6_again b0) :=
  xMet_of (n := 2) (by decide +kernel) (by decide) (fun p e R s m args below meth c hs res => t_X6_again_0)
end M_X6_again
section M_X6_of
variable {p : Program} {l : Launch} {e : Env} {R : Room} {s : State} {m : MethodId} {args : Array Value} {below : List Frame} {meth : Method} {c : Code} {D : va_G} {cA : Nat → ClassId} {b0 : Nat} {hs : xH} {res : Option xV × xH}
set_option maxRecDepth 20000 in
theorem t_X6_of_0  : xS p l e R s m args below meth c cX6_of 4 (some .int) yX6_of.cls yX6_of.name 1 21 D cA b0 hs res (xMQ D cA b0 below args s hs res) (k_X6_of_0 b0) 0 := by
  unfold k_X6_of_0
  refine s_aload_n dX6_of_0 rfl ?_
  refine s_iload_n dX6_of_1 rfl ?_
  refine s_callV (Tb := TX6) (m_X6_find l D cA b0) rfl w_252 w_254 w_0 w_28 w_255 ⟨rfl, by decide, by decide, by decide +kernel⟩ (by decide) dX6_of_2 ?_
  refine s_astore_n dX6_of_5 rfl (by decide) ?_
  refine s_aload_n dX6_of_6 rfl ?_
  refine s_cnonnull (tgt := 14) dX6_of_7 (by decide) ?_ ?_
  · refine s_aload_n dX6_of_14 rfl ?_
    refine s_iload_n dX6_of_15 rfl ?_
    refine s_callV (Tb := TX5) (m_X5_tell l D cA b0) rfl w_437 w_438 w_439 w_30 w_440 ⟨rfl, by decide, by decide, by decide +kernel⟩ (by decide) dX6_of_16 ?_
    exact s_retI rfl dX6_of_19
  · refine s_iconst dX6_of_10 (by decide) ?_
    refine s_goto (tgt := 19) dX6_of_11 (by decide) ?_
    exact s_retI rfl dX6_of_19
theorem m_X6_of (l : Launch) (D : va_G) (cA : Nat → ClassId) (b0 : Nat) : xMet l D cA b0 yX6_of (.code yX6_of cX6_of 4 (some .int) :: xTB) 1 21 (f_X6_of b0) :=
  xMet_of (n := 3) (by decide +kernel) (by decide) (fun p e R s m args below meth c hs res => t_X6_of_0)
end M_X6_of
section M_X6_at
variable {p : Program} {l : Launch} {e : Env} {R : Room} {s : State} {m : MethodId} {args : Array Value} {below : List Frame} {meth : Method} {c : Code} {D : va_G} {cA : Nat → ClassId} {b0 : Nat} {hs : xH} {res : Option xV × xH}
set_option maxRecDepth 20000 in
theorem t_X6_at_0  : xS p l e R s m args below meth c cX6_at 5 (some .int) yX6_at.cls yX6_at.name 1 21 D cA b0 hs res (xMQ D cA b0 below args s hs res) (k_X6_at_0 b0) 0 := by
  unfold k_X6_at_0
  refine s_aload_n dX6_at_0 rfl ?_
  refine s_iload_n dX6_at_1 rfl ?_
  refine s_callV (Tb := TX6) (m_X6_find l D cA b0) rfl w_252 w_254 w_0 w_28 w_255 ⟨rfl, by decide, by decide, by decide +kernel⟩ (by decide) dX6_at_2 ?_
  refine s_astore dX6_at_5 (by decide) ?_
  refine s_aload dX6_at_7 ?_
  refine s_cnonnull (tgt := 14) dX6_at_9 (by decide) ?_ ?_
  · refine s_iload_n dX6_at_14 rfl ?_
    refine s_c1eq (tgt := 45) dX6_at_15 (by decide) ?_ ?_
    · refine s_aload dX6_at_45 ?_
      refine s_getR (Tb := TX5) rfl inX5 (by decide) w_188 dX6_at_47 ?_
      refine s_iload_n dX6_at_50 rfl ?_
      refine s_callV (Tb := TX4) (m_X4_has l D cA b0) rfl w_449 w_324 w_325 w_33 w_326 ⟨rfl, by decide, by decide, by decide +kernel⟩ (by decide) dX6_at_51 ?_
      refine s_c1eq (tgt := 70) dX6_at_54 (by decide) ?_ ?_
      · refine s_iconst dX6_at_70 (by decide) ?_
        exact s_retI rfl dX6_at_71
      · refine s_aload dX6_at_57 ?_
        refine s_getR (Tb := TX5) rfl inX5 (by decide) w_188 dX6_at_59 ?_
        refine s_getR (Tb := TX4) rfl inX4 (by decide) w_134 dX6_at_62 ?_
        refine s_iload_n dX6_at_65 rfl ?_
        refine s_ial dX6_at_66 ?_
        refine s_goto (tgt := 71) dX6_at_67 (by decide) ?_
        exact s_retI rfl dX6_at_71
    · refine s_aload dX6_at_18 ?_
      refine s_getR (Tb := TX5) rfl inX5 (by decide) w_190 dX6_at_20 ?_
      refine s_iload_n dX6_at_23 rfl ?_
      refine s_callV (Tb := TX1) (m_X1_has l D cA b0) rfl w_445 w_446 w_447 w_34 w_448 ⟨rfl, by decide, by decide, by decide +kernel⟩ (by decide) dX6_at_24 ?_
      refine s_c1eq (tgt := 43) dX6_at_27 (by decide) ?_ ?_
      · refine s_iconst dX6_at_43 (by decide) ?_
        exact s_retI rfl dX6_at_44
      · refine s_aload dX6_at_30 ?_
        refine s_getR (Tb := TX5) rfl inX5 (by decide) w_190 dX6_at_32 ?_
        refine s_getR (Tb := TX1) rfl inX1 (by decide) w_150 dX6_at_35 ?_
        refine s_iload_n dX6_at_38 rfl ?_
        refine s_ial dX6_at_39 ?_
        refine s_goto (tgt := 44) dX6_at_40 (by decide) ?_
        exact s_retI rfl dX6_at_44
  · refine s_iconst dX6_at_12 (by decide) ?_
    exact s_retI rfl dX6_at_13
theorem m_X6_at (l : Launch) (D : va_G) (cA : Nat → ClassId) (b0 : Nat) : xMet l D cA b0 yX6_at (.code yX6_at cX6_at 5 (some .int) :: xTB) 1 21 (f_X6_at b0) :=
  xMet_of (n := 4) (by decide +kernel) (by decide) (fun p e R s m args below meth c hs res => t_X6_at_0)
end M_X6_at
section M_X6_letterAt
variable {p : Program} {l : Launch} {e : Env} {R : Room} {s : State} {m : MethodId} {args : Array Value} {below : List Frame} {meth : Method} {c : Code} {D : va_G} {cA : Nat → ClassId} {b0 : Nat} {hs : xH} {res : Option xV × xH}
set_option maxRecDepth 20000 in
theorem t_X6_letterAt_0  : xS p l e R s m args below meth c cX6_letterAt 4 (some .int) yX6_letterAt.cls yX6_letterAt.name 1 21 D cA b0 hs res (xMQ D cA b0 below args s hs res) (k_X6_letterAt_0 b0) 0 := by
  unfold k_X6_letterAt_0
  refine s_aload_n dX6_letterAt_0 rfl ?_
  refine s_iload_n dX6_letterAt_1 rfl ?_
  refine s_callV (Tb := TX6) (m_X6_find l D cA b0) rfl w_252 w_254 w_0 w_28 w_255 ⟨rfl, by decide, by decide, by decide +kernel⟩ (by decide) dX6_letterAt_2 ?_
  refine s_astore_n dX6_letterAt_5 rfl (by decide) ?_
  refine s_aload_n dX6_letterAt_6 rfl ?_
  refine s_cnull (tgt := 33) dX6_letterAt_7 (by decide) ?_ ?_
  · refine s_iconst dX6_letterAt_33 (by decide) ?_
    exact s_retI rfl dX6_letterAt_34
  · refine s_aload_n dX6_letterAt_10 rfl ?_
    refine s_getR (Tb := TX5) rfl inX5 (by decide) w_186 dX6_letterAt_11 ?_
    refine s_iload_n dX6_letterAt_14 rfl ?_
    refine s_callV (Tb := TX2) (m_X2_has l D cA b0) rfl w_454 w_455 w_456 w_32 w_457 ⟨rfl, by decide, by decide, by decide +kernel⟩ (by decide) dX6_letterAt_15 ?_
    refine s_c1eq (tgt := 33) dX6_letterAt_18 (by decide) ?_ ?_
    · refine s_iconst dX6_letterAt_33 (by decide) ?_
      exact s_retI rfl dX6_letterAt_34
    · refine s_aload_n dX6_letterAt_21 rfl ?_
      refine s_getR (Tb := TX5) rfl inX5 (by decide) w_186 dX6_letterAt_22 ?_
      refine s_getR (Tb := TX2) rfl inX2 (by decide) w_118 dX6_letterAt_25 ?_
      refine s_iload_n dX6_letterAt_28 rfl ?_
      refine s_ial dX6_letterAt_29 ?_
      refine s_goto (tgt := 34) dX6_letterAt_30 (by decide) ?_
      exact s_retI rfl dX6_letterAt_34
theorem m_X6_letterAt (l : Launch) (D : va_G) (cA : Nat → ClassId) (b0 : Nat) : xMet l D cA b0 yX6_letterAt (.code yX6_letterAt cX6_letterAt 4 (some .int) :: xTB) 1 21 (f_X6_letterAt b0) :=
  xMet_of (n := 3) (by decide +kernel) (by decide) (fun p e R s m args below meth c hs res => t_X6_letterAt_0)
end M_X6_letterAt
section M_X6_countGoingOn
variable {p : Program} {l : Launch} {e : Env} {R : Room} {s : State} {m : MethodId} {args : Array Value} {below : List Frame} {meth : Method} {c : Code} {D : va_G} {cA : Nat → ClassId} {b0 : Nat} {hs : xH} {res : Option xV × xH}
set_option maxRecDepth 20000 in
theorem t_X6_countGoingOn_0 (k : Nat → xK) (hk0 : xS p l e R s m args below meth c cX6_countGoingOn 4 (some .int) yX6_countGoingOn.cls yX6_countGoingOn.name 1 20 D cA b0 hs res (xMQ D cA b0 below args s hs res) (k 0) 4) : xS p l e R s m args below meth c cX6_countGoingOn 4 (some .int) yX6_countGoingOn.cls yX6_countGoingOn.name 1 20 D cA b0 hs res (xMQ D cA b0 below args s hs res) (k_X6_countGoingOn_0 b0 k) 0 := by
  unfold k_X6_countGoingOn_0
  refine s_iconst dX6_countGoingOn_0 (by decide) ?_
  refine s_istore_n dX6_countGoingOn_1 rfl (by decide) ?_
  refine s_iconst dX6_countGoingOn_2 (by decide) ?_
  refine s_istore_n dX6_countGoingOn_3 rfl (by decide) ?_
  exact hk0
set_option maxRecDepth 20000 in
theorem t_X6_countGoingOn_4 (k : Nat → xK) (hk0 : xS p l e R s m args below meth c cX6_countGoingOn 4 (some .int) yX6_countGoingOn.cls yX6_countGoingOn.name 1 20 D cA b0 hs res (xMQ D cA b0 below args s hs res) (k 0) 4) : xS p l e R s m args below meth c cX6_countGoingOn 4 (some .int) yX6_countGoingOn.cls yX6_countGoingOn.name 1 20 D cA b0 hs res (xMQ D cA b0 below args s hs res) (k_X6_countGoingOn_4 b0 k) 4 := by
  unfold k_X6_countGoingOn_4
  refine s_iload_n dX6_countGoingOn_4 rfl ?_
  refine s_aload_n dX6_countGoingOn_5 rfl ?_
  refine s_getR (Tb := TX6) rfl inX6 (by decide) w_47 dX6_countGoingOn_6 ?_
  refine s_len dX6_countGoingOn_9 ?_
  refine s_c2ge (tgt := 40) dX6_countGoingOn_10 (by decide) ?_ ?_
  · refine s_iload_n dX6_countGoingOn_40 rfl ?_
    exact s_retI rfl dX6_countGoingOn_41
  · refine s_aload_n dX6_countGoingOn_13 rfl ?_
    refine s_getR (Tb := TX6) rfl inX6 (by decide) w_47 dX6_countGoingOn_14 ?_
    refine s_iload_n dX6_countGoingOn_17 rfl ?_
    refine s_qal dX6_countGoingOn_18 ?_
    refine s_astore_n dX6_countGoingOn_19 rfl (by decide) ?_
    refine s_aload_n dX6_countGoingOn_20 rfl ?_
    refine s_cnull (tgt := 34) dX6_countGoingOn_21 (by decide) ?_ ?_
    · refine s_iinc dX6_countGoingOn_34 (by decide) (by decide) ?_
      refine s_goto (tgt := 4) dX6_countGoingOn_37 (by decide) ?_
      exact hk0
    · refine s_aload_n dX6_countGoingOn_24 rfl ?_
      refine s_callV (Tb := TX5) (m_X5_isOver l D cA b0) rfl w_347 w_348 w_349 w_30 w_350 ⟨rfl, by decide, by decide, by decide +kernel⟩ (by decide) dX6_countGoingOn_25 ?_
      refine s_c1ne (tgt := 34) dX6_countGoingOn_28 (by decide) ?_ ?_
      · refine s_iinc dX6_countGoingOn_34 (by decide) (by decide) ?_
        refine s_goto (tgt := 4) dX6_countGoingOn_37 (by decide) ?_
        exact hk0
      · refine s_iinc dX6_countGoingOn_31 (by decide) (by decide) ?_
        refine s_iinc dX6_countGoingOn_34 (by decide) (by decide) ?_
        refine s_goto (tgt := 4) dX6_countGoingOn_37 (by decide) ?_
        exact hk0
theorem t_X6_countGoingOn_r (n : Nat) : xS p l e R s m args below meth c cX6_countGoingOn 4 (some .int) yX6_countGoingOn.cls yX6_countGoingOn.name 1 20 D cA b0 hs res (xMQ D cA b0 below args s hs res) (r_X6_countGoingOn b0 n 0) 4 := by
  induction n with
  | zero => exact fun ls st h hT => by cases hT
  | succ n ih => exact t_X6_countGoingOn_4 (r_X6_countGoingOn b0 n) ih
theorem m_X6_countGoingOn (l : Launch) (D : va_G) (cA : Nat → ClassId) (b0 : Nat) : xMet l D cA b0 yX6_countGoingOn (.code yX6_countGoingOn cX6_countGoingOn 4 (some .int) :: xTB) 1 20 (f_X6_countGoingOn b0) :=
  xMet_of (n := 1) (by decide +kernel) (by decide) (fun p e R s m args below meth c hs res => t_X6_countGoingOn_0 (r_X6_countGoingOn b0 64) (t_X6_countGoingOn_r 64))
end M_X6_countGoingOn
section M_X6_count
variable {p : Program} {l : Launch} {e : Env} {R : Room} {s : State} {m : MethodId} {args : Array Value} {below : List Frame} {meth : Method} {c : Code} {D : va_G} {cA : Nat → ClassId} {b0 : Nat} {hs : xH} {res : Option xV × xH}
set_option maxRecDepth 20000 in
theorem t_X6_count_44  : xS p l e R s m args below meth c cX6_count 2 (some .int) yX6_count.cls yX6_count.name 2 43 D cA b0 hs res (xMQ D cA b0 below args s hs res) (k_X6_count_44 b0) 44 := by
  unfold k_X6_count_44
  refine s_aload_n dX6_count_44 rfl ?_
  refine s_getI (Tb := TX6) rfl inX6 (by decide) w_49 dX6_count_45 ?_
  refine s_goto (tgt := 94) dX6_count_48 (by decide) ?_
  exact s_retI rfl dX6_count_94
set_option maxRecDepth 20000 in
theorem t_X6_count_51  : xS p l e R s m args below meth c cX6_count 2 (some .int) yX6_count.cls yX6_count.name 2 43 D cA b0 hs res (xMQ D cA b0 below args s hs res) (k_X6_count_51 b0) 51 := by
  unfold k_X6_count_51
  refine s_aload_n dX6_count_51 rfl ?_
  refine s_getI (Tb := TX6) rfl inX6 (by decide) w_52 dX6_count_52 ?_
  refine s_goto (tgt := 94) dX6_count_55 (by decide) ?_
  exact s_retI rfl dX6_count_94
set_option maxRecDepth 20000 in
theorem t_X6_count_58  : xS p l e R s m args below meth c cX6_count 2 (some .int) yX6_count.cls yX6_count.name 2 43 D cA b0 hs res (xMQ D cA b0 below args s hs res) (k_X6_count_58 b0) 58 := by
  unfold k_X6_count_58
  refine s_aload_n dX6_count_58 rfl ?_
  refine s_getI (Tb := TX6) rfl inX6 (by decide) w_53 dX6_count_59 ?_
  refine s_goto (tgt := 94) dX6_count_62 (by decide) ?_
  exact s_retI rfl dX6_count_94
set_option maxRecDepth 20000 in
theorem t_X6_count_65  : xS p l e R s m args below meth c cX6_count 2 (some .int) yX6_count.cls yX6_count.name 2 43 D cA b0 hs res (xMQ D cA b0 below args s hs res) (k_X6_count_65 b0) 65 := by
  unfold k_X6_count_65
  refine s_aload_n dX6_count_65 rfl ?_
  refine s_getI (Tb := TX6) rfl inX6 (by decide) w_54 dX6_count_66 ?_
  refine s_goto (tgt := 94) dX6_count_69 (by decide) ?_
  exact s_retI rfl dX6_count_94
set_option maxRecDepth 20000 in
theorem t_X6_count_72  : xS p l e R s m args below meth c cX6_count 2 (some .int) yX6_count.cls yX6_count.name 2 43 D cA b0 hs res (xMQ D cA b0 below args s hs res) (k_X6_count_72 b0) 72 := by
  unfold k_X6_count_72
  refine s_aload_n dX6_count_72 rfl ?_
  refine s_getI (Tb := TX6) rfl inX6 (by decide) w_55 dX6_count_73 ?_
  refine s_goto (tgt := 94) dX6_count_76 (by decide) ?_
  exact s_retI rfl dX6_count_94
set_option maxRecDepth 20000 in
theorem t_X6_count_79  : xS p l e R s m args below meth c cX6_count 2 (some .int) yX6_count.cls yX6_count.name 2 43 D cA b0 hs res (xMQ D cA b0 below args s hs res) (k_X6_count_79 b0) 79 := by
  unfold k_X6_count_79
  refine s_aload_n dX6_count_79 rfl ?_
  refine s_getI (Tb := TX6) rfl inX6 (by decide) w_56 dX6_count_80 ?_
  refine s_goto (tgt := 94) dX6_count_83 (by decide) ?_
  exact s_retI rfl dX6_count_94
set_option maxRecDepth 20000 in
theorem t_X6_count_86  : xS p l e R s m args below meth c cX6_count 2 (some .int) yX6_count.cls yX6_count.name 2 43 D cA b0 hs res (xMQ D cA b0 below args s hs res) (k_X6_count_86 b0) 86 := by
  unfold k_X6_count_86
  refine s_aload_n dX6_count_86 rfl ?_
  refine s_callV (Tb := TX6) (m_X6_countGoingOn l D cA b0) rfl w_462 w_464 w_11 w_28 w_465 ⟨rfl, by decide, by decide, by decide +kernel⟩ (by decide) dX6_count_87 ?_
  refine s_goto (tgt := 94) dX6_count_90 (by decide) ?_
  exact s_retI rfl dX6_count_94
set_option maxRecDepth 20000 in
theorem t_X6_count_93  : xS p l e R s m args below meth c cX6_count 2 (some .int) yX6_count.cls yX6_count.name 2 43 D cA b0 hs res (xMQ D cA b0 below args s hs res) (k_X6_count_93 b0) 93 := by
  unfold k_X6_count_93
  refine s_iconst dX6_count_93 (by decide) ?_
  exact s_retI rfl dX6_count_94
set_option maxRecDepth 20000 in
theorem t_X6_count_0  : xS p l e R s m args below meth c cX6_count 2 (some .int) yX6_count.cls yX6_count.name 2 43 D cA b0 hs res (xMQ D cA b0 below args s hs res) (k_X6_count_0 b0) 0 := by
  unfold k_X6_count_0
  refine s_iload_n dX6_count_0 rfl ?_
  refine s_tab (tg := st_X6_count_1) (dt := 93) dX6_count_1 (by decide) (by decide) ?_ ?_ (t_X6_count_93)
  · intro j hj
    match j, hj with
    | 0, _ => exact ⟨43, rfl, by decide⟩
    | 1, _ => exact ⟨50, rfl, by decide⟩
    | 2, _ => exact ⟨57, rfl, by decide⟩
    | 3, _ => exact ⟨64, rfl, by decide⟩
    | 4, _ => exact ⟨71, rfl, by decide⟩
    | 5, _ => exact ⟨78, rfl, by decide⟩
    | 6, _ => exact ⟨85, rfl, by decide⟩
    | q + 7, hj => exact absurd hj (by omega)
  · intro j hj
    match j, hj with
    | 0, _ => exact t_X6_count_44
    | 1, _ => exact t_X6_count_51
    | 2, _ => exact t_X6_count_58
    | 3, _ => exact t_X6_count_65
    | 4, _ => exact t_X6_count_72
    | 5, _ => exact t_X6_count_79
    | 6, _ => exact t_X6_count_86
    | q + 7, hj => exact absurd hj (by omega)
theorem m_X6_count (l : Launch) (D : va_G) (cA : Nat → ClassId) (b0 : Nat) : xMet l D cA b0 yX6_count (.code yX6_count cX6_count 2 (some .int) :: xTB) 2 43 (f_X6_count b0) :=
  xMet_of (n := 2) (by decide +kernel) (by decide) (fun p e R s m args below meth c hs res => t_X6_count_0)
end M_X6_count
section M_X6_done
variable {p : Program} {l : Launch} {e : Env} {R : Room} {s : State} {m : MethodId} {args : Array Value} {below : List Frame} {meth : Method} {c : Code} {D : va_G} {cA : Nat → ClassId} {b0 : Nat} {hs : xH} {res : Option xV × xH}
set_option maxRecDepth 20000 in
theorem t_X6_done_0  : xS p l e R s m args below meth c cX6_done 2 (some .int) yX6_done.cls yX6_done.name 0 0 D cA b0 hs res (xMQ D cA b0 below args s hs res) (k_X6_done_0 b0) 0 := by
  unfold k_X6_done_0
  refine s_iload_n dX6_done_0 rfl ?_
  refine s_c1lt (tgt := 30) dX6_done_1 (by decide) ?_ ?_
  · refine s_bipush dX6_done_30 (by decide) ?_
    exact s_retI rfl dX6_done_32
  · refine s_iload_n dX6_done_4 rfl ?_
    refine s_aload_n dX6_done_5 rfl ?_
    refine s_getI (Tb := TX6) rfl inX6 (by decide) w_50 dX6_done_6 ?_
    refine s_c2ge (tgt := 30) dX6_done_9 (by decide) ?_ ?_
    · refine s_bipush dX6_done_30 (by decide) ?_
      exact s_retI rfl dX6_done_32
    · refine s_iload_n dX6_done_12 rfl ?_
      refine s_aload_n dX6_done_13 rfl ?_
      refine s_getR (Tb := TX6) rfl inX6 (by decide) w_48 dX6_done_14 ?_
      refine s_len dX6_done_17 ?_
      refine s_c2ge (tgt := 30) dX6_done_18 (by decide) ?_ ?_
      · refine s_bipush dX6_done_30 (by decide) ?_
        exact s_retI rfl dX6_done_32
      · refine s_aload_n dX6_done_21 rfl ?_
        refine s_getR (Tb := TX6) rfl inX6 (by decide) w_48 dX6_done_22 ?_
        refine s_iload_n dX6_done_25 rfl ?_
        refine s_ial dX6_done_26 ?_
        refine s_goto (tgt := 32) dX6_done_27 (by decide) ?_
        exact s_retI rfl dX6_done_32
theorem m_X6_done (l : Launch) (D : va_G) (cA : Nat → ClassId) (b0 : Nat) : xMet l D cA b0 yX6_done (.code yX6_done cX6_done 2 (some .int) :: xTB) 0 0 (f_X6_done b0) :=
  xMet_of (n := 2) (by decide +kernel) (by decide) (fun p e R s m args below meth c hs res => t_X6_done_0)
end M_X6_done
