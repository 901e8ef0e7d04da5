def k_X0_init_0 (b0 : Nat) : xK := oALd 0 <| oObj <| oALd 0 <| oCst (16) <| oNewI b0 <| oPutR b0 0 0 <| oALd 0 <| oCst (16) <| oNewI b0 <| oPutR b0 0 1 <| oALd 0 <| oCst (16) <| oNewI b0 <| oPutR b0 0 2 <| oRetV
def f_X0_init (b0 : Nat) : List xV → xH → xR := xfun 1 1 (k_X0_init_0 b0)
def k_X0_append_0 (b0 : Nat) : xK := oALd 0 <| oGetI b0 0 3 <| oCst (16) <| oC2lt (oALd 0 <| oGetI b0 0 3 <| oISt 4 <| oALd 0 <| oGetR b0 0 0 <| oILd 4 <| oILd 1 <| oIas b0 <| oALd 0 <| oGetR b0 0 1 <| oILd 4 <| oILd 2 <| oIas b0 <| oALd 0 <| oGetR b0 0 2 <| oILd 4 <| oILd 3 <| oIas b0 <| oALd 0 <| oDup <| oGetI b0 0 3 <| oCst (1) <| oAdd <| oPutI b0 0 3 <| oILd 4 <| oRetI) <| oCst (-3) <| oRetI
def f_X0_append (b0 : Nat) : List xV → xH → xR := xfun 4 5 (k_X0_append_0 b0)
def k_X1_init_0 (b0 : Nat) : xK := oALd 0 <| oObj <| oALd 0 <| oCst (3) <| oNewI b0 <| oPutR b0 1 0 <| oALd 0 <| oCst (-4) <| oPutI b0 1 1 <| oRetV
def f_X1_init (b0 : Nat) : List xV → xH → xR := xfun 1 1 (k_X1_init_0 b0)
def k_X1_isNothing_0 (b0 : Nat) : xK := oALd 0 <| oGetI b0 1 1 <| oCst (-4) <| oC2ne (oCst (0) <| oRetZ) <| oCst (1) <| oRetZ
def f_X1_isNothing (b0 : Nat) : List xV → xH → xR := xfun 1 1 (k_X1_isNothing_0 b0)
def k_X1_has_0 (b0 : Nat) : xK := oALd 0 <| oGetI b0 1 1 <| oCst (-4) <| oC2eq (oCst (0) <| oRetZ) <| oILd 1 <| oC1lt (oCst (0) <| oRetZ) <| oILd 1 <| oCst (3) <| oC2ge (oCst (0) <| oRetZ) <| oCst (1) <| oRetZ
def f_X1_has (b0 : Nat) : List xV → xH → xR := xfun 2 2 (k_X1_has_0 b0)
def k_X1_renew_10 (b0 : Nat) (k : Nat → xK) : xK := oILd 1 <| oPutI b0 1 1 <| oCst (0) <| oISt 2 <| k 0
def k_X1_renew_0 (b0 : Nat) (k : Nat → xK) : xK := oALd 0 <| oILd 1 <| oC1eq (k_X1_renew_10 b0 k) <| oILd 1 <| oCst (1) <| oC2ne (oCst (-4) <| oPutI b0 1 1 <| oCst (0) <| oISt 2 <| k 0) <| k_X1_renew_10 b0 k
def k_X1_renew_21 (b0 : Nat) (k : Nat → xK) : xK := oILd 2 <| oCst (3) <| oC2ge (oRetV) <| oALd 0 <| oGetR b0 1 0 <| oILd 2 <| oALd 0 <| oGetI b0 1 1 <| oCst (1) <| oC2ne (oCst (0) <| oIas b0 <| oInc 2 (1) <| k 0) <| oCst (-4) <| oIas b0 <| oInc 2 (1) <| k 0
def r_X1_renew (b0 : Nat) : Nat → Nat → xK
  | 0, _ => fun _ _ _ => none
  | n + 1, i => match i with
    | 0 => k_X1_renew_21 b0 (r_X1_renew b0 n)
    | _ => fun _ _ _ => none
def f_X1_renew (b0 : Nat) : List xV → xH → xR := xfun 2 3 (k_X1_renew_0 b0 (r_X1_renew b0 64))
def k_X1_lookAt_19 (b0 : Nat) : xK := oALd 0 <| oGetI b0 1 1 <| oCst (-4) <| oC2ne (oILd 2 <| oC1lt (oCst (2) <| oRetI) <| oILd 2 <| oCst (3) <| oC2ge (oCst (2) <| oRetI) <| oCst (0) <| oRetI) <| oCst (1) <| oRetI
def k_X1_lookAt_0 (b0 : Nat) : xK := oALd 0 <| oGetI b0 1 1 <| oILd 1 <| oC2eq (k_X1_lookAt_19 b0) <| oALd 0 <| oGetI b0 1 1 <| oCst (-4) <| oC2eq (k_X1_lookAt_19 b0) <| oCst (4) <| oRetI
def f_X1_lookAt (b0 : Nat) : List xV → xH → xR := xfun 3 3 (k_X1_lookAt_0 b0)
def k_X1_put_0 (b0 : Nat) : xK := oALd 0 <| oILd 1 <| oILd 2 <| oCallV b0 2 1 (f_X1_lookAt b0) <| oISt 4 <| oILd 4 <| oC1ne (oILd 4 <| oRetI) <| oALd 0 <| oGetR b0 1 0 <| oILd 2 <| oILd 3 <| oIas b0 <| oILd 4 <| oRetI
def f_X1_put (b0 : Nat) : List xV → xH → xR := xfun 4 5 (k_X1_put_0 b0)
def k_X2_init_0 (b0 : Nat) : xK := oALd 0 <| oObj <| oALd 0 <| oCst (6) <| oNewI b0 <| oPutR b0 2 0 <| oRetV
def f_X2_init (b0 : Nat) : List xV → xH → xR := xfun 1 1 (k_X2_init_0 b0)
def k_X2_isFull_0 (b0 : Nat) : xK := oALd 0 <| oGetI b0 2 1 <| oCst (6) <| oC2lt (oCst (0) <| oRetZ) <| oCst (1) <| oRetZ
def f_X2_isFull (b0 : Nat) : List xV → xH → xR := xfun 1 1 (k_X2_isFull_0 b0)
def k_X2_has_0 (b0 : Nat) : xK := oILd 1 <| oC1lt (oCst (0) <| oRetZ) <| oILd 1 <| oALd 0 <| oGetI b0 2 1 <| oC2ge (oCst (0) <| oRetZ) <| oCst (1) <| oRetZ
def f_X2_has (b0 : Nat) : List xV → xH → xR := xfun 2 2 (k_X2_has_0 b0)
def k_X2_append_0 (b0 : Nat) : xK := oALd 0 <| oGetI b0 2 1 <| oCst (6) <| oC2ge (oRetV) <| oALd 0 <| oGetR b0 2 0 <| oALd 0 <| oGetI b0 2 1 <| oILd 1 <| oIas b0 <| oALd 0 <| oDup <| oGetI b0 2 1 <| oCst (1) <| oAdd <| oPutI b0 2 1 <| oRetV
def f_X2_append (b0 : Nat) : List xV → xH → xR := xfun 2 2 (k_X2_append_0 b0)
def k_X2_removeEldest_0 (b0 : Nat) (k : Nat → xK) : xK := oALd 0 <| oGetI b0 2 1 <| oC1gt (oALd 0 <| oGetR b0 2 0 <| oCst (0) <| oIal b0 <| oISt 1 <| oALd 0 <| oDup <| oGetI b0 2 1 <| oCst (1) <| oSub <| oPutI b0 2 1 <| oCst (0) <| oISt 2 <| k 0) <| oCst (0) <| oRetI
def k_X2_removeEldest_28 (b0 : Nat) (k : Nat → xK) : xK := oILd 2 <| oALd 0 <| oGetI b0 2 1 <| oC2ge (oILd 1 <| oRetI) <| oALd 0 <| oGetR b0 2 0 <| oILd 2 <| oALd 0 <| oGetR b0 2 0 <| oILd 2 <| oCst (1) <| oAdd <| oIal b0 <| oIas b0 <| oInc 2 (1) <| k 0
def r_X2_removeEldest (b0 : Nat) : Nat → Nat → xK
  | 0, _ => fun _ _ _ => none
  | n + 1, i => match i with
    | 0 => k_X2_removeEldest_28 b0 (r_X2_removeEldest b0 n)
    | _ => fun _ _ _ => none
def f_X2_removeEldest (b0 : Nat) : List xV → xH → xR := xfun 1 3 (k_X2_removeEldest_0 b0 (r_X2_removeEldest b0 64))
def k_X4_init_0 (b0 : Nat) : xK := oALd 0 <| oObj <| oALd 0 <| oCst (40) <| oNewI b0 <| oPutR b0 4 0 <| oALd 0 <| oCst (-4) <| oPutI b0 4 1 <| oRetV
def f_X4_init (b0 : Nat) : List xV → xH → xR := xfun 1 1 (k_X4_init_0 b0)
def k_X3_init_0 (b0 : Nat) : xK := oALd 0 <| oObj <| oALd 0 <| oNew b0 4 n_X4 <| oDup <| oCallI 0 (f_X4_init b0) <| oPutR b0 3 0 <| oRetV
def f_X3_init (b0 : Nat) : List xV → xH → xR := xfun 1 1 (k_X3_init_0 b0)
def k_X4_isNothing_0 (b0 : Nat) : xK := oALd 0 <| oGetI b0 4 1 <| oCst (-4) <| oC2ne (oCst (0) <| oRetZ) <| oCst (1) <| oRetZ
def f_X4_isNothing (b0 : Nat) : List xV → xH → xR := xfun 1 1 (k_X4_isNothing_0 b0)
def k_X4_has_0 (b0 : Nat) : xK := oILd 1 <| oC1lt (oCst (0) <| oRetZ) <| oILd 1 <| oALd 0 <| oGetI b0 4 1 <| oC2ge (oCst (0) <| oRetZ) <| oILd 1 <| oCst (40) <| oC2ge (oCst (0) <| oRetZ) <| oCst (1) <| oRetZ
def f_X4_has (b0 : Nat) : List xV → xH → xR := xfun 2 2 (k_X4_has_0 b0)
def k_X4_renew_0 (b0 : Nat) (k : Nat → xK) : xK := oCst (0) <| oISt 2 <| k 0
def k_X4_renew_2 (b0 : Nat) (k : Nat → xK) : xK := oILd 2 <| oCst (40) <| oC2ge (oALd 0 <| oILd 1 <| oPutI b0 4 1 <| oRetV) <| oALd 0 <| oGetR b0 4 0 <| oILd 2 <| oCst (0) <| oIas b0 <| oInc 2 (1) <| k 0
def r_X4_renew (b0 : Nat) : Nat → Nat → xK
  | 0, _ => fun _ _ _ => none
  | n + 1, i => match i with
    | 0 => k_X4_renew_2 b0 (r_X4_renew b0 n)
    | _ => fun _ _ _ => none
def f_X4_renew (b0 : Nat) : List xV → xH → xR := xfun 2 3 (k_X4_renew_0 b0 (r_X4_renew b0 64))
def k_X4_copyFrom_0 (b0 : Nat) (k : Nat → xK) : xK := oCst (0) <| oISt 2 <| k 0
def k_X4_copyFrom_2 (b0 : Nat) (k : Nat → xK) : xK := oILd 2 <| oCst (40) <| oC2ge (oALd 0 <| oALd 1 <| oGetI b0 4 1 <| oPutI b0 4 1 <| oRetV) <| oALd 0 <| oGetR b0 4 0 <| oILd 2 <| oALd 1 <| oGetR b0 4 0 <| oILd 2 <| oIal b0 <| oIas b0 <| oInc 2 (1) <| k 0
def r_X4_copyFrom (b0 : Nat) : Nat → Nat → xK
  | 0, _ => fun _ _ _ => none
  | n + 1, i => match i with
    | 0 => k_X4_copyFrom_2 b0 (r_X4_copyFrom b0 n)
    | _ => fun _ _ _ => none
def f_X4_copyFrom (b0 : Nat) : List xV → xH → xR := xfun 2 3 (k_X4_copyFrom_0 b0 (r_X4_copyFrom b0 64))
def k_X5_init_0 (b0 : Nat) : xK := oALd 0 <| oObj <| oALd 0 <| oILd 1 <| oPutI b0 5 0 <| oALd 0 <| oILd 2 <| oPutI b0 5 1 <| oALd 0 <| oILd 3 <| oPutI b0 5 2 <| oALd 0 <| oNew b0 0 n_X0 <| oDup <| oCallI 0 (f_X0_init b0) <| oPutR b0 5 3 <| oALd 0 <| oNew b0 2 n_X2 <| oDup <| oCallI 0 (f_X2_init b0) <| oPutR b0 5 4 <| oALd 0 <| oNew b0 4 n_X4 <| oDup <| oCallI 0 (f_X4_init b0) <| oPutR b0 5 5 <| oALd 0 <| oNew b0 1 n_X1 <| oDup <| oCallI 0 (f_X1_init b0) <| oPutR b0 5 6 <| oALd 0 <| oNew b0 3 n_X3 <| oDup <| oCallI 0 (f_X3_init b0) <| oPutR b0 5 7 <| oALd 0 <| oCst (0) <| oPutI b0 5 8 <| oALd 0 <| oCst (0) <| oPutI b0 5 16 <| oALd 0 <| oCst (-4) <| oPutI b0 5 17 <| oRetV
def f_X5_init (b0 : Nat) : List xV → xH → xR := xfun 4 4 (k_X5_init_0 b0)
def k_X5_isOver_0 (b0 : Nat) : xK := oALd 0 <| oGetI b0 5 8 <| oCst (3) <| oC2eq (oCst (1) <| oRetZ) <| oALd 0 <| oGetI b0 5 8 <| oCst (4) <| oC2eq (oCst (1) <| oRetZ) <| oALd 0 <| oGetI b0 5 8 <| oCst (5) <| oC2ne (oCst (0) <| oRetZ) <| oCst (1) <| oRetZ
def f_X5_isOver (b0 : Nat) : List xV → xH → xR := xfun 1 1 (k_X5_isOver_0 b0)
def k_X5_isReadyIn_0 (b0 : Nat) : xK := oALd 0 <| oGetI b0 5 8 <| oC1ne (oCst (0) <| oRetZ) <| oALd 0 <| oGetI b0 5 13 <| oILd 1 <| oC2eq (oCst (0) <| oRetZ) <| oCst (1) <| oRetZ
def f_X5_isReadyIn (b0 : Nat) : List xV → xH → xR := xfun 2 2 (k_X5_isReadyIn_0 b0)
def k_X5_tell_60 (b0 : Nat) : xK := oALd 0 <| oGetI b0 5 8 <| oRetI
def k_X5_tell_67 (b0 : Nat) : xK := oALd 0 <| oGetI b0 5 10 <| oRetI
def k_X5_tell_74 (b0 : Nat) : xK := oALd 0 <| oGetI b0 5 11 <| oRetI
def k_X5_tell_81 (b0 : Nat) : xK := oALd 0 <| oGetR b0 5 4 <| oGetI b0 2 1 <| oRetI
def k_X5_tell_91 (b0 : Nat) : xK := oALd 0 <| oGetI b0 5 9 <| oRetI
def k_X5_tell_98 (b0 : Nat) : xK := oALd 0 <| oGetI b0 5 15 <| oRetI
def k_X5_tell_105 (b0 : Nat) : xK := oALd 0 <| oGetI b0 5 16 <| oRetI
def k_X5_tell_112 (b0 : Nat) : xK := oALd 0 <| oGetR b0 5 5 <| oGetI b0 4 1 <| oRetI
def k_X5_tell_122 (b0 : Nat) : xK := oALd 0 <| oGetR b0 5 6 <| oGetI b0 1 1 <| oRetI
def k_X5_tell_132 (b0 : Nat) : xK := oALd 0 <| oGetI b0 5 18 <| oRetI
def k_X5_tell_139 (b0 : Nat) : xK := oALd 0 <| oGetI b0 5 17 <| oRetI
def k_X5_tell_146 (b0 : Nat) : xK := oCst (-1) <| oRetI
def sw_X5_tell_1 (b0 : Nat) : Nat → xK
  | 0 => k_X5_tell_60 b0
  | 1 => k_X5_tell_67 b0
  | 2 => k_X5_tell_74 b0
  | 3 => k_X5_tell_81 b0
  | 4 => k_X5_tell_91 b0
  | 5 => k_X5_tell_98 b0
  | 6 => k_X5_tell_105 b0
  | 7 => k_X5_tell_112 b0
  | 8 => k_X5_tell_122 b0
  | 9 => k_X5_tell_132 b0
  | 10 => k_X5_tell_139 b0
  | _ => k_X5_tell_146 b0
def st_X5_tell_1 : Nat → Nat
  | 0 => 60
  | 1 => 67
  | 2 => 74
  | 3 => 81
  | 4 => 91
  | 5 => 98
  | 6 => 105
  | 7 => 112
  | 8 => 122
  | 9 => 132
  | 10 => 139
  | _ => 0
def k_X5_tell_0 (b0 : Nat) : xK := oILd 1 <| oTab 11 (sw_X5_tell_1 b0) (k_X5_tell_146 b0)
def f_X5_tell (b0 : Nat) : List xV → xH → xR := xfun 2 2 (k_X5_tell_0 b0)
def k_X5_wake_54 (b0 : Nat) : xK := oALd 0 <| oCst (0) <| oPutI b0 5 8 <| oRetV
def k_X5_wake_28 (b0 : Nat) : xK := oALd 0 <| oGetI b0 5 8 <| oCst (1) <| oC2eq (k_X5_wake_54 b0) <| oALd 0 <| oGetI b0 5 8 <| oCst (2) <| oC2ne (oRetV) <| oALd 0 <| oGetR b0 5 4 <| oGetI b0 2 1 <| oC1le (oRetV) <| k_X5_wake_54 b0
def k_X5_wake_0 (b0 : Nat) : xK := oALd 0 <| oGetI b0 5 8 <| oCst (1) <| oC2ne (k_X5_wake_28 b0) <| oALd 0 <| oGetI b0 5 12 <| oC1le (k_X5_wake_28 b0) <| oALd 0 <| oDup <| oGetI b0 5 12 <| oCst (1) <| oSub <| oPutI b0 5 12 <| oRetV
def f_X5_wake (b0 : Nat) : List xV → xH → xR := xfun 1 1 (k_X5_wake_0 b0)
def k_X5_backsAllowed_0 (b0 : Nat) : xK := oALd 0 <| oGetI b0 5 1 <| oCst (3) <| oC2ne (oALd 0 <| oGetI b0 5 1 <| oCst (4) <| oC2ne (oCst (0) <| oRetI) <| oCst (5) <| oRetI) <| oCst (3) <| oRetI
def f_X5_backsAllowed (b0 : Nat) : List xV → xH → xR := xfun 1 1 (k_X5_backsAllowed_0 b0)
def k_X5_goBack_0 (b0 : Nat) : xK := oALd 0 <| oALd 0 <| oGetR b0 5 7 <| oGetI b0 3 1 <| oPutI b0 5 10 <| oALd 0 <| oGetR b0 5 5 <| oALd 0 <| oGetR b0 5 7 <| oGetR b0 3 0 <| oCallV b0 1 4 (f_X4_copyFrom b0) <| oALd 0 <| oALd 0 <| oGetR b0 5 7 <| oGetI b0 3 2 <| oPutI b0 5 11 <| oRetV
def f_X5_goBack (b0 : Nat) : List xV → xH → xR := xfun 1 1 (k_X5_goBack_0 b0)
def k_X5_fail_0 (b0 : Nat) : xK := oALd 0 <| oDup <| oGetI b0 5 15 <| oCst (1) <| oAdd <| oPutI b0 5 15 <| oALd 0 <| oILd 1 <| oPutI b0 5 16 <| oALd 0 <| oALd 0 <| oGetI b0 5 11 <| oPutI b0 5 17 <| oALd 0 <| oGetI b0 5 1 <| oCst (2) <| oC2ge (oALd 0 <| oGetI b0 5 18 <| oALd 0 <| oCallV b0 0 5 (f_X5_backsAllowed b0) <| oC2ge (oALd 0 <| oDup <| oGetI b0 5 11 <| oCst (1) <| oAdd <| oPutI b0 5 11 <| oRetV) <| oALd 0 <| oDup <| oGetI b0 5 18 <| oCst (1) <| oAdd <| oPutI b0 5 18 <| oALd 0 <| oCallV b0 0 5 (f_X5_goBack b0) <| oRetV) <| oALd 0 <| oCst (4) <| oPutI b0 5 8 <| oRetV
def f_X5_fail (b0 : Nat) : List xV → xH → xR := xfun 2 2 (k_X5_fail_0 b0)
def k_X5_setMark_0 (b0 : Nat) : xK := oALd 0 <| oGetR b0 5 7 <| oALd 0 <| oGetI b0 5 10 <| oPutI b0 3 1 <| oALd 0 <| oGetR b0 5 7 <| oGetR b0 3 0 <| oALd 0 <| oGetR b0 5 5 <| oCallV b0 1 4 (f_X4_copyFrom b0) <| oALd 0 <| oGetR b0 5 7 <| oALd 0 <| oGetI b0 5 11 <| oCst (1) <| oAdd <| oPutI b0 3 2 <| oCst (0) <| oRetI
def f_X5_setMark (b0 : Nat) : List xV → xH → xR := xfun 1 1 (k_X5_setMark_0 b0)
def k_X5_add_28 (b0 : Nat) : xK := oAdd <| oPutI b0 5 10 <| oCst (0) <| oRetI
def k_X5_add_21 (b0 : Nat) : xK := oCst (2) <| oILd 1 <| oMul <| k_X5_add_28 b0
def k_X5_add_0 (b0 : Nat) : xK := oALd 0 <| oDup <| oGetI b0 5 10 <| oALd 0 <| oGetI b0 5 1 <| oCst (1) <| oC2eq (k_X5_add_21 b0) <| oALd 0 <| oGetI b0 5 1 <| oCst (4) <| oC2ne (oILd 1 <| k_X5_add_28 b0) <| k_X5_add_21 b0
def f_X5_add (b0 : Nat) : List xV → xH → xR := xfun 2 2 (k_X5_add_0 b0)
def k_X5_divide_0 (b0 : Nat) : xK := oILd 1 <| oC1ne (oALd 0 <| oDup <| oGetI b0 5 10 <| oILd 1 <| oDiv <| oPutI b0 5 10 <| oCst (0) <| oRetI) <| oCst (6) <| oRetI
def f_X5_divide (b0 : Nat) : List xV → xH → xR := xfun 2 2 (k_X5_divide_0 b0)
def k_X5_makeRow_0 (b0 : Nat) : xK := oILd 1 <| oC1ge (oALd 0 <| oGetR b0 5 5 <| oILd 1 <| oCallV b0 1 4 (f_X4_renew b0) <| oCst (0) <| oRetI) <| oCst (5) <| oRetI
def f_X5_makeRow (b0 : Nat) : List xV → xH → xR := xfun 2 2 (k_X5_makeRow_0 b0)
def k_X5_put_0 (b0 : Nat) : xK := oALd 0 <| oGetR b0 5 5 <| oILd 1 <| oCallV b0 1 4 (f_X4_has b0) <| oC1eq (oALd 0 <| oGetR b0 5 5 <| oCallV b0 0 4 (f_X4_isNothing b0) <| oC1eq (oCst (2) <| oRetI) <| oCst (1) <| oRetI) <| oALd 0 <| oGetR b0 5 5 <| oGetR b0 4 0 <| oILd 1 <| oALd 0 <| oGetI b0 5 10 <| oIas b0 <| oCst (0) <| oRetI
def f_X5_put (b0 : Nat) : List xV → xH → xR := xfun 2 2 (k_X5_put_0 b0)
def k_X5_get_0 (b0 : Nat) : xK := oALd 0 <| oGetR b0 5 5 <| oILd 1 <| oCallV b0 1 4 (f_X4_has b0) <| oC1eq (oALd 0 <| oGetR b0 5 5 <| oCallV b0 0 4 (f_X4_isNothing b0) <| oC1eq (oCst (2) <| oRetI) <| oCst (1) <| oRetI) <| oALd 0 <| oDup <| oGetI b0 5 10 <| oALd 0 <| oGetR b0 5 5 <| oGetR b0 4 0 <| oILd 1 <| oIal b0 <| oAdd <| oPutI b0 5 10 <| oCst (0) <| oRetI
def f_X5_get (b0 : Nat) : List xV → xH → xR := xfun 2 2 (k_X5_get_0 b0)
def k_X5_takeLetter_0 (b0 : Nat) : xK := oALd 0 <| oGetR b0 5 4 <| oGetI b0 2 1 <| oC1le (oILd 1 <| oC1eq (oALd 0 <| oCst (2) <| oPutI b0 5 8 <| oCst (0) <| oRetI) <| oCst (9) <| oRetI) <| oALd 0 <| oDup <| oGetI b0 5 10 <| oALd 0 <| oGetR b0 5 4 <| oCallV b0 0 2 (f_X2_removeEldest b0) <| oAdd <| oPutI b0 5 10 <| oCst (0) <| oRetI
def f_X5_takeLetter (b0 : Nat) : List xV → xH → xR := xfun 2 2 (k_X5_takeLetter_0 b0)
def k_X5_waitFor_0 (b0 : Nat) : xK := oILd 1 <| oC1le (oCst (0) <| oRetI) <| oALd 0 <| oILd 1 <| oPutI b0 5 12 <| oCst (0) <| oRetI
def f_X5_waitFor (b0 : Nat) : List xV → xH → xR := xfun 2 2 (k_X5_waitFor_0 b0)
def k_X5_makeBox_0 (b0 : Nat) : xK := oALd 0 <| oGetR b0 5 6 <| oILd 1 <| oCallV b0 1 1 (f_X1_renew b0) <| oCst (0) <| oRetI
def f_X5_makeBox (b0 : Nat) : List xV → xH → xR := xfun 2 2 (k_X5_makeBox_0 b0)
def k_X5_copyToBox_0 (b0 : Nat) (k : Nat → xK) : xK := oALd 0 <| oGetR b0 5 5 <| oCallV b0 0 4 (f_X4_isNothing b0) <| oC1ne (oCst (1) <| oRetI) <| oALd 0 <| oGetR b0 5 6 <| oCallV b0 0 1 (f_X1_isNothing b0) <| oC1eq (oALd 0 <| oGetR b0 5 6 <| oGetI b0 1 1 <| oC1eq (oILd 1 <| oC1lt (oCst (2) <| oRetI) <| oILd 1 <| oALd 0 <| oGetR b0 5 5 <| oGetI b0 4 1 <| oC2gt (oCst (2) <| oRetI) <| oILd 1 <| oCst (3) <| oC2le (oCst (0) <| oISt 2 <| k 0) <| oCst (2) <| oRetI) <| oCst (3) <| oRetI) <| oCst (1) <| oRetI
def k_X5_copyToBox_58 (b0 : Nat) (k : Nat → xK) : xK := oILd 2 <| oILd 1 <| oC2ge (oCst (0) <| oRetI) <| oALd 0 <| oGetR b0 5 6 <| oGetR b0 1 0 <| oILd 2 <| oALd 0 <| oGetR b0 5 5 <| oGetR b0 4 0 <| oILd 2 <| oIal b0 <| oIas b0 <| oInc 2 (1) <| k 0
def r_X5_copyToBox (b0 : Nat) : Nat → Nat → xK
  | 0, _ => fun _ _ _ => none
  | n + 1, i => match i with
    | 0 => k_X5_copyToBox_58 b0 (r_X5_copyToBox b0 n)
    | _ => fun _ _ _ => none
def f_X5_copyToBox (b0 : Nat) : List xV → xH → xR := xfun 2 3 (k_X5_copyToBox_0 b0 (r_X5_copyToBox b0 64))
def k_X6_init_0 (b0 : Nat) : xK := oALd 0 <| oObj <| oALd 0 <| oCst (12) <| oNewQ b0 <| oPutR b0 6 0 <| oALd 0 <| oCst (12) <| oNewI b0 <| oPutR b0 6 1 <| oALd 0 <| oCst (1) <| oPutI b0 6 4 <| oRetV
def f_X6_init (b0 : Nat) : List xV → xH → xR := xfun 1 1 (k_X6_init_0 b0)
def k_X6_task_0 (b0 : Nat) : xK := oILd 1 <| oC1lt (oCst (-1) <| oRetI) <| oILd 1 <| oCst (4) <| oC2gt (oCst (-1) <| oRetI) <| oILd 2 <| oC1lt (oCst (-1) <| oRetI) <| oILd 2 <| oCst (9) <| oC2le (oALd 0 <| oGetI b0 6 2 <| oALd 0 <| oGetR b0 6 0 <| oLen b0 <| oC2lt (oALd 0 <| oGetI b0 6 2 <| oISt 3 <| oALd 0 <| oGetR b0 6 0 <| oILd 3 <| oNew b0 5 n_X5 <| oDup <| oILd 3 <| oILd 1 <| oILd 2 <| oCallI 3 (f_X5_init b0) <| oQas b0 5 <| oALd 0 <| oDup <| oGetI b0 6 2 <| oCst (1) <| oAdd <| oPutI b0 6 2 <| oILd 3 <| oRetI) <| oCst (-3) <| oRetI) <| oCst (-1) <| oRetI
def f_X6_task (b0 : Nat) : List xV → xH → xR := xfun 3 4 (k_X6_task_0 b0)
def k_X6_find_0 (b0 : Nat) : xK := oILd 1 <| oC1lt (oNul <| oRetR) <| oILd 1 <| oALd 0 <| oGetR b0 6 0 <| oLen b0 <| oC2ge (oNul <| oRetR) <| oALd 0 <| oGetR b0 6 0 <| oILd 1 <| oQal b0 <| oRetR
def f_X6_find (b0 : Nat) : List xV → xH → xR := xfun 2 2 (k_X6_find_0 b0)
def k_X6_act_35 (b0 : Nat) : xK := oALd 5 <| oGetI b0 5 8 <| oC1ne (oCst (-2) <| oRetI) <| oALd 5 <| oGetI b0 5 14 <| oC1eq (oALd 5 <| oGetR b0 5 3 <| oILd 2 <| oILd 3 <| oILd 4 <| oCallV b0 3 0 (f_X0_append b0) <| oRetI) <| oCst (-2) <| oRetI
def k_X6_act_0 (b0 : Nat) : xK := oALd 0 <| oILd 1 <| oCallV b0 1 6 (f_X6_find b0) <| oASt 5 <| oALd 5 <| oCnull (oCst (-1) <| oRetI) <| oILd 2 <| oC1lt (oCst (-1) <| oRetI) <| oILd 2 <| oCst (15) <| oC2gt (oCst (-1) <| oRetI) <| oILd 2 <| oCst (2) <| oC2ne (k_X6_act_35 b0) <| oILd 3 <| oCst (40) <| oC2le (k_X6_act_35 b0) <| oCst (-1) <| oRetI
def f_X6_act (b0 : Nat) : List xV → xH → xR := xfun 5 6 (k_X6_act_0 b0)
def k_X6_workers_0 (b0 : Nat) : xK := oILd 1 <| oCst (1) <| oC2lt (oCst (-1) <| oRetI) <| oILd 1 <| oCst (4) <| oC2le (oALd 0 <| oGetI b0 6 4 <| oISt 2 <| oALd 0 <| oILd 1 <| oPutI b0 6 4 <| oILd 2 <| oRetI) <| oCst (-1) <| oRetI
def f_X6_workers (b0 : Nat) : List xV → xH → xR := xfun 2 3 (k_X6_workers_0 b0)
def k_X6_wakeTasks_0 (b0 : Nat) (k : Nat → xK) : xK := oCst (0) <| oISt 1 <| k 0
def k_X6_wakeTasks_2 (b0 : Nat) (k : Nat → xK) : xK := oILd 1 <| oALd 0 <| oGetR b0 6 0 <| oLen b0 <| oC2ge (oRetV) <| oALd 0 <| oGetR b0 6 0 <| oILd 1 <| oQal b0 <| oASt 2 <| oALd 2 <| oCnull (oInc 1 (1) <| k 0) <| oALd 2 <| oCallV b0 0 5 (f_X5_wake b0) <| oInc 1 (1) <| k 0
def r_X6_wakeTasks (b0 : Nat) : Nat → Nat → xK
  | 0, _ => fun _ _ _ => none
  | n + 1, i => match i with
    | 0 => k_X6_wakeTasks_2 b0 (r_X6_wakeTasks b0 n)
    | _ => fun _ _ _ => none
def f_X6_wakeTasks (b0 : Nat) : List xV → xH → xR := xfun 1 3 (k_X6_wakeTasks_0 b0 (r_X6_wakeTasks b0 64))
def k_X6_findNextToWork_0 (b0 : Nat) (k : Nat → xK) : xK := oNul <| oASt 1 <| oCst (0) <| oISt 2 <| k 0
def k_X6_findNextToWork_60 (b0 : Nat) (k : Nat → xK) : xK := oALd 3 <| oASt 1 <| oInc 2 (1) <| k 0
def k_X6_findNextToWork_4 (b0 : Nat) (k : Nat → xK) : xK := oILd 2 <| oALd 0 <| oGetR b0 6 0 <| oLen b0 <| oC2ge (oALd 1 <| oRetR) <| oALd 0 <| oGetR b0 6 0 <| oILd 2 <| oQal b0 <| oASt 3 <| oALd 3 <| oCnull (oInc 2 (1) <| k 0) <| oALd 3 <| oALd 0 <| oGetI b0 6 5 <| oCallV b0 1 5 (f_X5_isReadyIn b0) <| oC1eq (oInc 2 (1) <| k 0) <| oALd 1 <| oCnull (k_X6_findNextToWork_60 b0 k) <| oALd 3 <| oGetI b0 5 2 <| oALd 3 <| oGetI b0 5 9 <| oAdd <| oALd 1 <| oGetI b0 5 2 <| oALd 1 <| oGetI b0 5 9 <| oAdd <| oC2le (oInc 2 (1) <| k 0) <| k_X6_findNextToWork_60 b0 k
def r_X6_findNextToWork (b0 : Nat) : Nat → Nat → xK
  | 0, _ => fun _ _ _ => none
  | n + 1, i => match i with
    | 0 => k_X6_findNextToWork_4 b0 (r_X6_findNextToWork b0 n)
    | _ => fun _ _ _ => none
def f_X6_findNextToWork (b0 : Nat) : List xV → xH → xR := xfun 1 4 (k_X6_findNextToWork_0 b0 (r_X6_findNextToWork b0 64))
def k_X6_send_0 (b0 : Nat) : xK := oALd 0 <| oILd 2 <| oCallV b0 1 6 (f_X6_find b0) <| oASt 3 <| oALd 3 <| oCnonnull (oALd 3 <| oCallV b0 0 5 (f_X5_isOver b0) <| oC1eq (oALd 3 <| oGetR b0 5 4 <| oCallV b0 0 2 (f_X2_isFull b0) <| oC1eq (oALd 3 <| oGetR b0 5 4 <| oILd 1 <| oCallV b0 1 2 (f_X2_append b0) <| oCst (0) <| oRetI) <| oCst (7) <| oRetI) <| oALd 0 <| oDup <| oGetI b0 6 7 <| oCst (1) <| oAdd <| oPutI b0 6 7 <| oCst (0) <| oRetI) <| oCst (2) <| oRetI
def f_X6_send (b0 : Nat) : List xV → xH → xR := xfun 3 4 (k_X6_send_0 b0)
def k_X6_ask_0 (b0 : Nat) : xK := oALd 1 <| oGetR b0 5 6 <| oCst (1) <| oILd 2 <| oCallV b0 2 1 (f_X1_lookAt b0) <| oISt 3 <| oILd 3 <| oC1eq (oALd 0 <| oALd 1 <| oGetR b0 5 6 <| oGetR b0 1 0 <| oILd 2 <| oIal b0 <| oCallV b0 1 6 (f_X6_find b0) <| oASt 4 <| oALd 4 <| oCnonnull (oALd 1 <| oDup <| oGetI b0 5 10 <| oALd 4 <| oGetI b0 5 10 <| oAdd <| oPutI b0 5 10 <| oCst (0) <| oRetI) <| oCst (1) <| oRetI) <| oILd 3 <| oRetI
def f_X6_ask (b0 : Nat) : List xV → xH → xR := xfun 3 5 (k_X6_ask_0 b0)
def k_X6_doAct_301 (b0 : Nat) : xK := oISt 5 <| oILd 5 <| oC1ne (oILd 5 <| oRetI) <| oALd 1 <| oGetI b0 5 8 <| oCst (2) <| oC2eq (oILd 5 <| oRetI) <| oALd 1 <| oDup <| oGetI b0 5 11 <| oCst (1) <| oAdd <| oPutI b0 5 11 <| oILd 5 <| oRetI
def k_X6_doAct_132 (b0 : Nat) : xK := oALd 1 <| oILd 3 <| oCallV b0 1 5 (f_X5_add b0) <| k_X6_doAct_301 b0
def k_X6_doAct_140 (b0 : Nat) : xK := oALd 1 <| oILd 3 <| oCallV b0 1 5 (f_X5_divide b0) <| k_X6_doAct_301 b0
def k_X6_doAct_148 (b0 : Nat) : xK := oALd 1 <| oILd 3 <| oCallV b0 1 5 (f_X5_makeRow b0) <| k_X6_doAct_301 b0
def k_X6_doAct_156 (b0 : Nat) : xK := oALd 1 <| oILd 3 <| oCallV b0 1 5 (f_X5_put b0) <| k_X6_doAct_301 b0
def k_X6_doAct_164 (b0 : Nat) : xK := oALd 1 <| oILd 3 <| oCallV b0 1 5 (f_X5_get b0) <| k_X6_doAct_301 b0
def k_X6_doAct_172 (b0 : Nat) : xK := oALd 1 <| oILd 2 <| oCallV b0 1 5 (f_X5_takeLetter b0) <| k_X6_doAct_301 b0
def k_X6_doAct_180 (b0 : Nat) : xK := oALd 0 <| oALd 1 <| oGetI b0 5 10 <| oILd 4 <| oAdd <| oILd 3 <| oCallV b0 2 6 (f_X6_send b0) <| k_X6_doAct_301 b0
def k_X6_doAct_195 (b0 : Nat) : xK := oALd 1 <| oILd 3 <| oCallV b0 1 5 (f_X5_waitFor b0) <| k_X6_doAct_301 b0
def k_X6_doAct_203 (b0 : Nat) : xK := oALd 1 <| oCallV b0 0 5 (f_X5_setMark b0) <| k_X6_doAct_301 b0
def k_X6_doAct_210 (b0 : Nat) : xK := oCst (8) <| k_X6_doAct_301 b0
def k_X6_doAct_215 (b0 : Nat) : xK := oALd 1 <| oILd 3 <| oCallV b0 1 5 (f_X5_makeBox b0) <| k_X6_doAct_301 b0
def k_X6_doAct_223 (b0 : Nat) : xK := oALd 1 <| oGetR b0 5 6 <| oCst (0) <| oILd 3 <| oALd 1 <| oGetI b0 5 10 <| oCallV b0 3 1 (f_X1_put b0) <| k_X6_doAct_301 b0
def k_X6_doAct_239 (b0 : Nat) : xK := oALd 0 <| oILd 4 <| oCallV b0 1 6 (f_X6_find b0) <| oCnonnull (oALd 1 <| oGetR b0 5 6 <| oCst (1) <| oILd 3 <| oILd 4 <| oCallV b0 3 1 (f_X1_put b0) <| k_X6_doAct_301 b0) <| oCst (2) <| k_X6_doAct_301 b0
def k_X6_doAct_266 (b0 : Nat) : xK := oALd 0 <| oALd 1 <| oILd 3 <| oCallV b0 2 6 (f_X6_ask b0) <| k_X6_doAct_301 b0
def k_X6_doAct_275 (b0 : Nat) : xK := oALd 1 <| oGetI b0 5 10 <| oILd 3 <| oC2ge (oCst (0) <| k_X6_doAct_301 b0) <| oCst (10) <| k_X6_doAct_301 b0
def k_X6_doAct_292 (b0 : Nat) : xK := oALd 1 <| oILd 3 <| oCallV b0 1 5 (f_X5_copyToBox b0) <| k_X6_doAct_301 b0
def k_X6_doAct_300 (b0 : Nat) : xK := oCst (0) <| k_X6_doAct_301 b0
def sw_X6_doAct_54 (b0 : Nat) : Nat → xK
  | 0 => k_X6_doAct_132 b0
  | 1 => k_X6_doAct_140 b0
  | 2 => k_X6_doAct_148 b0
  | 3 => k_X6_doAct_156 b0
  | 4 => k_X6_doAct_164 b0
  | 5 => k_X6_doAct_172 b0
  | 6 => k_X6_doAct_180 b0
  | 7 => k_X6_doAct_195 b0
  | 8 => k_X6_doAct_203 b0
  | 9 => k_X6_doAct_210 b0
  | 10 => k_X6_doAct_215 b0
  | 11 => k_X6_doAct_223 b0
  | 12 => k_X6_doAct_239 b0
  | 13 => k_X6_doAct_266 b0
  | 14 => k_X6_doAct_275 b0
  | 15 => k_X6_doAct_292 b0
  | _ => k_X6_doAct_300 b0
def st_X6_doAct_54 : Nat → Nat
  | 0 => 132
  | 1 => 140
  | 2 => 148
  | 3 => 156
  | 4 => 164
  | 5 => 172
  | 6 => 180
  | 7 => 195
  | 8 => 203
  | 9 => 210
  | 10 => 215
  | 11 => 223
  | 12 => 239
  | 13 => 266
  | 14 => 275
  | 15 => 292
  | _ => 0
def k_X6_doAct_0 (b0 : Nat) : xK := oALd 1 <| oGetR b0 5 3 <| oGetR b0 0 1 <| oALd 1 <| oGetI b0 5 11 <| oIal b0 <| oISt 3 <| oALd 1 <| oGetR b0 5 3 <| oGetR b0 0 2 <| oALd 1 <| oGetI b0 5 11 <| oIal b0 <| oISt 4 <| oALd 0 <| oDup <| oGetI b0 6 6 <| oCst (1) <| oAdd <| oPutI b0 6 6 <| oALd 1 <| oCst (1) <| oPutZ b0 5 14 <| oALd 1 <| oGetR b0 5 3 <| oGetR b0 0 0 <| oALd 1 <| oGetI b0 5 11 <| oIal b0 <| oTab 16 (sw_X6_doAct_54 b0) (k_X6_doAct_300 b0)
def f_X6_doAct (b0 : Nat) : List xV → xH → xR := xfun 3 6 (k_X6_doAct_0 b0)
def k_X6_doGuard_0 (b0 : Nat) (k : Nat → xK) : xK := oALd 1 <| oGetR b0 5 3 <| oGetR b0 0 1 <| oALd 1 <| oGetI b0 5 11 <| oIal b0 <| oALd 1 <| oGetR b0 5 3 <| oGetI b0 0 3 <| oALd 1 <| oGetI b0 5 11 <| oSub <| oCst (1) <| oSub <| oMin <| oISt 2 <| oALd 0 <| oDup <| oGetI b0 6 6 <| oCst (1) <| oAdd <| oPutI b0 6 6 <| oALd 1 <| oCst (1) <| oPutZ b0 5 14 <| oALd 1 <| oDup <| oGetI b0 5 11 <| oCst (1) <| oAdd <| oPutI b0 5 11 <| oCst (0) <| oISt 3 <| oCst (0) <| oISt 4 <| k 0
def k_X6_doGuard_83 (b0 : Nat) (k : Nat → xK) : xK := oALd 0 <| oDup <| oGetI b0 6 8 <| oCst (1) <| oAdd <| oPutI b0 6 8 <| oILd 3 <| oRetI
def k_X6_doGuard_60 (b0 : Nat) (k : Nat → xK) : xK := oILd 4 <| oILd 2 <| oC2ge (k_X6_doGuard_83 b0 k) <| oILd 3 <| oC1ne (k_X6_doGuard_83 b0 k) <| oALd 0 <| oALd 1 <| oCst (1) <| oCallV b0 2 6 (f_X6_doAct b0) <| oISt 3 <| oInc 4 (1) <| k 0
def r_X6_doGuard (b0 : Nat) : Nat → Nat → xK
  | 0, _ => fun _ _ _ => none
  | n + 1, i => match i with
    | 0 => k_X6_doGuard_60 b0 (r_X6_doGuard b0 n)
    | _ => fun _ _ _ => none
def f_X6_doGuard (b0 : Nat) : List xV → xH → xR := xfun 2 5 (k_X6_doGuard_0 b0 (r_X6_doGuard b0 64))
def k_X6_becomeDone_0 (b0 : Nat) : xK := oALd 1 <| oCst (3) <| oPutI b0 5 8 <| oALd 0 <| oGetI b0 6 3 <| oALd 0 <| oGetR b0 6 1 <| oLen b0 <| oC2ge (oRetV) <| oALd 0 <| oGetR b0 6 1 <| oALd 0 <| oGetI b0 6 3 <| oALd 1 <| oGetI b0 5 0 <| oIas b0 <| oALd 0 <| oDup <| oGetI b0 6 3 <| oCst (1) <| oAdd <| oPutI b0 6 3 <| oRetV
def f_X6_becomeDone (b0 : Nat) : List xV → xH → xR := xfun 2 2 (k_X6_becomeDone_0 b0)
def k_X6_giveTurn_98 (b0 : Nat) : xK := oALd 1 <| oGetI b0 5 11 <| oALd 1 <| oGetR b0 5 3 <| oGetI b0 0 3 <| oC2lt (oRetV) <| oALd 0 <| oALd 1 <| oCallV b0 1 6 (f_X6_becomeDone b0) <| oRetV
def k_X6_giveTurn_63 (b0 : Nat) : xK := oISt 2 <| oILd 2 <| oC1eq (oALd 1 <| oGetI b0 5 12 <| oC1le (k_X6_giveTurn_98 b0) <| oALd 1 <| oCst (1) <| oPutI b0 5 8 <| k_X6_giveTurn_98 b0) <| oALd 0 <| oDup <| oGetI b0 6 9 <| oCst (1) <| oAdd <| oPutI b0 6 9 <| oALd 1 <| oILd 2 <| oCallV b0 1 5 (f_X5_fail b0) <| k_X6_giveTurn_98 b0
def k_X6_giveTurn_0 (b0 : Nat) : xK := oALd 1 <| oALd 0 <| oGetI b0 6 5 <| oPutI b0 5 13 <| oALd 1 <| oCst (0) <| oPutI b0 5 9 <| oALd 1 <| oCst (0) <| oPutI b0 5 12 <| oALd 1 <| oGetI b0 5 11 <| oALd 1 <| oGetR b0 5 3 <| oGetI b0 0 3 <| oC2ge (k_X6_giveTurn_98 b0) <| oALd 1 <| oGetR b0 5 3 <| oGetR b0 0 0 <| oALd 1 <| oGetI b0 5 11 <| oIal b0 <| oCst (9) <| oC2ne (oALd 0 <| oALd 1 <| oCst (0) <| oCallV b0 2 6 (f_X6_doAct b0) <| k_X6_giveTurn_63 b0) <| oALd 0 <| oALd 1 <| oCallV b0 1 6 (f_X6_doGuard b0) <| k_X6_giveTurn_63 b0
def f_X6_giveTurn (b0 : Nat) : List xV → xH → xR := xfun 2 3 (k_X6_giveTurn_0 b0)
def k_X6_ageTasks_0 (b0 : Nat) (k : Nat → xK) : xK := oCst (0) <| oISt 1 <| k 0
def k_X6_ageTasks_2 (b0 : Nat) (k : Nat → xK) : xK := oILd 1 <| oALd 0 <| oGetR b0 6 0 <| oLen b0 <| oC2ge (oRetV) <| oALd 0 <| oGetR b0 6 0 <| oILd 1 <| oQal b0 <| oASt 2 <| oALd 2 <| oCnull (oInc 1 (1) <| k 0) <| oALd 2 <| oALd 0 <| oGetI b0 6 5 <| oCallV b0 1 5 (f_X5_isReadyIn b0) <| oC1eq (oInc 1 (1) <| k 0) <| oALd 2 <| oDup <| oGetI b0 5 9 <| oCst (1) <| oAdd <| oPutI b0 5 9 <| oInc 1 (1) <| k 0
def r_X6_ageTasks (b0 : Nat) : Nat → Nat → xK
  | 0, _ => fun _ _ _ => none
  | n + 1, i => match i with
    | 0 => k_X6_ageTasks_2 b0 (r_X6_ageTasks b0 n)
    | _ => fun _ _ _ => none
def f_X6_ageTasks (b0 : Nat) : List xV → xH → xR := xfun 1 3 (k_X6_ageTasks_0 b0 (r_X6_ageTasks b0 64))
def k_X6_doTurn_0 (b0 : Nat) (k : Nat → xK) : xK := oALd 0 <| oDup <| oGetI b0 6 5 <| oCst (1) <| oAdd <| oPutI b0 6 5 <| oALd 0 <| oCallV b0 0 6 (f_X6_wakeTasks b0) <| oCst (0) <| oISt 1 <| k 0
def k_X6_doTurn_16 (b0 : Nat) (k : Nat → xK) : xK := oILd 1 <| oALd 0 <| oGetI b0 6 4 <| oC2ge (oALd 0 <| oCallV b0 0 6 (f_X6_ageTasks b0) <| oRetV) <| oALd 0 <| oCallV b0 0 6 (f_X6_findNextToWork b0) <| oASt 2 <| oALd 2 <| oCnull (oInc 1 (1) <| k 0) <| oALd 0 <| oALd 2 <| oCallV b0 1 6 (f_X6_giveTurn b0) <| oInc 1 (1) <| k 0
def r_X6_doTurn (b0 : Nat) : Nat → Nat → xK
  | 0, _ => fun _ _ _ => none
  | n + 1, i => match i with
    | 0 => k_X6_doTurn_16 b0 (r_X6_doTurn b0 n)
    | _ => fun _ _ _ => none
def f_X6_doTurn (b0 : Nat) : List xV → xH → xR := xfun 1 3 (k_X6_doTurn_0 b0 (r_X6_doTurn b0 64))
def k_X6_turn_0 (b0 : Nat) (k : Nat → xK) : xK := oILd 1 <| oCst (1) <| oC2lt (oCst (-1) <| oRetI) <| oILd 1 <| oCst (50) <| oC2le (oALd 0 <| oGetI b0 6 6 <| oISt 2 <| oCst (0) <| oISt 3 <| oCst (0) <| oISt 4 <| k 0) <| oCst (-1) <| oRetI
def k_X6_turn_64 (b0 : Nat) (k : Nat → xK) : xK := oALd 0 <| oGetI b0 6 6 <| oILd 2 <| oSub <| oRetI
def k_X6_turn_23 (b0 : Nat) (k : Nat → xK) : xK := oILd 4 <| oILd 1 <| oC2ge (k_X6_turn_64 b0 k) <| oILd 3 <| oC1ne (k_X6_turn_64 b0 k) <| oALd 0 <| oGetI b0 6 6 <| oISt 5 <| oALd 0 <| oCallV b0 0 6 (f_X6_doTurn b0) <| oALd 0 <| oGetI b0 6 6 <| oILd 5 <| oC2ne (oCst (0) <| oISt 3 <| oInc 4 (1) <| k 0) <| oCst (1) <| oISt 3 <| oInc 4 (1) <| k 0
def r_X6_turn (b0 : Nat) : Nat → Nat → xK
  | 0, _ => fun _ _ _ => none
  | n + 1, i => match i with
    | 0 => k_X6_turn_23 b0 (r_X6_turn b0 n)
    | _ => fun _ _ _ => none
def f_X6_turn (b0 : Nat) : List xV → xH → xR := xfun 2 6 (k_X6_turn_0 b0 (r_X6_turn b0 64))
def k_X6_letter_0 (b0 : Nat) : xK := oALd 0 <| oILd 1 <| oCallV b0 1 6 (f_X6_find b0) <| oASt 3 <| oALd 3 <| oCnonnull (oALd 3 <| oCallV b0 0 5 (f_X5_isOver b0) <| oC1eq (oALd 3 <| oGetR b0 5 4 <| oCallV b0 0 2 (f_X2_isFull b0) <| oC1eq (oALd 3 <| oGetR b0 5 4 <| oILd 2 <| oCallV b0 1 2 (f_X2_append b0) <| oALd 3 <| oGetR b0 5 4 <| oGetI b0 2 1 <| oRetI) <| oCst (-3) <| oRetI) <| oCst (-2) <| oRetI) <| oCst (-1) <| oRetI
def f_X6_letter (b0 : Nat) : List xV → xH → xR := xfun 3 4 (k_X6_letter_0 b0)
def k_X6_stop_0 (b0 : Nat) : xK := oALd 0 <| oILd 1 <| oCallV b0 1 6 (f_X6_find b0) <| oASt 2 <| oALd 2 <| oCnonnull (oALd 2 <| oCallV b0 0 5 (f_X5_isOver b0) <| oC1eq (oALd 2 <| oCst (5) <| oPutI b0 5 8 <| oCst (1) <| oRetI) <| oCst (-2) <| oRetI) <| oCst (-1) <| oRetI
def f_X6_stop (b0 : Nat) : List xV → xH → xR := xfun 2 3 (k_X6_stop_0 b0)
def k_X6_again_31 (b0 : Nat) : xK := oALd 2 <| oCst (0) <| oPutI b0 5 8 <| oALd 2 <| oCallV b0 0 5 (f_X5_goBack b0) <| oCst (1) <| oRetI
def k_X6_again_0 (b0 : Nat) : xK := oALd 0 <| oILd 1 <| oCallV b0 1 6 (f_X6_find b0) <| oASt 2 <| oALd 2 <| oCnonnull (oALd 2 <| oGetI b0 5 8 <| oCst (4) <| oC2eq (k_X6_again_31 b0) <| oALd 2 <| oGetI b0 5 8 <| oCst (5) <| oC2eq (k_X6_again_31 b0) <| oCst (-2) <| oRetI) <| oCst (-1) <| oRetI
def f_X6_again (b0 : Nat) : List xV → xH → xR := xfun 2 3 (k_X6_again_0 b0)
def k_X6_of_0 (b0 : Nat) : xK := oALd 0 <| oILd 1 <| oCallV b0 1 6 (f_X6_find b0) <| oASt 3 <| oALd 3 <| oCnonnull (oALd 3 <| oILd 2 <| oCallV b0 1 5 (f_X5_tell b0) <| oRetI) <| oCst (-1) <| oRetI
def f_X6_of (b0 : Nat) : List xV → xH → xR := xfun 3 4 (k_X6_of_0 b0)
def k_X6_at_0 (b0 : Nat) : xK := oALd 0 <| oILd 1 <| oCallV b0 1 6 (f_X6_find b0) <| oASt 4 <| oALd 4 <| oCnonnull (oILd 2 <| oC1eq (oALd 4 <| oGetR b0 5 5 <| oILd 3 <| oCallV b0 1 4 (f_X4_has b0) <| oC1eq (oCst (-1) <| oRetI) <| oALd 4 <| oGetR b0 5 5 <| oGetR b0 4 0 <| oILd 3 <| oIal b0 <| oRetI) <| oALd 4 <| oGetR b0 5 6 <| oILd 3 <| oCallV b0 1 1 (f_X1_has b0) <| oC1eq (oCst (-1) <| oRetI) <| oALd 4 <| oGetR b0 5 6 <| oGetR b0 1 0 <| oILd 3 <| oIal b0 <| oRetI) <| oCst (-1) <| oRetI
def f_X6_at (b0 : Nat) : List xV → xH → xR := xfun 4 5 (k_X6_at_0 b0)
def k_X6_letterAt_0 (b0 : Nat) : xK := oALd 0 <| oILd 1 <| oCallV b0 1 6 (f_X6_find b0) <| oASt 3 <| oALd 3 <| oCnull (oCst (-1) <| oRetI) <| oALd 3 <| oGetR b0 5 4 <| oILd 2 <| oCallV b0 1 2 (f_X2_has b0) <| oC1eq (oCst (-1) <| oRetI) <| oALd 3 <| oGetR b0 5 4 <| oGetR b0 2 0 <| oILd 2 <| oIal b0 <| oRetI
def f_X6_letterAt (b0 : Nat) : List xV → xH → xR := xfun 3 4 (k_X6_letterAt_0 b0)
def k_X6_countGoingOn_0 (b0 : Nat) (k : Nat → xK) : xK := oCst (0) <| oISt 1 <| oCst (0) <| oISt 2 <| k 0
def k_X6_countGoingOn_4 (b0 : Nat) (k : Nat → xK) : xK := oILd 2 <| oALd 0 <| oGetR b0 6 0 <| oLen b0 <| oC2ge (oILd 1 <| oRetI) <| oALd 0 <| oGetR b0 6 0 <| oILd 2 <| oQal b0 <| oASt 3 <| oALd 3 <| oCnull (oInc 2 (1) <| k 0) <| oALd 3 <| oCallV b0 0 5 (f_X5_isOver b0) <| oC1ne (oInc 2 (1) <| k 0) <| oInc 1 (1) <| oInc 2 (1) <| k 0
def r_X6_countGoingOn (b0 : Nat) : Nat → Nat → xK
  | 0, _ => fun _ _ _ => none
  | n + 1, i => match i with
    | 0 => k_X6_countGoingOn_4 b0 (r_X6_countGoingOn b0 n)
    | _ => fun _ _ _ => none
def f_X6_countGoingOn (b0 : Nat) : List xV → xH → xR := xfun 1 4 (k_X6_countGoingOn_0 b0 (r_X6_countGoingOn b0 64))
def k_X6_count_44 (b0 : Nat) : xK := oALd 0 <| oGetI b0 6 2 <| oRetI
def k_X6_count_51 (b0 : Nat) : xK := oALd 0 <| oGetI b0 6 5 <| oRetI
def k_X6_count_58 (b0 : Nat) : xK := oALd 0 <| oGetI b0 6 6 <| oRetI
def k_X6_count_65 (b0 : Nat) : xK := oALd 0 <| oGetI b0 6 7 <| oRetI
def k_X6_count_72 (b0 : Nat) : xK := oALd 0 <| oGetI b0 6 8 <| oRetI
def k_X6_count_79 (b0 : Nat) : xK := oALd 0 <| oGetI b0 6 9 <| oRetI
def k_X6_count_86 (b0 : Nat) : xK := oALd 0 <| oCallV b0 0 6 (f_X6_countGoingOn b0) <| oRetI
def k_X6_count_93 (b0 : Nat) : xK := oCst (-1) <| oRetI
def sw_X6_count_1 (b0 : Nat) : Nat → xK
  | 0 => k_X6_count_44 b0
  | 1 => k_X6_count_51 b0
  | 2 => k_X6_count_58 b0
  | 3 => k_X6_count_65 b0
  | 4 => k_X6_count_72 b0
  | 5 => k_X6_count_79 b0
  | 6 => k_X6_count_86 b0
  | _ => k_X6_count_93 b0
def st_X6_count_1 : Nat → Nat
  | 0 => 44
  | 1 => 51
  | 2 => 58
  | 3 => 65
  | 4 => 72
  | 5 => 79
  | 6 => 86
  | _ => 0
def k_X6_count_0 (b0 : Nat) : xK := oILd 1 <| oTab 7 (sw_X6_count_1 b0) (k_X6_count_93 b0)
def f_X6_count (b0 : Nat) : List xV → xH → xR := xfun 2 2 (k_X6_count_0 b0)
def k_X6_done_0 (b0 : Nat) : xK := oILd 1 <| oC1lt (oCst (-4) <| oRetI) <| oILd 1 <| oALd 0 <| oGetI b0 6 3 <| oC2ge (oCst (-4) <| oRetI) <| oILd 1 <| oALd 0 <| oGetR b0 6 1 <| oLen b0 <| oC2ge (oCst (-4) <| oRetI) <| oALd 0 <| oGetR b0 6 1 <| oILd 1 <| oIal b0 <| oRetI
def f_X6_done (b0 : Nat) : List xV → xH → xR := xfun 2 2 (k_X6_done_0 b0)
def k_X7_init_0 (b0 : Nat) : xK := oALd 0 <| oObj <| oALd 0 <| oCst (12) <| oNewI b0 <| oPutR b0 7 1 <| oALd 0 <| oCst (12) <| oNewI b0 <| oPutR b0 7 2 <| oALd 0 <| oCst (12) <| oNewI b0 <| oPutR b0 7 3 <| oALd 0 <| oCst (12) <| oNewI b0 <| oPutR b0 7 4 <| oALd 0 <| oCst (12) <| oNewI b0 <| oPutR b0 7 5 <| oALd 0 <| oCst (192) <| oNewI b0 <| oPutR b0 7 6 <| oALd 0 <| oCst (192) <| oNewI b0 <| oPutR b0 7 7 <| oALd 0 <| oCst (192) <| oNewI b0 <| oPutR b0 7 8 <| oALd 0 <| oCst (12) <| oNewI b0 <| oPutR b0 7 9 <| oALd 0 <| oCst (12) <| oNewI b0 <| oPutR b0 7 10 <| oALd 0 <| oCst (12) <| oNewI b0 <| oPutR b0 7 11 <| oALd 0 <| oCst (1200) <| oNewI b0 <| oPutR b0 7 12 <| oALd 0 <| oCst (12) <| oNewI b0 <| oPutR b0 7 13 <| oALd 0 <| oCst (12) <| oNewI b0 <| oPutR b0 7 14 <| oALd 0 <| oCst (12) <| oNewI b0 <| oPutR b0 7 15 <| oALd 0 <| oCst (1200) <| oNewI b0 <| oPutR b0 7 16 <| oALd 0 <| oCst (12) <| oNewI b0 <| oPutR b0 7 17 <| oALd 0 <| oCst (36) <| oNewI b0 <| oPutR b0 7 18 <| oALd 0 <| oCst (12) <| oNewI b0 <| oPutR b0 7 19 <| oALd 0 <| oCst (72) <| oNewI b0 <| oPutR b0 7 20 <| oALd 0 <| oCst (12) <| oNewJ b0 <| oPutR b0 7 21 <| oALd 0 <| oCst (12) <| oNewI b0 <| oPutR b0 7 22 <| oALd 0 <| oCst (12) <| oNewI b0 <| oPutR b0 7 23 <| oALd 0 <| oCst (12) <| oNewI b0 <| oPutR b0 7 24 <| oALd 0 <| oCst (12) <| oNewI b0 <| oPutR b0 7 25 <| oALd 0 <| oCst (12) <| oNewZ b0 <| oPutR b0 7 26 <| oALd 0 <| oCst (12) <| oNewZ b0 <| oPutR b0 7 27 <| oALd 0 <| oCst (12) <| oNewI b0 <| oPutR b0 7 28 <| oALd 0 <| oCst (1) <| oPutI b0 7 30 <| oALd 0 <| oCst (0) <| oPutI b0 7 31 <| oRetV
def f_X7_init (b0 : Nat) : List xV → xH → xR := xfun 1 1 (k_X7_init_0 b0)
def k_X7_in_0 (b0 : Nat) : xK := oILd 0 <| oILd 1 <| oC2lt (oCst (0) <| oRetZ) <| oILd 0 <| oILd 2 <| oC2gt (oCst (0) <| oRetZ) <| oCst (1) <| oRetZ
def f_X7_in (b0 : Nat) : List xV → xH → xR := xfun 3 3 (k_X7_in_0 b0)
def k_X7_isTask_0 (b0 : Nat) : xK := oILd 1 <| oCst (0) <| oALd 0 <| oGetI b0 7 0 <| oCst (1) <| oSub <| oCallS 3 (f_X7_in b0) <| oRetZ
def f_X7_isTask (b0 : Nat) : List xV → xH → xR := xfun 2 2 (k_X7_isTask_0 b0)
def k_X7_isOver_0 (b0 : Nat) : xK := oILd 0 <| oCst (2) <| oC2le (oCst (0) <| oRetZ) <| oCst (1) <| oRetZ
def f_X7_isOver (b0 : Nat) : List xV → xH → xR := xfun 1 1 (k_X7_isOver_0 b0)
def k_X7_task_0 (b0 : Nat) : xK := oILd 1 <| oCst (0) <| oCst (4) <| oCallS 3 (f_X7_in b0) <| oC1eq (oCst (-1) <| oRetI) <| oILd 2 <| oCst (0) <| oCst (9) <| oCallS 3 (f_X7_in b0) <| oC1ne (oALd 0 <| oGetI b0 7 0 <| oCst (12) <| oC2ne (oALd 0 <| oGetI b0 7 0 <| oISt 3 <| oALd 0 <| oGetR b0 7 1 <| oILd 3 <| oILd 1 <| oIas b0 <| oALd 0 <| oGetR b0 7 2 <| oILd 3 <| oILd 2 <| oIas b0 <| oALd 0 <| oGetR b0 7 11 <| oILd 3 <| oCst (-4) <| oIas b0 <| oALd 0 <| oGetR b0 7 15 <| oILd 3 <| oCst (-4) <| oIas b0 <| oALd 0 <| oGetR b0 7 17 <| oILd 3 <| oCst (-4) <| oIas b0 <| oALd 0 <| oGetR b0 7 24 <| oILd 3 <| oCst (-4) <| oIas b0 <| oALd 0 <| oDup <| oGetI b0 7 0 <| oCst (1) <| oAdd <| oPutI b0 7 0 <| oILd 3 <| oRetI) <| oCst (-3) <| oRetI) <| oCst (-1) <| oRetI
def f_X7_task (b0 : Nat) : List xV → xH → xR := xfun 3 4 (k_X7_task_0 b0)
def k_X7_act_31 (b0 : Nat) : xK := oALd 0 <| oGetR b0 7 4 <| oILd 1 <| oIal b0 <| oC1ne (oCst (-2) <| oRetI) <| oALd 0 <| oGetR b0 7 26 <| oILd 1 <| oZal b0 <| oC1eq (oALd 0 <| oGetR b0 7 5 <| oILd 1 <| oIal b0 <| oCst (16) <| oC2ne (oCst (16) <| oILd 1 <| oMul <| oALd 0 <| oGetR b0 7 5 <| oILd 1 <| oIal b0 <| oAdd <| oISt 5 <| oALd 0 <| oGetR b0 7 6 <| oILd 5 <| oILd 2 <| oIas b0 <| oALd 0 <| oGetR b0 7 7 <| oILd 5 <| oILd 3 <| oIas b0 <| oALd 0 <| oGetR b0 7 8 <| oILd 5 <| oILd 4 <| oIas b0 <| oALd 0 <| oGetR b0 7 5 <| oILd 1 <| oDup2 <| oIal b0 <| oCst (1) <| oAdd <| oIas b0 <| oALd 0 <| oGetR b0 7 5 <| oILd 1 <| oIal b0 <| oCst (1) <| oSub <| oRetI) <| oCst (-3) <| oRetI) <| oCst (-2) <| oRetI
def k_X7_act_0 (b0 : Nat) : xK := oALd 0 <| oILd 1 <| oCallV b0 1 7 (f_X7_isTask b0) <| oC1eq (oCst (-1) <| oRetI) <| oILd 2 <| oCst (0) <| oCst (15) <| oCallS 3 (f_X7_in b0) <| oC1eq (oCst (-1) <| oRetI) <| oILd 2 <| oCst (2) <| oC2ne (k_X7_act_31 b0) <| oILd 3 <| oCst (40) <| oC2le (k_X7_act_31 b0) <| oCst (-1) <| oRetI
def f_X7_act (b0 : Nat) : List xV → xH → xR := xfun 5 6 (k_X7_act_0 b0)
def k_X7_workers_0 (b0 : Nat) : xK := oILd 1 <| oCst (1) <| oCst (4) <| oCallS 3 (f_X7_in b0) <| oC1ne (oALd 0 <| oGetI b0 7 30 <| oISt 2 <| oALd 0 <| oILd 1 <| oPutI b0 7 30 <| oILd 2 <| oRetI) <| oCst (-1) <| oRetI
def f_X7_workers (b0 : Nat) : List xV → xH → xR := xfun 2 3 (k_X7_workers_0 b0)
def k_X7_rowAct_0 (b0 : Nat) (k : Nat → xK) : xK := oILd 2 <| oCst (2) <| oC2ne (oALd 0 <| oGetR b0 7 11 <| oILd 1 <| oIal b0 <| oCst (-4) <| oC2ne (oILd 3 <| oCst (0) <| oALd 0 <| oGetR b0 7 11 <| oILd 1 <| oIal b0 <| oCst (1) <| oSub <| oCallS 3 (f_X7_in b0) <| oC1ne (oILd 2 <| oCst (3) <| oC2ne (oALd 0 <| oGetR b0 7 10 <| oILd 1 <| oDup2 <| oIal b0 <| oALd 0 <| oGetR b0 7 12 <| oCst (100) <| oILd 1 <| oMul <| oILd 3 <| oAdd <| oIal b0 <| oAdd <| oIas b0 <| oCst (0) <| oRetI) <| oALd 0 <| oGetR b0 7 12 <| oCst (100) <| oILd 1 <| oMul <| oILd 3 <| oAdd <| oALd 0 <| oGetR b0 7 10 <| oILd 1 <| oIal b0 <| oIas b0 <| oCst (0) <| oRetI) <| oCst (2) <| oRetI) <| oCst (1) <| oRetI) <| oILd 3 <| oC1ge (oALd 0 <| oGetR b0 7 11 <| oILd 1 <| oILd 3 <| oIas b0 <| oCst (0) <| oISt 4 <| k 0) <| oCst (5) <| oRetI
def k_X7_rowAct_21 (b0 : Nat) (k : Nat → xK) : xK := oILd 4 <| oILd 3 <| oC2ge (oCst (0) <| oRetI) <| oALd 0 <| oGetR b0 7 12 <| oCst (100) <| oILd 1 <| oMul <| oILd 4 <| oAdd <| oCst (0) <| oIas b0 <| oInc 4 (1) <| k 0
def r_X7_rowAct (b0 : Nat) : Nat → Nat → xK
  | 0, _ => fun _ _ _ => none
  | n + 1, i => match i with
    | 0 => k_X7_rowAct_21 b0 (r_X7_rowAct b0 n)
    | _ => fun _ _ _ => none
def f_X7_rowAct (b0 : Nat) : List xV → xH → xR := xfun 4 5 (k_X7_rowAct_0 b0 (r_X7_rowAct b0 64))
def k_X7_takeAct_0 (b0 : Nat) (k : Nat → xK) : xK := oALd 0 <| oGetR b0 7 19 <| oILd 1 <| oIal b0 <| oC1ne (oALd 0 <| oGetR b0 7 10 <| oILd 1 <| oDup2 <| oIal b0 <| oALd 0 <| oGetR b0 7 20 <| oCst (6) <| oILd 1 <| oMul <| oIal b0 <| oAdd <| oIas b0 <| oALd 0 <| oGetR b0 7 19 <| oILd 1 <| oDup2 <| oIal b0 <| oCst (1) <| oSub <| oIas b0 <| oCst (0) <| oISt 2 <| k 0) <| oALd 0 <| oGetI b0 7 37 <| oC1eq (oALd 0 <| oGetR b0 7 4 <| oILd 1 <| oCst (2) <| oIas b0 <| oCst (0) <| oRetI) <| oCst (9) <| oRetI
def k_X7_takeAct_58 (b0 : Nat) (k : Nat → xK) : xK := oILd 2 <| oALd 0 <| oGetR b0 7 19 <| oILd 1 <| oIal b0 <| oC2ge (oCst (0) <| oRetI) <| oALd 0 <| oGetR b0 7 20 <| oCst (6) <| oILd 1 <| oMul <| oILd 2 <| oAdd <| oALd 0 <| oGetR b0 7 20 <| oCst (6) <| oILd 1 <| oMul <| oILd 2 <| oAdd <| oCst (1) <| oAdd <| oIal b0 <| oIas b0 <| oInc 2 (1) <| k 0
def r_X7_takeAct (b0 : Nat) : Nat → Nat → xK
  | 0, _ => fun _ _ _ => none
  | n + 1, i => match i with
    | 0 => k_X7_takeAct_58 b0 (r_X7_takeAct b0 n)
    | _ => fun _ _ _ => none
def f_X7_takeAct (b0 : Nat) : List xV → xH → xR := xfun 2 3 (k_X7_takeAct_0 b0 (r_X7_takeAct b0 64))
def k_X7_sendAct_0 (b0 : Nat) : xK := oALd 0 <| oILd 2 <| oCallV b0 1 7 (f_X7_isTask b0) <| oC1ne (oALd 0 <| oGetR b0 7 4 <| oILd 2 <| oIal b0 <| oCallS 1 (f_X7_isOver b0) <| oC1eq (oALd 0 <| oGetR b0 7 19 <| oILd 2 <| oIal b0 <| oCst (6) <| oC2ne (oALd 0 <| oGetR b0 7 20 <| oCst (6) <| oILd 2 <| oMul <| oALd 0 <| oGetR b0 7 19 <| oILd 2 <| oIal b0 <| oAdd <| oALd 0 <| oGetR b0 7 10 <| oILd 1 <| oIal b0 <| oILd 3 <| oAdd <| oIas b0 <| oALd 0 <| oGetR b0 7 19 <| oILd 2 <| oDup2 <| oIal b0 <| oCst (1) <| oAdd <| oIas b0 <| oCst (0) <| oRetI) <| oCst (7) <| oRetI) <| oALd 0 <| oDup <| oGetI b0 7 33 <| oCst (1) <| oAdd <| oPutI b0 7 33 <| oCst (0) <| oRetI) <| oCst (2) <| oRetI
def f_X7_sendAct (b0 : Nat) : List xV → xH → xR := xfun 4 4 (k_X7_sendAct_0 b0)
def k_X7_mark_0 (b0 : Nat) (k : Nat → xK) : xK := oALd 0 <| oGetR b0 7 13 <| oILd 1 <| oALd 0 <| oGetR b0 7 10 <| oILd 1 <| oIal b0 <| oIas b0 <| oALd 0 <| oGetR b0 7 14 <| oILd 1 <| oALd 0 <| oGetR b0 7 9 <| oILd 1 <| oIal b0 <| oCst (1) <| oAdd <| oIas b0 <| oALd 0 <| oGetR b0 7 15 <| oILd 1 <| oALd 0 <| oGetR b0 7 11 <| oILd 1 <| oIal b0 <| oIas b0 <| oCst (0) <| oISt 2 <| k 0
def k_X7_mark_40 (b0 : Nat) (k : Nat → xK) : xK := oILd 2 <| oALd 0 <| oGetR b0 7 11 <| oILd 1 <| oIal b0 <| oC2ge (oRetV) <| oALd 0 <| oGetR b0 7 16 <| oCst (100) <| oILd 1 <| oMul <| oILd 2 <| oAdd <| oALd 0 <| oGetR b0 7 12 <| oCst (100) <| oILd 1 <| oMul <| oILd 2 <| oAdd <| oIal b0 <| oIas b0 <| oInc 2 (1) <| k 0
def r_X7_mark (b0 : Nat) : Nat → Nat → xK
  | 0, _ => fun _ _ _ => none
  | n + 1, i => match i with
    | 0 => k_X7_mark_40 b0 (r_X7_mark b0 n)
    | _ => fun _ _ _ => none
def f_X7_mark (b0 : Nat) : List xV → xH → xR := xfun 2 3 (k_X7_mark_0 b0 (r_X7_mark b0 64))
def k_X7_back_0 (b0 : Nat) (k : Nat → xK) : xK := oALd 0 <| oGetR b0 7 10 <| oILd 1 <| oALd 0 <| oGetR b0 7 13 <| oILd 1 <| oIal b0 <| oIas b0 <| oALd 0 <| oGetR b0 7 9 <| oILd 1 <| oALd 0 <| oGetR b0 7 14 <| oILd 1 <| oIal b0 <| oIas b0 <| oALd 0 <| oGetR b0 7 11 <| oILd 1 <| oALd 0 <| oGetR b0 7 15 <| oILd 1 <| oIal b0 <| oIas b0 <| oCst (0) <| oISt 2 <| k 0
def k_X7_back_38 (b0 : Nat) (k : Nat → xK) : xK := oILd 2 <| oALd 0 <| oGetR b0 7 11 <| oILd 1 <| oIal b0 <| oC2ge (oRetV) <| oALd 0 <| oGetR b0 7 12 <| oCst (100) <| oILd 1 <| oMul <| oILd 2 <| oAdd <| oALd 0 <| oGetR b0 7 16 <| oCst (100) <| oILd 1 <| oMul <| oILd 2 <| oAdd <| oIal b0 <| oIas b0 <| oInc 2 (1) <| k 0
def r_X7_back (b0 : Nat) : Nat → Nat → xK
  | 0, _ => fun _ _ _ => none
  | n + 1, i => match i with
    | 0 => k_X7_back_38 b0 (r_X7_back b0 n)
    | _ => fun _ _ _ => none
def f_X7_back (b0 : Nat) : List xV → xH → xR := xfun 2 3 (k_X7_back_0 b0 (r_X7_back b0 64))
def k_X7_boxAct_94 (b0 : Nat) (k : Nat → xK) : xK := oISt 5 <| oALd 0 <| oGetR b0 7 17 <| oILd 1 <| oIal b0 <| oCst (1) <| oILd 5 <| oSub <| oC2ne (oALd 0 <| oGetR b0 7 17 <| oILd 1 <| oIal b0 <| oCst (-4) <| oC2ne (oILd 3 <| oCst (0) <| oCst (2) <| oCallS 3 (f_X7_in b0) <| oC1ne (oILd 2 <| oCst (12) <| oC2ne (oILd 2 <| oCst (11) <| oC2ne (oALd 0 <| oGetR b0 7 18 <| oCst (3) <| oILd 1 <| oMul <| oILd 3 <| oAdd <| oIal b0 <| oISt 6 <| oILd 6 <| oCst (-4) <| oC2ne (oALd 0 <| oGetR b0 7 10 <| oILd 1 <| oDup2 <| oIal b0 <| oALd 0 <| oGetR b0 7 10 <| oILd 6 <| oIal b0 <| oAdd <| oIas b0 <| oCst (0) <| oRetI) <| oCst (1) <| oRetI) <| oALd 0 <| oGetR b0 7 18 <| oCst (3) <| oILd 1 <| oMul <| oILd 3 <| oAdd <| oALd 0 <| oGetR b0 7 10 <| oILd 1 <| oIal b0 <| oIas b0 <| oCst (0) <| oRetI) <| oALd 0 <| oGetR b0 7 18 <| oCst (3) <| oILd 1 <| oMul <| oILd 3 <| oAdd <| oILd 4 <| oIas b0 <| oCst (0) <| oRetI) <| oCst (2) <| oRetI) <| oCst (1) <| oRetI) <| oCst (4) <| oRetI
def k_X7_boxAct_83 (b0 : Nat) (k : Nat → xK) : xK := oILd 2 <| oCst (11) <| oC2ne (oCst (1) <| k_X7_boxAct_94 b0 k) <| oCst (0) <| k_X7_boxAct_94 b0 k
def k_X7_boxAct_20 (b0 : Nat) (k : Nat → xK) : xK := oILd 3 <| oIas b0 <| oCst (0) <| oISt 5 <| k 0
def k_X7_boxAct_0 (b0 : Nat) (k : Nat → xK) : xK := oILd 2 <| oCst (10) <| oC2ne (oILd 2 <| oCst (12) <| oC2ne (k_X7_boxAct_83 b0 k) <| oALd 0 <| oILd 4 <| oCallV b0 1 7 (f_X7_isTask b0) <| oC1ne (k_X7_boxAct_83 b0 k) <| oCst (2) <| oRetI) <| oALd 0 <| oGetR b0 7 17 <| oILd 1 <| oILd 3 <| oC1eq (k_X7_boxAct_20 b0 k) <| oILd 3 <| oCst (1) <| oC2ne (oCst (-4) <| oIas b0 <| oCst (0) <| oISt 5 <| k 0) <| k_X7_boxAct_20 b0 k
def k_X7_boxAct_30 (b0 : Nat) (k : Nat → xK) : xK := oILd 5 <| oCst (3) <| oC2ge (oCst (0) <| oRetI) <| oALd 0 <| oGetR b0 7 18 <| oCst (3) <| oILd 1 <| oMul <| oILd 5 <| oAdd <| oILd 3 <| oCst (1) <| oC2ne (oCst (0) <| oIas b0 <| oInc 5 (1) <| k 0) <| oCst (-4) <| oIas b0 <| oInc 5 (1) <| k 0
def r_X7_boxAct (b0 : Nat) : Nat → Nat → xK
  | 0, _ => fun _ _ _ => none
  | n + 1, i => match i with
    | 0 => k_X7_boxAct_30 b0 (r_X7_boxAct b0 n)
    | _ => fun _ _ _ => none
def f_X7_boxAct (b0 : Nat) : List xV → xH → xR := xfun 5 7 (k_X7_boxAct_0 b0 (r_X7_boxAct b0 64))
def k_X7_copyAct_0 (b0 : Nat) (k : Nat → xK) : xK := oALd 0 <| oGetR b0 7 11 <| oILd 1 <| oIal b0 <| oCst (-4) <| oC2eq (oCst (1) <| oRetI) <| oALd 0 <| oGetR b0 7 17 <| oILd 1 <| oIal b0 <| oCst (-4) <| oC2ne (oALd 0 <| oGetR b0 7 17 <| oILd 1 <| oIal b0 <| oCst (1) <| oC2ne (oILd 2 <| oC1lt (oCst (2) <| oRetI) <| oILd 2 <| oCst (3) <| oC2gt (oCst (2) <| oRetI) <| oILd 2 <| oALd 0 <| oGetR b0 7 11 <| oILd 1 <| oIal b0 <| oC2le (oCst (0) <| oISt 3 <| k 0) <| oCst (2) <| oRetI) <| oCst (3) <| oRetI) <| oCst (1) <| oRetI
def k_X7_copyAct_59 (b0 : Nat) (k : Nat → xK) : xK := oILd 3 <| oILd 2 <| oC2ge (oCst (0) <| oRetI) <| oALd 0 <| oGetR b0 7 18 <| oCst (3) <| oILd 1 <| oMul <| oILd 3 <| oAdd <| oALd 0 <| oGetR b0 7 12 <| oCst (100) <| oILd 1 <| oMul <| oILd 3 <| oAdd <| oIal b0 <| oIas b0 <| oInc 3 (1) <| k 0
def r_X7_copyAct (b0 : Nat) : Nat → Nat → xK
  | 0, _ => fun _ _ _ => none
  | n + 1, i => match i with
    | 0 => k_X7_copyAct_59 b0 (r_X7_copyAct b0 n)
    | _ => fun _ _ _ => none
def f_X7_copyAct (b0 : Nat) : List xV → xH → xR := xfun 3 4 (k_X7_copyAct_0 b0 (r_X7_copyAct b0 64))
def k_X7_simple_140 (b0 : Nat) : xK := oAdd <| oIas b0 <| oCst (0) <| oRetI
def k_X7_simple_131 (b0 : Nat) : xK := oCst (2) <| oILd 4 <| oMul <| k_X7_simple_140 b0
def k_X7_simple_104 (b0 : Nat) : xK := oALd 0 <| oGetR b0 7 10 <| oILd 1 <| oDup2 <| oIal b0 <| oALd 0 <| oGetR b0 7 1 <| oILd 1 <| oIal b0 <| oCst (1) <| oC2eq (k_X7_simple_131 b0) <| oALd 0 <| oGetR b0 7 1 <| oILd 1 <| oIal b0 <| oCst (4) <| oC2ne (oILd 4 <| k_X7_simple_140 b0) <| k_X7_simple_131 b0
def k_X7_simple_144 (b0 : Nat) : xK := oILd 4 <| oC1ne (oALd 0 <| oGetR b0 7 10 <| oILd 1 <| oALd 0 <| oGetR b0 7 10 <| oILd 1 <| oIal b0 <| oILd 4 <| oDiv <| oIas b0 <| oCst (0) <| oRetI) <| oCst (6) <| oRetI
def k_X7_simple_169 (b0 : Nat) : xK := oALd 0 <| oILd 1 <| oILd 3 <| oILd 4 <| oCallV b0 3 7 (f_X7_rowAct b0) <| oRetI
def k_X7_simple_178 (b0 : Nat) : xK := oALd 0 <| oILd 1 <| oCallV b0 1 7 (f_X7_takeAct b0) <| oRetI
def k_X7_simple_184 (b0 : Nat) : xK := oALd 0 <| oILd 1 <| oILd 4 <| oILd 5 <| oCallV b0 3 7 (f_X7_sendAct b0) <| oRetI
def k_X7_simple_194 (b0 : Nat) : xK := oALd 0 <| oILd 4 <| oC1le (oALd 0 <| oGetI b0 7 36 <| oPutI b0 7 36 <| oCst (0) <| oRetI) <| oILd 4 <| oPutI b0 7 36 <| oCst (0) <| oRetI
def k_X7_simple_214 (b0 : Nat) : xK := oALd 0 <| oILd 1 <| oCallV b0 1 7 (f_X7_mark b0) <| oCst (0) <| oRetI
def k_X7_simple_247 (b0 : Nat) : xK := oALd 0 <| oILd 1 <| oILd 3 <| oILd 4 <| oILd 5 <| oCallV b0 4 7 (f_X7_boxAct b0) <| oRetI
def k_X7_simple_221 (b0 : Nat) : xK := oALd 0 <| oGetR b0 7 10 <| oILd 1 <| oIal b0 <| oILd 4 <| oC2ge (oCst (0) <| oRetI) <| oCst (10) <| oRetI
def k_X7_simple_239 (b0 : Nat) : xK := oALd 0 <| oILd 1 <| oILd 4 <| oCallV b0 2 7 (f_X7_copyAct b0) <| oRetI
def sw_X7_simple_24 (b0 : Nat) : Nat → xK
  | 0 => k_X7_simple_104 b0
  | 1 => k_X7_simple_144 b0
  | 2 => k_X7_simple_169 b0
  | 3 => k_X7_simple_169 b0
  | 4 => k_X7_simple_169 b0
  | 5 => k_X7_simple_178 b0
  | 6 => k_X7_simple_184 b0
  | 7 => k_X7_simple_194 b0
  | 8 => k_X7_simple_214 b0
  | 9 => k_X7_simple_247 b0
  | 10 => k_X7_simple_247 b0
  | 11 => k_X7_simple_247 b0
  | 12 => k_X7_simple_247 b0
  | 13 => k_X7_simple_247 b0
  | 14 => k_X7_simple_221 b0
  | 15 => k_X7_simple_239 b0
  | _ => k_X7_simple_247 b0
def st_X7_simple_24 : Nat → Nat
  | 0 => 104
  | 1 => 144
  | 2 => 169
  | 3 => 169
  | 4 => 169
  | 5 => 178
  | 6 => 184
  | 7 => 194
  | 8 => 214
  | 9 => 247
  | 10 => 247
  | 11 => 247
  | 12 => 247
  | 13 => 247
  | 14 => 221
  | 15 => 239
  | _ => 0
def k_X7_simple_0 (b0 : Nat) : xK := oALd 0 <| oGetR b0 7 6 <| oILd 2 <| oIal b0 <| oISt 3 <| oALd 0 <| oGetR b0 7 7 <| oILd 2 <| oIal b0 <| oISt 4 <| oALd 0 <| oGetR b0 7 8 <| oILd 2 <| oIal b0 <| oISt 5 <| oILd 3 <| oTab 16 (sw_X7_simple_24 b0) (k_X7_simple_247 b0)
def f_X7_simple (b0 : Nat) : List xV → xH → xR := xfun 3 6 (k_X7_simple_0 b0)
def k_X7_guard_0 (b0 : Nat) (k : Nat → xK) : xK := oCst (0) <| oISt 3 <| oALd 0 <| oCst (1) <| oPutZ b0 7 37 <| oCst (0) <| oISt 4 <| k 0
def k_X7_guard_107 (b0 : Nat) (k : Nat → xK) : xK := oALd 0 <| oCst (0) <| oPutZ b0 7 37 <| oALd 0 <| oDup <| oGetI b0 7 34 <| oCst (1) <| oAdd <| oPutI b0 7 34 <| oILd 3 <| oRetI
def k_X7_guard_99 (b0 : Nat) (k : Nat → xK) : xK := oAdd <| oIas b0 <| oInc 4 (1) <| k 0
def k_X7_guard_82 (b0 : Nat) (k : Nat → xK) : xK := oISt 3 <| oALd 0 <| oGetR b0 7 9 <| oILd 1 <| oDup2 <| oIal b0 <| oILd 3 <| oC1ne (oCst (0) <| k_X7_guard_99 b0 k) <| oCst (1) <| k_X7_guard_99 b0 k
def k_X7_guard_10 (b0 : Nat) (k : Nat → xK) : xK := oILd 4 <| oILd 2 <| oC2ge (k_X7_guard_107 b0 k) <| oILd 3 <| oC1ne (k_X7_guard_107 b0 k) <| oALd 0 <| oGetR b0 7 9 <| oILd 1 <| oIal b0 <| oALd 0 <| oGetR b0 7 5 <| oILd 1 <| oIal b0 <| oC2ge (k_X7_guard_107 b0 k) <| oCst (16) <| oILd 1 <| oMul <| oALd 0 <| oGetR b0 7 9 <| oILd 1 <| oIal b0 <| oAdd <| oISt 5 <| oALd 0 <| oDup <| oGetI b0 7 32 <| oCst (1) <| oAdd <| oPutI b0 7 32 <| oALd 0 <| oGetR b0 7 6 <| oILd 5 <| oIal b0 <| oCst (9) <| oC2ne (oALd 0 <| oILd 1 <| oILd 5 <| oCallV b0 2 7 (f_X7_simple b0) <| k_X7_guard_82 b0 k) <| oCst (8) <| k_X7_guard_82 b0 k
def r_X7_guard (b0 : Nat) : Nat → Nat → xK
  | 0, _ => fun _ _ _ => none
  | n + 1, i => match i with
    | 0 => k_X7_guard_10 b0 (r_X7_guard b0 n)
    | _ => fun _ _ _ => none
def f_X7_guard (b0 : Nat) : List xV → xH → xR := xfun 3 6 (k_X7_guard_0 b0 (r_X7_guard b0 64))
def k_X7_fails_68 (b0 : Nat) : xK := oISt 3 <| oALd 0 <| oGetR b0 7 1 <| oILd 1 <| oIal b0 <| oCst (2) <| oC2ge (oALd 0 <| oGetR b0 7 25 <| oILd 1 <| oIal b0 <| oILd 3 <| oC2ge (oALd 0 <| oGetR b0 7 9 <| oILd 1 <| oDup2 <| oIal b0 <| oCst (1) <| oAdd <| oIas b0 <| oRetV) <| oALd 0 <| oGetR b0 7 25 <| oILd 1 <| oDup2 <| oIal b0 <| oCst (1) <| oAdd <| oIas b0 <| oALd 0 <| oILd 1 <| oCallV b0 1 7 (f_X7_back b0) <| oRetV) <| oALd 0 <| oGetR b0 7 4 <| oILd 1 <| oCst (4) <| oIas b0 <| oRetV
def k_X7_fails_0 (b0 : Nat) : xK := oALd 0 <| oGetR b0 7 22 <| oILd 1 <| oDup2 <| oIal b0 <| oCst (1) <| oAdd <| oIas b0 <| oALd 0 <| oDup <| oGetI b0 7 35 <| oCst (1) <| oAdd <| oPutI b0 7 35 <| oALd 0 <| oGetR b0 7 23 <| oILd 1 <| oILd 2 <| oIas b0 <| oALd 0 <| oGetR b0 7 24 <| oILd 1 <| oALd 0 <| oGetR b0 7 9 <| oILd 1 <| oIal b0 <| oIas b0 <| oALd 0 <| oGetR b0 7 1 <| oILd 1 <| oIal b0 <| oCst (3) <| oC2ne (oALd 0 <| oGetR b0 7 1 <| oILd 1 <| oIal b0 <| oCst (4) <| oC2ne (oCst (0) <| k_X7_fails_68 b0) <| oCst (5) <| k_X7_fails_68 b0) <| oCst (3) <| k_X7_fails_68 b0
def f_X7_fails (b0 : Nat) : List xV → xH → xR := xfun 3 4 (k_X7_fails_0 b0)
def k_X7_acts_105 (b0 : Nat) : xK := oILd 3 <| oC1eq (oALd 0 <| oGetI b0 7 36 <| oC1le (oRetV) <| oALd 0 <| oGetR b0 7 4 <| oILd 1 <| oCst (1) <| oIas b0 <| oALd 0 <| oGetR b0 7 21 <| oILd 1 <| oALd 0 <| oGetI b0 7 31 <| oI2L <| oALd 0 <| oGetI b0 7 36 <| oI2L <| oLadd <| oJas b0 <| oRetV) <| oALd 0 <| oILd 1 <| oILd 3 <| oCallV b0 2 7 (f_X7_fails b0) <| oRetV
def k_X7_acts_103 (b0 : Nat) : xK := oAdd <| oIas b0 <| k_X7_acts_105 b0
def k_X7_acts_102 (b0 : Nat) : xK := oCst (0) <| k_X7_acts_103 b0
def k_X7_acts_0 (b0 : Nat) : xK := oCst (16) <| oILd 1 <| oMul <| oALd 0 <| oGetR b0 7 9 <| oILd 1 <| oIal b0 <| oAdd <| oISt 2 <| oALd 0 <| oDup <| oGetI b0 7 32 <| oCst (1) <| oAdd <| oPutI b0 7 32 <| oALd 0 <| oGetR b0 7 26 <| oILd 1 <| oCst (1) <| oZas b0 <| oALd 0 <| oCst (0) <| oPutI b0 7 36 <| oALd 0 <| oGetR b0 7 6 <| oILd 2 <| oIal b0 <| oCst (9) <| oC2ne (oALd 0 <| oILd 1 <| oILd 2 <| oCallV b0 2 7 (f_X7_simple b0) <| oISt 3 <| oALd 0 <| oGetR b0 7 9 <| oILd 1 <| oDup2 <| oIal b0 <| oILd 3 <| oC1ne (k_X7_acts_102 b0) <| oALd 0 <| oGetR b0 7 4 <| oILd 1 <| oIal b0 <| oCst (2) <| oC2eq (k_X7_acts_102 b0) <| oCst (1) <| k_X7_acts_103 b0) <| oALd 0 <| oGetR b0 7 9 <| oILd 1 <| oDup2 <| oIal b0 <| oCst (1) <| oAdd <| oIas b0 <| oALd 0 <| oILd 1 <| oALd 0 <| oGetR b0 7 7 <| oILd 2 <| oIal b0 <| oCallV b0 2 7 (f_X7_guard b0) <| oISt 3 <| k_X7_acts_105 b0
def f_X7_acts (b0 : Nat) : List xV → xH → xR := xfun 2 4 (k_X7_acts_0 b0)
def k_X7_maybeDone_0 (b0 : Nat) : xK := oALd 0 <| oGetR b0 7 4 <| oILd 1 <| oIal b0 <| oCallS 1 (f_X7_isOver b0) <| oC1ne (oRetV) <| oALd 0 <| oGetR b0 7 4 <| oILd 1 <| oIal b0 <| oCst (2) <| oC2eq (oRetV) <| oALd 0 <| oGetR b0 7 9 <| oILd 1 <| oIal b0 <| oALd 0 <| oGetR b0 7 5 <| oILd 1 <| oIal b0 <| oC2lt (oRetV) <| oALd 0 <| oGetR b0 7 4 <| oILd 1 <| oCst (3) <| oIas b0 <| oALd 0 <| oGetR b0 7 28 <| oALd 0 <| oGetI b0 7 29 <| oILd 1 <| oIas b0 <| oALd 0 <| oDup <| oGetI b0 7 29 <| oCst (1) <| oAdd <| oPutI b0 7 29 <| oRetV
def f_X7_maybeDone (b0 : Nat) : List xV → xH → xR := xfun 2 2 (k_X7_maybeDone_0 b0)
def k_X7_pick_0 (b0 : Nat) (k : Nat → xK) : xK := oCst (-1) <| oISt 1 <| oCst (0) <| oISt 2 <| k 0
def k_X7_pick_73 (b0 : Nat) (k : Nat → xK) : xK := oILd 2 <| oISt 1 <| oInc 2 (1) <| k 0
def k_X7_pick_35 (b0 : Nat) (k : Nat → xK) : xK := oISt 3 <| oILd 3 <| oC1eq (oInc 2 (1) <| k 0) <| oILd 1 <| oC1lt (k_X7_pick_73 b0 k) <| oALd 0 <| oGetR b0 7 2 <| oILd 2 <| oIal b0 <| oALd 0 <| oGetR b0 7 3 <| oILd 2 <| oIal b0 <| oAdd <| oALd 0 <| oGetR b0 7 2 <| oILd 1 <| oIal b0 <| oALd 0 <| oGetR b0 7 3 <| oILd 1 <| oIal b0 <| oAdd <| oC2le (oInc 2 (1) <| k 0) <| k_X7_pick_73 b0 k
def k_X7_pick_34 (b0 : Nat) (k : Nat → xK) : xK := oCst (0) <| k_X7_pick_35 b0 k
def k_X7_pick_4 (b0 : Nat) (k : Nat → xK) : xK := oILd 2 <| oALd 0 <| oGetI b0 7 0 <| oC2ge (oILd 1 <| oRetI) <| oALd 0 <| oGetR b0 7 4 <| oILd 2 <| oIal b0 <| oC1ne (k_X7_pick_34 b0 k) <| oALd 0 <| oGetR b0 7 27 <| oILd 2 <| oZal b0 <| oC1ne (k_X7_pick_34 b0 k) <| oCst (1) <| k_X7_pick_35 b0 k
def r_X7_pick (b0 : Nat) : Nat → Nat → xK
  | 0, _ => fun _ _ _ => none
  | n + 1, i => match i with
    | 0 => k_X7_pick_4 b0 (r_X7_pick b0 n)
    | _ => fun _ _ _ => none
def f_X7_pick (b0 : Nat) : List xV → xH → xR := xfun 1 4 (k_X7_pick_0 b0 (r_X7_pick b0 64))
def k_X7_oneTurn_0 (b0 : Nat) (k : Nat → xK) : xK := oCst (0) <| oISt 1 <| k 0
def k_X7_oneTurn_66 (b0 : Nat) (k : Nat → xK) : xK := oISt 2 <| oALd 0 <| oGetR b0 7 4 <| oILd 1 <| oILd 2 <| oC1eq (oALd 0 <| oGetR b0 7 4 <| oILd 1 <| oIal b0 <| oIas b0 <| oInc 1 (1) <| k 0) <| oCst (0) <| oIas b0 <| oInc 1 (1) <| k 0
def k_X7_oneTurn_65 (b0 : Nat) (k : Nat → xK) : xK := oCst (0) <| k_X7_oneTurn_66 b0 k
def k_X7_oneTurn_61 (b0 : Nat) (k : Nat → xK) : xK := oCst (1) <| k_X7_oneTurn_66 b0 k
def k_X7_oneTurn_42 (b0 : Nat) (k : Nat → xK) : xK := oALd 0 <| oGetR b0 7 4 <| oILd 1 <| oIal b0 <| oCst (2) <| oC2ne (k_X7_oneTurn_65 b0 k) <| oALd 0 <| oGetR b0 7 19 <| oILd 1 <| oIal b0 <| oC1le (k_X7_oneTurn_65 b0 k) <| k_X7_oneTurn_61 b0 k
def k_X7_oneTurn_2 (b0 : Nat) (k : Nat → xK) : xK := oILd 1 <| oALd 0 <| oGetI b0 7 0 <| oC2ge (oCst (0) <| oISt 1 <| k 1) <| oALd 0 <| oGetR b0 7 27 <| oILd 1 <| oCst (0) <| oZas b0 <| oALd 0 <| oGetR b0 7 4 <| oILd 1 <| oIal b0 <| oCst (1) <| oC2ne (k_X7_oneTurn_42 b0 k) <| oALd 0 <| oGetR b0 7 21 <| oILd 1 <| oJal b0 <| oALd 0 <| oGetI b0 7 31 <| oI2L <| oLcmp <| oC1lt (k_X7_oneTurn_61 b0 k) <| k_X7_oneTurn_42 b0 k
def k_X7_oneTurn_146 (b0 : Nat) (k : Nat → xK) : xK := oALd 0 <| oILd 2 <| oCallV b0 1 7 (f_X7_maybeDone b0) <| oInc 1 (1) <| k 1
def k_X7_oneTurn_95 (b0 : Nat) (k : Nat → xK) : xK := oILd 1 <| oALd 0 <| oGetI b0 7 30 <| oC2ge (oCst (0) <| oISt 1 <| k 2) <| oALd 0 <| oCallV b0 0 7 (f_X7_pick b0) <| oISt 2 <| oILd 2 <| oC1lt (oInc 1 (1) <| k 1) <| oALd 0 <| oGetR b0 7 27 <| oILd 2 <| oCst (1) <| oZas b0 <| oALd 0 <| oGetR b0 7 3 <| oILd 2 <| oCst (0) <| oIas b0 <| oALd 0 <| oGetR b0 7 9 <| oILd 2 <| oIal b0 <| oALd 0 <| oGetR b0 7 5 <| oILd 2 <| oIal b0 <| oC2ge (k_X7_oneTurn_146 b0 k) <| oALd 0 <| oILd 2 <| oCallV b0 1 7 (f_X7_acts b0) <| k_X7_oneTurn_146 b0 k
def k_X7_oneTurn_197 (b0 : Nat) (k : Nat → xK) : xK := oAdd <| oIas b0 <| oInc 1 (1) <| k 2
def k_X7_oneTurn_196 (b0 : Nat) (k : Nat → xK) : xK := oCst (0) <| k_X7_oneTurn_197 b0 k
def k_X7_oneTurn_159 (b0 : Nat) (k : Nat → xK) : xK := oILd 1 <| oALd 0 <| oGetI b0 7 0 <| oC2ge (oALd 0 <| oDup <| oGetI b0 7 31 <| oCst (1) <| oAdd <| oPutI b0 7 31 <| oRetV) <| oALd 0 <| oGetR b0 7 3 <| oILd 1 <| oDup2 <| oIal b0 <| oALd 0 <| oGetR b0 7 4 <| oILd 1 <| oIal b0 <| oC1ne (k_X7_oneTurn_196 b0 k) <| oALd 0 <| oGetR b0 7 27 <| oILd 1 <| oZal b0 <| oC1ne (k_X7_oneTurn_196 b0 k) <| oCst (1) <| k_X7_oneTurn_197 b0 k
def r_X7_oneTurn (b0 : Nat) : Nat → Nat → xK
  | 0, _ => fun _ _ _ => none
  | n + 1, i => match i with
    | 0 => k_X7_oneTurn_2 b0 (r_X7_oneTurn b0 n)
    | 1 => k_X7_oneTurn_95 b0 (r_X7_oneTurn b0 n)
    | 2 => k_X7_oneTurn_159 b0 (r_X7_oneTurn b0 n)
    | _ => fun _ _ _ => none
def f_X7_oneTurn (b0 : Nat) : List xV → xH → xR := xfun 1 3 (k_X7_oneTurn_0 b0 (r_X7_oneTurn b0 64))
def k_X7_turn_0 (b0 : Nat) (k : Nat → xK) : xK := oILd 1 <| oCst (1) <| oCst (50) <| oCallS 3 (f_X7_in b0) <| oC1ne (oALd 0 <| oGetI b0 7 32 <| oISt 2 <| oCst (1) <| oISt 3 <| oCst (0) <| oISt 4 <| k 0) <| oCst (-1) <| oRetI
def k_X7_turn_63 (b0 : Nat) (k : Nat → xK) : xK := oALd 0 <| oGetI b0 7 32 <| oILd 2 <| oSub <| oRetI
def k_X7_turn_22 (b0 : Nat) (k : Nat → xK) : xK := oILd 4 <| oILd 1 <| oC2ge (k_X7_turn_63 b0 k) <| oILd 3 <| oC1eq (k_X7_turn_63 b0 k) <| oALd 0 <| oGetI b0 7 32 <| oISt 5 <| oALd 0 <| oCallV b0 0 7 (f_X7_oneTurn b0) <| oALd 0 <| oGetI b0 7 32 <| oILd 5 <| oC2le (oCst (0) <| oISt 3 <| oInc 4 (1) <| k 0) <| oCst (1) <| oISt 3 <| oInc 4 (1) <| k 0
def r_X7_turn (b0 : Nat) : Nat → Nat → xK
  | 0, _ => fun _ _ _ => none
  | n + 1, i => match i with
    | 0 => k_X7_turn_22 b0 (r_X7_turn b0 n)
    | _ => fun _ _ _ => none
def f_X7_turn (b0 : Nat) : List xV → xH → xR := xfun 2 6 (k_X7_turn_0 b0 (r_X7_turn b0 64))
def k_X7_letter_0 (b0 : Nat) : xK := oALd 0 <| oILd 1 <| oCallV b0 1 7 (f_X7_isTask b0) <| oC1ne (oALd 0 <| oGetR b0 7 4 <| oILd 1 <| oIal b0 <| oCallS 1 (f_X7_isOver b0) <| oC1eq (oALd 0 <| oGetR b0 7 19 <| oILd 1 <| oIal b0 <| oCst (6) <| oC2ne (oALd 0 <| oGetR b0 7 20 <| oCst (6) <| oILd 1 <| oMul <| oALd 0 <| oGetR b0 7 19 <| oILd 1 <| oIal b0 <| oAdd <| oILd 2 <| oIas b0 <| oALd 0 <| oGetR b0 7 19 <| oILd 1 <| oDup2 <| oIal b0 <| oCst (1) <| oAdd <| oIas b0 <| oALd 0 <| oGetR b0 7 19 <| oILd 1 <| oIal b0 <| oRetI) <| oCst (-3) <| oRetI) <| oCst (-2) <| oRetI) <| oCst (-1) <| oRetI
def f_X7_letter (b0 : Nat) : List xV → xH → xR := xfun 3 3 (k_X7_letter_0 b0)
def k_X7_stop_0 (b0 : Nat) : xK := oALd 0 <| oILd 1 <| oCallV b0 1 7 (f_X7_isTask b0) <| oC1ne (oALd 0 <| oGetR b0 7 4 <| oILd 1 <| oIal b0 <| oCallS 1 (f_X7_isOver b0) <| oC1eq (oALd 0 <| oGetR b0 7 4 <| oILd 1 <| oCst (5) <| oIas b0 <| oCst (1) <| oRetI) <| oCst (-2) <| oRetI) <| oCst (-1) <| oRetI
def f_X7_stop (b0 : Nat) : List xV → xH → xR := xfun 2 2 (k_X7_stop_0 b0)
def k_X7_again_33 (b0 : Nat) : xK := oALd 0 <| oGetR b0 7 4 <| oILd 1 <| oCst (0) <| oIas b0 <| oALd 0 <| oILd 1 <| oCallV b0 1 7 (f_X7_back b0) <| oCst (1) <| oRetI
def k_X7_again_0 (b0 : Nat) : xK := oALd 0 <| oILd 1 <| oCallV b0 1 7 (f_X7_isTask b0) <| oC1ne (oALd 0 <| oGetR b0 7 4 <| oILd 1 <| oIal b0 <| oCst (4) <| oC2eq (k_X7_again_33 b0) <| oALd 0 <| oGetR b0 7 4 <| oILd 1 <| oIal b0 <| oCst (5) <| oC2eq (k_X7_again_33 b0) <| oCst (-2) <| oRetI) <| oCst (-1) <| oRetI
def f_X7_again (b0 : Nat) : List xV → xH → xR := xfun 2 2 (k_X7_again_0 b0)
def k_X7_of_68 (b0 : Nat) : xK := oALd 0 <| oGetR b0 7 4 <| oILd 1 <| oIal b0 <| oRetI
def k_X7_of_75 (b0 : Nat) : xK := oALd 0 <| oGetR b0 7 10 <| oILd 1 <| oIal b0 <| oRetI
def k_X7_of_82 (b0 : Nat) : xK := oALd 0 <| oGetR b0 7 9 <| oILd 1 <| oIal b0 <| oRetI
def k_X7_of_89 (b0 : Nat) : xK := oALd 0 <| oGetR b0 7 19 <| oILd 1 <| oIal b0 <| oRetI
def k_X7_of_96 (b0 : Nat) : xK := oALd 0 <| oGetR b0 7 3 <| oILd 1 <| oIal b0 <| oRetI
def k_X7_of_103 (b0 : Nat) : xK := oALd 0 <| oGetR b0 7 22 <| oILd 1 <| oIal b0 <| oRetI
def k_X7_of_110 (b0 : Nat) : xK := oALd 0 <| oGetR b0 7 23 <| oILd 1 <| oIal b0 <| oRetI
def k_X7_of_117 (b0 : Nat) : xK := oALd 0 <| oGetR b0 7 11 <| oILd 1 <| oIal b0 <| oRetI
def k_X7_of_124 (b0 : Nat) : xK := oALd 0 <| oGetR b0 7 17 <| oILd 1 <| oIal b0 <| oRetI
def k_X7_of_131 (b0 : Nat) : xK := oALd 0 <| oGetR b0 7 25 <| oILd 1 <| oIal b0 <| oRetI
def k_X7_of_138 (b0 : Nat) : xK := oALd 0 <| oGetR b0 7 24 <| oILd 1 <| oIal b0 <| oRetI
def k_X7_of_145 (b0 : Nat) : xK := oCst (-1) <| oRetI
def sw_X7_of_11 (b0 : Nat) : Nat → xK
  | 0 => k_X7_of_68 b0
  | 1 => k_X7_of_75 b0
  | 2 => k_X7_of_82 b0
  | 3 => k_X7_of_89 b0
  | 4 => k_X7_of_96 b0
  | 5 => k_X7_of_103 b0
  | 6 => k_X7_of_110 b0
  | 7 => k_X7_of_117 b0
  | 8 => k_X7_of_124 b0
  | 9 => k_X7_of_131 b0
  | 10 => k_X7_of_138 b0
  | _ => k_X7_of_145 b0
def st_X7_of_11 : Nat → Nat
  | 0 => 68
  | 1 => 75
  | 2 => 82
  | 3 => 89
  | 4 => 96
  | 5 => 103
  | 6 => 110
  | 7 => 117
  | 8 => 124
  | 9 => 131
  | 10 => 138
  | _ => 0
def k_X7_of_0 (b0 : Nat) : xK := oALd 0 <| oILd 1 <| oCallV b0 1 7 (f_X7_isTask b0) <| oC1ne (oILd 2 <| oTab 11 (sw_X7_of_11 b0) (k_X7_of_145 b0)) <| oCst (-1) <| oRetI
def f_X7_of (b0 : Nat) : List xV → xH → xR := xfun 3 3 (k_X7_of_0 b0)
def k_X7_at_0 (b0 : Nat) : xK := oALd 0 <| oILd 1 <| oCallV b0 1 7 (f_X7_isTask b0) <| oC1ne (oILd 2 <| oC1eq (oILd 3 <| oCst (0) <| oALd 0 <| oGetR b0 7 11 <| oILd 1 <| oIal b0 <| oCst (1) <| oSub <| oCallS 3 (f_X7_in b0) <| oC1eq (oCst (-1) <| oRetI) <| oALd 0 <| oGetR b0 7 12 <| oCst (100) <| oILd 1 <| oMul <| oILd 3 <| oAdd <| oIal b0 <| oRetI) <| oALd 0 <| oGetR b0 7 17 <| oILd 1 <| oIal b0 <| oCst (-4) <| oC2eq (oCst (-1) <| oRetI) <| oILd 3 <| oCst (0) <| oCst (2) <| oCallS 3 (f_X7_in b0) <| oC1ne (oALd 0 <| oGetR b0 7 18 <| oCst (3) <| oILd 1 <| oMul <| oILd 3 <| oAdd <| oIal b0 <| oRetI) <| oCst (-1) <| oRetI) <| oCst (-1) <| oRetI
def f_X7_at (b0 : Nat) : List xV → xH → xR := xfun 4 4 (k_X7_at_0 b0)
def k_X7_letterAt_0 (b0 : Nat) : xK := oALd 0 <| oILd 1 <| oCallV b0 1 7 (f_X7_isTask b0) <| oC1eq (oCst (-1) <| oRetI) <| oILd 2 <| oCst (0) <| oALd 0 <| oGetR b0 7 19 <| oILd 1 <| oIal b0 <| oCst (1) <| oSub <| oCallS 3 (f_X7_in b0) <| oC1eq (oCst (-1) <| oRetI) <| oALd 0 <| oGetR b0 7 20 <| oCst (6) <| oILd 1 <| oMul <| oILd 2 <| oAdd <| oIal b0 <| oRetI
def f_X7_letterAt (b0 : Nat) : List xV → xH → xR := xfun 3 3 (k_X7_letterAt_0 b0)
def k_X7_count_0 (b0 : Nat) (k : Nat → xK) : xK := oCst (0) <| oISt 2 <| oCst (0) <| oISt 3 <| k 0
def k_X7_count_80 (b0 : Nat) (k : Nat → xK) : xK := oALd 0 <| oGetI b0 7 0 <| oRetI
def k_X7_count_85 (b0 : Nat) (k : Nat → xK) : xK := oALd 0 <| oGetI b0 7 31 <| oRetI
def k_X7_count_90 (b0 : Nat) (k : Nat → xK) : xK := oALd 0 <| oGetI b0 7 32 <| oRetI
def k_X7_count_95 (b0 : Nat) (k : Nat → xK) : xK := oALd 0 <| oGetI b0 7 33 <| oRetI
def k_X7_count_100 (b0 : Nat) (k : Nat → xK) : xK := oALd 0 <| oGetI b0 7 34 <| oRetI
def k_X7_count_105 (b0 : Nat) (k : Nat → xK) : xK := oALd 0 <| oGetI b0 7 35 <| oRetI
def k_X7_count_110 (b0 : Nat) (k : Nat → xK) : xK := oILd 2 <| oRetI
def k_X7_count_112 (b0 : Nat) (k : Nat → xK) : xK := oCst (-1) <| oRetI
def k_X7_count_30 (b0 : Nat) (k : Nat → xK) : xK := oAdd <| oISt 2 <| oInc 3 (1) <| k 0
def sw_X7_count_39 (b0 : Nat) (k : Nat → xK) : Nat → xK
  | 0 => k_X7_count_80 b0 k
  | 1 => k_X7_count_85 b0 k
  | 2 => k_X7_count_90 b0 k
  | 3 => k_X7_count_95 b0 k
  | 4 => k_X7_count_100 b0 k
  | 5 => k_X7_count_105 b0 k
  | 6 => k_X7_count_110 b0 k
  | _ => k_X7_count_112 b0 k
def st_X7_count_39 : Nat → Nat
  | 0 => 80
  | 1 => 85
  | 2 => 90
  | 3 => 95
  | 4 => 100
  | 5 => 105
  | 6 => 110
  | _ => 0
def k_X7_count_4 (b0 : Nat) (k : Nat → xK) : xK := oILd 3 <| oALd 0 <| oGetI b0 7 0 <| oC2ge (oILd 1 <| oTab 7 (sw_X7_count_39 b0 k) (k_X7_count_112 b0 k)) <| oILd 2 <| oALd 0 <| oGetR b0 7 4 <| oILd 3 <| oIal b0 <| oCallS 1 (f_X7_isOver b0) <| oC1eq (oCst (1) <| k_X7_count_30 b0 k) <| oCst (0) <| k_X7_count_30 b0 k
def r_X7_count (b0 : Nat) : Nat → Nat → xK
  | 0, _ => fun _ _ _ => none
  | n + 1, i => match i with
    | 0 => k_X7_count_4 b0 (r_X7_count b0 n)
    | _ => fun _ _ _ => none
def f_X7_count (b0 : Nat) : List xV → xH → xR := xfun 2 4 (k_X7_count_0 b0 (r_X7_count b0 64))
def k_X7_done_0 (b0 : Nat) : xK := oILd 1 <| oCst (0) <| oALd 0 <| oGetI b0 7 29 <| oCst (1) <| oSub <| oCallS 3 (f_X7_in b0) <| oC1eq (oCst (-4) <| oRetI) <| oALd 0 <| oGetR b0 7 28 <| oILd 1 <| oIal b0 <| oRetI
def f_X7_done (b0 : Nat) : List xV → xH → xR := xfun 2 2 (k_X7_done_0 b0)
