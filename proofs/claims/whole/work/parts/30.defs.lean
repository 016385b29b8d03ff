/-! ===== the methods as functions ===== -/
def b_A_init_0 : Kt Mw := (o_aload 0 (c_obj (o_aload 0 (o_const 0 (c_puti 0 0 (o_aload 0 (o_const 0 (c_puti 0 1 (o_aload 0 (o_const 24 (c_newi (c_putr 0 2 (o_aload 0 (o_const 24 (c_newi (c_putr 0 3 (o_aload 0 (o_const 24 (c_newi (c_putr 0 4 (o_aload 0 (o_const 120 (c_newi (c_putr 0 5 (o_aload 0 (o_const 144 (c_newi (c_putr 0 6 o_ret))))))))))))))))))))))))))))
def r_A_init (as : List Value) (M : Mw) : Option (Value × Mw) := match as with
  | [.ref a] => b_A_init_0 [.ref a] [] M
  | _ => none
def b_A_keep_0 : Kt Mi := (o_aload 0 (o_getr 0 1 (o_aload 0 (o_geti 0 1 (o_aload 1 (o_geti 5 2 (o_iast (o_aload 0 (o_getr 0 2 (o_aload 0 (o_geti 0 1 (o_aload 1 (o_geti 5 3 (o_iast (o_aload 0 (o_getr 0 3 (o_aload 0 (o_geti 0 1 (o_aload 1 (o_geti 5 4 (o_iast (o_aload 1 (o_getr 5 7 (o_const 0 (o_aload 0 (o_getr 0 4 (o_aload 0 (o_geti 0 1 (o_const 5 (o_mul (o_const 5 (o_copy (o_aload 1 (o_getr 5 3 (o_const 0 (o_aload 0 (o_getr 0 5 (o_aload 0 (o_geti 0 1 (o_const 6 (o_mul (o_const 6 (o_copy (o_aload 0 (o_aload 0 (o_geti 0 1 (o_const 1 (o_add (o_const 24 (o_irem (o_puti 0 1 (o_aload 0 (o_const 24 (o_aload 0 (o_geti 0 0 (o_const 1 (o_add (o_min (o_puti 0 0 o_ret)))))))))))))))))))))))))))))))))))))))))))))))))))))))))))
def r_A_keep (as : List Value) (M : Mi) : Option (Value × Mi) := match as with
  | [.ref a, .ref a0] => b_A_keep_0 [.ref a, .ref a0] [] M
  | _ => none
def b_A_takeBack_0 : Kt Mi := (o_aload 0 (o_geti 0 0 (o_ifeq
      o_ret
      (o_aload 0 (o_dup (o_geti 0 0 (o_const 1 (o_sub (o_puti 0 0 (o_aload 0 (o_aload 0 (o_geti 0 1 (o_const 24 (o_add (o_const 1 (o_sub (o_const 24 (o_irem (o_puti 0 1 (o_aload 1 (o_aload 0 (o_getr 0 1 (o_aload 0 (o_geti 0 1 (o_iald (o_puti 5 2 (o_aload 1 (o_aload 0 (o_getr 0 2 (o_aload 0 (o_geti 0 1 (o_iald (o_puti 5 3 (o_aload 1 (o_aload 0 (o_getr 0 3 (o_aload 0 (o_geti 0 1 (o_iald (o_puti 5 4 (o_aload 0 (o_getr 0 4 (o_aload 0 (o_geti 0 1 (o_const 5 (o_mul (o_aload 1 (o_getr 5 7 (o_const 0 (o_const 5 (o_copy (o_aload 0 (o_getr 0 5 (o_aload 0 (o_geti 0 1 (o_const 6 (o_mul (o_aload 1 (o_getr 5 3 (o_const 0 (o_const 6 (o_copy o_ret))))))))))))))))))))))))))))))))))))))))))))))))))))))))))))))
def r_A_takeBack (as : List Value) (M : Mi) : Option (Value × Mi) := match as with
  | [.ref a, .ref a0] => b_A_takeBack_0 [.ref a, .ref a0] [] M
  | _ => none
def b_A_forget_0 : Kt Mi := (o_aload 0 (o_const 0 (o_puti 0 0 o_ret)))
def r_A_forget (as : List Value) (M : Mi) : Option (Value × Mi) := match as with
  | [.ref a] => b_A_forget_0 [.ref a] [] M
  | _ => none
def b_Q_init_0 : Kt Mw := (o_aload 0 (c_obj (o_aload 0 (o_const 16 (c_newi (c_putr 1 0 (o_aload 0 (o_const 0 (c_puti 1 1 (o_aload 0 (o_const 0 (c_puti 1 2 (o_aload 0 (o_const 0 (c_puti 1 3 (o_aload 0 (o_const 0 (c_puti 1 4 (o_aload 0 (o_const 0 (c_puti 1 5 o_ret)))))))))))))))))))))
def r_Q_init (as : List Value) (M : Mw) : Option (Value × Mw) := match as with
  | [.ref a] => b_Q_init_0 [.ref a] [] M
  | _ => none
def b_Q_bodyFor_49 : Kt Mi := (o_aload 2 (o_iload 3 (o_sald o_iret)))
def b_Q_bodyFor_22 : Nat → Kt Mi
  | 0 => fun _ _ _ => none
  | n + 1 => (o_iload 4 (o_gets 0 (o_salen (o_cge
      (b_Q_bodyFor_49)
      (o_aload 2 (o_iload 3 (o_sald (o_ifeq
      (o_gets 0 (o_iload 3 (o_sald (o_istore 3 (o_iinc 4 1 (b_Q_bodyFor_22 n))))))
      (b_Q_bodyFor_49)))))))))
def b_Q_bodyFor_13 : Kt Mi := (o_astore 2 (o_aload 0 (o_geti 1 3 (o_istore 3 (o_const 0 (o_istore 4 (b_Q_bodyFor_22 k_fu)))))))
def b_Q_bodyFor_0 : Kt Mi := (o_iload 1 (o_ifeq
      (o_gets 1 (b_Q_bodyFor_13))
      (o_gets 2 (b_Q_bodyFor_13))))
def r_Q_bodyFor (as : List Value) (M : Mi) : Option (Value × Mi) := match as with
  | [.ref a, .int a0] => b_Q_bodyFor_0 [.ref a, .int a0, .null, .null, .null] [] M
  | _ => none
def b_Q_answer_0 (rg : List Value → Mi → Option (Value × Mi)) : Kt Mi := (o_aload 0 (o_aload 0 (o_iload 1 (o_callV 1 2 r_Q_bodyFor true (o_iload 2 (o_const 1 (o_add (o_callV 1 3 rg true o_iret))))))))
def r_Q_answer (rg : List Value → Mi → Option (Value × Mi)) (as : List Value) (M : Mi) : Option (Value × Mi) := match as with
  | [.ref a, .int a0, .int a1] => b_Q_answer_0 rg [.ref a, .int a0, .int a1] [] M
  | _ => none
def b_Q_give_237 (rg : List Value → Mi → Option (Value × Mi)) : Kt Mi := (o_const 0 o_iret)
def b_Q_give_37 (rg : List Value → Mi → Option (Value × Mi)) : Kt Mi := (o_iload 1 (o_sw [(10, (o_aload 0 (o_geti 1 4 o_iret))),
      (11, (o_aload 0 (o_const 10 (o_iload 2 (o_const 1 (o_add (o_callV 1 3 rg true (o_aload 0 (o_const 1 (o_iload 2 (o_const 1 (o_add (o_callV 1 3 (r_Q_answer rg) true (o_add o_iret)))))))))))))),
      (12, (o_aload 0 (o_const 11 (o_iload 2 (o_const 1 (o_add (o_callV 1 3 rg true (o_neg o_iret)))))))),
      (13, (o_aload 0 (o_const 10 (o_iload 2 (o_const 1 (o_add (o_callV 1 3 rg true (o_const 100 (o_sub o_iret))))))))),
      (14, (o_const 2 (o_aload 0 (o_const 13 (o_iload 2 (o_const 1 (o_add (o_callV 1 3 rg true (o_mul o_iret))))))))),
      (15, (b_Q_give_237 rg)),
      (16, (b_Q_give_237 rg)),
      (17, (b_Q_give_237 rg)),
      (18, (b_Q_give_237 rg)),
      (19, (b_Q_give_237 rg)),
      (20, (o_aload 0 (o_geti 1 2 o_iret))),
      (21, (o_aload 0 (o_const 20 (o_iload 2 (o_const 1 (o_add (o_callV 1 3 rg true (o_aload 0 (o_geti 1 5 (o_add o_iret)))))))))),
      (22, (o_aload 0 (o_const 21 (o_iload 2 (o_const 1 (o_add (o_callV 1 3 rg true (o_const 1000 (o_sub o_iret))))))))),
      (23, (o_aload 0 (o_const 20 (o_iload 2 (o_const 1 (o_add (o_callV 1 3 rg true (o_aload 0 (o_const 0 (o_iload 2 (o_const 1 (o_add (o_callV 1 3 (r_Q_answer rg) true (o_sub o_iret)))))))))))))),
      (24, (o_const 2 (o_aload 0 (o_const 21 (o_iload 2 (o_const 1 (o_add (o_callV 1 3 rg true (o_mul o_iret)))))))))] (b_Q_give_237 rg)))
def b_Q_give_0 (rg : List Value → Mi → Option (Value × Mi)) : Kt Mi := (o_iload 2 (o_const 12 (o_cle
      (o_aload 0 (o_geti 1 1 (o_aload 0 (o_getr 1 1 (o_alen (o_cge
      (b_Q_give_37 rg)
      (o_aload 0 (o_getr 1 1 (o_aload 0 (o_dup (o_geti 1 1 (o_dup_x1 (o_const 1 (o_add (o_puti 1 1 (o_iload 1 (o_iast (b_Q_give_37 rg))))))))))))))))))
      (o_const 0 o_iret))))
def r_Q_give : Nat → List Value → Mi → Option (Value × Mi)
  | 0 => fun _ _ => none
  | n + 1 => fun as M => match as with
    | [.ref a, .int a0, .int a1] => b_Q_give_0 (r_Q_give n) [.ref a, .int a0, .int a1] [] M
    | _ => none
def b_Q_begin_0 : Kt Mi := (o_aload 0 (o_const 0 (o_puti 1 1 (o_aload 0 (o_iload 2 (o_puti 1 2 (o_aload 0 (o_aload 1 (o_getr 5 4 (o_iload 2 (o_iald (o_puti 1 3 (o_aload 0 (o_aload 1 (o_getr 5 5 (o_iload 2 (o_iald (o_puti 1 4 (o_aload 0 (o_aload 1 (o_getr 5 7 (o_iload 2 (o_iald (o_puti 1 5 (o_aload 0 (o_iload 3 (o_const 0 (o_callV 1 3 (r_Q_answer (r_Q_give 20)) true o_iret))))))))))))))))))))))))))))
def r_Q_begin (as : List Value) (M : Mi) : Option (Value × Mi) := match as with
  | [.ref a, .ref a0, .int a1, .int a2] => b_Q_begin_0 [.ref a, .ref a0, .int a1, .int a2] [] M
  | _ => none
def b_S_init_0 : Kt Mw := (o_aload 0 (c_obj (o_aload 0 (o_const 0 (c_puti 5 0 (o_aload 0 (o_const 0 (c_puti 5 1 (o_aload 0 (o_const 0 (c_puti 5 2 (o_aload 0 (o_const 0 (c_puti 5 3 (o_aload 0 (o_const 0 (c_puti 5 4 (o_aload 0 (o_const 6 (c_newi (c_putr 5 5 (o_aload 0 (o_const 6 (c_newi (c_putr 5 6 (o_aload 0 (o_const 6 (c_newi (c_putr 5 7 (o_aload 0 (o_const 5 (c_newi (c_putr 5 8 (o_aload 0 (o_const 5 (c_newi (c_putr 5 9 (o_aload 0 (o_const 5 (c_newi (c_putr 5 10 (o_aload 0 (o_const 5 (c_newi (c_putr 5 11 o_ret)))))))))))))))))))))))))))))))))))))))))))))
def r_S_init (as : List Value) (M : Mw) : Option (Value × Mw) := match as with
  | [.ref a] => b_S_init_0 [.ref a] [] M
  | _ => none
def b_F_init_0 : Kt Mw := (o_aload 0 (c_obj (o_aload 0 (c_new 5 (o_dup (o_callI r_S_init (c_putr 2 0 (o_aload 0 (o_const 6 (c_newi (c_putr 2 1 o_ret)))))))))))
def r_F_init (as : List Value) (M : Mw) : Option (Value × Mw) := match as with
  | [.ref a] => b_F_init_0 [.ref a] [] M
  | _ => none
def b_S_goBackTo_0 : Kt Mi := (o_aload 0 (o_aload 1 (o_geti 5 2 (o_puti 5 2 (o_aload 0 (o_aload 1 (o_geti 5 4 (o_puti 5 4 (o_aload 1 (o_getr 5 7 (o_const 0 (o_aload 0 (o_getr 5 7 (o_const 0 (o_const 5 (o_copy o_ret))))))))))))))))
def r_S_goBackTo (as : List Value) (M : Mi) : Option (Value × Mi) := match as with
  | [.ref a, .ref a0] => b_S_goBackTo_0 [.ref a, .ref a0] [] M
  | _ => none
def b_S_become_0 : Kt Mi := (o_aload 0 (o_aload 1 (o_geti 5 0 (o_puti 5 0 (o_aload 0 (o_aload 1 (o_geti 5 1 (o_puti 5 1 (o_aload 0 (o_aload 1 (o_geti 5 3 (o_puti 5 3 (o_aload 1 (o_getr 5 1 (o_const 0 (o_aload 0 (o_getr 5 1 (o_const 0 (o_const 6 (o_copy (o_aload 1 (o_getr 5 2 (o_const 0 (o_aload 0 (o_getr 5 2 (o_const 0 (o_const 6 (o_copy (o_aload 1 (o_getr 5 3 (o_const 0 (o_aload 0 (o_getr 5 3 (o_const 0 (o_const 6 (o_copy (o_aload 1 (o_getr 5 4 (o_const 0 (o_aload 0 (o_getr 5 4 (o_const 0 (o_const 5 (o_copy (o_aload 1 (o_getr 5 5 (o_const 0 (o_aload 0 (o_getr 5 5 (o_const 0 (o_const 5 (o_copy (o_aload 1 (o_getr 5 6 (o_const 0 (o_aload 0 (o_getr 5 6 (o_const 0 (o_const 5 (o_copy (o_aload 0 (o_aload 1 (o_callV 5 2 r_S_goBackTo false o_ret)))))))))))))))))))))))))))))))))))))))))))))))))))))))))))))))
def r_S_become (as : List Value) (M : Mi) : Option (Value × Mi) := match as with
  | [.ref a, .ref a0] => b_S_become_0 [.ref a, .ref a0] [] M
  | _ => none
def b_F_begin_0 : Kt Mi := (o_aload 0 (o_getr 2 1 (o_aload 1 (o_callV 5 2 r_S_become false o_ret))))
def r_F_begin (as : List Value) (M : Mi) : Option (Value × Mi) := match as with
  | [.ref a, .ref a0] => b_F_begin_0 [.ref a, .ref a0] [] M
  | _ => none
def b_S_countMore_0 : Kt Mi := (o_aload 0 (o_getr 5 7 (o_iload 1 (o_const 99 (o_aload 0 (o_getr 5 7 (o_iload 1 (o_iald (o_iload 2 (o_add (o_min (o_iast o_ret))))))))))))
def r_S_countMore (as : List Value) (M : Mi) : Option (Value × Mi) := match as with
  | [.ref a, .int a0, .int a1] => b_S_countMore_0 [.ref a, .int a0, .int a1] [] M
  | _ => none
def b_S_startAnew_0 : Kt Mi := (o_aload 0 (o_getr 5 7 (o_iload 1 (o_const 0 (o_iast o_ret)))))
def r_S_startAnew (as : List Value) (M : Mi) : Option (Value × Mi) := match as with
  | [.ref a, .int a0] => b_S_startAnew_0 [.ref a, .int a0] [] M
  | _ => none
def b_S_wake_0 : Kt Mi := (o_aload 0 (o_dup (o_geti 5 4 (o_const 1 (o_iload 1 (o_shl (o_const (-1) (o_xor (o_and (o_puti 5 4 o_ret))))))))))
def r_S_wake (as : List Value) (M : Mi) : Option (Value × Mi) := match as with
  | [.ref a, .int a0] => b_S_wake_0 [.ref a, .int a0] [] M
  | _ => none
def b_S_hear_144 : Kt Mi := o_ret
def b_S_hear_72 : Kt Mi := (o_callV 5 3 r_S_countMore false (b_S_hear_144))
def b_S_hear_22 : Kt Mi := (o_istore 4 (o_aload 0 (o_getr 5 4 (o_iload 1 (o_iald (o_sw [(2, (o_aload 0 (o_iload 1 (o_iload 4 (o_ifeq
      (o_const 1 (b_S_hear_72))
      (o_const 2 (b_S_hear_72))))))),
      (3, (o_iload 3 (o_ifeq
      (o_aload 0 (o_iload 1 (o_const 1 (o_callV 5 3 r_S_countMore false (b_S_hear_144)))))
      (b_S_hear_144)))),
      (4, (o_iload 3 (o_ifeq
      (o_aload 0 (o_iload 1 (o_const 1 (o_callV 5 3 r_S_countMore false (b_S_hear_144)))))
      (o_aload 0 (o_iload 1 (o_callV 5 2 r_S_startAnew false (b_S_hear_144))))))),
      (5, (o_iload 3 (o_ifeq
      (o_aload 0 (o_iload 1 (o_const 1 (o_callV 5 3 r_S_countMore false (b_S_hear_144)))))
      (o_aload 0 (o_iload 1 (o_callV 5 2 r_S_startAnew false (o_aload 0 (o_iload 1 (o_callV 5 2 r_S_wake false (b_S_hear_144))))))))))] (o_aload 0 (o_iload 1 (o_const 1 (o_callV 5 3 r_S_countMore false (b_S_hear_144)))))))))))
def b_S_hear_10 : Kt Mi := (o_istore 3 (o_iload 2 (o_const 1 (o_and (o_ifeq
      (o_const 1 (b_S_hear_22))
      (o_const 0 (b_S_hear_22)))))))
def b_S_hear_0 : Kt Mi := (o_iload 2 (o_const 2 (o_clt
      (o_const 0 (b_S_hear_10))
      (o_const 1 (b_S_hear_10)))))
def r_S_hear (as : List Value) (M : Mi) : Option (Value × Mi) := match as with
  | [.ref a, .int a0, .int a1] => b_S_hear_0 [.ref a, .int a0, .int a1, .null, .null] [] M
  | _ => none
def b_S_hears_27 : Kt Mi := o_zret
def b_S_hears_22 : Kt Mi := (o_const 1 (b_S_hears_27))
def b_S_hears_0 : Kt Mi := (o_aload 0 (o_getr 5 6 (o_iload 1 (o_iald (o_ifeq
      (b_S_hears_22)
      (o_aload 0 (o_getr 5 1 (o_iload 2 (o_iald (o_aload 0 (o_geti 5 3 (o_cle
      (o_const 0 (b_S_hears_27))
      (b_S_hears_22)))))))))))))
def r_S_hears (as : List Value) (M : Mi) : Option (Value × Mi) := match as with
  | [.ref a, .int a0, .int a1] => b_S_hears_0 [.ref a, .int a0, .int a1] [] M
  | _ => none
def b_S_goOn_102 (k36 : Kt Mi) : Kt Mi := (o_iinc 3 1 k36)
def b_S_goOn_75 (k36 : Kt Mi) : Kt Mi := (o_aload 0 (o_getr 5 7 (o_iload 3 (o_iald (o_aload 0 (o_getr 5 5 (o_iload 3 (o_iald (o_clt
      (b_S_goOn_102 k36)
      (o_aload 0 (o_dup (o_geti 5 4 (o_const 1 (o_iload 3 (o_shl (o_or (o_puti 5 4 (b_S_goOn_102 k36))))))))))))))))))
def b_S_goOn_36 : Nat → Kt Mi
  | 0 => fun _ _ _ => none
  | n + 1 => (o_iload 3 (o_aload 0 (o_geti 5 1 (o_cge
      o_ret
      (o_iload 1 (o_iload 3 (o_shr (o_const 1 (o_and (o_ifeq
      (b_S_goOn_102 (b_S_goOn_36 n))
      (o_aload 0 (o_iload 3 (o_iload 2 (o_callV 5 3 r_S_hears true (o_ifeq
      (b_S_goOn_75 (b_S_goOn_36 n))
      (o_aload 0 (o_iload 3 (o_aload 0 (o_getr 5 2 (o_iload 2 (o_iald (o_callV 5 3 r_S_hear false (b_S_goOn_75 (b_S_goOn_36 n))))))))))))))))))))))))
def b_S_goOn_0 : Kt Mi := (o_aload 0 (o_geti 5 0 (o_const 1 (o_cge
      (o_aload 0 (o_getr 5 3 (o_aload 0 (o_geti 5 2 (o_aload 0 (o_geti 5 0 (o_irem (o_iald (o_istore 2 (o_aload 0 (o_dup (o_geti 5 2 (o_const 1 (o_add (o_puti 5 2 (o_const 0 (o_istore 3 (b_S_goOn_36 k_fu))))))))))))))))))
      o_ret))))
def r_S_goOn (as : List Value) (M : Mi) : Option (Value × Mi) := match as with
  | [.ref a, .int a0] => b_S_goOn_0 [.ref a, .int a0, .null, .null] [] M
  | _ => none
def b_F_goFar_2 : Nat → Kt Mi
  | 0 => fun _ _ _ => none
  | n + 1 => (o_iload 3 (o_iload 1 (o_cge
      o_ret
      (o_aload 0 (o_getr 2 1 (o_iload 2 (o_callV 5 2 r_S_goOn false (o_iinc 3 1 (b_F_goFar_2 n)))))))))
def b_F_goFar_0 : Kt Mi := (o_const 0 (o_istore 3 (b_F_goFar_2 k_fu)))
def r_F_goFar (as : List Value) (M : Mi) : Option (Value × Mi) := match as with
  | [.ref a, .int a0, .int a1] => b_F_goFar_0 [.ref a, .int a0, .int a1, .null] [] M
  | _ => none
def b_S_isOff_16 : Kt Mi := o_zret
def b_S_isOff_0 : Kt Mi := (o_aload 0 (o_geti 5 4 (o_iload 1 (o_shr (o_const 1 (o_and (o_ifeq
      (o_const 0 (b_S_isOff_16))
      (o_const 1 (b_S_isOff_16)))))))))
def r_S_isOff (as : List Value) (M : Mi) : Option (Value × Mi) := match as with
  | [.ref a, .int a0] => b_S_isOff_0 [.ref a, .int a0] [] M
  | _ => none
def b_S_whatMatters_78 (k5 : Kt Mi) : Kt Mi := (o_iinc 4 1 k5)
def b_S_whatMatters_69 (k5 : Kt Mi) : Kt Mi := (o_lload 2 (o_const 8 (o_lshl (o_iload 5 (o_i2l (o_lor (o_lstore 2 (b_S_whatMatters_78 k5))))))))
def b_S_whatMatters_67 (k5 : Kt Mi) : Kt Mi := (o_istore 5 (b_S_whatMatters_69 k5))
def b_S_whatMatters_5 : Nat → Kt Mi
  | 0 => fun _ _ _ => none
  | n + 1 => (o_iload 4 (o_aload 0 (o_geti 5 1 (o_cge
      (o_lload 2 o_lret)
      (o_iload 1 (o_iload 4 (o_shr (o_const 1 (o_and (o_ifeq
      (b_S_whatMatters_78 (b_S_whatMatters_5 n))
      (o_aload 0 (o_getr 5 7 (o_iload 4 (o_iald (o_istore 5 (o_aload 0 (o_iload 4 (o_callV 5 2 r_S_isOff true (o_ifeq
      (b_S_whatMatters_69 (b_S_whatMatters_5 n))
      (o_aload 0 (o_getr 5 4 (o_iload 4 (o_iald (o_const 5 (o_ceq
      (o_iload 5 (o_const 128 (o_add (b_S_whatMatters_67 (b_S_whatMatters_5 n)))))
      (o_const 255 (b_S_whatMatters_67 (b_S_whatMatters_5 n))))))))))))))))))))))))))))
def b_S_whatMatters_0 : Kt Mi := (o_lconst 0 (o_lstore 2 (o_const 0 (o_istore 4 (b_S_whatMatters_5 k_fu)))))
def r_S_whatMatters (as : List Value) (M : Mi) : Option (Value × Mi) := match as with
  | [.ref a, .int a0] => b_S_whatMatters_0 [.ref a, .int a0, .null, .null, .null, .null] [] M
  | _ => none
def b_F_soonest_79 (k21 : Kt Mi) : Kt Mi := (o_aload 0 (o_getr 2 1 (o_iload 1 (o_callV 5 2 r_S_goOn false (o_iinc 5 1 k21)))))
def b_F_soonest_21 : Nat → Kt Mi
  | 0 => fun _ _ _ => none
  | n + 1 => (o_iload 5 (o_iload 2 (o_cgt
      (o_const (-1000000) o_iret)
      (o_aload 0 (o_getr 2 1 (o_geti 5 4 (o_iload 1 (o_and (o_iload 1 (o_ceq
      (o_iload 5 o_iret)
      (o_iload 5 (o_aload 0 (o_getr 2 1 (o_geti 5 0 (o_irem (o_ifeq
      (o_aload 0 (o_getr 2 1 (o_iload 1 (o_callV 5 2 r_S_whatMatters true (o_lstore 6 (o_lload 6 (o_lload 3 (o_lcmp (o_ifeq
      (o_const (-1000000) o_iret)
      (o_lload 6 (o_lstore 3 (b_F_soonest_79 (b_F_soonest_21 n)))))))))))))
      (b_F_soonest_79 (b_F_soonest_21 n))))))))))))))))))
def b_F_soonest_0 : Kt Mi := (o_aload 0 (o_getr 2 1 (o_geti 5 0 (o_const 1 (o_cge
      (o_lconst (-1) (o_lstore 3 (o_const 0 (o_istore 5 (b_F_soonest_21 k_fu)))))
      (o_const (-1000000) o_iret))))))
def r_F_soonest (as : List Value) (M : Mi) : Option (Value × Mi) := match as with
  | [.ref a, .int a0, .int a1] => b_F_soonest_0 [.ref a, .int a0, .int a1, .null, .null, .null, .null, .null] [] M
  | _ => none
def b_F_sleepless_10 : Nat → Kt Mi
  | 0 => fun _ _ _ => none
  | n + 1 => (o_iload 2 (o_const 99 (o_cgt
      (o_const 1 (o_aload 0 (o_getr 2 1 (o_geti 5 1 (o_shl (o_const 1 (o_sub (o_iload 1 (o_const (-1) (o_xor (o_and o_iret)))))))))))
      (o_aload 0 (o_getr 2 1 (o_const 31 (o_callV 5 2 r_S_goOn false (o_iload 1 (o_aload 0 (o_getr 2 1 (o_geti 5 4 (o_or (o_istore 1 (o_iinc 2 1 (b_F_sleepless_10 n)))))))))))))))
def b_F_sleepless_0 : Kt Mi := (o_aload 0 (o_getr 2 1 (o_geti 5 4 (o_istore 1 (o_const 1 (o_istore 2 (b_F_sleepless_10 k_fu)))))))
def r_F_sleepless (as : List Value) (M : Mi) : Option (Value × Mi) := match as with
  | [.ref a] => b_F_sleepless_0 [.ref a, .null, .null] [] M
  | _ => none
def b_J_bitCount_0 : Kt Mi := (o_iload 0 (o_iload 0 (o_const 1 (o_ushr (o_const 1431655765 (o_and (o_sub (o_istore 0 (o_iload 0 (o_const 858993459 (o_and (o_iload 0 (o_const 2 (o_ushr (o_const 858993459 (o_and (o_add (o_istore 0 (o_iload 0 (o_iload 0 (o_const 4 (o_ushr (o_add (o_const 252645135 (o_and (o_istore 0 (o_iload 0 (o_iload 0 (o_const 8 (o_ushr (o_add (o_istore 0 (o_iload 0 (o_iload 0 (o_const 16 (o_ushr (o_add (o_istore 0 (o_iload 0 (o_const 63 (o_and o_iret)))))))))))))))))))))))))))))))))))))))))
def r_J_bitCount (as : List Value) (M : Mi) : Option (Value × Mi) := match as with
  | [.int a0] => b_J_bitCount_0 [.int a0] [] M
  | _ => none
def b_F_calm_31 (k4 : Kt Mi) : Kt Mi := (o_istore 2 (o_iload 2 (o_const 6 (o_cle
      (o_aload 0 (o_getr 2 1 (o_const 31 (o_callV 5 2 r_S_goOn false (o_iinc 3 1 k4)))))
      (o_iload 3 (o_const 6 (o_sub o_iret)))))))
def b_F_calm_4 : Nat → Kt Mi
  | 0 => fun _ _ _ => none
  | n + 1 => (o_iload 3 (o_const 105 (o_cgt
      (o_const (-1000000) o_iret)
      (o_aload 0 (o_getr 2 1 (o_geti 5 4 (o_call 1 r_J_bitCount true (o_iload 1 (o_clt
      (o_const 0 (b_F_calm_31 (b_F_calm_4 n)))
      (o_iload 2 (o_const 1 (o_add (b_F_calm_31 (b_F_calm_4 n))))))))))))))
def b_F_calm_0 : Kt Mi := (o_const 0 (o_istore 2 (o_const 0 (o_istore 3 (b_F_calm_4 k_fu)))))
def r_F_calm (as : List Value) (M : Mi) : Option (Value × Mi) := match as with
  | [.ref a, .int a0] => b_F_calm_0 [.ref a, .int a0, .null, .null] [] M
  | _ => none
def b_S_lineUp_2 : Nat → Kt Mi
  | 0 => fun _ _ _ => none
  | n + 1 => (o_iload 1 (o_aload 0 (o_geti 5 0 (o_cge
      o_ret
      (o_aload 0 (o_getr 5 3 (o_iload 1 (o_iload 1 (o_iast (o_iinc 1 1 (b_S_lineUp_2 n)))))))))))
def b_S_lineUp_0 : Kt Mi := (o_const 0 (o_istore 1 (b_S_lineUp_2 k_fu)))
def r_S_lineUp (as : List Value) (M : Mi) : Option (Value × Mi) := match as with
  | [.ref a] => b_S_lineUp_0 [.ref a, .null] [] M
  | _ => none
def b_S_swap_0 : Kt Mi := (o_aload 0 (o_getr 5 3 (o_iload 1 (o_iald (o_istore 3 (o_aload 0 (o_getr 5 3 (o_iload 1 (o_aload 0 (o_getr 5 3 (o_iload 2 (o_iald (o_iast (o_aload 0 (o_getr 5 3 (o_iload 2 (o_iload 3 (o_iast o_ret))))))))))))))))))
def r_S_swap (as : List Value) (M : Mi) : Option (Value × Mi) := match as with
  | [.ref a, .int a0, .int a1] => b_S_swap_0 [.ref a, .int a0, .int a1, .null] [] M
  | _ => none
def b_S_orderNext_91 : Nat → Kt Mi
  | 0 => fun _ _ _ => none
  | n + 1 => (o_iload 3 (o_iload 4 (o_cge
      (o_const 1 o_zret)
      (o_aload 0 (o_iload 3 (o_iinc 3 1 (o_iload 4 (o_iinc 4 (-1) (o_callV 5 3 r_S_swap false (b_S_orderNext_91 n))))))))))
def b_S_orderNext_73 : Kt Mi := (o_aload 0 (o_iload 1 (o_iload 2 (o_callV 5 3 r_S_swap false (o_iload 1 (o_const 1 (o_add (o_istore 3 (o_aload 0 (o_geti 5 0 (o_const 1 (o_sub (o_istore 4 (b_S_orderNext_91 k_fu))))))))))))))
def b_S_orderNext_47 : Nat → Kt Mi
  | 0 => fun _ _ _ => none
  | n + 1 => (o_iload 2 (o_iload 1 (o_cle
      (b_S_orderNext_73)
      (o_aload 0 (o_getr 5 3 (o_iload 2 (o_iald (o_aload 0 (o_getr 5 3 (o_iload 1 (o_iald (o_cge
      (b_S_orderNext_73)
      (o_iinc 2 (-1) (b_S_orderNext_47 n))))))))))))))
def b_S_orderNext_34 : Kt Mi := (o_iload 1 (o_ifge
      (o_aload 0 (o_geti 5 0 (o_const 1 (o_sub (o_istore 2 (b_S_orderNext_47 k_fu))))))
      (o_const 0 o_zret)))
def b_S_orderNext_7 : Nat → Kt Mi
  | 0 => fun _ _ _ => none
  | n + 1 => (o_iload 1 (o_iflt
      (b_S_orderNext_34)
      (o_aload 0 (o_getr 5 3 (o_iload 1 (o_iald (o_aload 0 (o_getr 5 3 (o_iload 1 (o_const 1 (o_add (o_iald (o_cle
      (b_S_orderNext_34)
      (o_iinc 1 (-1) (b_S_orderNext_7 n)))))))))))))))
def b_S_orderNext_0 : Kt Mi := (o_aload 0 (o_geti 5 0 (o_const 2 (o_sub (o_istore 1 (b_S_orderNext_7 k_fu))))))
def r_S_orderNext (as : List Value) (M : Mi) : Option (Value × Mi) := match as with
  | [.ref a] => b_S_orderNext_0 [.ref a, .null, .null, .null, .null] [] M
  | _ => none
def b_F_bestOrder_105 : Kt Mi := (o_iload 3 o_iret)
def b_F_bestOrder_86 (k22 : Kt Mi) : Kt Mi := (o_aload 0 (o_getr 2 1 (o_callV 5 1 r_S_orderNext true (o_ifeq
      (b_F_bestOrder_105)
      (o_iinc 5 1 k22)))))
def b_F_bestOrder_22 : Nat → Kt Mi
  | 0 => fun _ _ _ => none
  | n + 1 => (o_iload 5 (o_const 720 (o_cge
      (b_F_bestOrder_105)
      (o_iload 4 (o_iflt
      (b_F_bestOrder_105)
      (o_aload 0 (o_getr 2 1 (o_aload 1 (o_callV 5 2 r_S_goBackTo false (o_aload 0 (o_iload 2 (o_iload 4 (o_callV 2 3 r_F_soonest true (o_istore 6 (o_iload 6 (o_const (-1000000) (o_ceq
      (b_F_bestOrder_86 (b_F_bestOrder_22 n))
      (o_iload 6 (o_istore 3 (o_iload 6 (o_const 1 (o_sub (o_istore 4 (o_aload 0 (o_getr 2 1 (o_getr 5 3 (o_const 0 (o_aload 0 (o_getr 2 9 (o_const 0 (o_const 6 (o_copy (b_F_bestOrder_86 (b_F_bestOrder_22 n))))))))))))))))))))))))))))))))))
def b_F_bestOrder_0 : Kt Mi := (o_const (-1000000) (o_istore 3 (o_const 99 (o_istore 4 (o_aload 0 (o_aload 1 (o_callV 2 2 r_F_begin false (o_aload 0 (o_getr 2 1 (o_callV 5 1 r_S_lineUp false (o_const 0 (o_istore 5 (b_F_bestOrder_22 k_fu)))))))))))))
def r_F_bestOrder (as : List Value) (M : Mi) : Option (Value × Mi) := match as with
  | [.ref a, .ref a0, .int a1] => b_F_bestOrder_0 [.ref a, .ref a0, .int a1, .null, .null, .null, .null] [] M
  | _ => none
def b_S_keepOnly_50 (k7 : Kt Mi) : Kt Mi := (o_iinc 3 1 k7)
def b_S_keepOnly_7 : Nat → Kt Mi
  | 0 => fun _ _ _ => none
  | n + 1 => (o_iload 3 (o_aload 2 (o_geti 5 0 (o_cge
      o_ret
      (o_aload 2 (o_getr 5 3 (o_iload 3 (o_iald (o_istore 4 (o_iload 1 (o_iload 4 (o_shr (o_const 1 (o_and (o_ifeq
      (b_S_keepOnly_50 (b_S_keepOnly_7 n))
      (o_aload 0 (o_getr 5 3 (o_aload 0 (o_dup (o_geti 5 0 (o_dup_x1 (o_const 1 (o_add (o_puti 5 0 (o_iload 4 (o_iast (b_S_keepOnly_50 (b_S_keepOnly_7 n))))))))))))))))))))))))))))
def b_S_keepOnly_0 : Kt Mi := (o_aload 0 (o_const 0 (o_puti 5 0 (o_const 0 (o_istore 3 (b_S_keepOnly_7 k_fu))))))
def r_S_keepOnly (as : List Value) (M : Mi) : Option (Value × Mi) := match as with
  | [.ref a, .int a0, .ref a1] => b_S_keepOnly_0 [.ref a, .int a0, .ref a1, .null, .null] [] M
  | _ => none
def b_F_smallestFlock_83 (k16 : Kt Mi) : Kt Mi := (o_iinc 6 1 k16)
def b_F_smallestFlock_16 : Nat → Kt Mi
  | 0 => fun _ _ _ => none
  | n + 1 => (o_iload 6 (o_const 1 (o_aload 1 (o_geti 5 0 (o_shl (o_cge
      (o_iload 4 o_iret)
      (o_iload 6 (o_call 1 r_J_bitCount true (o_iload 5 (o_clt
      (o_aload 0 (o_getr 2 1 (o_aload 1 (o_callV 5 2 r_S_goBackTo false (o_aload 0 (o_getr 2 1 (o_iload 6 (o_aload 1 (o_callV 5 3 r_S_keepOnly false (o_aload 0 (o_iload 2 (o_iload 3 (o_callV 2 3 r_F_soonest true (o_const (-1000000) (o_ceq
      (b_F_smallestFlock_83 (b_F_smallestFlock_16 n))
      (o_iload 6 (o_istore 4 (o_iload 6 (o_call 1 r_J_bitCount true (o_istore 5 (b_F_smallestFlock_83 (b_F_smallestFlock_16 n))))))))))))))))))))))
      (b_F_smallestFlock_83 (b_F_smallestFlock_16 n))))))))))))
def b_F_smallestFlock_0 : Kt Mi := (o_const (-1000000) (o_istore 4 (o_const 7 (o_istore 5 (o_aload 0 (o_aload 1 (o_callV 2 2 r_F_begin false (o_const 1 (o_istore 6 (b_F_smallestFlock_16 k_fu))))))))))
def r_F_smallestFlock (as : List Value) (M : Mi) : Option (Value × Mi) := match as with
  | [.ref a, .ref a0, .int a1, .int a2] => b_F_smallestFlock_0 [.ref a, .ref a0, .int a1, .int a2, .null, .null, .null] [] M
  | _ => none
def b_F_goesSo_3 : Nat → Kt Mi
  | 0 => fun _ _ _ => none
  | n + 1 => (o_iload 4 (o_iload 3 (o_cge
      (o_const 1 o_zret)
      (o_aload 0 (o_getr 2 1 (o_const 31 (o_callV 5 2 r_S_goOn false (o_aload 0 (o_getr 2 1 (o_geti 5 4 (o_call 1 r_J_bitCount true (o_aload 1 (o_getr 4 3 (o_iload 2 (o_iload 4 (o_add (o_iald (o_ceq
      (o_iinc 4 1 (b_F_goesSo_3 n))
      (o_const 0 o_zret)))))))))))))))))))
def b_F_goesSo_0 : Kt Mi := (o_const 0 (o_istore 4 (b_F_goesSo_3 k_fu)))
def r_F_goesSo (as : List Value) (M : Mi) : Option (Value × Mi) := match as with
  | [.ref a, .ref a0, .int a1, .int a2] => b_F_goesSo_0 [.ref a, .ref a0, .int a1, .int a2, .null] [] M
  | _ => none
def b_F_strays_85 (k31 : Kt Mi) : Kt Mi := (o_iinc 7 1 k31)
def b_F_strays_31 : Nat → Kt Mi
  | 0 => fun _ _ _ => none
  | n + 1 => (o_iload 7 (o_aload 1 (o_geti 5 0 (o_cge
      (o_iload 5 o_iret)
      (o_aload 0 (o_getr 2 1 (o_aload 1 (o_callV 5 2 r_S_goBackTo false (o_aload 0 (o_getr 2 1 (o_iload 6 (o_const 1 (o_iload 7 (o_shl (o_const (-1) (o_xor (o_and (o_aload 1 (o_callV 5 3 r_S_keepOnly false (o_aload 0 (o_aload 2 (o_iload 3 (o_iload 4 (o_callV 2 4 r_F_goesSo true (o_ifeq
      (b_F_strays_85 (b_F_strays_31 n))
      (o_iload 5 (o_const 1 (o_iload 7 (o_shl (o_or (o_istore 5 (b_F_strays_85 (b_F_strays_31 n)))))))))))))))))))))))))))))))))
def b_F_strays_0 : Kt Mi := (o_aload 1 (o_geti 5 0 (o_const 2 (o_cge
      (o_const 0 (o_istore 5 (o_const 1 (o_aload 1 (o_geti 5 0 (o_shl (o_const 1 (o_sub (o_istore 6 (o_aload 0 (o_aload 1 (o_callV 2 2 r_F_begin false (o_const 0 (o_istore 7 (b_F_strays_31 k_fu)))))))))))))))
      (o_const 0 o_iret)))))
def r_F_strays (as : List Value) (M : Mi) : Option (Value × Mi) := match as with
  | [.ref a, .ref a0, .ref a1, .int a2, .int a3] => b_F_strays_0 [.ref a, .ref a0, .ref a1, .int a2, .int a3, .null, .null, .null] [] M
  | _ => none
def b_F_winds_55 (k11 : Kt Mi) : Kt Mi := (o_iinc 6 1 k11)
def b_F_winds_11 : Nat → Kt Mi
  | 0 => fun _ _ _ => none
  | n + 1 => (o_iload 6 (o_const 10 (o_cge
      (o_iload 5 o_iret)
      (o_aload 0 (o_getr 2 1 (o_aload 1 (o_callV 5 2 r_S_goBackTo false (o_aload 0 (o_getr 2 1 (o_iload 6 (o_puti 5 3 (o_aload 0 (o_aload 2 (o_iload 3 (o_iload 4 (o_callV 2 4 r_F_goesSo true (o_ifeq
      (b_F_winds_55 (b_F_winds_11 n))
      (o_iload 5 (o_const 1 (o_iload 6 (o_shl (o_or (o_istore 5 (b_F_winds_55 (b_F_winds_11 n)))))))))))))))))))))))))
def b_F_winds_0 : Kt Mi := (o_const 0 (o_istore 5 (o_aload 0 (o_aload 1 (o_callV 2 2 r_F_begin false (o_const 0 (o_istore 6 (b_F_winds_11 k_fu))))))))
def r_F_winds (as : List Value) (M : Mi) : Option (Value × Mi) := match as with
  | [.ref a, .ref a0, .ref a1, .int a2, .int a3] => b_F_winds_0 [.ref a, .ref a0, .ref a1, .int a2, .int a3, .null, .null] [] M
  | _ => none
def b_F_kinds_57 (k11 : Kt Mi) : Kt Mi := (o_iinc 7 1 k11)
def b_F_kinds_11 : Nat → Kt Mi
  | 0 => fun _ _ _ => none
  | n + 1 => (o_iload 7 (o_const 5 (o_cgt
      (o_iload 6 o_iret)
      (o_aload 0 (o_getr 2 1 (o_aload 1 (o_callV 5 2 r_S_goBackTo false (o_aload 0 (o_getr 2 1 (o_getr 5 4 (o_iload 2 (o_iload 7 (o_iast (o_aload 0 (o_aload 3 (o_iload 4 (o_iload 5 (o_callV 2 4 r_F_goesSo true (o_ifeq
      (b_F_kinds_57 (b_F_kinds_11 n))
      (o_iload 6 (o_const 1 (o_iload 7 (o_shl (o_or (o_istore 6 (b_F_kinds_57 (b_F_kinds_11 n)))))))))))))))))))))))))))
def b_F_kinds_0 : Kt Mi := (o_const 0 (o_istore 6 (o_aload 0 (o_aload 1 (o_callV 2 2 r_F_begin false (o_const 1 (o_istore 7 (b_F_kinds_11 k_fu))))))))
def r_F_kinds (as : List Value) (M : Mi) : Option (Value × Mi) := match as with
  | [.ref a, .ref a0, .int a1, .ref a2, .int a3, .int a4] => b_F_kinds_0 [.ref a, .ref a0, .int a1, .ref a2, .int a3, .int a4, .null, .null] [] M
  | _ => none
def b_F_weight_40 (k6 : Kt Mi) : Kt Mi := (o_iinc 5 1 k6)
def b_F_weight_37 (k6 : Kt Mi) : Kt Mi := (o_mul (o_istore 4 (b_F_weight_40 k6)))
def b_F_weight_6 : Nat → Kt Mi
  | 0 => fun _ _ _ => none
  | n + 1 => (o_iload 5 (o_iload 1 (o_cge
      (o_iload 4 o_iret)
      (o_iload 5 (o_iload 2 (o_ceq
      (b_F_weight_40 (b_F_weight_6 n))
      (o_iload 4 (o_iload 0 (o_iload 5 (o_shr (o_const 1 (o_and (o_ifeq
      (o_iload 3 (b_F_weight_37 (b_F_weight_6 n)))
      (o_const 10 (o_iload 3 (o_sub (b_F_weight_37 (b_F_weight_6 n))))))))))))))))))
def b_F_weight_0 : Kt Mi := (o_const 1 (o_istore 4 (o_const 0 (o_istore 5 (b_F_weight_6 k_fu)))))
def r_F_weight (as : List Value) (M : Mi) : Option (Value × Mi) := match as with
  | [.int a0, .int a1, .int a2, .int a3] => b_F_weight_0 [.int a0, .int a1, .int a2, .int a3, .null, .null] [] M
  | _ => none
def b_F_chance_98 (k19 : Kt Mi) : Kt Mi := (o_iinc 7 1 k19)
def b_F_chance_19 : Nat → Kt Mi
  | 0 => fun _ _ _ => none
  | n + 1 => (o_iload 7 (o_const 1 (o_aload 1 (o_geti 5 0 (o_shl (o_cge
      (o_iload 6 o_iret)
      (o_iload 7 (o_iload 5 (o_shr (o_const 1 (o_and (o_ifeq
      (b_F_chance_98 (b_F_chance_19 n))
      (o_aload 0 (o_getr 2 1 (o_aload 1 (o_callV 5 2 r_S_goBackTo false (o_aload 0 (o_getr 2 1 (o_iload 7 (o_aload 1 (o_callV 5 3 r_S_keepOnly false (o_aload 0 (o_iload 3 (o_const 1 (o_iload 2 (o_shl (o_callV 2 3 r_F_goFar false (o_aload 0 (o_getr 2 1 (o_iload 2 (o_callV 5 2 r_S_isOff true (o_ifeq
      (b_F_chance_98 (b_F_chance_19 n))
      (o_iload 6 (o_iload 7 (o_aload 1 (o_geti 5 0 (o_iload 5 (o_iload 4 (o_call 4 r_F_weight true (o_add (o_istore 6 (b_F_chance_98 (b_F_chance_19 n)))))))))))))))))))))))))))))))))))))))))))
def b_F_chance_0 : Kt Mi := (o_aload 1 (o_getr 5 3 (o_const 0 (o_iald (o_istore 5 (o_const 0 (o_istore 6 (o_aload 0 (o_aload 1 (o_callV 2 2 r_F_begin false (o_const 1 (o_istore 7 (b_F_chance_19 k_fu)))))))))))))
def r_F_chance (as : List Value) (M : Mi) : Option (Value × Mi) := match as with
  | [.ref a, .ref a0, .int a1, .int a2, .int a3] => b_F_chance_0 [.ref a, .ref a0, .int a1, .int a2, .int a3, .null, .null, .null] [] M
  | _ => none
def b_D_init_0 : Kt Mw := (o_aload 0 (c_obj (o_aload 0 (o_const 100 (c_newi (c_putr 3 0 (o_aload 0 (o_const 0 (c_puti 3 1 (o_aload 0 (o_const 0 (c_puti 3 2 (o_aload 0 (o_const 0 (c_puti 3 3 (o_aload 0 (o_const 0 (c_putz 3 4 (o_aload 0 (o_const 0 (c_puti 3 5 (o_aload 0 (o_const 0 (c_puti 3 6 (o_aload 0 (o_const (-1) (c_puti 3 7 (o_aload 0 (o_const 0 (c_puti 3 8 o_ret))))))))))))))))))))))))))))))
def r_D_init (as : List Value) (M : Mw) : Option (Value × Mw) := match as with
  | [.ref a] => b_D_init_0 [.ref a] [] M
  | _ => none
def b_D_append_26 : Kt Mi := o_ret
def b_D_append_0 : Kt Mi := (o_aload 0 (o_geti 3 1 (o_const 100 (o_cge
      (b_D_append_26)
      (o_aload 0 (o_getr 3 1 (o_aload 0 (o_dup (o_geti 3 1 (o_dup_x1 (o_const 1 (o_add (o_puti 3 1 (o_iload 1 (o_iast (b_D_append_26))))))))))))))))
def r_D_append (as : List Value) (M : Mi) : Option (Value × Mi) := match as with
  | [.ref a, .int a0] => b_D_append_0 [.ref a, .int a0] [] M
  | _ => none
def b_D_blame_0 : Kt Mi := (o_aload 0 (o_geti 3 4 (o_ifeq
      (o_aload 0 (o_const 1 (o_putz 3 4 (o_aload 0 (o_iload 1 (o_puti 3 2 (o_aload 0 (o_aload 0 (o_geti 3 6 (o_puti 3 3 o_ret))))))))))
      o_ret)))
def r_D_blame (as : List Value) (M : Mi) : Option (Value × Mi) := match as with
  | [.ref a, .int a0] => b_D_blame_0 [.ref a, .int a0] [] M
  | _ => none
def b_D_isFigure_17 : Kt Mi := o_zret
def b_D_isFigure_16 : Kt Mi := (o_const 0 (b_D_isFigure_17))
def b_D_isFigure_0 : Kt Mi := (o_iload 0 (o_const 48 (o_clt
      (b_D_isFigure_16)
      (o_iload 0 (o_const 57 (o_cgt
      (b_D_isFigure_16)
      (o_const 1 (b_D_isFigure_17))))))))
def r_D_isFigure (as : List Value) (M : Mi) : Option (Value × Mi) := match as with
  | [.int a0] => b_D_isFigure_0 [.int a0] [] M
  | _ => none
def b_D_lookAtNumber_105 : Kt Mi := (o_puti 3 7 o_ret)
def b_D_lookAtNumber_84 : Kt Mi := (o_aload 0 (o_aload 0 (o_geti 3 5 (o_aload 0 (o_geti 3 6 (o_sub (o_const 2 (o_cle
      (o_const (-2) (b_D_lookAtNumber_105))
      (o_const (-3) (b_D_lookAtNumber_105))))))))))
def b_D_lookAtNumber_68 (k7 : Kt Mi) : Kt Mi := (o_aload 0 (o_dup (o_geti 3 5 (o_const 1 (o_add (o_puti 3 5 (o_iinc 1 1 k7)))))))
def b_D_lookAtNumber_7 : Nat → Kt Mi
  | 0 => fun _ _ _ => none
  | n + 1 => (o_iload 1 (o_const 100 (o_cge
      (b_D_lookAtNumber_84)
      (o_aload 0 (o_geti 3 5 (o_aload 0 (o_geti 3 1 (o_cge
      (b_D_lookAtNumber_84)
      (o_aload 0 (o_getr 3 1 (o_aload 0 (o_geti 3 5 (o_iald (o_call 1 r_D_isFigure true (o_ifeq
      (b_D_lookAtNumber_84)
      (o_iload 1 (o_const 2 (o_cge
      (b_D_lookAtNumber_68 (b_D_lookAtNumber_7 n))
      (o_aload 0 (o_aload 0 (o_geti 3 8 (o_const 10 (o_mul (o_aload 0 (o_getr 3 1 (o_aload 0 (o_geti 3 5 (o_iald (o_add (o_const 48 (o_sub (o_puti 3 8 (b_D_lookAtNumber_68 (b_D_lookAtNumber_7 n))))))))))))))))))))))))))))))))))
def b_D_lookAtNumber_0 : Kt Mi := (o_aload 0 (o_const 0 (o_puti 3 8 (o_const 0 (o_istore 1 (b_D_lookAtNumber_7 k_fu))))))
def r_D_lookAtNumber (as : List Value) (M : Mi) : Option (Value × Mi) := match as with
  | [.ref a] => b_D_lookAtNumber_0 [.ref a, .null] [] M
  | _ => none
def b_D_look_69 : Kt Mi := o_ret
def b_D_look_0 : Kt Mi := (o_aload 0 (o_aload 0 (o_geti 3 5 (o_puti 3 6 (o_aload 0 (o_geti 3 5 (o_aload 0 (o_geti 3 1 (o_clt
      (o_aload 0 (o_getr 3 1 (o_aload 0 (o_geti 3 5 (o_iald (o_call 1 r_D_isFigure true (o_ifeq
      (o_aload 0 (o_aload 0 (o_getr 3 1 (o_aload 0 (o_dup (o_geti 3 5 (o_dup_x1 (o_const 1 (o_add (o_puti 3 5 (o_iald (o_puti 3 7 (b_D_look_69)))))))))))))
      (o_aload 0 (o_callV 3 1 r_D_lookAtNumber false (b_D_look_69))))))))))
      (o_aload 0 (o_const (-1) (o_puti 3 7 (b_D_look_69)))))))))))))
def r_D_look (as : List Value) (M : Mi) : Option (Value × Mi) := match as with
  | [.ref a] => b_D_look_0 [.ref a] [] M
  | _ => none
def b_D_take_24 : Kt Mi := o_ret
def b_D_take_13 : Kt Mi := (o_aload 0 (o_geti 3 4 (o_ifeq
      (o_aload 0 (o_callV 3 1 r_D_look false (b_D_take_24)))
      (b_D_take_24))))
def b_D_take_0 : Kt Mi := (o_aload 0 (o_geti 3 7 (o_iload 1 (o_ceq
      (b_D_take_13)
      (o_aload 0 (o_const 1 (o_callV 3 2 r_D_blame false (b_D_take_13))))))))
def r_D_take (as : List Value) (M : Mi) : Option (Value × Mi) := match as with
  | [.ref a, .int a0] => b_D_take_0 [.ref a, .int a0] [] M
  | _ => none
def b_D_takeNumber_54 : Kt Mi := (o_iload 3 o_iret)
def b_D_takeNumber_38 : Kt Mi := (o_aload 0 (o_geti 3 8 (o_istore 3 (o_aload 0 (o_geti 3 4 (o_ifeq
      (o_aload 0 (o_callV 3 1 r_D_look false (b_D_takeNumber_54)))
      (b_D_takeNumber_54)))))))
def b_D_takeNumber_33 : Kt Mi := (o_aload 0 (o_const 2 (o_callV 3 2 r_D_blame false (b_D_takeNumber_38))))
def b_D_takeNumber_0 : Kt Mi := (o_aload 0 (o_geti 3 7 (o_const (-2) (o_ceq
      (o_aload 0 (o_geti 3 8 (o_iload 1 (o_clt
      (b_D_takeNumber_33)
      (o_aload 0 (o_geti 3 8 (o_iload 2 (o_cle
      (b_D_takeNumber_38)
      (b_D_takeNumber_33)))))))))
      (o_aload 0 (o_const 1 (o_callV 3 2 r_D_blame false (b_D_takeNumber_38))))))))
def r_D_takeNumber (as : List Value) (M : Mi) : Option (Value × Mi) := match as with
  | [.ref a, .int a0, .int a1] => b_D_takeNumber_0 [.ref a, .int a0, .int a1, .null] [] M
  | _ => none
def b_D_readSheep_0 : Kt Mi := (o_aload 0 (o_const 102 (o_callV 3 2 r_D_take false (o_aload 1 (o_getr 5 1 (o_iload 2 (o_aload 0 (o_const 0 (o_const 9 (o_callV 3 3 r_D_takeNumber true (o_iast (o_aload 0 (o_const 44 (o_callV 3 2 r_D_take false (o_aload 1 (o_getr 5 2 (o_iload 2 (o_aload 0 (o_const 0 (o_const 3 (o_callV 3 3 r_D_takeNumber true (o_iast (o_aload 0 (o_const 59 (o_callV 3 2 r_D_take false (o_aload 1 (o_getr 5 3 (o_iload 2 (o_iload 2 (o_iast (o_aload 1 (o_dup (o_geti 5 0 (o_const 1 (o_add (o_puti 5 0 o_ret))))))))))))))))))))))))))))))))))))
def r_D_readSheep (as : List Value) (M : Mi) : Option (Value × Mi) := match as with
  | [.ref a, .ref a0, .int a1] => b_D_readSheep_0 [.ref a, .ref a0, .int a1] [] M
  | _ => none
def b_D_readFlock_70 : Kt Mi := o_ret
def b_D_readFlock_64 (k16 : Kt Mi) : Kt Mi := (o_iinc 2 1 k16)
def b_D_readFlock_16 : Nat → Kt Mi
  | 0 => fun _ _ _ => none
  | n + 1 => (o_iload 2 (o_const 6 (o_cgt
      (b_D_readFlock_70)
      (o_aload 0 (o_geti 3 4 (o_ifeq
      (o_aload 0 (o_geti 3 7 (o_const 102 (o_ceq
      (o_aload 1 (o_geti 5 0 (o_const 6 (o_ceq
      (o_aload 0 (o_const 3 (o_callV 3 2 r_D_blame false (b_D_readFlock_64 (b_D_readFlock_16 n)))))
      (o_aload 0 (o_aload 1 (o_aload 1 (o_geti 5 0 (o_callV 3 3 r_D_readSheep false (b_D_readFlock_64 (b_D_readFlock_16 n)))))))))))
      (b_D_readFlock_70)))))
      (b_D_readFlock_70)))))))
def b_D_readFlock_14 : Kt Mi := (o_const 0 (o_istore 2 (b_D_readFlock_16 k_fu)))
def b_D_readFlock_0 : Kt Mi := (o_aload 0 (o_geti 3 7 (o_const 102 (o_ceq
      (b_D_readFlock_14)
      (o_aload 0 (o_const 1 (o_callV 3 2 r_D_blame false (b_D_readFlock_14))))))))
def r_D_readFlock (as : List Value) (M : Mi) : Option (Value × Mi) := match as with
  | [.ref a, .ref a0] => b_D_readFlock_0 [.ref a, .ref a0, .null] [] M
  | _ => none
def b_D_readLaw_0 : Kt Mi := (o_aload 0 (o_const 113 (o_callV 3 2 r_D_take false (o_aload 1 (o_aload 0 (o_const 0 (o_const 9 (o_callV 3 3 r_D_takeNumber true (o_puti 5 3 (o_aload 0 (o_const 59 (o_callV 3 2 r_D_take false o_ret))))))))))))
def r_D_readLaw (as : List Value) (M : Mi) : Option (Value × Mi) := match as with
  | [.ref a, .ref a0] => b_D_readLaw_0 [.ref a, .ref a0] [] M
  | _ => none
def b_D_kindOf_0 : Kt Mi := (o_iload 0 (o_sw [(100, (o_const 2 o_iret)),
      (108, (o_const 5 o_iret)),
      (110, (o_const 4 o_iret)),
      (112, (o_const 1 o_iret)),
      (116, (o_const 3 o_iret))] (o_const 0 o_iret)))
def r_D_kindOf (as : List Value) (M : Mi) : Option (Value × Mi) := match as with
  | [.int a0] => b_D_kindOf_0 [.int a0] [] M
  | _ => none
def b_D_readSleeper_0 : Kt Mi := (o_aload 1 (o_getr 5 4 (o_iload 2 (o_aload 0 (o_geti 3 7 (o_call 1 r_D_kindOf true (o_iast (o_aload 0 (o_callV 3 1 r_D_look false (o_aload 1 (o_getr 5 5 (o_iload 2 (o_aload 0 (o_const 1 (o_const 60 (o_callV 3 3 r_D_takeNumber true (o_iast (o_aload 0 (o_const 44 (o_callV 3 2 r_D_take false (o_aload 1 (o_getr 5 6 (o_iload 2 (o_aload 0 (o_const 0 (o_const 1 (o_callV 3 3 r_D_takeNumber true (o_iast (o_aload 0 (o_const 59 (o_callV 3 2 r_D_take false (o_aload 1 (o_dup (o_geti 5 1 (o_const 1 (o_add (o_puti 5 1 o_ret)))))))))))))))))))))))))))))))))))))
def r_D_readSleeper (as : List Value) (M : Mi) : Option (Value × Mi) := match as with
  | [.ref a, .ref a0, .int a1] => b_D_readSleeper_0 [.ref a, .ref a0, .int a1] [] M
  | _ => none
def b_D_readSleepers_55 : Kt Mi := o_ret
def b_D_readSleepers_49 (k2 : Kt Mi) : Kt Mi := (o_iinc 2 1 k2)
def b_D_readSleepers_2 : Nat → Kt Mi
  | 0 => fun _ _ _ => none
  | n + 1 => (o_iload 2 (o_const 5 (o_cgt
      (b_D_readSleepers_55)
      (o_aload 0 (o_geti 3 4 (o_ifeq
      (o_aload 0 (o_geti 3 7 (o_call 1 r_D_kindOf true (o_ifeq
      (b_D_readSleepers_55)
      (o_aload 1 (o_geti 5 1 (o_const 5 (o_ceq
      (o_aload 0 (o_const 3 (o_callV 3 2 r_D_blame false (b_D_readSleepers_49 (b_D_readSleepers_2 n)))))
      (o_aload 0 (o_aload 1 (o_aload 1 (o_geti 5 1 (o_callV 3 3 r_D_readSleeper false (b_D_readSleepers_49 (b_D_readSleepers_2 n)))))))))))))))
      (b_D_readSleepers_55)))))))
def b_D_readSleepers_0 : Kt Mi := (o_const 0 (o_istore 2 (b_D_readSleepers_2 k_fu)))
def r_D_readSleepers (as : List Value) (M : Mi) : Option (Value × Mi) := match as with
  | [.ref a, .ref a0] => b_D_readSleepers_0 [.ref a, .ref a0, .null] [] M
  | _ => none
def b_S_clear_27 : Nat → Kt Mi
  | 0 => fun _ _ _ => none
  | n + 1 => (o_iload 1 (o_const 5 (o_cge
      o_ret
      (o_aload 0 (o_getr 5 7 (o_iload 1 (o_const 0 (o_iast (o_iinc 1 1 (b_S_clear_27 n))))))))))
def b_S_clear_0 : Kt Mi := (o_aload 0 (o_const 0 (o_puti 5 0 (o_aload 0 (o_const 0 (o_puti 5 1 (o_aload 0 (o_const 0 (o_puti 5 2 (o_aload 0 (o_const 0 (o_puti 5 3 (o_aload 0 (o_const 0 (o_puti 5 4 (o_const 0 (o_istore 1 (b_S_clear_27 k_fu))))))))))))))))))
def r_S_clear (as : List Value) (M : Mi) : Option (Value × Mi) := match as with
  | [.ref a] => b_S_clear_0 [.ref a, .null] [] M
  | _ => none
def b_D_reads_63 : Kt Mi := o_zret
def b_D_reads_46 : Kt Mi := (o_aload 0 (o_const 0 (o_puti 3 1 (o_aload 0 (o_geti 3 4 (o_ifeq
      (o_const 1 (b_D_reads_63))
      (o_const 0 (b_D_reads_63))))))))
def b_D_reads_0 : Kt Mi := (o_aload 1 (o_callV 5 1 r_S_clear false (o_aload 0 (o_const 0 (o_putz 3 4 (o_aload 0 (o_const 0 (o_puti 3 5 (o_aload 0 (o_callV 3 1 r_D_look false (o_aload 0 (o_aload 1 (o_callV 3 2 r_D_readLaw false (o_aload 0 (o_aload 1 (o_callV 3 2 r_D_readFlock false (o_aload 0 (o_aload 1 (o_callV 3 2 r_D_readSleepers false (o_aload 0 (o_geti 3 7 (o_const (-1) (o_ceq
      (b_D_reads_46)
      (o_aload 0 (o_const 1 (o_callV 3 2 r_D_blame false (b_D_reads_46)))))))))))))))))))))))))))
def r_D_reads (as : List Value) (M : Mi) : Option (Value × Mi) := match as with
  | [.ref a, .ref a0] => b_D_reads_0 [.ref a, .ref a0] [] M
  | _ => none
def b_W_init_0 : Kt Mw := (o_aload 0 (c_obj (o_aload 0 (o_const 8 (c_newi (c_putr 4 0 (o_aload 0 (o_const 8 (c_newi (o_dup (o_const 0 (o_const (-1) (c_iast (o_dup (o_const 1 (o_const (-1) (c_iast (o_dup (o_const 2 (o_const (-1) (c_iast (o_dup (o_const 3 (o_const (-1) (c_iast (o_dup (o_const 4 (o_const (-1) (c_iast (o_dup (o_const 5 (o_const (-1) (c_iast (o_dup (o_const 6 (o_const (-1) (c_iast (o_dup (o_const 7 (o_const (-1) (c_iast (c_putr 4 1 (o_aload 0 (o_const 320 (c_newi (c_putr 4 2 o_ret))))))))))))))))))))))))))))))))))))))))))))))
def r_W_init (as : List Value) (M : Mw) : Option (Value × Mw) := match as with
  | [.ref a] => b_W_init_0 [.ref a] [] M
  | _ => none
def b_W_isGone_15 : Kt Mi := o_zret
def b_W_isGone_0 : Kt Mi := (o_aload 0 (o_getr 4 2 (o_iload 1 (o_iald (o_const (-1) (o_ceq
      (o_const 1 (b_W_isGone_15))
      (o_const 0 (b_W_isGone_15))))))))
def r_W_isGone (as : List Value) (M : Mi) : Option (Value × Mi) := match as with
  | [.ref a, .int a0] => b_W_isGone_0 [.ref a, .int a0] [] M
  | _ => none
def b_W_lacks_35 : Kt Mi := o_zret
def b_W_lacks_30 : Kt Mi := (o_const 1 (b_W_lacks_35))
def b_W_lacks_0 : Kt Mi := (o_iload 2 (o_iflt
      (b_W_lacks_30)
      (o_iload 3 (o_iflt
      (b_W_lacks_30)
      (o_iload 3 (o_aload 0 (o_getr 4 2 (o_iload 1 (o_iald (o_cgt
      (b_W_lacks_30)
      (o_iload 2 (o_aload 0 (o_getr 4 2 (o_iload 1 (o_iald (o_iload 3 (o_sub (o_cle
      (o_const 0 (b_W_lacks_35))
      (b_W_lacks_30)))))))))))))))))))
def r_W_lacks (as : List Value) (M : Mi) : Option (Value × Mi) := match as with
  | [.ref a, .int a0, .int a1, .int a2] => b_W_lacks_0 [.ref a, .int a0, .int a1, .int a2] [] M
  | _ => none
def b_W_placeOf_0 : Kt Mi := (o_iload 1 (o_const 40 (o_mul (o_iload 2 (o_add o_iret)))))
def r_W_placeOf (as : List Value) (M : Mi) : Option (Value × Mi) := match as with
  | [.ref a, .int a0, .int a1] => b_W_placeOf_0 [.ref a, .int a0, .int a1] [] M
  | _ => none
def b_W_make_17 : Nat → Kt Mi
  | 0 => fun _ _ _ => none
  | n + 1 => (o_iload 4 (o_iload 3 (o_cge
      o_ret
      (o_aload 0 (o_getr 4 3 (o_aload 0 (o_iload 1 (o_iload 4 (o_callV 4 3 r_W_placeOf true (o_const 0 (o_iast (o_iinc 4 1 (b_W_make_17 n)))))))))))))
def b_W_make_0 : Kt Mi := (o_aload 0 (o_getr 4 1 (o_iload 1 (o_iload 2 (o_iast (o_aload 0 (o_getr 4 2 (o_iload 1 (o_iload 3 (o_iast (o_const 0 (o_istore 4 (b_W_make_17 k_fu)))))))))))))
def r_W_make (as : List Value) (M : Mi) : Option (Value × Mi) := match as with
  | [.ref a, .int a0, .int a1, .int a2] => b_W_make_0 [.ref a, .int a0, .int a1, .int a2, .null] [] M
  | _ => none
def b_W_put_30 : Kt Mi := (o_istore 4 (o_aload 0 (o_getr 4 3 (o_aload 0 (o_iload 1 (o_iload 2 (o_callV 4 3 r_W_placeOf true (o_iload 4 (o_iast (o_iload 4 o_iret))))))))))
def b_W_put_0 : Kt Mi := (o_aload 0 (o_getr 4 1 (o_iload 1 (o_iald (o_ifeq
      (o_iload 3 (o_i2b (b_W_put_30)))
      (o_aload 0 (o_getr 4 1 (o_iload 1 (o_iald (o_const 1 (o_ceq
      (o_iload 3 (o_i2s (b_W_put_30)))
      (o_iload 3 (b_W_put_30)))))))))))))
def r_W_put (as : List Value) (M : Mi) : Option (Value × Mi) := match as with
  | [.ref a, .int a0, .int a1, .int a2] => b_W_put_0 [.ref a, .int a0, .int a1, .int a2, .null] [] M
  | _ => none
def b_W_move_0 : Kt Mi := (o_aload 0 (o_getr 4 3 (o_aload 0 (o_iload 1 (o_iload 2 (o_callV 4 3 r_W_placeOf true (o_aload 0 (o_getr 4 3 (o_aload 0 (o_iload 3 (o_iload 4 (o_callV 4 3 r_W_placeOf true (o_iload 5 (o_copy o_ret))))))))))))))
def r_W_move (as : List Value) (M : Mi) : Option (Value × Mi) := match as with
  | [.ref a, .int a0, .int a1, .int a2, .int a3, .int a4] => b_W_move_0 [.ref a, .int a0, .int a1, .int a2, .int a3, .int a4] [] M
  | _ => none
def b_W_lose_0 : Kt Mi := (o_aload 0 (o_getr 4 2 (o_iload 1 (o_iald (o_istore 2 (o_aload 0 (o_getr 4 2 (o_iload 1 (o_const (-1) (o_iast (o_iload 2 o_iret)))))))))))
def r_W_lose (as : List Value) (M : Mi) : Option (Value × Mi) := match as with
  | [.ref a, .int a0] => b_W_lose_0 [.ref a, .int a0, .null] [] M
  | _ => none
def b_W_howMany_21 (k4 : Kt Mi) : Kt Mi := (o_iinc 2 1 k4)
def b_W_howMany_4 : Nat → Kt Mi
  | 0 => fun _ _ _ => none
  | n + 1 => (o_iload 2 (o_const 8 (o_cge
      (o_iload 1 o_iret)
      (o_aload 0 (o_iload 2 (o_callV 4 2 r_W_isGone true (o_ifeq
      (o_iinc 1 1 (b_W_howMany_21 (b_W_howMany_4 n)))
      (b_W_howMany_21 (b_W_howMany_4 n)))))))))
def b_W_howMany_0 : Kt Mi := (o_const 0 (o_istore 1 (o_const 0 (o_istore 2 (b_W_howMany_4 k_fu)))))
def r_W_howMany (as : List Value) (M : Mi) : Option (Value × Mi) := match as with
  | [.ref a] => b_W_howMany_0 [.ref a, .null, .null] [] M
  | _ => none
def b_S_heardBy_27 (k4 : Kt Mi) : Kt Mi := (o_iinc 3 1 k4)
def b_S_heardBy_4 : Nat → Kt Mi
  | 0 => fun _ _ _ => none
  | n + 1 => (o_iload 3 (o_aload 0 (o_geti 5 0 (o_cge
      (o_iload 2 o_iret)
      (o_aload 0 (o_iload 1 (o_iload 3 (o_callV 5 3 r_S_hears true (o_ifeq
      (b_S_heardBy_27 (b_S_heardBy_4 n))
      (o_iload 2 (o_const 1 (o_iload 3 (o_shl (o_or (o_istore 2 (b_S_heardBy_27 (b_S_heardBy_4 n)))))))))))))))))
def b_S_heardBy_0 : Kt Mi := (o_const 0 (o_istore 2 (o_const 0 (o_istore 3 (b_S_heardBy_4 k_fu)))))
def r_S_heardBy (as : List Value) (M : Mi) : Option (Value × Mi) := match as with
  | [.ref a, .int a0] => b_S_heardBy_0 [.ref a, .int a0, .null, .null] [] M
  | _ => none
def b_S_placeOf_2 : Nat → Kt Mi
  | 0 => fun _ _ _ => none
  | n + 1 => (o_iload 2 (o_aload 0 (o_geti 5 0 (o_cge
      (o_const (-1000000) o_iret)
      (o_aload 0 (o_getr 5 3 (o_iload 2 (o_iald (o_iload 1 (o_ceq
      (o_iload 2 o_iret)
      (o_iinc 2 1 (b_S_placeOf_2 n))))))))))))
def b_S_placeOf_0 : Kt Mi := (o_const 0 (o_istore 2 (b_S_placeOf_2 k_fu)))
def r_S_placeOf (as : List Value) (M : Mi) : Option (Value × Mi) := match as with
  | [.ref a, .int a0] => b_S_placeOf_0 [.ref a, .int a0, .null] [] M
  | _ => none
def b_x_init_0 : Kt Mw := (o_aload 0 (c_obj (o_aload 0 (c_new 4 (o_dup (o_callI r_W_init (c_putr 6 0 (o_aload 0 (c_new 3 (o_dup (o_callI r_D_init (c_putr 6 1 (o_aload 0 (c_new 5 (o_dup (o_callI r_S_init (c_putr 6 2 (o_aload 0 (c_new 5 (o_dup (o_callI r_S_init (c_putr 6 3 (o_aload 0 (c_new 5 (o_dup (o_callI r_S_init (c_putr 6 4 (o_aload 0 (c_new 0 (o_dup (o_callI r_A_init (c_putr 6 5 (o_aload 0 (c_new 2 (o_dup (o_callI r_F_init (c_putr 6 6 (o_aload 0 (c_new 1 (o_dup (o_callI r_Q_init (c_putr 6 7 (o_aload 0 (o_const 0 (c_puti 6 8 o_ret)))))))))))))))))))))))))))))))))))))))))))))
def r_x_init (as : List Value) (M : Mw) : Option (Value × Mw) := match as with
  | [.ref a] => b_x_init_0 [.ref a] [] M
  | _ => none
def b_x_fine_0 : Kt Mi := (o_aload 0 (o_const 0 (o_puti 6 8 (o_iload 1 o_iret))))
def r_x_fine (as : List Value) (M : Mi) : Option (Value × Mi) := match as with
  | [.ref a, .int a0] => b_x_fine_0 [.ref a, .int a0] [] M
  | _ => none
def b_x_found_0 : Kt Mi := (o_aload 0 (o_iload 1 (o_puti 6 8 (o_const (-1000010) (o_iload 1 (o_sub o_iret))))))
def r_x_found (as : List Value) (M : Mi) : Option (Value × Mi) := match as with
  | [.ref a, .int a0] => b_x_found_0 [.ref a, .int a0] [] M
  | _ => none
def b_x_noRow_15 : Kt Mi := o_zret
def b_x_noRow_10 : Kt Mi := (o_const 1 (b_x_noRow_15))
def b_x_noRow_0 : Kt Mi := (o_iload 1 (o_iflt
      (b_x_noRow_10)
      (o_iload 1 (o_const 8 (o_clt
      (o_const 0 (b_x_noRow_15))
      (b_x_noRow_10))))))
def r_x_noRow (as : List Value) (M : Mi) : Option (Value × Mi) := match as with
  | [.ref a, .int a0] => b_x_noRow_0 [.ref a, .int a0] [] M
  | _ => none
def b_x_row_23 : Kt Mi := (o_const (-1000001) o_iret)
def b_x_row_0 : Kt Mi := (o_aload 0 (o_iload 1 (o_callV 6 2 r_x_noRow true (o_ifeq
      (o_iload 2 (o_iflt
      (b_x_row_23)
      (o_iload 2 (o_const 3 (o_cge
      (b_x_row_23)
      (o_iload 3 (o_const 40 (o_cle
      (o_iload 3 (o_ifge
      (o_aload 0 (o_getr 6 1 (o_iload 1 (o_iload 2 (o_iload 3 (o_callV 4 4 r_W_make false (o_aload 0 (o_iload 3 (o_callV 6 2 r_x_fine true o_iret)))))))))
      (o_aload 0 (o_const 4 (o_callV 6 2 r_x_found true o_iret)))))
      (b_x_row_23)))))))))
      (b_x_row_23)))))
def r_x_row (as : List Value) (M : Mi) : Option (Value × Mi) := match as with
  | [.ref a, .int a0, .int a1, .int a2] => b_x_row_0 [.ref a, .int a0, .int a1, .int a2] [] M
  | _ => none
def b_x_set_0 : Kt Mi := (o_aload 0 (o_iload 1 (o_callV 6 2 r_x_noRow true (o_ifeq
      (o_aload 0 (o_getr 6 1 (o_iload 1 (o_callV 4 2 r_W_isGone true (o_ifeq
      (o_aload 0 (o_getr 6 1 (o_iload 1 (o_iload 2 (o_const 1 (o_callV 4 4 r_W_lacks true (o_ifeq
      (o_aload 0 (o_aload 0 (o_getr 6 1 (o_iload 1 (o_iload 2 (o_iload 3 (o_callV 4 4 r_W_put true (o_callV 6 2 r_x_fine true o_iret))))))))
      (o_aload 0 (o_const 2 (o_callV 6 2 r_x_found true o_iret))))))))))
      (o_aload 0 (o_const 1 (o_callV 6 2 r_x_found true o_iret))))))))
      (o_const (-1000001) o_iret)))))
def r_x_set (as : List Value) (M : Mi) : Option (Value × Mi) := match as with
  | [.ref a, .int a0, .int a1, .int a2] => b_x_set_0 [.ref a, .int a0, .int a1, .int a2] [] M
  | _ => none
def b_x_copy_16 : Kt Mi := (o_const (-1000001) o_iret)
def b_x_copy_41 : Kt Mi := (o_aload 0 (o_const 1 (o_callV 6 2 r_x_found true o_iret)))
def b_x_copy_103 : Kt Mi := (o_aload 0 (o_const 2 (o_callV 6 2 r_x_found true o_iret)))
def b_x_copy_0 : Kt Mi := (o_aload 0 (o_iload 1 (o_callV 6 2 r_x_noRow true (o_ifeq
      (o_aload 0 (o_iload 3 (o_callV 6 2 r_x_noRow true (o_ifeq
      (o_aload 0 (o_getr 6 1 (o_iload 1 (o_callV 4 2 r_W_isGone true (o_ifeq
      (o_aload 0 (o_getr 6 1 (o_iload 3 (o_callV 4 2 r_W_isGone true (o_ifeq
      (o_aload 0 (o_getr 6 1 (o_getr 4 1 (o_iload 1 (o_iald (o_aload 0 (o_getr 6 1 (o_getr 4 1 (o_iload 3 (o_iald (o_ceq
      (o_aload 0 (o_getr 6 1 (o_iload 1 (o_iload 2 (o_iload 5 (o_callV 4 4 r_W_lacks true (o_ifeq
      (o_aload 0 (o_getr 6 1 (o_iload 3 (o_iload 4 (o_iload 5 (o_callV 4 4 r_W_lacks true (o_ifeq
      (o_aload 0 (o_getr 6 1 (o_iload 1 (o_iload 2 (o_iload 3 (o_iload 4 (o_iload 5 (o_callV 4 6 r_W_move false (o_aload 0 (o_iload 5 (o_callV 6 2 r_x_fine true o_iret)))))))))))
      (b_x_copy_103))))))))
      (b_x_copy_103))))))))
      (o_aload 0 (o_const 5 (o_callV 6 2 r_x_found true o_iret))))))))))))))
      (b_x_copy_41))))))
      (b_x_copy_41))))))
      (b_x_copy_16)))))
      (b_x_copy_16)))))
def r_x_copy (as : List Value) (M : Mi) : Option (Value × Mi) := match as with
  | [.ref a, .int a0, .int a1, .int a2, .int a3, .int a4] => b_x_copy_0 [.ref a, .int a0, .int a1, .int a2, .int a3, .int a4] [] M
  | _ => none
def b_x_drop_0 : Kt Mi := (o_aload 0 (o_iload 1 (o_callV 6 2 r_x_noRow true (o_ifeq
      (o_aload 0 (o_getr 6 1 (o_iload 1 (o_callV 4 2 r_W_isGone true (o_ifeq
      (o_aload 0 (o_aload 0 (o_getr 6 1 (o_iload 1 (o_callV 4 2 r_W_lose true (o_callV 6 2 r_x_fine true o_iret))))))
      (o_aload 0 (o_const 1 (o_callV 6 2 r_x_found true o_iret))))))))
      (o_const (-1000001) o_iret)))))
def r_x_drop (as : List Value) (M : Mi) : Option (Value × Mi) := match as with
  | [.ref a, .int a0] => b_x_drop_0 [.ref a, .int a0] [] M
  | _ => none
def b_x_feed_11 : Kt Mi := (o_const (-1000001) o_iret)
def b_x_feed_0 : Kt Mi := (o_iload 1 (o_iflt
      (b_x_feed_11)
      (o_iload 1 (o_const 255 (o_cle
      (o_aload 0 (o_getr 6 5 (o_geti 3 1 (o_const 100 (o_clt
      (o_aload 0 (o_getr 6 5 (o_iload 1 (o_callV 3 2 r_D_append false (o_aload 0 (o_getr 6 5 (o_geti 3 1 o_iret)))))))
      (o_const (-1000003) o_iret))))))
      (b_x_feed_11))))))
def r_x_feed (as : List Value) (M : Mi) : Option (Value × Mi) := match as with
  | [.ref a, .int a0] => b_x_feed_0 [.ref a, .int a0] [] M
  | _ => none
def b_x_square_0 : Kt Mi := (o_aload 0 (o_getr 6 37 (o_getr 2 1 (o_astore 1 (o_aload 0 (o_getr 6 5 (o_aload 1 (o_callV 3 2 r_D_reads true (o_ifeq
      (o_const (-1000100) (o_aload 0 (o_getr 6 5 (o_geti 3 3 (o_sub o_iret)))))
      (o_aload 0 (o_getr 6 7 (o_aload 1 (o_callV 5 2 r_S_become false (o_aload 0 (o_getr 6 31 (o_callV 0 1 r_A_forget false (o_aload 0 (o_getr 6 7 (o_geti 5 1 o_iret)))))))))))))))))))
def r_x_square (as : List Value) (M : Mi) : Option (Value × Mi) := match as with
  | [.ref a] => b_x_square_0 [.ref a, .null] [] M
  | _ => none
def b_x_fault_0 : Kt Mi := (o_aload 0 (o_getr 6 5 (o_geti 3 2 o_iret)))
def r_x_fault (as : List Value) (M : Mi) : Option (Value × Mi) := match as with
  | [.ref a] => b_x_fault_0 [.ref a] [] M
  | _ => none
def b_x_noSquare_15 : Kt Mi := o_zret
def b_x_noSquare_0 : Kt Mi := (o_aload 0 (o_getr 6 7 (o_geti 5 0 (o_ifeq
      (o_const 1 (b_x_noSquare_15))
      (o_const 0 (b_x_noSquare_15))))))
def r_x_noSquare (as : List Value) (M : Mi) : Option (Value × Mi) := match as with
  | [.ref a] => b_x_noSquare_0 [.ref a] [] M
  | _ => none
def b_x_steps_21 : Kt Mi := (o_const (-1000001) o_iret)
def b_x_steps_44 : Nat → Kt Mi
  | 0 => fun _ _ _ => none
  | n + 1 => (o_iload 2 (o_iload 1 (o_cge
      (o_aload 0 (o_getr 6 7 (o_geti 5 4 o_iret)))
      (o_aload 0 (o_getr 6 31 (o_aload 0 (o_getr 6 7 (o_callV 0 2 r_A_keep false (o_aload 0 (o_getr 6 7 (o_const 31 (o_callV 5 2 r_S_goOn false (o_iinc 2 1 (b_x_steps_44 n))))))))))))))
def b_x_steps_0 : Kt Mi := (o_aload 0 (o_callV 6 1 r_x_noSquare true (o_ifeq
      (o_iload 1 (o_const 1 (o_clt
      (b_x_steps_21)
      (o_iload 1 (o_const 24 (o_cle
      (o_aload 0 (o_getr 6 7 (o_geti 5 2 (o_const 9999 (o_iload 1 (o_sub (o_cle
      (o_const 0 (o_istore 2 (b_x_steps_44 k_fu)))
      (o_const (-1000003) o_iret))))))))
      (b_x_steps_21)))))))
      (o_const (-1000002) o_iret))))
def r_x_steps (as : List Value) (M : Mi) : Option (Value × Mi) := match as with
  | [.ref a, .int a0] => b_x_steps_0 [.ref a, .int a0, .null] [] M
  | _ => none
def b_x_change_15 : Kt Mi := (o_const (-1000001) o_iret)
def b_x_change_0 : Kt Mi := (o_iload 1 (o_iflt
      (b_x_change_15)
      (o_iload 1 (o_aload 0 (o_getr 6 7 (o_geti 5 0 (o_clt
      (o_iload 1 (o_aload 0 (o_getr 6 7 (o_geti 5 0 (o_const 1 (o_sub (o_ceq
      (o_const (-1000002) o_iret)
      (o_aload 0 (o_getr 6 31 (o_aload 0 (o_getr 6 7 (o_callV 0 2 r_A_keep false (o_aload 0 (o_getr 6 7 (o_iload 1 (o_iload 1 (o_const 1 (o_add (o_callV 5 3 r_S_swap false (o_aload 0 (o_getr 6 7 (o_getr 5 3 (o_iload 1 (o_iald o_iret))))))))))))))))))))))))
      (b_x_change_15))))))))
def r_x_change (as : List Value) (M : Mi) : Option (Value × Mi) := match as with
  | [.ref a, .int a0] => b_x_change_0 [.ref a, .int a0] [] M
  | _ => none
def b_x_wind_20 : Kt Mi := (o_const (-1000001) o_iret)
def b_x_wind_0 : Kt Mi := (o_aload 0 (o_callV 6 1 r_x_noSquare true (o_ifeq
      (o_iload 1 (o_iflt
      (b_x_wind_20)
      (o_iload 1 (o_const 10 (o_clt
      (o_aload 0 (o_getr 6 31 (o_aload 0 (o_getr 6 7 (o_callV 0 2 r_A_keep false (o_aload 0 (o_getr 6 7 (o_geti 5 3 (o_istore 2 (o_aload 0 (o_getr 6 7 (o_iload 1 (o_puti 5 3 (o_iload 2 o_iret))))))))))))))
      (b_x_wind_20))))))
      (o_const (-1000002) o_iret))))
def r_x_wind (as : List Value) (M : Mi) : Option (Value × Mi) := match as with
  | [.ref a, .int a0] => b_x_wind_0 [.ref a, .int a0, .null] [] M
  | _ => none
def b_x_noSleeper_20 : Kt Mi := o_zret
def b_x_noSleeper_15 : Kt Mi := (o_const 1 (b_x_noSleeper_20))
def b_x_noSleeper_0 : Kt Mi := (o_iload 1 (o_iflt
      (b_x_noSleeper_15)
      (o_iload 1 (o_aload 0 (o_getr 6 7 (o_geti 5 1 (o_clt
      (o_const 0 (b_x_noSleeper_20))
      (b_x_noSleeper_15))))))))
def r_x_noSleeper (as : List Value) (M : Mi) : Option (Value × Mi) := match as with
  | [.ref a, .int a0] => b_x_noSleeper_0 [.ref a, .int a0] [] M
  | _ => none
def b_x_cough_0 : Kt Mi := (o_aload 0 (o_iload 1 (o_callV 6 2 r_x_noSleeper true (o_ifeq
      (o_aload 0 (o_getr 6 31 (o_aload 0 (o_getr 6 7 (o_callV 0 2 r_A_keep false (o_aload 0 (o_getr 6 7 (o_getr 5 7 (o_iload 1 (o_iald (o_istore 2 (o_aload 0 (o_getr 6 7 (o_iload 1 (o_callV 5 2 r_S_startAnew false (o_aload 0 (o_getr 6 7 (o_iload 1 (o_callV 5 2 r_S_wake false (o_iload 2 o_iret))))))))))))))))))))
      (o_const (-1000001) o_iret)))))
def r_x_cough (as : List Value) (M : Mi) : Option (Value × Mi) := match as with
  | [.ref a, .int a0] => b_x_cough_0 [.ref a, .int a0, .null] [] M
  | _ => none
def b_x_undo_0 : Kt Mi := (o_aload 0 (o_getr 6 31 (o_geti 0 0 (o_ifeq
      (o_const (-1000002) o_iret)
      (o_aload 0 (o_getr 6 31 (o_aload 0 (o_getr 6 7 (o_callV 0 2 r_A_takeBack false (o_aload 0 (o_getr 6 31 (o_geti 0 0 o_iret))))))))))))
def r_x_undo (as : List Value) (M : Mi) : Option (Value × Mi) := match as with
  | [.ref a] => b_x_undo_0 [.ref a] [] M
  | _ => none
def b_x_sleeper_94 : Kt Mi := o_iret
def b_x_sleeper_0 : Kt Mi := (o_aload 0 (o_iload 1 (o_callV 6 2 r_x_noSleeper true (o_ifeq
      (o_iload 2 (o_sw [(0, (o_aload 0 (o_getr 6 7 (o_getr 5 5 (o_iload 1 (o_iald o_iret)))))),
      (1, (o_aload 0 (o_getr 6 7 (o_getr 5 6 (o_iload 1 (o_iald o_iret)))))),
      (2, (o_aload 0 (o_getr 6 7 (o_getr 5 7 (o_iload 1 (o_iald o_iret)))))),
      (3, (o_aload 0 (o_getr 6 7 (o_iload 1 (o_callV 5 2 r_S_isOff true (o_ifeq
      (o_const 0 (b_x_sleeper_94))
      (o_const 1 (b_x_sleeper_94)))))))),
      (4, (o_aload 0 (o_getr 6 7 (o_iload 1 (o_callV 5 2 r_S_heardBy true o_iret)))))] (o_const (-1000001) o_iret)))
      (o_const (-1000001) o_iret)))))
def r_x_sleeper (as : List Value) (M : Mi) : Option (Value × Mi) := match as with
  | [.ref a, .int a0, .int a1] => b_x_sleeper_0 [.ref a, .int a0, .int a1] [] M
  | _ => none
def b_x_sheep_15 : Kt Mi := (o_const (-1000001) o_iret)
def b_x_sheep_0 : Kt Mi := (o_iload 1 (o_iflt
      (b_x_sheep_15)
      (o_iload 1 (o_aload 0 (o_getr 6 7 (o_geti 5 0 (o_clt
      (o_iload 2 (o_sw [(0, (o_aload 0 (o_getr 6 7 (o_getr 5 1 (o_iload 1 (o_iald o_iret)))))),
      (1, (o_aload 0 (o_getr 6 7 (o_getr 5 2 (o_iload 1 (o_iald o_iret)))))),
      (2, (o_aload 0 (o_getr 6 7 (o_iload 1 (o_callV 5 2 r_S_placeOf true o_iret)))))] (o_const (-1000001) o_iret)))
      (b_x_sheep_15))))))))
def r_x_sheep (as : List Value) (M : Mi) : Option (Value × Mi) := match as with
  | [.ref a, .int a0, .int a1] => b_x_sheep_0 [.ref a, .int a0, .int a1] [] M
  | _ => none
def b_x_tooFar_15 : Kt Mi := o_zret
def b_x_tooFar_10 : Kt Mi := (o_const 1 (b_x_tooFar_15))
def b_x_tooFar_0 : Kt Mi := (o_iload 1 (o_iflt
      (b_x_tooFar_10)
      (o_iload 1 (o_const 99 (o_cle
      (o_const 0 (b_x_tooFar_15))
      (b_x_tooFar_10))))))
def r_x_tooFar (as : List Value) (M : Mi) : Option (Value × Mi) := match as with
  | [.ref a, .int a0] => b_x_tooFar_0 [.ref a, .int a0] [] M
  | _ => none
def b_x_off_0 : Kt Mi := (o_aload 0 (o_callV 6 1 r_x_noSquare true (o_ifeq
      (o_aload 0 (o_iload 1 (o_callV 6 2 r_x_tooFar true (o_ifeq
      (o_aload 0 (o_getr 6 37 (o_aload 0 (o_getr 6 7 (o_callV 2 2 r_F_begin false (o_aload 0 (o_getr 6 37 (o_iload 1 (o_const 31 (o_callV 2 3 r_F_goFar false (o_aload 0 (o_getr 6 37 (o_getr 2 1 (o_geti 5 4 o_iret))))))))))))))
      (o_const (-1000001) o_iret)))))
      (o_const (-1000002) o_iret))))
def r_x_off (as : List Value) (M : Mi) : Option (Value × Mi) := match as with
  | [.ref a, .int a0] => b_x_off_0 [.ref a, .int a0] [] M
  | _ => none
def b_x_counted_16 : Kt Mi := (o_const (-1000001) o_iret)
def b_x_counted_0 : Kt Mi := (o_aload 0 (o_iload 1 (o_callV 6 2 r_x_noSleeper true (o_ifeq
      (o_aload 0 (o_iload 2 (o_callV 6 2 r_x_tooFar true (o_ifeq
      (o_aload 0 (o_getr 6 37 (o_aload 0 (o_getr 6 7 (o_callV 2 2 r_F_begin false (o_aload 0 (o_getr 6 37 (o_iload 2 (o_const 1 (o_iload 1 (o_shl (o_callV 2 3 r_F_goFar false (o_aload 0 (o_getr 6 37 (o_getr 2 1 (o_getr 5 7 (o_iload 1 (o_iald o_iret))))))))))))))))))
      (b_x_counted_16)))))
      (b_x_counted_16)))))
def r_x_counted (as : List Value) (M : Mi) : Option (Value × Mi) := match as with
  | [.ref a, .int a0, .int a1] => b_x_counted_0 [.ref a, .int a0, .int a1] [] M
  | _ => none
def b_x_when_0 : Kt Mi := (o_aload 0 (o_iload 1 (o_callV 6 2 r_x_noSleeper true (o_ifeq
      (o_aload 0 (o_getr 6 37 (o_aload 0 (o_getr 6 7 (o_callV 2 2 r_F_begin false (o_aload 0 (o_getr 6 37 (o_const 1 (o_iload 1 (o_shl (o_const 99 (o_callV 2 3 r_F_soonest true o_iret))))))))))))
      (o_const (-1000001) o_iret)))))
def r_x_when (as : List Value) (M : Mi) : Option (Value × Mi) := match as with
  | [.ref a, .int a0] => b_x_when_0 [.ref a, .int a0] [] M
  | _ => none
def b_x_noSleepers_22 : Kt Mi := o_zret
def b_x_noSleepers_17 : Kt Mi := (o_const 1 (b_x_noSleepers_22))
def b_x_noSleepers_0 : Kt Mi := (o_iload 1 (o_iflt
      (b_x_noSleepers_17)
      (o_iload 1 (o_const 1 (o_aload 0 (o_getr 6 7 (o_geti 5 1 (o_shl (o_clt
      (o_const 0 (b_x_noSleepers_22))
      (b_x_noSleepers_17))))))))))
def r_x_noSleepers (as : List Value) (M : Mi) : Option (Value × Mi) := match as with
  | [.ref a, .int a0] => b_x_noSleepers_0 [.ref a, .int a0] [] M
  | _ => none
def b_x_all_0 : Kt Mi := (o_aload 0 (o_callV 6 1 r_x_noSquare true (o_ifeq
      (o_aload 0 (o_iload 1 (o_callV 6 2 r_x_noSleepers true (o_ifeq
      (o_aload 0 (o_getr 6 37 (o_aload 0 (o_getr 6 7 (o_callV 2 2 r_F_begin false (o_aload 0 (o_getr 6 37 (o_iload 1 (o_const 99 (o_callV 2 3 r_F_soonest true o_iret))))))))))
      (o_const (-1000001) o_iret)))))
      (o_const (-1000002) o_iret))))
def r_x_all (as : List Value) (M : Mi) : Option (Value × Mi) := match as with
  | [.ref a, .int a0] => b_x_all_0 [.ref a, .int a0] [] M
  | _ => none
def b_x_never_0 : Kt Mi := (o_aload 0 (o_callV 6 1 r_x_noSquare true (o_ifeq
      (o_aload 0 (o_getr 6 37 (o_aload 0 (o_getr 6 7 (o_callV 2 2 r_F_begin false (o_aload 0 (o_getr 6 37 (o_callV 2 1 r_F_sleepless true o_iret))))))))
      (o_const (-1000002) o_iret))))
def r_x_never (as : List Value) (M : Mi) : Option (Value × Mi) := match as with
  | [.ref a] => b_x_never_0 [.ref a] [] M
  | _ => none
def b_x_quiet_19 : Kt Mi := (o_const (-1000001) o_iret)
def b_x_quiet_0 : Kt Mi := (o_aload 0 (o_callV 6 1 r_x_noSquare true (o_ifeq
      (o_iload 1 (o_iflt
      (b_x_quiet_19)
      (o_iload 1 (o_const 5 (o_cle
      (o_aload 0 (o_getr 6 37 (o_aload 0 (o_getr 6 7 (o_callV 2 2 r_F_begin false (o_aload 0 (o_getr 6 37 (o_iload 1 (o_callV 2 2 r_F_calm true o_iret)))))))))
      (b_x_quiet_19))))))
      (o_const (-1000002) o_iret))))
def r_x_quiet (as : List Value) (M : Mi) : Option (Value × Mi) := match as with
  | [.ref a, .int a0] => b_x_quiet_0 [.ref a, .int a0] [] M
  | _ => none
def b_x_order_29 : Kt Mi := (o_const (-1000001) o_iret)
def b_x_order_56 : Kt Mi := (o_iload 3 o_iret)
def b_x_order_83 : Kt Mi := o_iret
def b_x_order_0 : Kt Mi := (o_aload 0 (o_callV 6 1 r_x_noSquare true (o_ifeq
      (o_aload 0 (o_iload 1 (o_callV 6 2 r_x_noSleepers true (o_ifeq
      (o_iload 2 (o_const (-1) (o_clt
      (b_x_order_29)
      (o_iload 2 (o_const 6 (o_clt
      (o_aload 0 (o_getr 6 37 (o_aload 0 (o_getr 6 7 (o_iload 1 (o_callV 2 3 r_F_bestOrder true (o_istore 3 (o_iload 3 (o_const (-1000000) (o_ceq
      (b_x_order_56)
      (o_iload 2 (o_const (-1) (o_ceq
      (b_x_order_56)
      (o_iload 2 (o_aload 0 (o_getr 6 7 (o_geti 5 0 (o_cge
      (o_const (-1000000) (b_x_order_83))
      (o_aload 0 (o_getr 6 37 (o_getr 2 9 (o_iload 2 (o_iald (b_x_order_83))))))))))))))))))))))))
      (b_x_order_29)))))))
      (b_x_order_29)))))
      (o_const (-1000002) o_iret))))
def r_x_order (as : List Value) (M : Mi) : Option (Value × Mi) := match as with
  | [.ref a, .int a0, .int a1] => b_x_order_0 [.ref a, .int a0, .int a1, .null] [] M
  | _ => none
def b_x_fewest_35 : Kt Mi := (o_const (-1000001) o_iret)
def b_x_fewest_65 : Kt Mi := (o_iload 4 o_iret)
def b_x_fewest_0 : Kt Mi := (o_aload 0 (o_callV 6 1 r_x_noSquare true (o_ifeq
      (o_aload 0 (o_iload 1 (o_callV 6 2 r_x_noSleepers true (o_ifeq
      (o_aload 0 (o_iload 2 (o_callV 6 2 r_x_tooFar true (o_ifeq
      (o_iload 3 (o_iflt
      (b_x_fewest_35)
      (o_iload 3 (o_const 1 (o_cle
      (o_aload 0 (o_getr 6 37 (o_aload 0 (o_getr 6 7 (o_iload 1 (o_iload 2 (o_callV 2 4 r_F_smallestFlock true (o_istore 4 (o_iload 4 (o_const (-1000000) (o_ceq
      (b_x_fewest_65)
      (o_iload 3 (o_const 1 (o_ceq
      (b_x_fewest_65)
      (o_iload 4 (o_call 1 r_J_bitCount true o_iret))))))))))))))))
      (b_x_fewest_35))))))
      (b_x_fewest_35)))))
      (b_x_fewest_35)))))
      (o_const (-1000002) o_iret))))
def r_x_fewest (as : List Value) (M : Mi) : Option (Value × Mi) := match as with
  | [.ref a, .int a0, .int a1, .int a2] => b_x_fewest_0 [.ref a, .int a0, .int a1, .int a2, .null] [] M
  | _ => none
def b_x_unreadable_31 : Kt Mi := o_iret
def b_x_unreadable_0 : Kt Mi := (o_aload 0 (o_getr 6 1 (o_iload 1 (o_callV 4 2 r_W_isGone true (o_ifeq
      (o_aload 0 (o_getr 6 1 (o_iload 1 (o_iload 2 (o_iload 3 (o_callV 4 4 r_W_lacks true (o_ifeq
      (o_const 0 (b_x_unreadable_31))
      (o_const 2 (b_x_unreadable_31)))))))))
      (o_const 1 o_iret))))))
def r_x_unreadable (as : List Value) (M : Mi) : Option (Value × Mi) := match as with
  | [.ref a, .int a0, .int a1, .int a2] => b_x_unreadable_0 [.ref a, .int a0, .int a1, .int a2] [] M
  | _ => none
def b_x_missing_29 : Kt Mi := (o_const (-1000001) o_iret)
def b_x_missing_0 : Kt Mi := (o_aload 0 (o_callV 6 1 r_x_noSquare true (o_ifeq
      (o_aload 0 (o_iload 1 (o_callV 6 2 r_x_noRow true (o_ifeq
      (o_iload 3 (o_const 1 (o_clt
      (b_x_missing_29)
      (o_iload 3 (o_const 16 (o_cle
      (o_aload 0 (o_iload 1 (o_iload 2 (o_iload 3 (o_callV 6 4 r_x_unreadable true (o_istore 4 (o_iload 4 (o_ifeq
      (o_aload 0 (o_aload 0 (o_getr 6 37 (o_aload 0 (o_getr 6 7 (o_aload 0 (o_getr 6 1 (o_aload 0 (o_getr 6 1 (o_iload 1 (o_iload 2 (o_callV 4 3 r_W_placeOf true (o_iload 3 (o_callV 2 5 r_F_strays true (o_callV 6 2 r_x_fine true o_iret)))))))))))))))
      (o_aload 0 (o_iload 4 (o_callV 6 2 r_x_found true o_iret)))))))))))
      (b_x_missing_29)))))))
      (b_x_missing_29)))))
      (o_const (-1000002) o_iret))))
def r_x_missing (as : List Value) (M : Mi) : Option (Value × Mi) := match as with
  | [.ref a, .int a0, .int a1, .int a2] => b_x_missing_0 [.ref a, .int a0, .int a1, .int a2, .null] [] M
  | _ => none
def b_x_windy_29 : Kt Mi := (o_const (-1000001) o_iret)
def b_x_windy_0 : Kt Mi := (o_aload 0 (o_callV 6 1 r_x_noSquare true (o_ifeq
      (o_aload 0 (o_iload 1 (o_callV 6 2 r_x_noRow true (o_ifeq
      (o_iload 3 (o_const 1 (o_clt
      (b_x_windy_29)
      (o_iload 3 (o_const 16 (o_cle
      (o_aload 0 (o_iload 1 (o_iload 2 (o_iload 3 (o_callV 6 4 r_x_unreadable true (o_istore 4 (o_iload 4 (o_ifeq
      (o_aload 0 (o_aload 0 (o_getr 6 37 (o_aload 0 (o_getr 6 7 (o_aload 0 (o_getr 6 1 (o_aload 0 (o_getr 6 1 (o_iload 1 (o_iload 2 (o_callV 4 3 r_W_placeOf true (o_iload 3 (o_callV 2 5 r_F_winds true (o_callV 6 2 r_x_fine true o_iret)))))))))))))))
      (o_aload 0 (o_iload 4 (o_callV 6 2 r_x_found true o_iret)))))))))))
      (b_x_windy_29)))))))
      (b_x_windy_29)))))
      (o_const (-1000002) o_iret))))
def r_x_windy (as : List Value) (M : Mi) : Option (Value × Mi) := match as with
  | [.ref a, .int a0, .int a1, .int a2] => b_x_windy_0 [.ref a, .int a0, .int a1, .int a2, .null] [] M
  | _ => none
def b_x_sorts_29 : Kt Mi := (o_const (-1000001) o_iret)
def b_x_sorts_0 : Kt Mi := (o_aload 0 (o_iload 1 (o_callV 6 2 r_x_noSleeper true (o_ifeq
      (o_aload 0 (o_iload 2 (o_callV 6 2 r_x_noRow true (o_ifeq
      (o_iload 4 (o_const 1 (o_clt
      (b_x_sorts_29)
      (o_iload 4 (o_const 16 (o_cle
      (o_aload 0 (o_iload 2 (o_iload 3 (o_iload 4 (o_callV 6 4 r_x_unreadable true (o_istore 5 (o_iload 5 (o_ifeq
      (o_aload 0 (o_aload 0 (o_getr 6 37 (o_aload 0 (o_getr 6 7 (o_iload 1 (o_aload 0 (o_getr 6 1 (o_aload 0 (o_getr 6 1 (o_iload 2 (o_iload 3 (o_callV 4 3 r_W_placeOf true (o_iload 4 (o_callV 2 6 r_F_kinds true (o_callV 6 2 r_x_fine true o_iret))))))))))))))))
      (o_aload 0 (o_iload 5 (o_callV 6 2 r_x_found true o_iret)))))))))))
      (b_x_sorts_29)))))))
      (b_x_sorts_29)))))
      (b_x_sorts_29)))))
def r_x_sorts (as : List Value) (M : Mi) : Option (Value × Mi) := match as with
  | [.ref a, .int a0, .int a1, .int a2, .int a3] => b_x_sorts_0 [.ref a, .int a0, .int a1, .int a2, .int a3, .null] [] M
  | _ => none
def b_x_greatestShared_34 : Kt Mi := (o_iload 2 o_iret)
def b_x_greatestShared_7 : Nat → Kt Mi
  | 0 => fun _ _ _ => none
  | n + 1 => (o_iload 4 (o_const 64 (o_cge
      (b_x_greatestShared_34)
      (o_iload 3 (o_ifle
      (b_x_greatestShared_34)
      (o_iload 2 (o_iload 3 (o_irem (o_istore 5 (o_iload 3 (o_istore 2 (o_iload 5 (o_istore 3 (o_iinc 4 1 (b_x_greatestShared_7 n)))))))))))))))
def b_x_greatestShared_0 : Kt Mi := (o_iload 1 (o_istore 2 (o_iload 0 (o_istore 3 (o_const 0 (o_istore 4 (b_x_greatestShared_7 k_fu)))))))
def r_x_greatestShared (as : List Value) (M : Mi) : Option (Value × Mi) := match as with
  | [.int a0, .int a1] => b_x_greatestShared_0 [.int a0, .int a1, .null, .null, .null, .null] [] M
  | _ => none
def b_x_stay_37 : Kt Mi := (o_const (-1000001) o_iret)
def b_x_stay_117 : Kt Mi := (o_iload 7 (o_idiv o_iret))
def b_x_stay_62 : Nat → Kt Mi
  | 0 => fun _ _ _ => none
  | n + 1 => (o_iload 7 (o_aload 0 (o_getr 6 7 (o_geti 5 0 (o_cge
      (o_iload 5 (o_iload 6 (o_call 2 r_x_greatestShared true (o_istore 7 (o_iload 7 (o_const 1 (o_cge
      (o_iload 4 (o_ifeq
      (o_iload 5 (b_x_stay_117))
      (o_iload 6 (b_x_stay_117))))
      (o_const (-1000001) o_iret))))))))
      (o_iload 6 (o_const 10 (o_mul (o_istore 6 (o_iinc 7 1 (b_x_stay_62 n)))))))))))
def b_x_stay_0 : Kt Mi := (o_aload 0 (o_iload 1 (o_callV 6 2 r_x_noSleeper true (o_ifeq
      (o_aload 0 (o_iload 2 (o_callV 6 2 r_x_tooFar true (o_ifeq
      (o_iload 3 (o_iflt
      (b_x_stay_37)
      (o_iload 3 (o_const 10 (o_cgt
      (b_x_stay_37)
      (o_iload 4 (o_iflt
      (b_x_stay_37)
      (o_iload 4 (o_const 1 (o_cle
      (o_aload 0 (o_getr 6 37 (o_aload 0 (o_getr 6 7 (o_iload 1 (o_iload 2 (o_iload 3 (o_callV 2 5 r_F_chance true (o_istore 5 (o_const 1 (o_istore 6 (o_const 1 (o_istore 7 (b_x_stay_62 k_fu))))))))))))))
      (b_x_stay_37)))))))))))
      (b_x_stay_37)))))
      (b_x_stay_37)))))
def r_x_stay (as : List Value) (M : Mi) : Option (Value × Mi) := match as with
  | [.ref a, .int a0, .int a1, .int a2, .int a3] => b_x_stay_0 [.ref a, .int a0, .int a1, .int a2, .int a3, .null, .null, .null] [] M
  | _ => none
def b_x_imageOf_15 : Kt Mi := o_aret
def b_x_imageOf_0 : Kt Mi := (o_iload 1 (o_ifeq
      (o_aload 0 (o_getr 6 15 (b_x_imageOf_15)))
      (o_aload 0 (o_getr 6 23 (b_x_imageOf_15)))))
def r_x_imageOf (as : List Value) (M : Mi) : Option (Value × Mi) := match as with
  | [.ref a, .int a0] => b_x_imageOf_0 [.ref a, .int a0] [] M
  | _ => none
def b_x_image_9 : Kt Mi := (o_const (-1000001) o_iret)
def b_x_image_0 : Kt Mi := (o_iload 1 (o_iflt
      (b_x_image_9)
      (o_iload 1 (o_const 2 (o_clt
      (o_aload 0 (o_callV 6 1 r_x_noSquare true (o_ifeq
      (o_aload 0 (o_iload 1 (o_callV 6 2 r_x_imageOf true (o_aload 0 (o_getr 6 7 (o_callV 5 2 r_S_become false (o_const 1 o_iret)))))))
      (o_const (-1000002) o_iret))))
      (b_x_image_9))))))
def r_x_image (as : List Value) (M : Mi) : Option (Value × Mi) := match as with
  | [.ref a, .int a0] => b_x_image_0 [.ref a, .int a0] [] M
  | _ => none
def b_x_restore_9 : Kt Mi := (o_const (-1000001) o_iret)
def b_x_restore_0 : Kt Mi := (o_iload 1 (o_iflt
      (b_x_restore_9)
      (o_iload 1 (o_const 2 (o_clt
      (o_aload 0 (o_iload 1 (o_callV 6 2 r_x_imageOf true (o_geti 5 0 (o_ifeq
      (o_const (-1000002) o_iret)
      (o_aload 0 (o_getr 6 7 (o_aload 0 (o_iload 1 (o_callV 6 2 r_x_imageOf true (o_callV 5 2 r_S_become false (o_aload 0 (o_getr 6 31 (o_callV 0 1 r_A_forget false (o_const 1 o_iret)))))))))))))))
      (b_x_restore_9))))))
def r_x_restore (as : List Value) (M : Mi) : Option (Value × Mi) := match as with
  | [.ref a, .int a0] => b_x_restore_0 [.ref a, .int a0] [] M
  | _ => none
def b_x_kind_0 : Kt Mi := (o_aload 0 (o_iload 1 (o_callV 6 2 r_x_noSleeper true (o_ifeq
      (o_aload 0 (o_getr 6 7 (o_getr 5 4 (o_iload 1 (o_iald o_iret)))))
      (o_const (-1000001) o_iret)))))
def r_x_kind (as : List Value) (M : Mi) : Option (Value × Mi) := match as with
  | [.ref a, .int a0] => b_x_kind_0 [.ref a, .int a0] [] M
  | _ => none
def b_x_isOne_44 : Kt Mi := o_zret
def b_x_isOne_35 : Kt Mi := (o_iload 1 (o_ifeq
      (o_const 1 (b_x_isOne_44))
      (o_const 0 (b_x_isOne_44))))
def b_x_isOne_4 : Nat → Kt Mi
  | 0 => fun _ _ _ => none
  | n + 1 => (o_iload 3 (o_gets 0 (o_salen (o_cge
      (b_x_isOne_35)
      (o_iload 2 (o_ifeq
      (b_x_isOne_35)
      (o_iload 2 (o_iload 1 (o_ceq
      (o_const 1 o_zret)
      (o_gets 0 (o_iload 2 (o_sald (o_istore 2 (o_iinc 3 1 (b_x_isOne_4 n)))))))))))))))
def b_x_isOne_0 : Kt Mi := (o_iload 0 (o_istore 2 (o_const 0 (o_istore 3 (b_x_isOne_4 k_fu)))))
def r_x_isOne (as : List Value) (M : Mi) : Option (Value × Mi) := match as with
  | [.int a0, .int a1] => b_x_isOne_0 [.int a0, .int a1, .null, .null] [] M
  | _ => none
def b_x_as_17 : Kt Mi := (o_const (-1000001) o_iret)
def b_x_as_0 : Kt Mi := (o_aload 0 (o_iload 1 (o_callV 6 2 r_x_noSleeper true (o_ifeq
      (o_iload 2 (o_iflt
      (b_x_as_17)
      (o_iload 2 (o_const 5 (o_cle
      (o_aload 0 (o_getr 6 7 (o_getr 5 4 (o_iload 1 (o_iald (o_iload 2 (o_call 2 r_x_isOne true (o_ifeq
      (o_aload 0 (o_const 3 (o_callV 6 2 r_x_found true o_iret)))
      (o_aload 0 (o_iload 1 (o_callV 6 2 r_x_fine true o_iret)))))))))))
      (b_x_as_17))))))
      (b_x_as_17)))))
def r_x_as (as : List Value) (M : Mi) : Option (Value × Mi) := match as with
  | [.ref a, .int a0, .int a1] => b_x_as_0 [.ref a, .int a0, .int a1] [] M
  | _ => none
def b_x_ask_17 : Kt Mi := (o_const (-1000001) o_iret)
def b_x_ask_0 : Kt Mi := (o_aload 0 (o_iload 1 (o_callV 6 2 r_x_noSleeper true (o_ifeq
      (o_iload 2 (o_iflt
      (b_x_ask_17)
      (o_iload 2 (o_const 2 (o_clt
      (o_aload 0 (o_getr 6 47 (o_aload 0 (o_getr 6 7 (o_iload 1 (o_iload 2 (o_callV 1 4 r_Q_begin true o_iret)))))))
      (b_x_ask_17))))))
      (b_x_ask_17)))))
def r_x_ask (as : List Value) (M : Mi) : Option (Value × Mi) := match as with
  | [.ref a, .int a0, .int a1] => b_x_ask_0 [.ref a, .int a0, .int a1] [] M
  | _ => none
def b_x_trace_15 : Kt Mi := (o_const (-1000000) o_iret)
def b_x_trace_0 : Kt Mi := (o_iload 1 (o_iflt
      (b_x_trace_15)
      (o_iload 1 (o_aload 0 (o_getr 6 47 (o_geti 1 1 (o_clt
      (o_aload 0 (o_getr 6 47 (o_getr 1 1 (o_iload 1 (o_iald o_iret)))))
      (b_x_trace_15))))))))
def r_x_trace (as : List Value) (M : Mi) : Option (Value × Mi) := match as with
  | [.ref a, .int a0] => b_x_trace_0 [.ref a, .int a0] [] M
  | _ => none
def b_x_count_0 : Kt Mi := (o_iload 1 (o_sw [(0, (o_aload 0 (o_getr 6 1 (o_callV 4 1 r_W_howMany true o_iret)))),
      (1, (o_aload 0 (o_getr 6 7 (o_geti 5 0 o_iret)))),
      (2, (o_aload 0 (o_getr 6 7 (o_geti 5 1 o_iret)))),
      (3, (o_aload 0 (o_getr 6 7 (o_geti 5 2 o_iret)))),
      (4, (o_aload 0 (o_getr 6 7 (o_geti 5 3 o_iret)))),
      (5, (o_aload 0 (o_getr 6 7 (o_geti 5 4 (o_call 1 r_J_bitCount true o_iret))))),
      (6, (o_aload 0 (o_getr 6 31 (o_geti 0 0 o_iret)))),
      (7, (o_aload 0 (o_getr 6 5 (o_geti 3 1 o_iret))))] (o_const (-1000001) o_iret)))
def r_x_count (as : List Value) (M : Mi) : Option (Value × Mi) := match as with
  | [.ref a, .int a0] => b_x_count_0 [.ref a, .int a0] [] M
  | _ => none
def b_x_status_0 : Kt Mi := (o_aload 0 (o_geti 6 8 o_iret))
def r_x_status (as : List Value) (M : Mi) : Option (Value × Mi) := match as with
  | [.ref a] => b_x_status_0 [.ref a] [] M
  | _ => none
def b_m_init_127 : Nat → Kt Mw
  | 0 => fun _ _ _ => none
  | n + 1 => (o_iload 1 (o_const 8 (o_cge
      o_ret
      (o_aload 0 (c_getr 7 0 (o_iload 1 (o_const (-1) (c_iast (o_iinc 1 1 (b_m_init_127 n))))))))))
def b_m_init_0 : Kt Mw := (o_aload 0 (c_obj (o_aload 0 (o_const 8 (c_newi (c_putr 7 0 (o_aload 0 (o_const 8 (c_newi (c_putr 7 1 (o_aload 0 (o_const 320 (c_newi (c_putr 7 2 (o_aload 0 (o_const 100 (c_newi (c_putr 7 5 (o_aload 0 (o_const 47 (c_newi (c_putr 7 12 (o_aload 0 (o_const 47 (c_newi (c_putr 7 13 (o_aload 0 (o_const 47 (c_newi (c_putr 7 14 (o_aload 0 (o_const 94 (c_newi (c_putr 7 15 (o_aload 0 (o_const 2 (c_newz (c_putr 7 16 (o_aload 0 (o_const 1128 (c_newi (c_putr 7 17 (o_aload 0 (o_const 16 (c_newi (c_putr 7 19 (o_aload 0 (o_const 16 (c_newi (c_putr 7 21 (o_aload 0 (o_const 6 (c_newi (c_putr 7 22 (o_aload 0 (o_const 6 (c_newi (c_putr 7 23 (o_aload 0 (o_const 106 (c_newi (c_putr 7 24 (o_const 0 (o_istore 1 (b_m_init_127 k_fu)))))))))))))))))))))))))))))))))))))))))))))))))))))))))))))))))
def r_m_init (as : List Value) (M : Mw) : Option (Value × Mw) := match as with
  | [.ref a] => b_m_init_0 [.ref a, .null] [] M
  | _ => none
def b_m_in_15 : Kt Mi := o_zret
def b_m_in_14 : Kt Mi := (o_const 0 (b_m_in_15))
def b_m_in_0 : Kt Mi := (o_iload 0 (o_iload 1 (o_clt
      (b_m_in_14)
      (o_iload 0 (o_iload 2 (o_cgt
      (b_m_in_14)
      (o_const 1 (b_m_in_15))))))))
def r_m_in (as : List Value) (M : Mi) : Option (Value × Mi) := match as with
  | [.int a0, .int a1, .int a2] => b_m_in_0 [.int a0, .int a1, .int a2] [] M
  | _ => none
def b_m_has_14 : Kt Mi := o_zret
def b_m_has_0 : Kt Mi := (o_iload 0 (o_iload 1 (o_shr (o_const 1 (o_and (o_const 1 (o_ceq
      (o_const 1 (b_m_has_14))
      (o_const 0 (b_m_has_14)))))))))
def r_m_has (as : List Value) (M : Mi) : Option (Value × Mi) := match as with
  | [.int a0, .int a1] => b_m_has_0 [.int a0, .int a1] [] M
  | _ => none
def b_m_bits_4 : Nat → Kt Mi
  | 0 => fun _ _ _ => none
  | n + 1 => (o_iload 2 (o_const 6 (o_cge
      (o_iload 1 o_iret)
      (o_iload 1 (o_iload 0 (o_iload 2 (o_shr (o_const 1 (o_and (o_add (o_istore 1 (o_iinc 2 1 (b_m_bits_4 n)))))))))))))
def b_m_bits_0 : Kt Mi := (o_const 0 (o_istore 1 (o_const 0 (o_istore 2 (b_m_bits_4 k_fu)))))
def r_m_bits (as : List Value) (M : Mi) : Option (Value × Mi) := match as with
  | [.int a0] => b_m_bits_0 [.int a0, .null, .null] [] M
  | _ => none
def b_m_lay_3 : Nat → Kt Mi
  | 0 => fun _ _ _ => none
  | n + 1 => (o_iload 4 (o_const 47 (o_cge
      o_ret
      (o_aload 2 (o_iload 3 (o_iload 4 (o_add (o_aload 0 (o_iload 1 (o_iload 4 (o_add (o_iald (o_iast (o_iinc 4 1 (b_m_lay_3 n)))))))))))))))
def b_m_lay_0 : Kt Mi := (o_const 0 (o_istore 4 (b_m_lay_3 k_fu)))
def r_m_lay (as : List Value) (M : Mi) : Option (Value × Mi) := match as with
  | [.ref a0, .int a1, .ref a2, .int a3] => b_m_lay_0 [.ref a0, .int a1, .ref a2, .int a3, .null] [] M
  | _ => none
def b_m_isSquare_14 : Kt Mi := o_zret
def b_m_isSquare_0 : Kt Mi := (o_aload 0 (o_getr 7 5 (o_const 2 (o_iald (o_ifle
      (o_const 0 (b_m_isSquare_14))
      (o_const 1 (b_m_isSquare_14)))))))
def r_m_isSquare (as : List Value) (M : Mi) : Option (Value × Mi) := match as with
  | [.ref a] => b_m_isSquare_0 [.ref a] [] M
  | _ => none
def b_m_isOne_0 : Kt Mi := (o_iload 1 (o_const 0 (o_aload 0 (o_getr 7 5 (o_const 3 (o_iald (o_const 1 (o_sub (o_call 3 r_m_in true o_zret)))))))))
def r_m_isOne (as : List Value) (M : Mi) : Option (Value × Mi) := match as with
  | [.ref a, .int a0] => b_m_isOne_0 [.ref a, .int a0] [] M
  | _ => none
def b_m_isSet_0 : Kt Mi := (o_iload 1 (o_const 0 (o_const 1 (o_aload 0 (o_getr 7 5 (o_const 3 (o_iald (o_shl (o_const 1 (o_sub (o_call 3 r_m_in true o_zret)))))))))))
def r_m_isSet (as : List Value) (M : Mi) : Option (Value × Mi) := match as with
  | [.ref a, .int a0] => b_m_isSet_0 [.ref a, .int a0] [] M
  | _ => none
def b_m_finds_0 : Kt Mi := (o_aload 0 (o_iload 1 (o_puti 7 3 (o_const (-1000010) (o_iload 1 (o_sub o_iret))))))
def r_m_finds (as : List Value) (M : Mi) : Option (Value × Mi) := match as with
  | [.ref a, .int a0] => b_m_finds_0 [.ref a, .int a0] [] M
  | _ => none
def b_m_done_0 : Kt Mi := (o_aload 0 (o_const 0 (o_puti 7 3 (o_iload 1 o_iret))))
def r_m_done (as : List Value) (M : Mi) : Option (Value × Mi) := match as with
  | [.ref a, .int a0] => b_m_done_0 [.ref a, .int a0] [] M
  | _ => none
def b_m_isRow_0 : Kt Mi := (o_iload 0 (o_const 0 (o_const 7 (o_call 3 r_m_in true o_zret))))
def r_m_isRow (as : List Value) (M : Mi) : Option (Value × Mi) := match as with
  | [.int a0] => b_m_isRow_0 [.int a0] [] M
  | _ => none
def b_m_row_22 : Kt Mi := (o_const (-1000001) o_iret)
def b_m_row_52 : Nat → Kt Mi
  | 0 => fun _ _ _ => none
  | n + 1 => (o_iload 4 (o_const 40 (o_cge
      (o_aload 0 (o_iload 3 (o_callV 7 2 r_m_done true o_iret)))
      (o_aload 0 (o_getr 7 3 (o_const 40 (o_iload 1 (o_mul (o_iload 4 (o_add (o_const 0 (o_iast (o_iinc 4 1 (b_m_row_52 n))))))))))))))
def b_m_row_0 : Kt Mi := (o_iload 1 (o_call 1 r_m_isRow true (o_ifeq
      (b_m_row_22)
      (o_iload 2 (o_const 0 (o_const 2 (o_call 3 r_m_in true (o_ifeq
      (b_m_row_22)
      (o_iload 3 (o_const 40 (o_cle
      (o_iload 3 (o_ifge
      (o_aload 0 (o_getr 7 1 (o_iload 1 (o_iload 2 (o_iast (o_aload 0 (o_getr 7 2 (o_iload 1 (o_iload 3 (o_iast (o_const 0 (o_istore 4 (b_m_row_52 k_fu)))))))))))))
      (o_aload 0 (o_const 4 (o_callV 7 2 r_m_finds true o_iret)))))
      (b_m_row_22))))))))))))
def r_m_row (as : List Value) (M : Mi) : Option (Value × Mi) := match as with
  | [.ref a, .int a0, .int a1, .int a2] => b_m_row_0 [.ref a, .int a0, .int a1, .int a2, .null] [] M
  | _ => none
def b_m_set_87 : Kt Mi := (o_iast (o_aload 0 (o_aload 0 (o_getr 7 3 (o_const 40 (o_iload 1 (o_mul (o_iload 2 (o_add (o_iald (o_callV 7 2 r_m_done true o_iret)))))))))))
def b_m_set_0 : Kt Mi := (o_iload 1 (o_call 1 r_m_isRow true (o_ifeq
      (o_const (-1000001) o_iret)
      (o_aload 0 (o_getr 7 1 (o_iload 1 (o_iald (o_ifge
      (o_iload 2 (o_const 0 (o_aload 0 (o_getr 7 2 (o_iload 1 (o_iald (o_const 1 (o_sub (o_call 3 r_m_in true (o_ifeq
      (o_aload 0 (o_const 2 (o_callV 7 2 r_m_finds true o_iret)))
      (o_aload 0 (o_getr 7 3 (o_const 40 (o_iload 1 (o_mul (o_iload 2 (o_add (o_aload 0 (o_getr 7 1 (o_iload 1 (o_iald (o_ifeq
      (o_iload 3 (o_i2b (b_m_set_87)))
      (o_aload 0 (o_getr 7 1 (o_iload 1 (o_iald (o_const 1 (o_ceq
      (o_iload 3 (o_i2s (b_m_set_87)))
      (o_iload 3 (b_m_set_87))))))))))))))))))))))))))))))
      (o_aload 0 (o_const 1 (o_callV 7 2 r_m_finds true o_iret)))))))))))
def r_m_set (as : List Value) (M : Mi) : Option (Value × Mi) := match as with
  | [.ref a, .int a0, .int a1, .int a2] => b_m_set_0 [.ref a, .int a0, .int a1, .int a2] [] M
  | _ => none
def b_m_isPart_25 : Kt Mi := o_zret
def b_m_isPart_24 : Kt Mi := (o_const 0 (b_m_isPart_25))
def b_m_isPart_0 : Kt Mi := (o_iload 0 (o_iflt
      (b_m_isPart_24)
      (o_iload 1 (o_iflt
      (b_m_isPart_24)
      (o_iload 1 (o_iload 2 (o_cgt
      (b_m_isPart_24)
      (o_iload 0 (o_iload 2 (o_iload 1 (o_sub (o_cgt
      (b_m_isPart_24)
      (o_const 1 (b_m_isPart_25))))))))))))))
def r_m_isPart (as : List Value) (M : Mi) : Option (Value × Mi) := match as with
  | [.int a0, .int a1, .int a2] => b_m_isPart_0 [.int a0, .int a1, .int a2] [] M
  | _ => none
def b_m_copy_14 : Kt Mi := (o_const (-1000001) o_iret)
def b_m_copy_35 : Kt Mi := (o_aload 0 (o_const 1 (o_callV 7 2 r_m_finds true o_iret)))
def b_m_copy_93 : Kt Mi := (o_aload 0 (o_const 2 (o_callV 7 2 r_m_finds true o_iret)))
def b_m_copy_144 (k120 : Kt Mi) : Kt Mi := (o_istore 8 (o_aload 0 (o_getr 7 3 (o_const 40 (o_iload 3 (o_mul (o_iload 4 (o_add (o_iload 8 (o_add (o_aload 0 (o_getr 7 3 (o_const 40 (o_iload 1 (o_mul (o_iload 2 (o_add (o_iload 8 (o_add (o_iald (o_iast (o_iinc 7 1 k120))))))))))))))))))))))
def b_m_copy_120 : Nat → Kt Mi
  | 0 => fun _ _ _ => none
  | n + 1 => (o_iload 7 (o_iload 5 (o_cge
      (o_aload 0 (o_iload 5 (o_callV 7 2 r_m_done true o_iret)))
      (o_iload 6 (o_ifeq
      (o_iload 7 (b_m_copy_144 (b_m_copy_120 n)))
      (o_iload 5 (o_const 1 (o_sub (o_iload 7 (o_sub (b_m_copy_144 (b_m_copy_120 n))))))))))))
def b_m_copy_115 : Kt Mi := (o_istore 6 (o_const 0 (o_istore 7 (b_m_copy_120 k_fu))))
def b_m_copy_114 : Kt Mi := (o_const 0 (b_m_copy_115))
def b_m_copy_0 : Kt Mi := (o_iload 1 (o_call 1 r_m_isRow true (o_ifeq
      (b_m_copy_14)
      (o_iload 3 (o_call 1 r_m_isRow true (o_ifeq
      (b_m_copy_14)
      (o_aload 0 (o_getr 7 1 (o_iload 1 (o_iald (o_iflt
      (b_m_copy_35)
      (o_aload 0 (o_getr 7 1 (o_iload 3 (o_iald (o_ifge
      (o_aload 0 (o_getr 7 1 (o_iload 1 (o_iald (o_aload 0 (o_getr 7 1 (o_iload 3 (o_iald (o_ceq
      (o_iload 2 (o_iload 5 (o_aload 0 (o_getr 7 2 (o_iload 1 (o_iald (o_call 3 r_m_isPart true (o_ifeq
      (b_m_copy_93)
      (o_iload 4 (o_iload 5 (o_aload 0 (o_getr 7 2 (o_iload 3 (o_iald (o_call 3 r_m_isPart true (o_ifeq
      (b_m_copy_93)
      (o_iload 1 (o_iload 3 (o_ceq
      (o_iload 4 (o_iload 2 (o_cle
      (b_m_copy_114)
      (o_const 1 (b_m_copy_115)))))
      (b_m_copy_114))))))))))))))))))))
      (o_aload 0 (o_const 5 (o_callV 7 2 r_m_finds true o_iret))))))))))))
      (b_m_copy_35)))))))))))))))))
def r_m_copy (as : List Value) (M : Mi) : Option (Value × Mi) := match as with
  | [.ref a, .int a0, .int a1, .int a2, .int a3, .int a4] => b_m_copy_0 [.ref a, .int a0, .int a1, .int a2, .int a3, .int a4, .null, .null, .null] [] M
  | _ => none
def b_m_drop_0 : Kt Mi := (o_iload 1 (o_call 1 r_m_isRow true (o_ifeq
      (o_const (-1000001) o_iret)
      (o_aload 0 (o_getr 7 1 (o_iload 1 (o_iald (o_ifge
      (o_aload 0 (o_getr 7 1 (o_iload 1 (o_const (-1) (o_iast (o_aload 0 (o_aload 0 (o_getr 7 2 (o_iload 1 (o_iald (o_callV 7 2 r_m_done true o_iret)))))))))))
      (o_aload 0 (o_const 1 (o_callV 7 2 r_m_finds true o_iret)))))))))))
def r_m_drop (as : List Value) (M : Mi) : Option (Value × Mi) := match as with
  | [.ref a, .int a0] => b_m_drop_0 [.ref a, .int a0] [] M
  | _ => none
def b_m_feed_0 : Kt Mi := (o_iload 1 (o_const 0 (o_const 255 (o_call 3 r_m_in true (o_ifeq
      (o_const (-1000001) o_iret)
      (o_aload 0 (o_geti 7 4 (o_const 100 (o_ceq
      (o_const (-1000003) o_iret)
      (o_aload 0 (o_getr 7 4 (o_aload 0 (o_geti 7 4 (o_iload 1 (o_iast (o_aload 0 (o_dup (o_geti 7 4 (o_const 1 (o_add (o_puti 7 4 (o_aload 0 (o_geti 7 4 o_iret)))))))))))))))))))))))
def r_m_feed (as : List Value) (M : Mi) : Option (Value × Mi) := match as with
  | [.ref a, .int a0] => b_m_feed_0 [.ref a, .int a0] [] M
  | _ => none
def b_m_nextToken_193 : Kt Mi := (o_puti 7 8 (o_aload 0 (o_dup (o_geti 7 6 (o_const 1 (o_add (o_puti 7 6 o_ret)))))))
def b_m_nextToken_187 : Kt Mi := (o_iload 1 (b_m_nextToken_193))
def b_m_nextToken_159 : Kt Mi := (o_puti 7 8 o_ret)
def b_m_nextToken_139 : Kt Mi := (o_aload 0 (o_aload 0 (o_geti 7 6 (o_aload 0 (o_geti 7 7 (o_sub (o_const 2 (o_cle
      (o_const (-1) (b_m_nextToken_159))
      (o_const (-3) (b_m_nextToken_159))))))))))
def b_m_nextToken_123 (k52 : Kt Mi) : Kt Mi := (o_puti 7 9 (o_aload 0 (o_dup (o_geti 7 6 (o_const 1 (o_add (o_puti 7 6 k52)))))))
def b_m_nextToken_52 : Nat → Kt Mi
  | 0 => fun _ _ _ => none
  | n + 1 => (o_aload 0 (o_geti 7 6 (o_aload 0 (o_geti 7 4 (o_cge
      (b_m_nextToken_139)
      (o_aload 0 (o_getr 7 4 (o_aload 0 (o_geti 7 6 (o_iald (o_const 48 (o_const 57 (o_call 3 r_m_in true (o_ifeq
      (b_m_nextToken_139)
      (o_aload 0 (o_aload 0 (o_geti 7 6 (o_aload 0 (o_geti 7 7 (o_sub (o_const 2 (o_cge
      (o_aload 0 (o_geti 7 9 (b_m_nextToken_123 (b_m_nextToken_52 n))))
      (o_const 10 (o_aload 0 (o_geti 7 9 (o_mul (o_aload 0 (o_getr 7 4 (o_aload 0 (o_geti 7 6 (o_iald (o_add (o_const 48 (o_sub (b_m_nextToken_123 (b_m_nextToken_52 n))))))))))))))))))))))))))))))))))))
def b_m_nextToken_0 : Kt Mi := (o_aload 0 (o_aload 0 (o_geti 7 6 (o_puti 7 7 (o_aload 0 (o_const 0 (o_puti 7 9 (o_aload 0 (o_geti 7 6 (o_aload 0 (o_geti 7 4 (o_ceq
      (o_aload 0 (o_const (-2) (o_puti 7 8 o_ret)))
      (o_aload 0 (o_getr 7 4 (o_aload 0 (o_geti 7 6 (o_iald (o_istore 1 (o_iload 1 (o_const 48 (o_const 57 (o_call 3 r_m_in true (o_ifeq
      (o_aload 0 (o_iload 1 (o_const 97 (o_const 122 (o_call 3 r_m_in true (o_ifeq
      (o_iload 1 (o_const 44 (o_ceq
      (b_m_nextToken_187)
      (o_iload 1 (o_const 59 (o_ceq
      (b_m_nextToken_187)
      (o_const (-3) (b_m_nextToken_193))))))))
      (b_m_nextToken_187)))))))
      (b_m_nextToken_52 k_fu))))))))))))))))))))))))
def r_m_nextToken (as : List Value) (M : Mi) : Option (Value × Mi) := match as with
  | [.ref a] => b_m_nextToken_0 [.ref a, .null] [] M
  | _ => none
def b_m_fails_0 : Kt Mi := (o_aload 0 (o_iload 1 (o_puti 7 10 (o_const 0 o_zret))))
def r_m_fails (as : List Value) (M : Mi) : Option (Value × Mi) := match as with
  | [.ref a, .int a0] => b_m_fails_0 [.ref a, .int a0] [] M
  | _ => none
def b_m_isSign_25 : Kt Mi := o_zret
def b_m_isSign_20 : Kt Mi := (o_const 1 (b_m_isSign_25))
def b_m_isSign_0 : Kt Mi := (o_aload 0 (o_callV 7 1 r_m_nextToken false (o_aload 0 (o_geti 7 8 (o_iload 1 (o_ceq
      (b_m_isSign_20)
      (o_aload 0 (o_const 1 (o_callV 7 2 r_m_fails true (o_ifeq
      (o_const 0 (b_m_isSign_25))
      (b_m_isSign_20)))))))))))
def r_m_isSign (as : List Value) (M : Mi) : Option (Value × Mi) := match as with
  | [.ref a, .int a0] => b_m_isSign_0 [.ref a, .int a0] [] M
  | _ => none
def b_m_isNumber_43 : Kt Mi := o_zret
def b_m_isNumber_38 : Kt Mi := (o_const 1 (b_m_isNumber_43))
def b_m_isNumber_0 : Kt Mi := (o_aload 0 (o_callV 7 1 r_m_nextToken false (o_aload 0 (o_geti 7 8 (o_const (-1) (o_ceq
      (o_aload 0 (o_geti 7 9 (o_iload 1 (o_iload 2 (o_call 3 r_m_in true (o_ifeq
      (o_aload 0 (o_const 2 (o_callV 7 2 r_m_fails true (o_ifeq
      (o_const 0 (b_m_isNumber_43))
      (b_m_isNumber_38)))))
      (b_m_isNumber_38)))))))
      (o_aload 0 (o_const 1 (o_callV 7 2 r_m_fails true o_zret)))))))))
def r_m_isNumber (as : List Value) (M : Mi) : Option (Value × Mi) := match as with
  | [.ref a, .int a0, .int a1] => b_m_isNumber_0 [.ref a, .int a0, .int a1] [] M
  | _ => none
def b_m_isPair_40 : Kt Mi := (o_const 0 o_zret)
def b_m_isPair_0 : Kt Mi := (o_aload 0 (o_iload 2 (o_iload 3 (o_callV 7 3 r_m_isNumber true (o_ifeq
      (o_const 0 o_zret)
      (o_aload 0 (o_getr 7 6 (o_iload 1 (o_aload 0 (o_geti 7 9 (o_iast (o_aload 0 (o_const 44 (o_callV 7 2 r_m_isSign true (o_ifeq
      (b_m_isPair_40)
      (o_aload 0 (o_const 0 (o_iload 5 (o_callV 7 3 r_m_isNumber true (o_ifeq
      (b_m_isPair_40)
      (o_aload 0 (o_getr 7 6 (o_iload 4 (o_aload 0 (o_geti 7 9 (o_iast (o_aload 0 (o_const 59 (o_callV 7 2 r_m_isSign true o_zret)))))))))))))))))))))))))))))
def r_m_isPair (as : List Value) (M : Mi) : Option (Value × Mi) := match as with
  | [.ref a, .int a0, .int a1, .int a2, .int a3, .int a4] => b_m_isPair_0 [.ref a, .int a0, .int a1, .int a2, .int a3, .int a4] [] M
  | _ => none
def b_m_sortBy_51 : Kt Mi := o_iret
def b_m_sortBy_0 : Kt Mi := (o_iload 0 (o_const 112 (o_ceq
      (o_const 1 (b_m_sortBy_51))
      (o_iload 0 (o_const 100 (o_ceq
      (o_const 2 (b_m_sortBy_51))
      (o_iload 0 (o_const 116 (o_ceq
      (o_const 3 (b_m_sortBy_51))
      (o_iload 0 (o_const 110 (o_ceq
      (o_const 4 (b_m_sortBy_51))
      (o_iload 0 (o_const 108 (o_ceq
      (o_const 5 (b_m_sortBy_51))
      (o_const 0 (b_m_sortBy_51)))))))))))))))))
def r_m_sortBy (as : List Value) (M : Mi) : Option (Value × Mi) := match as with
  | [.int a0] => b_m_sortBy_0 [.int a0] [] M
  | _ => none
def b_m_isItem_111 : Kt Mi := (o_aload 0 (o_const 1 (o_callV 7 2 r_m_fails true o_zret)))
def b_m_isItem_97 : Kt Mi := (o_istore 1 (o_iload 1 (o_ifeq
      (b_m_isItem_111)
      (o_aload 0 (o_getr 7 6 (o_const 2 (o_iald (o_ifeq
      (b_m_isItem_111)
      (o_aload 0 (o_getr 7 6 (o_const 3 (o_iald (o_istore 2 (o_iload 2 (o_const 5 (o_ceq
      (o_aload 0 (o_const 3 (o_callV 7 2 r_m_fails true o_zret)))
      (o_aload 0 (o_getr 7 6 (o_const 22 (o_iload 2 (o_add (o_iload 1 (o_iast (o_aload 0 (o_const 27 (o_iload 2 (o_add (o_const 1 (o_const 60 (o_const 32 (o_iload 2 (o_add (o_const 1 (o_callV 7 6 r_m_isPair true (o_ifeq
      (o_const 0 o_zret)
      (o_aload 0 (o_getr 7 6 (o_const 3 (o_dup2 (o_iald (o_const 1 (o_add (o_iast (o_const 1 o_zret))))))))))))))))))))))))))))))))))))))))))))
def b_m_isItem_79 : Kt Mi := (o_aload 0 (o_geti 7 8 (o_ifle
      (o_const 0 (b_m_isItem_97))
      (o_aload 0 (o_geti 7 8 (o_call 1 r_m_sortBy true (b_m_isItem_97)))))))
def b_m_isItem_0 : Kt Mi := (o_aload 0 (o_geti 7 8 (o_const 102 (o_ceq
      (o_aload 0 (o_getr 7 6 (o_const 3 (o_iald (o_ifeq
      (o_aload 0 (o_getr 7 6 (o_const 2 (o_iald (o_istore 1 (o_iload 1 (o_const 6 (o_ceq
      (o_aload 0 (o_const 3 (o_callV 7 2 r_m_fails true o_zret)))
      (o_aload 0 (o_getr 7 6 (o_const 4 (o_iload 1 (o_add (o_iload 1 (o_iast (o_aload 0 (o_const 10 (o_iload 1 (o_add (o_const 0 (o_const 9 (o_const 16 (o_iload 1 (o_add (o_const 3 (o_callV 7 6 r_m_isPair true (o_ifeq
      (o_const 0 o_zret)
      (o_aload 0 (o_getr 7 6 (o_const 2 (o_dup2 (o_iald (o_const 1 (o_add (o_iast (o_const 1 o_zret))))))))))))))))))))))))))))))))))))
      (b_m_isItem_79))))))
      (b_m_isItem_79)))))
def r_m_isItem (as : List Value) (M : Mi) : Option (Value × Mi) := match as with
  | [.ref a] => b_m_isItem_0 [.ref a, .null, .null] [] M
  | _ => none
def b_m_isRead_45 : Kt Mi := (o_const 0 o_zret)
def b_m_isRead_90 (k72 : Kt Mi) : Kt Mi := (o_aload 0 (o_callV 7 1 r_m_isItem true (o_ifeq
      (o_const 0 o_zret)
      (o_aload 0 (o_callV 7 1 r_m_nextToken false k72)))))
def b_m_isRead_72 : Nat → Kt Mi
  | 0 => fun _ _ _ => none
  | n + 1 => (o_aload 0 (o_geti 7 8 (o_const (-2) (o_ceq
      (o_aload 0 (o_getr 7 6 (o_const 2 (o_iald (o_ifeq
      (b_m_isRead_90 (b_m_isRead_72 n))
      (o_const 1 o_zret))))))
      (b_m_isRead_90 (b_m_isRead_72 n))))))
def b_m_isRead_2 : Nat → Kt Mi
  | 0 => fun _ _ _ => none
  | n + 1 => (o_iload 1 (o_const 47 (o_cge
      (o_aload 0 (o_const 0 (o_puti 7 6 (o_aload 0 (o_const 113 (o_callV 7 2 r_m_isSign true (o_ifeq
      (b_m_isRead_45)
      (o_aload 0 (o_const 0 (o_const 9 (o_callV 7 3 r_m_isNumber true (o_ifeq
      (b_m_isRead_45)
      (o_aload 0 (o_getr 7 6 (o_const 1 (o_aload 0 (o_geti 7 9 (o_iast (o_aload 0 (o_const 59 (o_callV 7 2 r_m_isSign true (o_ifeq
      (o_const 0 o_zret)
      (o_aload 0 (o_callV 7 1 r_m_nextToken false (b_m_isRead_72 k_fu)))))))))))))))))))))))))
      (o_aload 0 (o_getr 7 6 (o_iload 1 (o_const 0 (o_iast (o_iinc 1 1 (b_m_isRead_2 n))))))))))
def b_m_isRead_0 : Kt Mi := (o_const 0 (o_istore 1 (b_m_isRead_2 k_fu)))
def r_m_isRead (as : List Value) (M : Mi) : Option (Value × Mi) := match as with
  | [.ref a] => b_m_isRead_0 [.ref a, .null] [] M
  | _ => none
def b_m_square_0 : Kt Mi := (o_aload 0 (o_callV 7 1 r_m_isRead true (o_istore 1 (o_aload 0 (o_const 0 (o_puti 7 4 (o_iload 1 (o_ifeq
      (o_aload 0 (o_aload 0 (o_geti 7 10 (o_puti 7 11 (o_const (-1000100) (o_aload 0 (o_geti 7 7 (o_sub o_iret))))))))
      (o_aload 0 (o_getr 7 6 (o_const 0 (o_aload 0 (o_getr 7 5 (o_const 0 (o_call 4 r_m_lay false (o_aload 0 (o_const 0 (o_puti 7 18 (o_aload 0 (o_getr 7 5 (o_const 3 (o_iald o_iret))))))))))))))))))))))
def r_m_square (as : List Value) (M : Mi) : Option (Value × Mi) := match as with
  | [.ref a] => b_m_square_0 [.ref a, .null] [] M
  | _ => none
def b_m_fault_0 : Kt Mi := (o_aload 0 (o_geti 7 11 o_iret))
def r_m_fault (as : List Value) (M : Mi) : Option (Value × Mi) := match as with
  | [.ref a] => b_m_fault_0 [.ref a] [] M
  | _ => none
def b_m_note_49 : Kt Mi := (o_aload 0 (o_getr 7 5 (o_const 0 (o_aload 0 (o_getr 7 10 (o_const 47 (o_aload 0 (o_geti 7 18 (o_mul (o_call 4 r_m_lay false (o_aload 0 (o_dup (o_geti 7 18 (o_const 1 (o_add (o_puti 7 18 o_ret))))))))))))))))
def b_m_note_11 : Nat → Kt Mi
  | 0 => fun _ _ _ => none
  | n + 1 => (o_iload 1 (o_const 1081 (o_cge
      (o_aload 0 (o_dup (o_geti 7 18 (o_const 1 (o_sub (o_puti 7 18 (b_m_note_49)))))))
      (o_aload 0 (o_getr 7 10 (o_iload 1 (o_aload 0 (o_getr 7 10 (o_iload 1 (o_const 47 (o_add (o_iald (o_iast (o_iinc 1 1 (b_m_note_11 n)))))))))))))))
def b_m_note_0 : Kt Mi := (o_aload 0 (o_geti 7 18 (o_const 24 (o_ceq
      (o_const 0 (o_istore 1 (b_m_note_11 k_fu)))
      (b_m_note_49)))))
def r_m_note (as : List Value) (M : Mi) : Option (Value × Mi) := match as with
  | [.ref a] => b_m_note_0 [.ref a, .null] [] M
  | _ => none
def b_m_hears_26 : Kt Mi := o_zret
def b_m_hears_21 : Kt Mi := (o_const 1 (b_m_hears_26))
def b_m_hears_0 : Kt Mi := (o_aload 0 (o_const 32 (o_iload 1 (o_add (o_iald (o_ifeq
      (b_m_hears_21)
      (o_aload 0 (o_const 10 (o_iload 2 (o_add (o_iald (o_aload 0 (o_const 1 (o_iald (o_cle
      (o_const 0 (b_m_hears_26))
      (b_m_hears_21))))))))))))))))
def r_m_hears (as : List Value) (M : Mi) : Option (Value × Mi) := match as with
  | [.ref a0, .int a1, .int a2] => b_m_hears_0 [.ref a0, .int a1, .int a2] [] M
  | _ => none
def b_m_countedBy_144 : Kt Mi := o_iret
def b_m_countedBy_126 : Kt Mi := (o_iload 3 (o_iload 6 (o_add (o_const 99 (o_cle
      (o_iload 3 (o_iload 6 (o_add (b_m_countedBy_144))))
      (o_const 99 (b_m_countedBy_144)))))))
def b_m_countedBy_90 : Kt Mi := (o_istore 6 (b_m_countedBy_126))
def b_m_countedBy_105 : Kt Mi := (o_istore 6 (b_m_countedBy_126))
def b_m_countedBy_121 : Kt Mi := (o_istore 6 (b_m_countedBy_126))
def b_m_countedBy_110 : Kt Mi := (o_iload 5 (o_ifeq
      (o_const 1 (b_m_countedBy_121))
      (o_iload 3 (o_neg (b_m_countedBy_121)))))
def b_m_countedBy_40 : Kt Mi := (o_istore 5 (o_const 1 (o_istore 6 (o_aload 0 (o_const 22 (o_iload 1 (o_add (o_iald (o_sw [(2, (o_iload 4 (o_ifeq
      (o_const 1 (b_m_countedBy_90))
      (o_const 2 (b_m_countedBy_90))))),
      (3, (o_iload 5 (o_ifeq
      (o_const 1 (b_m_countedBy_105))
      (o_const 0 (b_m_countedBy_105))))),
      (4, (b_m_countedBy_110)),
      (5, (b_m_countedBy_110))] (b_m_countedBy_126))))))))))
def b_m_countedBy_23 : Kt Mi := (o_istore 4 (o_aload 0 (o_const 16 (o_iload 2 (o_add (o_iald (o_const 1 (o_cle
      (o_const 0 (b_m_countedBy_40))
      (o_const 1 (b_m_countedBy_40))))))))))
def b_m_countedBy_0 : Kt Mi := (o_aload 0 (o_const 37 (o_iload 1 (o_add (o_iald (o_istore 3 (o_aload 0 (o_const 16 (o_iload 2 (o_add (o_iald (o_const 2 (o_irem (o_ifeq
      (o_const 1 (b_m_countedBy_23))
      (o_const 0 (b_m_countedBy_23))))))))))))))))
def r_m_countedBy (as : List Value) (M : Mi) : Option (Value × Mi) := match as with
  | [.ref a0, .int a1, .int a2] => b_m_countedBy_0 [.ref a0, .int a1, .int a2, .null, .null, .null, .null] [] M
  | _ => none
def b_m_pass_186 (k69 : Kt Mi) : Kt Mi := (o_iast (o_iinc 4 1 k69))
def b_m_pass_152 (k69 : Kt Mi) : Kt Mi := (o_aload 0 (o_const 42 (o_iload 4 (o_add (o_aload 0 (o_const 37 (o_iload 4 (o_add (o_iald (o_aload 0 (o_const 27 (o_iload 4 (o_add (o_iald (o_clt
      (o_aload 0 (o_const 42 (o_iload 4 (o_add (o_iald (b_m_pass_186 k69))))))
      (o_const 1 (b_m_pass_186 k69)))))))))))))))))
def b_m_pass_151 (k69 : Kt Mi) : Kt Mi := (o_iast (b_m_pass_152 k69))
def b_m_pass_127 (k69 : Kt Mi) : Kt Mi := (o_istore 5 (o_aload 0 (o_const 42 (o_iload 4 (o_add (o_iload 5 (o_ifeq
      (o_aload 0 (o_const 42 (o_iload 4 (o_add (o_iald (b_m_pass_151 k69))))))
      (o_const 0 (b_m_pass_151 k69)))))))))
def b_m_pass_126 (k69 : Kt Mi) : Kt Mi := (o_const 0 (b_m_pass_127 k69))
def b_m_pass_69 : Nat → Kt Mi
  | 0 => fun _ _ _ => none
  | n + 1 => (o_iload 4 (o_aload 0 (o_const 3 (o_iald (o_cge
      o_ret
      (o_aload 0 (o_iload 4 (o_iload 3 (o_call 3 r_m_hears true (o_ifeq
      (b_m_pass_152 (b_m_pass_69 n))
      (o_aload 0 (o_const 37 (o_iload 4 (o_add (o_aload 0 (o_iload 4 (o_iload 3 (o_call 3 r_m_countedBy true (o_iast (o_aload 0 (o_const 22 (o_iload 4 (o_add (o_iald (o_const 5 (o_ceq
      (o_aload 0 (o_const 16 (o_iload 3 (o_add (o_iald (o_const 1 (o_cle
      (b_m_pass_126 (b_m_pass_69 n))
      (o_const 1 (b_m_pass_127 (b_m_pass_69 n))))))))))
      (b_m_pass_126 (b_m_pass_69 n))))))))))))))))))))))))))))
def b_m_pass_53 (k14 : Kt Mi) : Kt Mi := (o_iinc 4 1 k14)
def b_m_pass_49 (k14 : Kt Mi) : Kt Mi := (o_istore 3 (o_iinc 2 (-1) (b_m_pass_53 k14)))
def b_m_pass_14 : Nat → Kt Mi
  | 0 => fun _ _ _ => none
  | n + 1 => (o_iload 4 (o_aload 0 (o_const 2 (o_iald (o_cge
      (o_aload 0 (o_const 0 (o_dup2 (o_iald (o_const 1 (o_add (o_iast (o_const 0 (o_istore 4 (b_m_pass_69 k_fu))))))))))
      (o_iload 1 (o_aload 0 (o_const 4 (o_iload 4 (o_add (o_iald (o_call 2 r_m_has true (o_ifeq
      (b_m_pass_53 (b_m_pass_14 n))
      (o_iload 2 (o_ifeq
      (o_aload 0 (o_const 4 (o_iload 4 (o_add (o_iald (b_m_pass_49 (b_m_pass_14 n)))))))
      (o_iload 3 (b_m_pass_49 (b_m_pass_14 n))))))))))))))))))
def b_m_pass_0 : Kt Mi := (o_aload 0 (o_const 0 (o_iald (o_iload 1 (o_call 1 r_m_bits true (o_irem (o_istore 2 (o_const 0 (o_istore 3 (o_const 0 (o_istore 4 (b_m_pass_14 k_fu))))))))))))
def r_m_pass (as : List Value) (M : Mi) : Option (Value × Mi) := match as with
  | [.ref a0, .int a1] => b_m_pass_0 [.ref a0, .int a1, .null, .null, .null, .null] [] M
  | _ => none
def b_m_offOf_4 : Nat → Kt Mi
  | 0 => fun _ _ _ => none
  | n + 1 => (o_iload 2 (o_aload 0 (o_const 3 (o_iald (o_cge
      (o_iload 1 o_iret)
      (o_iload 1 (o_aload 0 (o_const 42 (o_iload 2 (o_add (o_iald (o_iload 2 (o_shl (o_or (o_istore 1 (o_iinc 2 1 (b_m_offOf_4 n)))))))))))))))))
def b_m_offOf_0 : Kt Mi := (o_const 0 (o_istore 1 (o_const 0 (o_istore 2 (b_m_offOf_4 k_fu)))))
def r_m_offOf (as : List Value) (M : Mi) : Option (Value × Mi) := match as with
  | [.ref a0] => b_m_offOf_0 [.ref a0, .null, .null] [] M
  | _ => none
def b_m_flock_0 : Kt Mi := (o_const 1 (o_aload 0 (o_getr 7 5 (o_const 2 (o_iald (o_shl (o_const 1 (o_sub o_iret))))))))
def r_m_flock (as : List Value) (M : Mi) : Option (Value × Mi) := match as with
  | [.ref a] => b_m_flock_0 [.ref a] [] M
  | _ => none
def b_m_steps_42 : Nat → Kt Mi
  | 0 => fun _ _ _ => none
  | n + 1 => (o_iload 2 (o_iload 1 (o_cge
      (o_aload 0 (o_getr 7 5 (o_call 1 r_m_offOf true o_iret)))
      (o_aload 0 (o_callV 7 1 r_m_note false (o_aload 0 (o_getr 7 5 (o_aload 0 (o_callV 7 1 r_m_flock true (o_call 2 r_m_pass false (o_iinc 2 1 (b_m_steps_42 n))))))))))))
def b_m_steps_0 : Kt Mi := (o_aload 0 (o_callV 7 1 r_m_isSquare true (o_ifeq
      (o_const (-1000002) o_iret)
      (o_iload 1 (o_const 1 (o_const 24 (o_call 3 r_m_in true (o_ifeq
      (o_const (-1000001) o_iret)
      (o_aload 0 (o_getr 7 5 (o_const 0 (o_iald (o_iload 1 (o_add (o_const 9999 (o_cle
      (o_const 0 (o_istore 2 (b_m_steps_42 k_fu)))
      (o_const (-1000003) o_iret)))))))))))))))))
def r_m_steps (as : List Value) (M : Mi) : Option (Value × Mi) := match as with
  | [.ref a, .int a0] => b_m_steps_0 [.ref a, .int a0, .null] [] M
  | _ => none
def b_m_change_0 : Kt Mi := (o_iload 1 (o_const 0 (o_aload 0 (o_getr 7 5 (o_const 2 (o_iald (o_const 1 (o_sub (o_call 3 r_m_in true (o_ifeq
      (o_const (-1000001) o_iret)
      (o_iload 1 (o_aload 0 (o_getr 7 5 (o_const 2 (o_iald (o_const 1 (o_sub (o_ceq
      (o_const (-1000002) o_iret)
      (o_aload 0 (o_callV 7 1 r_m_note false (o_aload 0 (o_getr 7 5 (o_const 4 (o_iload 1 (o_add (o_iald (o_istore 2 (o_aload 0 (o_getr 7 5 (o_const 4 (o_iload 1 (o_add (o_aload 0 (o_getr 7 5 (o_const 4 (o_iload 1 (o_add (o_const 1 (o_add (o_iald (o_iast (o_aload 0 (o_getr 7 5 (o_const 4 (o_iload 1 (o_add (o_const 1 (o_add (o_iload 2 (o_iast (o_aload 0 (o_getr 7 5 (o_const 4 (o_iload 1 (o_add (o_iald o_iret))))))))))))))))))))))))))))))))))))))))))))))))))))))))
def r_m_change (as : List Value) (M : Mi) : Option (Value × Mi) := match as with
  | [.ref a, .int a0] => b_m_change_0 [.ref a, .int a0, .null] [] M
  | _ => none
def b_m_wind_0 : Kt Mi := (o_aload 0 (o_callV 7 1 r_m_isSquare true (o_ifeq
      (o_const (-1000002) o_iret)
      (o_iload 1 (o_const 0 (o_const 9 (o_call 3 r_m_in true (o_ifeq
      (o_const (-1000001) o_iret)
      (o_aload 0 (o_callV 7 1 r_m_note false (o_aload 0 (o_getr 7 5 (o_const 1 (o_iald (o_istore 2 (o_aload 0 (o_getr 7 5 (o_const 1 (o_iload 1 (o_iast (o_iload 2 o_iret)))))))))))))))))))))
def r_m_wind (as : List Value) (M : Mi) : Option (Value × Mi) := match as with
  | [.ref a, .int a0] => b_m_wind_0 [.ref a, .int a0, .null] [] M
  | _ => none
def b_m_cough_0 : Kt Mi := (o_aload 0 (o_iload 1 (o_callV 7 2 r_m_isOne true (o_ifeq
      (o_const (-1000001) o_iret)
      (o_aload 0 (o_callV 7 1 r_m_note false (o_aload 0 (o_getr 7 5 (o_const 37 (o_iload 1 (o_add (o_iald (o_istore 2 (o_aload 0 (o_getr 7 5 (o_const 37 (o_iload 1 (o_add (o_const 0 (o_iast (o_aload 0 (o_getr 7 5 (o_const 42 (o_iload 1 (o_add (o_const 0 (o_iast (o_iload 2 o_iret))))))))))))))))))))))))))))
def r_m_cough (as : List Value) (M : Mi) : Option (Value × Mi) := match as with
  | [.ref a, .int a0] => b_m_cough_0 [.ref a, .int a0, .null] [] M
  | _ => none
def b_m_undo_0 : Kt Mi := (o_aload 0 (o_geti 7 18 (o_ifeq
      (o_const (-1000002) o_iret)
      (o_aload 0 (o_dup (o_geti 7 18 (o_const 1 (o_sub (o_puti 7 18 (o_aload 0 (o_getr 7 10 (o_const 47 (o_aload 0 (o_geti 7 18 (o_mul (o_aload 0 (o_getr 7 5 (o_const 0 (o_call 4 r_m_lay false (o_aload 0 (o_geti 7 18 o_iret)))))))))))))))))))))
def r_m_undo (as : List Value) (M : Mi) : Option (Value × Mi) := match as with
  | [.ref a] => b_m_undo_0 [.ref a] [] M
  | _ => none
def b_m_heardBy_34 (k4 : Kt Mi) : Kt Mi := (o_or (o_istore 2 (o_iinc 3 1 k4)))
def b_m_heardBy_4 : Nat → Kt Mi
  | 0 => fun _ _ _ => none
  | n + 1 => (o_iload 3 (o_aload 0 (o_getr 7 5 (o_const 2 (o_iald (o_cge
      (o_iload 2 o_iret)
      (o_iload 2 (o_aload 0 (o_getr 7 5 (o_iload 1 (o_iload 3 (o_call 3 r_m_hears true (o_ifeq
      (o_const 0 (b_m_heardBy_34 (b_m_heardBy_4 n)))
      (o_const 1 (o_iload 3 (o_shl (b_m_heardBy_34 (b_m_heardBy_4 n))))))))))))))))))
def b_m_heardBy_0 : Kt Mi := (o_const 0 (o_istore 2 (o_const 0 (o_istore 3 (b_m_heardBy_4 k_fu)))))
def r_m_heardBy (as : List Value) (M : Mi) : Option (Value × Mi) := match as with
  | [.ref a, .int a0] => b_m_heardBy_0 [.ref a, .int a0, .null, .null] [] M
  | _ => none
def b_m_sleeper_0 : Kt Mi := (o_aload 0 (o_iload 1 (o_callV 7 2 r_m_isOne true (o_ifeq
      (o_const (-1000001) o_iret)
      (o_iload 2 (o_sw [(0, (o_aload 0 (o_getr 7 5 (o_const 27 (o_iload 1 (o_add (o_iald o_iret))))))),
      (1, (o_aload 0 (o_getr 7 5 (o_const 32 (o_iload 1 (o_add (o_iald o_iret))))))),
      (2, (o_aload 0 (o_getr 7 5 (o_const 37 (o_iload 1 (o_add (o_iald o_iret))))))),
      (3, (o_aload 0 (o_getr 7 5 (o_const 42 (o_iload 1 (o_add (o_iald o_iret))))))),
      (4, (o_aload 0 (o_iload 1 (o_callV 7 2 r_m_heardBy true o_iret))))] (o_const (-1000001) o_iret)))))))
def r_m_sleeper (as : List Value) (M : Mi) : Option (Value × Mi) := match as with
  | [.ref a, .int a0, .int a1] => b_m_sleeper_0 [.ref a, .int a0, .int a1] [] M
  | _ => none
def b_m_sheep_25 : Kt Mi := (o_const (-1000001) o_iret)
def b_m_sheep_104 : Kt Mi := o_iret
def b_m_sheep_63 (k33 : Kt Mi) : Kt Mi := (o_istore 3 (o_iinc 4 1 k33))
def b_m_sheep_33 : Nat → Kt Mi
  | 0 => fun _ _ _ => none
  | n + 1 => (o_iload 4 (o_aload 0 (o_getr 7 5 (o_const 2 (o_iald (o_cge
      (o_iload 2 (o_ifeq
      (o_aload 0 (o_getr 7 5 (o_const 10 (o_iload 1 (o_add (o_iald (b_m_sheep_104)))))))
      (o_iload 2 (o_const 1 (o_ceq
      (o_aload 0 (o_getr 7 5 (o_const 16 (o_iload 1 (o_add (o_iald (b_m_sheep_104)))))))
      (o_iload 3 (b_m_sheep_104)))))))
      (o_aload 0 (o_getr 7 5 (o_const 4 (o_iload 4 (o_add (o_iald (o_iload 1 (o_ceq
      (o_iload 4 (b_m_sheep_63 (b_m_sheep_33 n)))
      (o_iload 3 (b_m_sheep_63 (b_m_sheep_33 n)))))))))))))))))
def b_m_sheep_0 : Kt Mi := (o_iload 1 (o_const 0 (o_aload 0 (o_getr 7 5 (o_const 2 (o_iald (o_const 1 (o_sub (o_call 3 r_m_in true (o_ifeq
      (b_m_sheep_25)
      (o_iload 2 (o_const 0 (o_const 2 (o_call 3 r_m_in true (o_ifeq
      (b_m_sheep_25)
      (o_const 0 (o_istore 3 (o_const 0 (o_istore 4 (b_m_sheep_33 k_fu))))))))))))))))))))
def r_m_sheep (as : List Value) (M : Mi) : Option (Value × Mi) := match as with
  | [.ref a, .int a0, .int a1] => b_m_sheep_0 [.ref a, .int a0, .int a1, .null, .null] [] M
  | _ => none
def b_m_begin_0 : Kt Mi := (o_aload 0 (o_getr 7 5 (o_const 0 (o_aload 0 (o_getr 7 7 (o_const 0 (o_call 4 r_m_lay false o_ret)))))))
def r_m_begin (as : List Value) (M : Mi) : Option (Value × Mi) := match as with
  | [.ref a] => b_m_begin_0 [.ref a] [] M
  | _ => none
def b_m_goOn_6 : Nat → Kt Mi
  | 0 => fun _ _ _ => none
  | n + 1 => (o_iload 2 (o_iload 1 (o_cge
      o_ret
      (o_aload 0 (o_getr 7 7 (o_aload 0 (o_callV 7 1 r_m_flock true (o_call 2 r_m_pass false (o_iinc 2 1 (b_m_goOn_6 n))))))))))
def b_m_goOn_0 : Kt Mi := (o_aload 0 (o_callV 7 1 r_m_begin false (o_const 0 (o_istore 2 (b_m_goOn_6 k_fu)))))
def r_m_goOn (as : List Value) (M : Mi) : Option (Value × Mi) := match as with
  | [.ref a, .int a0] => b_m_goOn_0 [.ref a, .int a0, .null] [] M
  | _ => none
def b_m_off_0 : Kt Mi := (o_aload 0 (o_callV 7 1 r_m_isSquare true (o_ifeq
      (o_const (-1000002) o_iret)
      (o_iload 1 (o_const 0 (o_const 99 (o_call 3 r_m_in true (o_ifeq
      (o_const (-1000001) o_iret)
      (o_aload 0 (o_iload 1 (o_callV 7 2 r_m_goOn false (o_aload 0 (o_getr 7 7 (o_call 1 r_m_offOf true o_iret))))))))))))))
def r_m_off (as : List Value) (M : Mi) : Option (Value × Mi) := match as with
  | [.ref a, .int a0] => b_m_off_0 [.ref a, .int a0] [] M
  | _ => none
def b_m_counted_18 : Kt Mi := (o_const (-1000001) o_iret)
def b_m_counted_0 : Kt Mi := (o_aload 0 (o_iload 1 (o_callV 7 2 r_m_isOne true (o_ifeq
      (b_m_counted_18)
      (o_iload 2 (o_const 0 (o_const 99 (o_call 3 r_m_in true (o_ifeq
      (b_m_counted_18)
      (o_aload 0 (o_iload 2 (o_callV 7 2 r_m_goOn false (o_aload 0 (o_getr 7 7 (o_const 37 (o_iload 1 (o_add (o_iald o_iret))))))))))))))))))
def r_m_counted (as : List Value) (M : Mi) : Option (Value × Mi) := match as with
  | [.ref a, .int a0, .int a1] => b_m_counted_0 [.ref a, .int a0, .int a1] [] M
  | _ => none
def b_m_firstOf_3 : Nat → Kt Mi
  | 0 => fun _ _ _ => none
  | n + 1 => (o_iload 4 (o_iload 3 (o_cgt
      (o_const (-1000000) o_iret)
      (o_iload 1 (o_aload 0 (o_getr 7 7 (o_call 1 r_m_offOf true (o_const (-1) (o_xor (o_and (o_ifeq
      (o_iload 4 o_iret)
      (o_aload 0 (o_getr 7 7 (o_iload 2 (o_call 2 r_m_pass false (o_iinc 4 1 (b_m_firstOf_3 n)))))))))))))))))
def b_m_firstOf_0 : Kt Mi := (o_const 0 (o_istore 4 (b_m_firstOf_3 k_fu)))
def r_m_firstOf (as : List Value) (M : Mi) : Option (Value × Mi) := match as with
  | [.ref a, .int a0, .int a1, .int a2] => b_m_firstOf_0 [.ref a, .int a0, .int a1, .int a2, .null] [] M
  | _ => none
def b_m_when_0 : Kt Mi := (o_aload 0 (o_iload 1 (o_callV 7 2 r_m_isOne true (o_ifeq
      (o_const (-1000001) o_iret)
      (o_aload 0 (o_callV 7 1 r_m_begin false (o_aload 0 (o_const 1 (o_iload 1 (o_shl (o_aload 0 (o_callV 7 1 r_m_flock true (o_const 99 (o_callV 7 4 r_m_firstOf true o_iret))))))))))))))
def r_m_when (as : List Value) (M : Mi) : Option (Value × Mi) := match as with
  | [.ref a, .int a0] => b_m_when_0 [.ref a, .int a0] [] M
  | _ => none
def b_m_all_0 : Kt Mi := (o_aload 0 (o_callV 7 1 r_m_isSquare true (o_ifeq
      (o_const (-1000002) o_iret)
      (o_aload 0 (o_iload 1 (o_callV 7 2 r_m_isSet true (o_ifeq
      (o_const (-1000001) o_iret)
      (o_aload 0 (o_callV 7 1 r_m_begin false (o_aload 0 (o_iload 1 (o_aload 0 (o_callV 7 1 r_m_flock true (o_const 99 (o_callV 7 4 r_m_firstOf true o_iret)))))))))))))))
def r_m_all (as : List Value) (M : Mi) : Option (Value × Mi) := match as with
  | [.ref a, .int a0] => b_m_all_0 [.ref a, .int a0] [] M
  | _ => none
def b_m_layOff_6 : Nat → Kt Mi
  | 0 => fun _ _ _ => none
  | n + 1 => (o_iload 1 (o_const 106 (o_cge
      o_ret
      (o_aload 0 (o_getr 7 15 (o_iload 1 (o_aload 0 (o_getr 7 7 (o_call 1 r_m_offOf true (o_iast (o_aload 0 (o_getr 7 7 (o_aload 0 (o_callV 7 1 r_m_flock true (o_call 2 r_m_pass false (o_iinc 1 1 (b_m_layOff_6 n)))))))))))))))))
def b_m_layOff_0 : Kt Mi := (o_aload 0 (o_callV 7 1 r_m_begin false (o_const 0 (o_istore 1 (b_m_layOff_6 k_fu)))))
def r_m_layOff (as : List Value) (M : Mi) : Option (Value × Mi) := match as with
  | [.ref a] => b_m_layOff_0 [.ref a, .null] [] M
  | _ => none
def b_m_never_27 : Nat → Kt Mi
  | 0 => fun _ _ _ => none
  | n + 1 => (o_iload 2 (o_const 99 (o_cgt
      (o_iload 1 o_iret)
      (o_iload 1 (o_aload 0 (o_getr 7 15 (o_iload 2 (o_iald (o_const (-1) (o_xor (o_and (o_istore 1 (o_iinc 2 1 (b_m_never_27 n))))))))))))))
def b_m_never_0 : Kt Mi := (o_aload 0 (o_callV 7 1 r_m_isSquare true (o_ifeq
      (o_const (-1000002) o_iret)
      (o_aload 0 (o_callV 7 1 r_m_layOff false (o_const 1 (o_aload 0 (o_getr 7 5 (o_const 3 (o_iald (o_shl (o_const 1 (o_sub (o_istore 1 (o_const 0 (o_istore 2 (b_m_never_27 k_fu)))))))))))))))))
def r_m_never (as : List Value) (M : Mi) : Option (Value × Mi) := match as with
  | [.ref a] => b_m_never_0 [.ref a, .null, .null] [] M
  | _ => none
def b_m_quiet_71 (k28 : Kt Mi) (k39 : Kt Mi) : Kt Mi := (o_istore 3 (o_iinc 4 1 k39))
def b_m_quiet_70 (k28 : Kt Mi) (k39 : Kt Mi) : Kt Mi := (o_const 0 (b_m_quiet_71 k28 k39))
def b_m_quiet_39 (k28 : Kt Mi) : Nat → Kt Mi
  | 0 => fun _ _ _ => none
  | n + 1 => (o_iload 4 (o_const 6 (o_cgt
      (o_iload 3 (o_ifeq
      (o_iinc 2 1 k28)
      (o_iload 2 o_iret)))
      (o_iload 3 (o_ifeq
      (b_m_quiet_70 k28 (b_m_quiet_39 k28 n))
      (o_aload 0 (o_getr 7 15 (o_iload 2 (o_iload 4 (o_add (o_iald (o_call 1 r_m_bits true (o_iload 1 (o_clt
      (b_m_quiet_70 k28 (b_m_quiet_39 k28 n))
      (o_const 1 (b_m_quiet_71 k28 (b_m_quiet_39 k28 n)))))))))))))))))
def b_m_quiet_28 : Nat → Kt Mi
  | 0 => fun _ _ _ => none
  | n + 1 => (o_iload 2 (o_const 99 (o_cgt
      (o_const (-1000000) o_iret)
      (o_const 1 (o_istore 3 (o_const 0 (o_istore 4 (b_m_quiet_39 (b_m_quiet_28 n) k_fu))))))))
def b_m_quiet_0 : Kt Mi := (o_aload 0 (o_callV 7 1 r_m_isSquare true (o_ifeq
      (o_const (-1000002) o_iret)
      (o_iload 1 (o_const 0 (o_const 5 (o_call 3 r_m_in true (o_ifeq
      (o_const (-1000001) o_iret)
      (o_aload 0 (o_callV 7 1 r_m_layOff false (o_const 0 (o_istore 2 (b_m_quiet_28 k_fu)))))))))))))
def r_m_quiet (as : List Value) (M : Mi) : Option (Value × Mi) := match as with
  | [.ref a, .int a0] => b_m_quiet_0 [.ref a, .int a0, .null, .null, .null] [] M
  | _ => none
def b_m_layRow_114 (k39 : Kt Mi) (k82 : Kt Mi) : Kt Mi := (o_sub (o_istore 7 (o_iinc 8 1 k82)))
def b_m_layRow_97 (k39 : Kt Mi) (k82 : Kt Mi) : Kt Mi := (o_iload 7 (o_iload 5 (o_iload 8 (o_call 2 r_m_has true (o_ifeq
      (o_const 1 (b_m_layRow_114 k39 k82))
      (o_const 0 (b_m_layRow_114 k39 k82)))))))
def b_m_layRow_82 (k39 : Kt Mi) : Nat → Kt Mi
  | 0 => fun _ _ _ => none
  | n + 1 => (o_iload 5 (o_iload 8 (o_call 2 r_m_has true (o_ifeq
      (o_iload 7 (o_ifle
      (o_aload 0 (o_getr 7 13 (o_iload 6 (o_iload 8 (o_iast (o_iload 5 (o_const 1 (o_iload 8 (o_shl (o_or (o_istore 5 (o_iinc 6 1 k39))))))))))))
      (b_m_layRow_97 k39 (b_m_layRow_82 k39 n))))
      (b_m_layRow_97 k39 (b_m_layRow_82 k39 n))))))
def b_m_layRow_77 (k39 : Kt Mi) : Kt Mi := (o_idiv (o_istore 3 (o_const 0 (o_istore 8 (b_m_layRow_82 k39 k_fu)))))
def b_m_layRow_39 : Nat → Kt Mi
  | 0 => fun _ _ _ => none
  | n + 1 => (o_iload 6 (o_iload 4 (o_cge
      o_ret
      (o_iload 2 (o_iload 3 (o_idiv (o_istore 7 (o_iload 2 (o_iload 3 (o_irem (o_istore 2 (o_iload 3 (o_iload 4 (o_const 1 (o_sub (o_iload 6 (o_sub (o_ifle
      (o_const 1 (b_m_layRow_77 (b_m_layRow_39 n)))
      (o_iload 4 (o_const 1 (o_sub (o_iload 6 (o_sub (b_m_layRow_77 (b_m_layRow_39 n)))))))))))))))))))))))))
def b_m_layRow_15 : Nat → Kt Mi
  | 0 => fun _ _ _ => none
  | n + 1 => (o_iload 5 (o_iload 4 (o_cge
      (o_const 0 (o_istore 5 (o_const 0 (o_istore 6 (b_m_layRow_39 k_fu)))))
      (o_iload 3 (o_iload 5 (o_mul (o_istore 3 (o_iinc 5 1 (b_m_layRow_15 n)))))))))
def b_m_layRow_0 : Kt Mi := (o_iload 1 (o_istore 2 (o_const 1 (o_istore 3 (o_aload 0 (o_getr 7 5 (o_const 2 (o_iald (o_istore 4 (o_const 2 (o_istore 5 (b_m_layRow_15 k_fu))))))))))))
def r_m_layRow (as : List Value) (M : Mi) : Option (Value × Mi) := match as with
  | [.ref a, .int a0] => b_m_layRow_0 [.ref a, .int a0, .null, .null, .null, .null, .null, .null, .null] [] M
  | _ => none
def b_m_order_27 : Kt Mi := (o_const (-1000001) o_iret)
def b_m_order_231 : Kt Mi := o_iret
def b_m_order_205 : Kt Mi := (o_iload 4 (b_m_order_231))
def b_m_order_188 (k64 : Kt Mi) : Kt Mi := (o_iinc 5 1 k64)
def b_m_order_157 (k64 : Kt Mi) : Nat → Kt Mi
  | 0 => fun _ _ _ => none
  | n + 1 => (o_iload 7 (o_aload 0 (o_getr 7 5 (o_const 2 (o_iald (o_cge
      (b_m_order_188 k64)
      (o_aload 0 (o_getr 7 14 (o_iload 7 (o_aload 0 (o_getr 7 13 (o_iload 7 (o_iald (o_iast (o_iinc 7 1 (b_m_order_157 k64 n))))))))))))))))
def b_m_order_150 (k64 : Kt Mi) : Kt Mi := (o_iload 6 (o_istore 4 (o_const 0 (o_istore 7 (b_m_order_157 k64 k_fu)))))
def b_m_order_83 (k64 : Kt Mi) : Nat → Kt Mi
  | 0 => fun _ _ _ => none
  | n + 1 => (o_iload 6 (o_aload 0 (o_getr 7 5 (o_const 2 (o_iald (o_cge
      (o_aload 0 (o_iload 1 (o_aload 0 (o_callV 7 1 r_m_flock true (o_const 99 (o_callV 7 4 r_m_firstOf true (o_istore 6 (o_iload 6 (o_const (-1000000) (o_ceq
      (b_m_order_188 k64)
      (o_iload 4 (o_const (-1000000) (o_ceq
      (b_m_order_150 k64)
      (o_iload 6 (o_iload 4 (o_cge
      (b_m_order_188 k64)
      (b_m_order_150 k64)))))))))))))))))
      (o_aload 0 (o_getr 7 7 (o_const 4 (o_iload 6 (o_add (o_aload 0 (o_getr 7 13 (o_iload 6 (o_iald (o_iast (o_iinc 6 1 (b_m_order_83 k64 n))))))))))))))))))
def b_m_order_64 : Nat → Kt Mi
  | 0 => fun _ _ _ => none
  | n + 1 => (o_iload 5 (o_iload 3 (o_cge
      (o_iload 2 (o_iflt
      (b_m_order_205)
      (o_iload 4 (o_const (-1000000) (o_ceq
      (b_m_order_205)
      (o_iload 2 (o_aload 0 (o_getr 7 5 (o_const 2 (o_iald (o_cge
      (o_const (-1000000) (b_m_order_231))
      (o_aload 0 (o_getr 7 14 (o_iload 2 (o_iald (b_m_order_231))))))))))))))))
      (o_aload 0 (o_iload 5 (o_callV 7 2 r_m_layRow false (o_aload 0 (o_callV 7 1 r_m_begin false (o_const 0 (o_istore 6 (b_m_order_83 (b_m_order_64 n) k_fu)))))))))))
def b_m_order_35 : Nat → Kt Mi
  | 0 => fun _ _ _ => none
  | n + 1 => (o_iload 4 (o_aload 0 (o_getr 7 5 (o_const 2 (o_iald (o_cgt
      (o_const (-1000000) (o_istore 4 (o_const 0 (o_istore 5 (b_m_order_64 k_fu)))))
      (o_iload 3 (o_iload 4 (o_mul (o_istore 3 (o_iinc 4 1 (b_m_order_35 n))))))))))))
def b_m_order_0 : Kt Mi := (o_aload 0 (o_callV 7 1 r_m_isSquare true (o_ifeq
      (o_const (-1000002) o_iret)
      (o_aload 0 (o_iload 1 (o_callV 7 2 r_m_isSet true (o_ifeq
      (b_m_order_27)
      (o_iload 2 (o_const (-1) (o_const 5 (o_call 3 r_m_in true (o_ifeq
      (b_m_order_27)
      (o_const 1 (o_istore 3 (o_const 2 (o_istore 4 (b_m_order_35 k_fu)))))))))))))))))
def r_m_order (as : List Value) (M : Mi) : Option (Value × Mi) := match as with
  | [.ref a, .int a0, .int a1] => b_m_order_0 [.ref a, .int a0, .int a1, .null, .null, .null, .null, .null] [] M
  | _ => none
def b_m_fewest_37 : Kt Mi := (o_const (-1000001) o_iret)
def b_m_fewest_129 : Kt Mi := o_iret
def b_m_fewest_99 (k46 : Kt Mi) : Kt Mi := (o_iinc 5 1 k46)
def b_m_fewest_97 (k46 : Kt Mi) : Kt Mi := (o_istore 4 (b_m_fewest_99 k46))
def b_m_fewest_73 (k46 : Kt Mi) : Kt Mi := (o_aload 0 (o_callV 7 1 r_m_begin false (o_aload 0 (o_iload 1 (o_iload 5 (o_iload 2 (o_callV 7 4 r_m_firstOf true (o_const (-1000000) (o_ceq
      (o_iload 4 (b_m_fewest_97 k46))
      (o_iload 5 (b_m_fewest_97 k46)))))))))))
def b_m_fewest_46 : Nat → Kt Mi
  | 0 => fun _ _ _ => none
  | n + 1 => (o_iload 5 (o_aload 0 (o_callV 7 1 r_m_flock true (o_cgt
      (o_iload 4 (o_ifeq
      (o_const (-1000000) (b_m_fewest_129))
      (o_iload 3 (o_ifeq
      (o_iload 4 (o_call 1 r_m_bits true (b_m_fewest_129)))
      (o_iload 4 (b_m_fewest_129))))))
      (o_iload 4 (o_ifeq
      (b_m_fewest_73 (b_m_fewest_46 n))
      (o_iload 5 (o_call 1 r_m_bits true (o_iload 4 (o_call 1 r_m_bits true (o_cge
      (b_m_fewest_99 (b_m_fewest_46 n))
      (b_m_fewest_73 (b_m_fewest_46 n)))))))))))))
def b_m_fewest_0 : Kt Mi := (o_aload 0 (o_callV 7 1 r_m_isSquare true (o_ifeq
      (o_const (-1000002) o_iret)
      (o_aload 0 (o_iload 1 (o_callV 7 2 r_m_isSet true (o_ifeq
      (b_m_fewest_37)
      (o_iload 2 (o_const 0 (o_const 99 (o_call 3 r_m_in true (o_ifeq
      (b_m_fewest_37)
      (o_iload 3 (o_const 0 (o_const 1 (o_call 3 r_m_in true (o_ifeq
      (b_m_fewest_37)
      (o_const 0 (o_istore 4 (o_const 1 (o_istore 5 (b_m_fewest_46 k_fu))))))))))))))))))))))
def r_m_fewest (as : List Value) (M : Mi) : Option (Value × Mi) := match as with
  | [.ref a, .int a0, .int a1, .int a2] => b_m_fewest_0 [.ref a, .int a0, .int a1, .int a2, .null, .null] [] M
  | _ => none
def b_m_takeOut_38 : Nat → Kt Mi
  | 0 => fun _ _ _ => none
  | n + 1 => (o_iload 4 (o_iload 3 (o_cge
      (o_const 0 o_iret)
      (o_aload 0 (o_getr 7 12 (o_iload 4 (o_aload 0 (o_getr 7 3 (o_const 40 (o_iload 1 (o_mul (o_iload 2 (o_add (o_iload 4 (o_add (o_iald (o_iast (o_iinc 4 1 (b_m_takeOut_38 n)))))))))))))))))))
def b_m_takeOut_0 : Kt Mi := (o_aload 0 (o_getr 7 1 (o_iload 1 (o_iald (o_ifge
      (o_iload 2 (o_iload 3 (o_aload 0 (o_getr 7 2 (o_iload 1 (o_iald (o_call 3 r_m_isPart true (o_ifeq
      (o_aload 0 (o_const 2 (o_callV 7 2 r_m_finds true o_iret)))
      (o_const 0 (o_istore 4 (b_m_takeOut_38 k_fu)))))))))))
      (o_aload 0 (o_const 1 (o_callV 7 2 r_m_finds true o_iret))))))))
def r_m_takeOut (as : List Value) (M : Mi) : Option (Value × Mi) := match as with
  | [.ref a, .int a0, .int a1, .int a2] => b_m_takeOut_0 [.ref a, .int a0, .int a1, .int a2, .null] [] M
  | _ => none
def b_m_isSo_48 (k5 : Kt Mi) : Kt Mi := (o_istore 3 (o_iinc 4 1 k5))
def b_m_isSo_47 (k5 : Kt Mi) : Kt Mi := (o_const 0 (b_m_isSo_48 k5))
def b_m_isSo_5 : Nat → Kt Mi
  | 0 => fun _ _ _ => none
  | n + 1 => (o_iload 4 (o_iload 1 (o_cge
      (o_iload 3 o_zret)
      (o_aload 0 (o_getr 7 7 (o_iload 2 (o_call 2 r_m_pass false (o_iload 3 (o_ifeq
      (b_m_isSo_47 (b_m_isSo_5 n))
      (o_aload 0 (o_getr 7 7 (o_call 1 r_m_offOf true (o_call 1 r_m_bits true (o_aload 0 (o_getr 7 12 (o_iload 4 (o_iald (o_ceq
      (o_const 1 (b_m_isSo_48 (b_m_isSo_5 n)))
      (b_m_isSo_47 (b_m_isSo_5 n))))))))))))))))))))
def b_m_isSo_0 : Kt Mi := (o_const 1 (o_istore 3 (o_const 0 (o_istore 4 (b_m_isSo_5 k_fu)))))
def r_m_isSo (as : List Value) (M : Mi) : Option (Value × Mi) := match as with
  | [.ref a, .int a0, .int a1] => b_m_isSo_0 [.ref a, .int a0, .int a1, .null, .null] [] M
  | _ => none
def b_m_missing_27 : Kt Mi := (o_const (-1000001) o_iret)
def b_m_missing_116 : Kt Mi := (o_aload 0 (o_iload 5 (o_callV 7 2 r_m_done true o_iret)))
def b_m_missing_107 (k53 : Kt Mi) : Kt Mi := (o_or (o_istore 5 (o_iinc 6 1 k53)))
def b_m_missing_53 : Nat → Kt Mi
  | 0 => fun _ _ _ => none
  | n + 1 => (o_iload 6 (o_aload 0 (o_getr 7 5 (o_const 2 (o_iald (o_cge
      (b_m_missing_116)
      (o_aload 0 (o_getr 7 5 (o_const 2 (o_iald (o_const 1 (o_cle
      (b_m_missing_116)
      (o_aload 0 (o_callV 7 1 r_m_begin false (o_iload 5 (o_aload 0 (o_iload 3 (o_aload 0 (o_callV 7 1 r_m_flock true (o_const 1 (o_iload 6 (o_shl (o_const (-1) (o_xor (o_and (o_callV 7 3 r_m_isSo true (o_ifeq
      (o_const 0 (b_m_missing_107 (b_m_missing_53 n)))
      (o_const 1 (o_iload 6 (o_shl (b_m_missing_107 (b_m_missing_53 n))))))))))))))))))))))))))))))))
def b_m_missing_0 : Kt Mi := (o_aload 0 (o_callV 7 1 r_m_isSquare true (o_ifeq
      (o_const (-1000002) o_iret)
      (o_iload 1 (o_call 1 r_m_isRow true (o_ifeq
      (b_m_missing_27)
      (o_iload 3 (o_const 1 (o_const 16 (o_call 3 r_m_in true (o_ifeq
      (b_m_missing_27)
      (o_aload 0 (o_iload 1 (o_iload 2 (o_iload 3 (o_callV 7 4 r_m_takeOut true (o_istore 4 (o_iload 4 (o_ifge
      (o_const 0 (o_istore 5 (o_const 0 (o_istore 6 (b_m_missing_53 k_fu)))))
      (o_iload 4 o_iret))))))))))))))))))))
def r_m_missing (as : List Value) (M : Mi) : Option (Value × Mi) := match as with
  | [.ref a, .int a0, .int a1, .int a2] => b_m_missing_0 [.ref a, .int a0, .int a1, .int a2, .null, .null, .null] [] M
  | _ => none
def b_m_windy_27 : Kt Mi := (o_const (-1000001) o_iret)
def b_m_windy_94 (k53 : Kt Mi) : Kt Mi := (o_or (o_istore 5 (o_iinc 6 1 k53)))
def b_m_windy_53 : Nat → Kt Mi
  | 0 => fun _ _ _ => none
  | n + 1 => (o_iload 6 (o_const 10 (o_cge
      (o_aload 0 (o_iload 5 (o_callV 7 2 r_m_done true o_iret)))
      (o_aload 0 (o_callV 7 1 r_m_begin false (o_aload 0 (o_getr 7 7 (o_const 1 (o_iload 6 (o_iast (o_iload 5 (o_aload 0 (o_iload 3 (o_aload 0 (o_callV 7 1 r_m_flock true (o_callV 7 3 r_m_isSo true (o_ifeq
      (o_const 0 (b_m_windy_94 (b_m_windy_53 n)))
      (o_const 1 (o_iload 6 (o_shl (b_m_windy_94 (b_m_windy_53 n))))))))))))))))))))))
def b_m_windy_0 : Kt Mi := (o_aload 0 (o_callV 7 1 r_m_isSquare true (o_ifeq
      (o_const (-1000002) o_iret)
      (o_iload 1 (o_call 1 r_m_isRow true (o_ifeq
      (b_m_windy_27)
      (o_iload 3 (o_const 1 (o_const 16 (o_call 3 r_m_in true (o_ifeq
      (b_m_windy_27)
      (o_aload 0 (o_iload 1 (o_iload 2 (o_iload 3 (o_callV 7 4 r_m_takeOut true (o_istore 4 (o_iload 4 (o_ifge
      (o_const 0 (o_istore 5 (o_const 0 (o_istore 6 (b_m_windy_53 k_fu)))))
      (o_iload 4 o_iret))))))))))))))))))))
def r_m_windy (as : List Value) (M : Mi) : Option (Value × Mi) := match as with
  | [.ref a, .int a0, .int a1, .int a2] => b_m_windy_0 [.ref a, .int a0, .int a1, .int a2, .null, .null, .null] [] M
  | _ => none
def b_m_sorts_26 : Kt Mi := (o_const (-1000001) o_iret)
def b_m_sorts_97 (k53 : Kt Mi) : Kt Mi := (o_or (o_istore 6 (o_iinc 7 1 k53)))
def b_m_sorts_53 : Nat → Kt Mi
  | 0 => fun _ _ _ => none
  | n + 1 => (o_iload 7 (o_const 5 (o_cgt
      (o_aload 0 (o_iload 6 (o_callV 7 2 r_m_done true o_iret)))
      (o_aload 0 (o_callV 7 1 r_m_begin false (o_aload 0 (o_getr 7 7 (o_const 22 (o_iload 1 (o_add (o_iload 7 (o_iast (o_iload 6 (o_aload 0 (o_iload 4 (o_aload 0 (o_callV 7 1 r_m_flock true (o_callV 7 3 r_m_isSo true (o_ifeq
      (o_const 0 (b_m_sorts_97 (b_m_sorts_53 n)))
      (o_const 1 (o_iload 7 (o_shl (b_m_sorts_97 (b_m_sorts_53 n))))))))))))))))))))))))
def b_m_sorts_0 : Kt Mi := (o_aload 0 (o_iload 1 (o_callV 7 2 r_m_isOne true (o_ifeq
      (b_m_sorts_26)
      (o_iload 2 (o_call 1 r_m_isRow true (o_ifeq
      (b_m_sorts_26)
      (o_iload 4 (o_const 1 (o_const 16 (o_call 3 r_m_in true (o_ifeq
      (b_m_sorts_26)
      (o_aload 0 (o_iload 2 (o_iload 3 (o_iload 4 (o_callV 7 4 r_m_takeOut true (o_istore 5 (o_iload 5 (o_ifge
      (o_const 0 (o_istore 6 (o_const 1 (o_istore 7 (b_m_sorts_53 k_fu)))))
      (o_iload 5 o_iret)))))))))))))))))))))
def r_m_sorts (as : List Value) (M : Mi) : Option (Value × Mi) := match as with
  | [.ref a, .int a0, .int a1, .int a2, .int a3] => b_m_sorts_0 [.ref a, .int a0, .int a1, .int a2, .int a3, .null, .null, .null] [] M
  | _ => none
def b_m_stay_38 : Kt Mi := (o_const (-1000001) o_iret)
def b_m_stay_254 : Kt Mi := (o_iload 7 (o_idiv o_iret))
def b_m_stay_219 : Nat → Kt Mi
  | 0 => fun _ _ _ => none
  | n + 1 => (o_iload 8 (o_ifle
      (o_iload 4 (o_ifeq
      (o_iload 5 (b_m_stay_254))
      (o_iload 6 (b_m_stay_254))))
      (o_iload 7 (o_iload 8 (o_irem (o_istore 9 (o_iload 8 (o_istore 7 (o_iload 9 (o_istore 8 (b_m_stay_219 n)))))))))))
def b_m_stay_205 (k77 : Kt Mi) : Kt Mi := (o_iinc 7 1 k77)
def b_m_stay_202 (k77 : Kt Mi) : Kt Mi := (o_add (o_istore 5 (b_m_stay_205 k77)))
def b_m_stay_160 (k77 : Kt Mi) : Nat → Kt Mi
  | 0 => fun _ _ _ => none
  | n + 1 => (o_iload 9 (o_iload 2 (o_cge
      (o_iload 5 (o_aload 0 (o_getr 7 7 (o_const 42 (o_iload 1 (o_add (o_iald (o_const 1 (o_ceq
      (o_iload 8 (b_m_stay_202 k77))
      (o_const 0 (b_m_stay_202 k77)))))))))))
      (o_aload 0 (o_getr 7 7 (o_iload 7 (o_call 2 r_m_pass false (o_iinc 9 1 (b_m_stay_160 k77 n)))))))))
def b_m_stay_144 (k77 : Kt Mi) (k106 : Kt Mi) : Kt Mi := (o_mul (o_istore 8 (o_iinc 9 1 k106)))
def b_m_stay_106 (k77 : Kt Mi) : Nat → Kt Mi
  | 0 => fun _ _ _ => none
  | n + 1 => (o_iload 9 (o_aload 0 (o_getr 7 5 (o_const 2 (o_iald (o_cge
      (o_aload 0 (o_callV 7 1 r_m_begin false (o_const 0 (o_istore 9 (b_m_stay_160 k77 k_fu)))))
      (o_iload 8 (o_iload 7 (o_aload 0 (o_getr 7 5 (o_const 4 (o_iload 9 (o_add (o_iald (o_call 2 r_m_has true (o_ifeq
      (o_iload 3 (b_m_stay_144 k77 (b_m_stay_106 k77 n)))
      (o_const 10 (o_iload 3 (o_sub (b_m_stay_144 k77 (b_m_stay_106 k77 n)))))))))))))))))))))
def b_m_stay_77 : Nat → Kt Mi
  | 0 => fun _ _ _ => none
  | n + 1 => (o_iload 7 (o_aload 0 (o_callV 7 1 r_m_flock true (o_cgt
      (o_iload 5 (o_istore 7 (o_iload 6 (o_istore 8 (b_m_stay_219 k_fu)))))
      (o_iload 7 (o_aload 0 (o_getr 7 5 (o_const 4 (o_iald (o_call 2 r_m_has true (o_ifeq
      (b_m_stay_205 (b_m_stay_77 n))
      (o_const 1 (o_istore 8 (o_const 1 (o_istore 9 (b_m_stay_106 (b_m_stay_77 n) k_fu))))))))))))))))
def b_m_stay_50 : Nat → Kt Mi
  | 0 => fun _ _ _ => none
  | n + 1 => (o_iload 7 (o_aload 0 (o_getr 7 5 (o_const 2 (o_iald (o_cge
      (o_const 1 (o_istore 7 (b_m_stay_77 k_fu)))
      (o_iload 6 (o_const 10 (o_mul (o_istore 6 (o_iinc 7 1 (b_m_stay_50 n))))))))))))
def b_m_stay_0 : Kt Mi := (o_aload 0 (o_iload 1 (o_callV 7 2 r_m_isOne true (o_ifeq
      (b_m_stay_38)
      (o_iload 2 (o_const 0 (o_const 99 (o_call 3 r_m_in true (o_ifeq
      (b_m_stay_38)
      (o_iload 3 (o_const 0 (o_const 10 (o_call 3 r_m_in true (o_ifeq
      (b_m_stay_38)
      (o_iload 4 (o_const 0 (o_const 1 (o_call 3 r_m_in true (o_ifeq
      (b_m_stay_38)
      (o_const 0 (o_istore 5 (o_const 1 (o_istore 6 (o_const 1 (o_istore 7 (b_m_stay_50 k_fu))))))))))))))))))))))))))
def r_m_stay (as : List Value) (M : Mi) : Option (Value × Mi) := match as with
  | [.ref a, .int a0, .int a1, .int a2, .int a3] => b_m_stay_0 [.ref a, .int a0, .int a1, .int a2, .int a3, .null, .null, .null, .null, .null] [] M
  | _ => none
def b_m_image_0 : Kt Mi := (o_iload 1 (o_const 0 (o_const 1 (o_call 3 r_m_in true (o_ifeq
      (o_const (-1000001) o_iret)
      (o_aload 0 (o_callV 7 1 r_m_isSquare true (o_ifeq
      (o_const (-1000002) o_iret)
      (o_aload 0 (o_getr 7 5 (o_const 0 (o_aload 0 (o_getr 7 8 (o_const 47 (o_iload 1 (o_mul (o_call 4 r_m_lay false (o_aload 0 (o_getr 7 9 (o_iload 1 (o_const 1 (o_zast (o_const 1 o_iret)))))))))))))))))))))))
def r_m_image (as : List Value) (M : Mi) : Option (Value × Mi) := match as with
  | [.ref a, .int a0] => b_m_image_0 [.ref a, .int a0] [] M
  | _ => none
def b_m_restore_0 : Kt Mi := (o_iload 1 (o_const 0 (o_const 1 (o_call 3 r_m_in true (o_ifeq
      (o_const (-1000001) o_iret)
      (o_aload 0 (o_getr 7 9 (o_iload 1 (o_zald (o_ifeq
      (o_const (-1000002) o_iret)
      (o_aload 0 (o_getr 7 8 (o_const 47 (o_iload 1 (o_mul (o_aload 0 (o_getr 7 5 (o_const 0 (o_call 4 r_m_lay false (o_aload 0 (o_const 0 (o_puti 7 18 (o_const 1 o_iret)))))))))))))))))))))))
def r_m_restore (as : List Value) (M : Mi) : Option (Value × Mi) := match as with
  | [.ref a, .int a0] => b_m_restore_0 [.ref a, .int a0] [] M
  | _ => none
def b_m_kind_22 : Kt Mi := o_iret
def b_m_kind_0 : Kt Mi := (o_aload 0 (o_iload 1 (o_callV 7 2 r_m_isOne true (o_ifeq
      (o_const (-1000001) (b_m_kind_22))
      (o_aload 0 (o_getr 7 5 (o_const 22 (o_iload 1 (o_add (o_iald (b_m_kind_22)))))))))))
def r_m_kind (as : List Value) (M : Mi) : Option (Value × Mi) := match as with
  | [.ref a, .int a0] => b_m_kind_0 [.ref a, .int a0] [] M
  | _ => none
def b_m_parentOf_24 : Kt Mi := o_iret
def b_m_parentOf_10 : Kt Mi := (o_const 0 (b_m_parentOf_24))
def b_m_parentOf_0 : Kt Mi := (o_iload 0 (o_const 1 (o_ceq
      (b_m_parentOf_10)
      (o_iload 0 (o_const 4 (o_ceq
      (b_m_parentOf_10)
      (o_iload 0 (o_const 5 (o_ceq
      (o_const 4 (b_m_parentOf_24))
      (o_const 1 (b_m_parentOf_24)))))))))))
def r_m_parentOf (as : List Value) (M : Mi) : Option (Value × Mi) := match as with
  | [.int a0] => b_m_parentOf_0 [.int a0] [] M
  | _ => none
def b_m_as_17 : Kt Mi := (o_const (-1000001) o_iret)
def b_m_as_72 : Kt Mi := o_iret
def b_m_as_52 : Kt Mi := (o_istore 4 (o_iload 4 (o_ifeq
      (o_aload 0 (o_const 3 (o_callV 7 2 r_m_finds true (b_m_as_72))))
      (o_aload 0 (o_iload 1 (o_callV 7 2 r_m_done true (b_m_as_72)))))))
def b_m_as_47 : Kt Mi := (o_const 1 (b_m_as_52))
def b_m_as_0 : Kt Mi := (o_aload 0 (o_iload 1 (o_callV 7 2 r_m_isOne true (o_ifeq
      (b_m_as_17)
      (o_iload 2 (o_const 0 (o_const 5 (o_call 3 r_m_in true (o_ifeq
      (b_m_as_17)
      (o_aload 0 (o_getr 7 5 (o_const 22 (o_iload 1 (o_add (o_iald (o_istore 3 (o_iload 2 (o_ifeq
      (b_m_as_47)
      (o_iload 3 (o_iload 2 (o_ceq
      (b_m_as_47)
      (o_iload 3 (o_call 1 r_m_parentOf true (o_iload 2 (o_ceq
      (b_m_as_47)
      (o_const 0 (b_m_as_52)))))))))))))))))))))))))))
def r_m_as (as : List Value) (M : Mi) : Option (Value × Mi) := match as with
  | [.ref a, .int a0, .int a1] => b_m_as_0 [.ref a, .int a0, .int a1, .null, .null] [] M
  | _ => none
def b_m_begins_29 : Kt Mi := o_ret
def b_m_begins_0 : Kt Mi := (o_aload 0 (o_geti 7 20 (o_const 16 (o_cge
      (b_m_begins_29)
      (o_aload 0 (o_getr 7 11 (o_aload 0 (o_geti 7 20 (o_iload 1 (o_iast (o_aload 0 (o_dup (o_geti 7 20 (o_const 1 (o_add (o_puti 7 20 (b_m_begins_29)))))))))))))))))
def r_m_begins (as : List Value) (M : Mi) : Option (Value × Mi) := match as with
  | [.ref a, .int a0] => b_m_begins_0 [.ref a, .int a0] [] M
  | _ => none
def b_m_markPlain_0 : Kt Mi := (o_aload 0 (o_const 21 (o_callV 7 2 r_m_begins false (o_aload 0 (o_const 20 (o_callV 7 2 r_m_begins false (o_iload 1 (o_aload 0 (o_getr 7 5 (o_const 37 (o_iload 1 (o_add (o_iald (o_add o_iret))))))))))))))
def r_m_markPlain (as : List Value) (M : Mi) : Option (Value × Mi) := match as with
  | [.ref a, .int a0] => b_m_markPlain_0 [.ref a, .int a0] [] M
  | _ => none
def b_m_markWarm_0 : Kt Mi := (o_aload 0 (o_getr 7 5 (o_const 22 (o_iload 1 (o_add (o_iald (o_istore 2 (o_iload 2 (o_const 2 (o_ceq
      (o_aload 0 (o_const 24 (o_callV 7 2 r_m_begins false (o_const 2 (o_aload 0 (o_iload 1 (o_callV 7 2 r_m_markPlain true (o_mul o_iret))))))))
      (o_iload 2 (o_const 3 (o_ceq
      (o_aload 0 (o_const 22 (o_callV 7 2 r_m_begins false (o_aload 0 (o_iload 1 (o_callV 7 2 r_m_markPlain true (o_const 1000 (o_sub o_iret))))))))
      (o_aload 0 (o_iload 1 (o_callV 7 2 r_m_markPlain true o_iret))))))))))))))))
def r_m_markWarm (as : List Value) (M : Mi) : Option (Value × Mi) := match as with
  | [.ref a, .int a0] => b_m_markWarm_0 [.ref a, .int a0, .null] [] M
  | _ => none
def b_m_sizeNervous_0 : Kt Mi := (o_aload 0 (o_const 13 (o_callV 7 2 r_m_begins false (o_aload 0 (o_const 10 (o_callV 7 2 r_m_begins false (o_aload 0 (o_getr 7 5 (o_const 27 (o_iload 1 (o_add (o_iald (o_const 100 (o_sub o_iret))))))))))))))
def r_m_sizeNervous (as : List Value) (M : Mi) : Option (Value × Mi) := match as with
  | [.ref a, .int a0] => b_m_sizeNervous_0 [.ref a, .int a0] [] M
  | _ => none
def b_m_sizeOf_90 : Kt Mi := o_iret
def b_m_sizeOf_51 : Kt Mi := (o_aload 0 (o_const 11 (o_callV 7 2 r_m_begins false (o_aload 0 (o_const 10 (o_callV 7 2 r_m_begins false (o_aload 0 (o_getr 7 5 (o_const 27 (o_iload 1 (o_add (o_iald (o_aload 0 (o_iload 1 (o_callV 7 2 r_m_markWarm true (o_add (o_istore 3 (o_iload 2 (o_const 2 (o_ceq
      (o_iload 3 (o_neg (b_m_sizeOf_90)))
      (o_iload 3 (b_m_sizeOf_90))))))))))))))))))))))
def b_m_sizeOf_0 : Kt Mi := (o_aload 0 (o_getr 7 5 (o_const 22 (o_iload 1 (o_add (o_iald (o_istore 2 (o_iload 2 (o_const 5 (o_ceq
      (o_aload 0 (o_const 14 (o_callV 7 2 r_m_begins false (o_const 2 (o_aload 0 (o_iload 1 (o_callV 7 2 r_m_sizeNervous true (o_mul o_iret))))))))
      (o_iload 2 (o_const 4 (o_ceq
      (o_aload 0 (o_iload 1 (o_callV 7 2 r_m_sizeNervous true o_iret)))
      (o_iload 2 (o_const 2 (o_ceq
      (o_aload 0 (o_const 12 (o_callV 7 2 r_m_begins false (b_m_sizeOf_51))))
      (b_m_sizeOf_51)))))))))))))))))
def r_m_sizeOf (as : List Value) (M : Mi) : Option (Value × Mi) := match as with
  | [.ref a, .int a0] => b_m_sizeOf_0 [.ref a, .int a0, .null, .null] [] M
  | _ => none
def b_m_markOf_0 : Kt Mi := (o_aload 0 (o_getr 7 5 (o_const 22 (o_iload 1 (o_add (o_iald (o_const 4 (o_cge
      (o_aload 0 (o_const 23 (o_callV 7 2 r_m_begins false (o_aload 0 (o_const 20 (o_callV 7 2 r_m_begins false (o_iload 1 (o_aload 0 (o_iload 1 (o_callV 7 2 r_m_sizeOf true (o_sub o_iret)))))))))))
      (o_aload 0 (o_iload 1 (o_callV 7 2 r_m_markWarm true o_iret)))))))))))
def r_m_markOf (as : List Value) (M : Mi) : Option (Value × Mi) := match as with
  | [.ref a, .int a0] => b_m_markOf_0 [.ref a, .int a0] [] M
  | _ => none
def b_m_ask_17 : Kt Mi := (o_const (-1000001) o_iret)
def b_m_ask_42 : Kt Mi := o_iret
def b_m_ask_0 : Kt Mi := (o_aload 0 (o_iload 1 (o_callV 7 2 r_m_isOne true (o_ifeq
      (b_m_ask_17)
      (o_iload 2 (o_const 0 (o_const 1 (o_call 3 r_m_in true (o_ifeq
      (b_m_ask_17)
      (o_aload 0 (o_const 0 (o_puti 7 20 (o_iload 2 (o_ifeq
      (o_aload 0 (o_iload 1 (o_callV 7 2 r_m_sizeOf true (b_m_ask_42))))
      (o_aload 0 (o_iload 1 (o_callV 7 2 r_m_markOf true (b_m_ask_42))))))))))))))))))
def r_m_ask (as : List Value) (M : Mi) : Option (Value × Mi) := match as with
  | [.ref a, .int a0, .int a1] => b_m_ask_0 [.ref a, .int a0, .int a1] [] M
  | _ => none
def b_m_trace_25 : Kt Mi := o_iret
def b_m_trace_0 : Kt Mi := (o_iload 1 (o_const 0 (o_aload 0 (o_geti 7 20 (o_const 1 (o_sub (o_call 3 r_m_in true (o_ifeq
      (o_const (-1000000) (b_m_trace_25))
      (o_aload 0 (o_getr 7 11 (o_iload 1 (o_iald (b_m_trace_25)))))))))))))
def r_m_trace (as : List Value) (M : Mi) : Option (Value × Mi) := match as with
  | [.ref a, .int a0] => b_m_trace_0 [.ref a, .int a0] [] M
  | _ => none
def b_m_count_25 (k4 : Kt Mi) : Kt Mi := (o_add (o_istore 2 (o_iinc 3 1 k4)))
def b_m_count_4 : Nat → Kt Mi
  | 0 => fun _ _ _ => none
  | n + 1 => (o_iload 3 (o_const 8 (o_cge
      (o_iload 1 (o_sw [(0, (o_iload 2 o_iret)),
      (1, (o_aload 0 (o_getr 7 5 (o_const 2 (o_iald o_iret))))),
      (2, (o_aload 0 (o_getr 7 5 (o_const 3 (o_iald o_iret))))),
      (3, (o_aload 0 (o_getr 7 5 (o_const 0 (o_iald o_iret))))),
      (4, (o_aload 0 (o_getr 7 5 (o_const 1 (o_iald o_iret))))),
      (5, (o_aload 0 (o_getr 7 5 (o_call 1 r_m_offOf true (o_call 1 r_m_bits true o_iret))))),
      (6, (o_aload 0 (o_geti 7 18 o_iret))),
      (7, (o_aload 0 (o_geti 7 4 o_iret)))] (o_const (-1000001) o_iret)))
      (o_iload 2 (o_aload 0 (o_getr 7 1 (o_iload 3 (o_iald (o_ifge
      (o_const 1 (b_m_count_25 (b_m_count_4 n)))
      (o_const 0 (b_m_count_25 (b_m_count_4 n))))))))))))
def b_m_count_0 : Kt Mi := (o_const 0 (o_istore 2 (o_const 0 (o_istore 3 (b_m_count_4 k_fu)))))
def r_m_count (as : List Value) (M : Mi) : Option (Value × Mi) := match as with
  | [.ref a, .int a0] => b_m_count_0 [.ref a, .int a0, .null, .null] [] M
  | _ => none
def b_m_status_0 : Kt Mi := (o_aload 0 (o_geti 7 3 o_iret))
def r_m_status (as : List Value) (M : Mi) : Option (Value × Mi) := match as with
  | [.ref a] => b_m_status_0 [.ref a] [] M
  | _ => none
