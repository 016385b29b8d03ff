/-! ===== methods and links ===== -/
def k_fu : Nat := 2000
abbrev o_add {μ : Type} (K : Kt μ) : Kt μ := o_bin (fun x y => x + y) K
abbrev o_sub {μ : Type} (K : Kt μ) : Kt μ := o_bin (fun x y => x - y) K
abbrev o_mul {μ : Type} (K : Kt μ) : Kt μ := o_bin (fun x y => x * y) K
abbrev o_and {μ : Type} (K : Kt μ) : Kt μ := o_bin (fun x y => x &&& y) K
abbrev o_or {μ : Type} (K : Kt μ) : Kt μ := o_bin (fun x y => x ||| y) K
abbrev o_xor {μ : Type} (K : Kt μ) : Kt μ := o_bin (fun x y => x ^^^ y) K
abbrev o_shl {μ : Type} (K : Kt μ) : Kt μ := o_bin (fun x y => x <<< (y &&& 31)) K
abbrev o_shr {μ : Type} (K : Kt μ) : Kt μ := o_bin (fun x y => x >>> (y &&& 31)) K
abbrev o_ushr {μ : Type} (K : Kt μ) : Kt μ := o_bin (fun x y => (x.toUInt32 >>> (y.toUInt32 &&& Int32.toUInt32 31)).toInt32) K
abbrev o_idiv {μ : Type} (K : Kt μ) : Kt μ := o_div (fun x y => x / y) K
abbrev o_irem {μ : Type} (K : Kt μ) : Kt μ := o_div (fun x y => x - x / y * y) K
abbrev o_neg {μ : Type} (K : Kt μ) : Kt μ := o_un (fun x => -x) K
abbrev o_i2b {μ : Type} (K : Kt μ) : Kt μ := o_un (fun x => x.toInt8.toInt32) K
abbrev o_i2s {μ : Type} (K : Kt μ) : Kt μ := o_un (fun x => x.toInt16.toInt32) K
theorem k_c1 (as : List Value) (h : as.all (fun a => a.category == 1) = true) : ∀ a ∈ as, a.category = 1 := fun a ha => by simpa using List.all_eq_true.mp h a ha
set_option maxRecDepth 20000 in
theorem ini_X6 : Cond.initialized RX6 ∈ lw_tbl := List.mem_append_right _ (List.mem_append_left _ (List.mem_of_getElem? (i := 1) rfl))
set_option maxRecDepth 20000 in
theorem ini_X0 : Cond.initialized RX0 ∈ lw_tbl := List.mem_append_right _ (List.mem_append_left _ (List.mem_of_getElem? (i := 5) rfl))
set_option maxRecDepth 20000 in
theorem ini_X1 : Cond.initialized RX1 ∈ lw_tbl := List.mem_append_right _ (List.mem_append_left _ (List.mem_of_getElem? (i := 7) rfl))
set_option maxRecDepth 20000 in
theorem ini_X2 : Cond.initialized RX2 ∈ lw_tbl := List.mem_append_right _ (List.mem_append_left _ (List.mem_of_getElem? (i := 6) rfl))
set_option maxRecDepth 20000 in
theorem ini_X3 : Cond.initialized RX3 ∈ lw_tbl := List.mem_append_right _ (List.mem_append_left _ (List.mem_of_getElem? (i := 3) rfl))
set_option maxRecDepth 20000 in
theorem ini_X4 : Cond.initialized RX4 ∈ lw_tbl := List.mem_append_right _ (List.mem_append_left _ (List.mem_of_getElem? (i := 2) rfl))
set_option maxRecDepth 20000 in
theorem ini_X5 : Cond.initialized RX5 ∈ lw_tbl := List.mem_append_right _ (List.mem_append_left _ (List.mem_of_getElem? (i := 4) rfl))
set_option maxRecDepth 20000 in
theorem ini_X7 : Cond.initialized RX7 ∈ lw_tbl := List.mem_append_right _ (List.mem_append_left _ (List.mem_of_getElem? (i := 8) rfl))
set_option maxRecDepth 20000 in
theorem ini_J6 : Cond.initialized RJ6 ∈ lw_tbl := List.mem_append_right _ (List.mem_append_left _ (List.mem_of_getElem? (i := 11) rfl))
set_option maxRecDepth 20000 in
theorem ins_0 : Cond.instantiable (k_cl 0).1 (k_cl 0).2.2 ∈ lw_tbl := List.mem_append_right _ (List.mem_append_left _ (List.mem_of_getElem? (i := 155) rfl))
set_option maxRecDepth 20000 in
theorem ins_1 : Cond.instantiable (k_cl 1).1 (k_cl 1).2.2 ∈ lw_tbl := List.mem_append_right _ (List.mem_append_left _ (List.mem_of_getElem? (i := 201) rfl))
set_option maxRecDepth 20000 in
theorem ins_2 : Cond.instantiable (k_cl 2).1 (k_cl 2).2.2 ∈ lw_tbl := List.mem_append_right _ (List.mem_append_left _ (List.mem_of_getElem? (i := 184) rfl))
set_option maxRecDepth 20000 in
theorem ins_3 : Cond.instantiable (k_cl 3).1 (k_cl 3).2.2 ∈ lw_tbl := List.mem_append_right _ (List.mem_append_left _ (List.mem_of_getElem? (i := 40) rfl))
set_option maxRecDepth 20000 in
theorem ins_4 : Cond.instantiable (k_cl 4).1 (k_cl 4).2.2 ∈ lw_tbl := List.mem_append_right _ (List.mem_append_left _ (List.mem_of_getElem? (i := 21) rfl))
set_option maxRecDepth 20000 in
theorem ins_5 : Cond.instantiable (k_cl 5).1 (k_cl 5).2.2 ∈ lw_tbl := List.mem_append_right _ (List.mem_append_left _ (List.mem_of_getElem? (i := 77) rfl))
set_option maxRecDepth 20000 in
theorem ins_6 : Cond.instantiable (k_cl 6).1 (k_cl 6).2.2 ∈ lw_tbl := List.mem_append_right _ (List.mem_append_left _ (List.mem_of_getElem? (i := 13) rfl))
set_option maxRecDepth 20000 in
theorem ins_7 : Cond.instantiable (k_cl 7).1 (k_cl 7).2.2 ∈ lw_tbl := List.mem_append_right _ (List.mem_append_right _ (List.mem_append_right _ (List.mem_append_left _ (List.mem_of_getElem? (i := 233) rfl))))
set_option maxRecDepth 20000 in
theorem ac_int : Cond.arrayClass .int ∈ lw_tbl := List.mem_append_right _ (List.mem_append_left _ (List.mem_of_getElem? (i := 38) rfl))
set_option maxRecDepth 20000 in
theorem ac_bool : Cond.arrayClass .boolean ∈ lw_tbl := List.mem_append_right _ (List.mem_append_right _ (List.mem_append_right _ (List.mem_append_right _ (List.mem_append_left _ (List.mem_of_getElem? (i := 74) rfl)))))
set_option maxRecDepth 20000 in
theorem in_obj : Cond.instanceMethod objectInit ∈ lw_tbl := List.mem_append_right _ (List.mem_append_left _ (List.mem_of_getElem? (i := 18) rfl))
set_option maxRecDepth 20000 in
theorem co_obj : Cond.code objectInit ⟨#[0xb1]⟩ 1 none ∈ lw_tbl := List.mem_append_right _ (List.mem_append_left _ (List.mem_of_getElem? (i := 19) rfl))
set_option maxRecDepth 20000 in
theorem nat_cpy : Cond.native arraycopyName ∈ lw_tbl := List.mem_append_right _ (List.mem_append_right _ (List.mem_append_left _ (List.mem_of_getElem? (i := 67) rfl)))
set_option maxRecDepth 20000 in
theorem st_cpy : Cond.static arraycopyName ∈ lw_tbl := List.mem_append_right _ (List.mem_append_right _ (List.mem_append_left _ (List.mem_of_getElem? (i := 66) rfl)))
set_option maxRecDepth 20000 in
theorem ini_sys : Cond.initialized "java/lang/System" ∈ lw_tbl := List.mem_append_right _ (List.mem_append_left _ (List.mem_of_getElem? (i := 9) rfl))
set_option maxRecDepth 20000 in
theorem st_min : Cond.static Lib.Math.min.name ∈ lw_tbl := List.mem_append_right _ (List.mem_append_right _ (List.mem_append_left _ (List.mem_of_getElem? (i := 176) rfl)))
set_option maxRecDepth 20000 in
theorem ini_math : Cond.initialized "java/lang/Math" ∈ lw_tbl := List.mem_append_right _ (List.mem_append_left _ (List.mem_of_getElem? (i := 10) rfl))
set_option maxRecDepth 20000 in
theorem co_min : Cond.code Lib.Math.min.name Lib.Math.min.code 2 (some .int) ∈ lw_tbl := List.mem_append_right _ (List.mem_append_right _ (List.mem_append_left _ (List.mem_of_getElem? (i := 177) rfl)))
abbrev mi_A_init : MI := (yX0_init, cX0_init, 1, none)
set_option maxRecDepth 20000 in
theorem ok_A_init : k_MI mi_A_init := ⟨List.mem_append_right _ (List.mem_append_left _ (List.mem_of_getElem? (i := 158) rfl)), ini_X0, ⟨by decide +kernel, by decide +kernel⟩, by decide +kernel, by decide⟩
theorem ar_A_init : k_arity yX0_init = some 0 := by decide +kernel
set_option maxRecDepth 20000 in
theorem in_A_init : Cond.instanceMethod yX0_init ∈ lw_tbl := List.mem_append_right _ (List.mem_append_left _ (List.mem_of_getElem? (i := 157) rfl))
abbrev mi_A_keep : MI := (yX0_keep, cX0_keep, 2, none)
set_option maxRecDepth 20000 in
theorem ok_A_keep : k_MI mi_A_keep := ⟨List.mem_append_right _ (List.mem_append_right _ (List.mem_append_left _ (List.mem_of_getElem? (i := 173) rfl))), ini_X0, ⟨by decide +kernel, by decide +kernel⟩, by decide +kernel, by decide⟩
theorem ar_A_keep : k_arity yX0_keep = some 1 := by decide +kernel
set_option maxRecDepth 20000 in
theorem in_A_keep : Cond.instanceMethod yX0_keep ∈ lw_tbl := List.mem_append_right _ (List.mem_append_right _ (List.mem_append_left _ (List.mem_of_getElem? (i := 171) rfl)))
set_option maxRecDepth 20000 in
theorem se_A_keep : Cond.selects yX0_keep.cls yX0_keep yX0_keep ∈ lw_tbl := List.mem_append_right _ (List.mem_append_right _ (List.mem_append_left _ (List.mem_of_getElem? (i := 172) rfl)))
abbrev mi_A_takeBack : MI := (yX0_takeBack, cX0_takeBack, 2, none)
set_option maxRecDepth 20000 in
theorem ok_A_takeBack : k_MI mi_A_takeBack := ⟨List.mem_append_right _ (List.mem_append_right _ (List.mem_append_left _ (List.mem_of_getElem? (i := 232) rfl))), ini_X0, ⟨by decide +kernel, by decide +kernel⟩, by decide +kernel, by decide⟩
theorem ar_A_takeBack : k_arity yX0_takeBack = some 1 := by decide +kernel
set_option maxRecDepth 20000 in
theorem in_A_takeBack : Cond.instanceMethod yX0_takeBack ∈ lw_tbl := List.mem_append_right _ (List.mem_append_right _ (List.mem_append_left _ (List.mem_of_getElem? (i := 230) rfl)))
set_option maxRecDepth 20000 in
theorem se_A_takeBack : Cond.selects yX0_takeBack.cls yX0_takeBack yX0_takeBack ∈ lw_tbl := List.mem_append_right _ (List.mem_append_right _ (List.mem_append_left _ (List.mem_of_getElem? (i := 231) rfl)))
abbrev mi_A_forget : MI := (yX0_forget, cX0_forget, 1, none)
set_option maxRecDepth 20000 in
theorem ok_A_forget : k_MI mi_A_forget := ⟨List.mem_append_right _ (List.mem_append_right _ (List.mem_append_left _ (List.mem_of_getElem? (i := 156) rfl))), ini_X0, ⟨by decide +kernel, by decide +kernel⟩, by decide +kernel, by decide⟩
theorem ar_A_forget : k_arity yX0_forget = some 0 := by decide +kernel
set_option maxRecDepth 20000 in
theorem in_A_forget : Cond.instanceMethod yX0_forget ∈ lw_tbl := List.mem_append_right _ (List.mem_append_right _ (List.mem_append_left _ (List.mem_of_getElem? (i := 154) rfl)))
set_option maxRecDepth 20000 in
theorem se_A_forget : Cond.selects yX0_forget.cls yX0_forget yX0_forget ∈ lw_tbl := List.mem_append_right _ (List.mem_append_right _ (List.mem_append_left _ (List.mem_of_getElem? (i := 155) rfl)))
abbrev mi_Q_init : MI := (yX1_init, cX1_init, 1, none)
set_option maxRecDepth 20000 in
theorem ok_Q_init : k_MI mi_Q_init := ⟨List.mem_append_right _ (List.mem_append_left _ (List.mem_of_getElem? (i := 204) rfl)), ini_X1, ⟨by decide +kernel, by decide +kernel⟩, by decide +kernel, by decide⟩
theorem ar_Q_init : k_arity yX1_init = some 0 := by decide +kernel
set_option maxRecDepth 20000 in
theorem in_Q_init : Cond.instanceMethod yX1_init ∈ lw_tbl := List.mem_append_right _ (List.mem_append_left _ (List.mem_of_getElem? (i := 203) rfl))
abbrev mi_Q_begin : MI := (yX1_begin, cX1_begin, 4, (some .int))
set_option maxRecDepth 20000 in
theorem ok_Q_begin : k_MI mi_Q_begin := ⟨List.mem_append_right _ (List.mem_append_right _ (List.mem_append_right _ (List.mem_append_left _ (List.mem_of_getElem? (i := 197) rfl)))), ini_X1, ⟨by decide +kernel, by decide +kernel⟩, by decide +kernel, by decide⟩
theorem ar_Q_begin : k_arity yX1_begin = some 3 := by decide +kernel
set_option maxRecDepth 20000 in
theorem in_Q_begin : Cond.instanceMethod yX1_begin ∈ lw_tbl := List.mem_append_right _ (List.mem_append_right _ (List.mem_append_right _ (List.mem_append_left _ (List.mem_of_getElem? (i := 195) rfl))))
set_option maxRecDepth 20000 in
theorem se_Q_begin : Cond.selects yX1_begin.cls yX1_begin yX1_begin ∈ lw_tbl := List.mem_append_right _ (List.mem_append_right _ (List.mem_append_right _ (List.mem_append_left _ (List.mem_of_getElem? (i := 196) rfl))))
abbrev mi_Q_answer : MI := (yX1_answer, cX1_answer, 3, (some .int))
set_option maxRecDepth 20000 in
theorem ok_Q_answer : k_MI mi_Q_answer := ⟨List.mem_append_right _ (List.mem_append_right _ (List.mem_append_right _ (List.mem_append_left _ (List.mem_of_getElem? (i := 201) rfl)))), ini_X1, ⟨by decide +kernel, by decide +kernel⟩, by decide +kernel, by decide⟩
theorem ar_Q_answer : k_arity yX1_answer = some 2 := by decide +kernel
set_option maxRecDepth 20000 in
theorem in_Q_answer : Cond.instanceMethod yX1_answer ∈ lw_tbl := List.mem_append_right _ (List.mem_append_right _ (List.mem_append_right _ (List.mem_append_left _ (List.mem_of_getElem? (i := 200) rfl))))
set_option maxRecDepth 20000 in
theorem se_Q_answer : Cond.selects yX1_answer.cls yX1_answer yX1_answer ∈ lw_tbl := List.mem_append_left _ (List.mem_of_getElem? (i := 22) rfl)
abbrev mi_Q_bodyFor : MI := (yX1_bodyFor, cX1_bodyFor, 5, (some .int))
set_option maxRecDepth 20000 in
theorem ok_Q_bodyFor : k_MI mi_Q_bodyFor := ⟨List.mem_append_right _ (List.mem_append_right _ (List.mem_append_right _ (List.mem_append_left _ (List.mem_of_getElem? (i := 205) rfl)))), ini_X1, ⟨by decide +kernel, by decide +kernel⟩, by decide +kernel, by decide⟩
theorem ar_Q_bodyFor : k_arity yX1_bodyFor = some 1 := by decide +kernel
set_option maxRecDepth 20000 in
theorem in_Q_bodyFor : Cond.instanceMethod yX1_bodyFor ∈ lw_tbl := List.mem_append_right _ (List.mem_append_right _ (List.mem_append_right _ (List.mem_append_left _ (List.mem_of_getElem? (i := 204) rfl))))
set_option maxRecDepth 20000 in
theorem se_Q_bodyFor : Cond.selects yX1_bodyFor.cls yX1_bodyFor yX1_bodyFor ∈ lw_tbl := List.mem_append_left _ (List.mem_of_getElem? (i := 23) rfl)
abbrev mi_Q_give : MI := (yX1_give, cX1_give, 3, (some .int))
set_option maxRecDepth 20000 in
theorem ok_Q_give : k_MI mi_Q_give := ⟨List.mem_append_right _ (List.mem_append_right _ (List.mem_append_right _ (List.mem_append_left _ (List.mem_of_getElem? (i := 214) rfl)))), ini_X1, ⟨by decide +kernel, by decide +kernel⟩, by decide +kernel, by decide⟩
theorem ar_Q_give : k_arity yX1_give = some 2 := by decide +kernel
set_option maxRecDepth 20000 in
theorem in_Q_give : Cond.instanceMethod yX1_give ∈ lw_tbl := List.mem_append_right _ (List.mem_append_right _ (List.mem_append_right _ (List.mem_append_left _ (List.mem_of_getElem? (i := 213) rfl))))
set_option maxRecDepth 20000 in
theorem se_Q_give : Cond.selects yX1_give.cls yX1_give yX1_give ∈ lw_tbl := List.mem_append_left _ (List.mem_of_getElem? (i := 24) rfl)
abbrev mi_F_init : MI := (yX2_init, cX2_init, 1, none)
set_option maxRecDepth 20000 in
theorem ok_F_init : k_MI mi_F_init := ⟨List.mem_append_right _ (List.mem_append_left _ (List.mem_of_getElem? (i := 187) rfl)), ini_X2, ⟨by decide +kernel, by decide +kernel⟩, by decide +kernel, by decide⟩
theorem ar_F_init : k_arity yX2_init = some 0 := by decide +kernel
set_option maxRecDepth 20000 in
theorem in_F_init : Cond.instanceMethod yX2_init ∈ lw_tbl := List.mem_append_right _ (List.mem_append_left _ (List.mem_of_getElem? (i := 186) rfl))
abbrev mi_F_begin : MI := (yX2_begin, cX2_begin, 2, none)
set_option maxRecDepth 20000 in
theorem ok_F_begin : k_MI mi_F_begin := ⟨List.mem_append_right _ (List.mem_append_right _ (List.mem_append_right _ (List.mem_append_left _ (List.mem_of_getElem? (i := 25) rfl)))), ini_X2, ⟨by decide +kernel, by decide +kernel⟩, by decide +kernel, by decide⟩
theorem ar_F_begin : k_arity yX2_begin = some 1 := by decide +kernel
set_option maxRecDepth 20000 in
theorem in_F_begin : Cond.instanceMethod yX2_begin ∈ lw_tbl := List.mem_append_right _ (List.mem_append_right _ (List.mem_append_right _ (List.mem_append_left _ (List.mem_of_getElem? (i := 23) rfl))))
set_option maxRecDepth 20000 in
theorem se_F_begin : Cond.selects yX2_begin.cls yX2_begin yX2_begin ∈ lw_tbl := List.mem_append_right _ (List.mem_append_right _ (List.mem_append_right _ (List.mem_append_left _ (List.mem_of_getElem? (i := 24) rfl))))
abbrev mi_F_goFar : MI := (yX2_goFar, cX2_goFar, 4, none)
set_option maxRecDepth 20000 in
theorem ok_F_goFar : k_MI mi_F_goFar := ⟨List.mem_append_right _ (List.mem_append_right _ (List.mem_append_right _ (List.mem_append_left _ (List.mem_of_getElem? (i := 30) rfl)))), ini_X2, ⟨by decide +kernel, by decide +kernel⟩, by decide +kernel, by decide⟩
theorem ar_F_goFar : k_arity yX2_goFar = some 2 := by decide +kernel
set_option maxRecDepth 20000 in
theorem in_F_goFar : Cond.instanceMethod yX2_goFar ∈ lw_tbl := List.mem_append_right _ (List.mem_append_right _ (List.mem_append_right _ (List.mem_append_left _ (List.mem_of_getElem? (i := 28) rfl))))
set_option maxRecDepth 20000 in
theorem se_F_goFar : Cond.selects yX2_goFar.cls yX2_goFar yX2_goFar ∈ lw_tbl := List.mem_append_right _ (List.mem_append_right _ (List.mem_append_right _ (List.mem_append_left _ (List.mem_of_getElem? (i := 29) rfl))))
abbrev mi_F_soonest : MI := (yX2_soonest, cX2_soonest, 8, (some .int))
set_option maxRecDepth 20000 in
theorem ok_F_soonest : k_MI mi_F_soonest := ⟨List.mem_append_right _ (List.mem_append_right _ (List.mem_append_right _ (List.mem_append_left _ (List.mem_of_getElem? (i := 43) rfl)))), ini_X2, ⟨by decide +kernel, by decide +kernel⟩, by decide +kernel, by decide⟩
theorem ar_F_soonest : k_arity yX2_soonest = some 2 := by decide +kernel
set_option maxRecDepth 20000 in
theorem in_F_soonest : Cond.instanceMethod yX2_soonest ∈ lw_tbl := List.mem_append_right _ (List.mem_append_right _ (List.mem_append_right _ (List.mem_append_left _ (List.mem_of_getElem? (i := 41) rfl))))
set_option maxRecDepth 20000 in
theorem se_F_soonest : Cond.selects yX2_soonest.cls yX2_soonest yX2_soonest ∈ lw_tbl := List.mem_append_right _ (List.mem_append_right _ (List.mem_append_right _ (List.mem_append_left _ (List.mem_of_getElem? (i := 42) rfl))))
abbrev mi_F_sleepless : MI := (yX2_sleepless, cX2_sleepless, 3, (some .int))
set_option maxRecDepth 20000 in
theorem ok_F_sleepless : k_MI mi_F_sleepless := ⟨List.mem_append_right _ (List.mem_append_right _ (List.mem_append_right _ (List.mem_append_left _ (List.mem_of_getElem? (i := 66) rfl)))), ini_X2, ⟨by decide +kernel, by decide +kernel⟩, by decide +kernel, by decide⟩
theorem ar_F_sleepless : k_arity yX2_sleepless = some 0 := by decide +kernel
set_option maxRecDepth 20000 in
theorem in_F_sleepless : Cond.instanceMethod yX2_sleepless ∈ lw_tbl := List.mem_append_right _ (List.mem_append_right _ (List.mem_append_right _ (List.mem_append_left _ (List.mem_of_getElem? (i := 64) rfl))))
set_option maxRecDepth 20000 in
theorem se_F_sleepless : Cond.selects yX2_sleepless.cls yX2_sleepless yX2_sleepless ∈ lw_tbl := List.mem_append_right _ (List.mem_append_right _ (List.mem_append_right _ (List.mem_append_left _ (List.mem_of_getElem? (i := 65) rfl))))
abbrev mi_F_calm : MI := (yX2_calm, cX2_calm, 4, (some .int))
set_option maxRecDepth 20000 in
theorem ok_F_calm : k_MI mi_F_calm := ⟨List.mem_append_right _ (List.mem_append_right _ (List.mem_append_right _ (List.mem_append_left _ (List.mem_of_getElem? (i := 74) rfl)))), ini_X2, ⟨by decide +kernel, by decide +kernel⟩, by decide +kernel, by decide⟩
theorem ar_F_calm : k_arity yX2_calm = some 1 := by decide +kernel
set_option maxRecDepth 20000 in
theorem in_F_calm : Cond.instanceMethod yX2_calm ∈ lw_tbl := List.mem_append_right _ (List.mem_append_right _ (List.mem_append_right _ (List.mem_append_left _ (List.mem_of_getElem? (i := 72) rfl))))
set_option maxRecDepth 20000 in
theorem se_F_calm : Cond.selects yX2_calm.cls yX2_calm yX2_calm ∈ lw_tbl := List.mem_append_right _ (List.mem_append_right _ (List.mem_append_right _ (List.mem_append_left _ (List.mem_of_getElem? (i := 73) rfl))))
abbrev mi_F_bestOrder : MI := (yX2_bestOrder, cX2_bestOrder, 7, (some .int))
set_option maxRecDepth 20000 in
theorem ok_F_bestOrder : k_MI mi_F_bestOrder := ⟨List.mem_append_right _ (List.mem_append_right _ (List.mem_append_right _ (List.mem_append_left _ (List.mem_of_getElem? (i := 88) rfl)))), ini_X2, ⟨by decide +kernel, by decide +kernel⟩, by decide +kernel, by decide⟩
theorem ar_F_bestOrder : k_arity yX2_bestOrder = some 2 := by decide +kernel
set_option maxRecDepth 20000 in
theorem in_F_bestOrder : Cond.instanceMethod yX2_bestOrder ∈ lw_tbl := List.mem_append_right _ (List.mem_append_right _ (List.mem_append_right _ (List.mem_append_left _ (List.mem_of_getElem? (i := 86) rfl))))
set_option maxRecDepth 20000 in
theorem se_F_bestOrder : Cond.selects yX2_bestOrder.cls yX2_bestOrder yX2_bestOrder ∈ lw_tbl := List.mem_append_right _ (List.mem_append_right _ (List.mem_append_right _ (List.mem_append_left _ (List.mem_of_getElem? (i := 87) rfl))))
abbrev mi_F_smallestFlock : MI := (yX2_smallestFlock, cX2_smallestFlock, 7, (some .int))
set_option maxRecDepth 20000 in
theorem ok_F_smallestFlock : k_MI mi_F_smallestFlock := ⟨List.mem_append_right _ (List.mem_append_right _ (List.mem_append_right _ (List.mem_append_left _ (List.mem_of_getElem? (i := 110) rfl)))), ini_X2, ⟨by decide +kernel, by decide +kernel⟩, by decide +kernel, by decide⟩
theorem ar_F_smallestFlock : k_arity yX2_smallestFlock = some 3 := by decide +kernel
set_option maxRecDepth 20000 in
theorem in_F_smallestFlock : Cond.instanceMethod yX2_smallestFlock ∈ lw_tbl := List.mem_append_right _ (List.mem_append_right _ (List.mem_append_right _ (List.mem_append_left _ (List.mem_of_getElem? (i := 108) rfl))))
set_option maxRecDepth 20000 in
theorem se_F_smallestFlock : Cond.selects yX2_smallestFlock.cls yX2_smallestFlock yX2_smallestFlock ∈ lw_tbl := List.mem_append_right _ (List.mem_append_right _ (List.mem_append_right _ (List.mem_append_left _ (List.mem_of_getElem? (i := 109) rfl))))
abbrev mi_F_strays : MI := (yX2_strays, cX2_strays, 8, (some .int))
set_option maxRecDepth 20000 in
theorem ok_F_strays : k_MI mi_F_strays := ⟨List.mem_append_right _ (List.mem_append_right _ (List.mem_append_right _ (List.mem_append_left _ (List.mem_of_getElem? (i := 128) rfl)))), ini_X2, ⟨by decide +kernel, by decide +kernel⟩, by decide +kernel, by decide⟩
theorem ar_F_strays : k_arity yX2_strays = some 4 := by decide +kernel
set_option maxRecDepth 20000 in
theorem in_F_strays : Cond.instanceMethod yX2_strays ∈ lw_tbl := List.mem_append_right _ (List.mem_append_right _ (List.mem_append_right _ (List.mem_append_left _ (List.mem_of_getElem? (i := 126) rfl))))
set_option maxRecDepth 20000 in
theorem se_F_strays : Cond.selects yX2_strays.cls yX2_strays yX2_strays ∈ lw_tbl := List.mem_append_right _ (List.mem_append_right _ (List.mem_append_right _ (List.mem_append_left _ (List.mem_of_getElem? (i := 127) rfl))))
abbrev mi_F_winds : MI := (yX2_winds, cX2_winds, 7, (some .int))
set_option maxRecDepth 20000 in
theorem ok_F_winds : k_MI mi_F_winds := ⟨List.mem_append_right _ (List.mem_append_right _ (List.mem_append_right _ (List.mem_append_left _ (List.mem_of_getElem? (i := 140) rfl)))), ini_X2, ⟨by decide +kernel, by decide +kernel⟩, by decide +kernel, by decide⟩
theorem ar_F_winds : k_arity yX2_winds = some 4 := by decide +kernel
set_option maxRecDepth 20000 in
theorem in_F_winds : Cond.instanceMethod yX2_winds ∈ lw_tbl := List.mem_append_right _ (List.mem_append_right _ (List.mem_append_right _ (List.mem_append_left _ (List.mem_of_getElem? (i := 138) rfl))))
set_option maxRecDepth 20000 in
theorem se_F_winds : Cond.selects yX2_winds.cls yX2_winds yX2_winds ∈ lw_tbl := List.mem_append_right _ (List.mem_append_right _ (List.mem_append_right _ (List.mem_append_left _ (List.mem_of_getElem? (i := 139) rfl))))
abbrev mi_F_kinds : MI := (yX2_kinds, cX2_kinds, 8, (some .int))
set_option maxRecDepth 20000 in
theorem ok_F_kinds : k_MI mi_F_kinds := ⟨List.mem_append_right _ (List.mem_append_right _ (List.mem_append_right _ (List.mem_append_left _ (List.mem_of_getElem? (i := 148) rfl)))), ini_X2, ⟨by decide +kernel, by decide +kernel⟩, by decide +kernel, by decide⟩
theorem ar_F_kinds : k_arity yX2_kinds = some 5 := by decide +kernel
set_option maxRecDepth 20000 in
theorem in_F_kinds : Cond.instanceMethod yX2_kinds ∈ lw_tbl := List.mem_append_right _ (List.mem_append_right _ (List.mem_append_right _ (List.mem_append_left _ (List.mem_of_getElem? (i := 146) rfl))))
set_option maxRecDepth 20000 in
theorem se_F_kinds : Cond.selects yX2_kinds.cls yX2_kinds yX2_kinds ∈ lw_tbl := List.mem_append_right _ (List.mem_append_right _ (List.mem_append_right _ (List.mem_append_left _ (List.mem_of_getElem? (i := 147) rfl))))
abbrev mi_F_goesSo : MI := (yX2_goesSo, cX2_goesSo, 5, (some .boolean))
set_option maxRecDepth 20000 in
theorem ok_F_goesSo : k_MI mi_F_goesSo := ⟨List.mem_append_right _ (List.mem_append_right _ (List.mem_append_right _ (List.mem_append_left _ (List.mem_of_getElem? (i := 132) rfl)))), ini_X2, ⟨by decide +kernel, by decide +kernel⟩, by decide +kernel, by decide⟩
theorem ar_F_goesSo : k_arity yX2_goesSo = some 3 := by decide +kernel
set_option maxRecDepth 20000 in
theorem in_F_goesSo : Cond.instanceMethod yX2_goesSo ∈ lw_tbl := List.mem_append_right _ (List.mem_append_right _ (List.mem_append_right _ (List.mem_append_left _ (List.mem_of_getElem? (i := 131) rfl))))
set_option maxRecDepth 20000 in
theorem se_F_goesSo : Cond.selects yX2_goesSo.cls yX2_goesSo yX2_goesSo ∈ lw_tbl := List.mem_append_left _ (List.mem_of_getElem? (i := 20) rfl)
abbrev mi_F_chance : MI := (yX2_chance, cX2_chance, 8, (some .int))
set_option maxRecDepth 20000 in
theorem ok_F_chance : k_MI mi_F_chance := ⟨List.mem_append_right _ (List.mem_append_right _ (List.mem_append_right _ (List.mem_append_left _ (List.mem_of_getElem? (i := 156) rfl)))), ini_X2, ⟨by decide +kernel, by decide +kernel⟩, by decide +kernel, by decide⟩
theorem ar_F_chance : k_arity yX2_chance = some 4 := by decide +kernel
set_option maxRecDepth 20000 in
theorem in_F_chance : Cond.instanceMethod yX2_chance ∈ lw_tbl := List.mem_append_right _ (List.mem_append_right _ (List.mem_append_right _ (List.mem_append_left _ (List.mem_of_getElem? (i := 154) rfl))))
set_option maxRecDepth 20000 in
theorem se_F_chance : Cond.selects yX2_chance.cls yX2_chance yX2_chance ∈ lw_tbl := List.mem_append_right _ (List.mem_append_right _ (List.mem_append_right _ (List.mem_append_left _ (List.mem_of_getElem? (i := 155) rfl))))
abbrev mi_F_weight : MI := (yX2_weight, cX2_weight, 6, (some .int))
set_option maxRecDepth 20000 in
theorem ok_F_weight : k_MI mi_F_weight := ⟨List.mem_append_right _ (List.mem_append_right _ (List.mem_append_right _ (List.mem_append_left _ (List.mem_of_getElem? (i := 161) rfl)))), ini_X2, ⟨by decide +kernel, by decide +kernel⟩, by decide +kernel, by decide⟩
theorem ar_F_weight : k_arity yX2_weight = some 4 := by decide +kernel
set_option maxRecDepth 20000 in
theorem st_F_weight : Cond.static yX2_weight ∈ lw_tbl := List.mem_append_right _ (List.mem_append_right _ (List.mem_append_right _ (List.mem_append_left _ (List.mem_of_getElem? (i := 160) rfl))))
abbrev mi_D_init : MI := (yX3_init, cX3_init, 1, none)
set_option maxRecDepth 20000 in
theorem ok_D_init : k_MI mi_D_init := ⟨List.mem_append_right _ (List.mem_append_left _ (List.mem_of_getElem? (i := 43) rfl)), ini_X3, ⟨by decide +kernel, by decide +kernel⟩, by decide +kernel, by decide⟩
theorem ar_D_init : k_arity yX3_init = some 0 := by decide +kernel
set_option maxRecDepth 20000 in
theorem in_D_init : Cond.instanceMethod yX3_init ∈ lw_tbl := List.mem_append_right _ (List.mem_append_left _ (List.mem_of_getElem? (i := 42) rfl))
abbrev mi_D_append : MI := (yX3_append, cX3_append, 2, none)
set_option maxRecDepth 20000 in
theorem ok_D_append : k_MI mi_D_append := ⟨List.mem_append_right _ (List.mem_append_right _ (List.mem_append_left _ (List.mem_of_getElem? (i := 84) rfl))), ini_X3, ⟨by decide +kernel, by decide +kernel⟩, by decide +kernel, by decide⟩
theorem ar_D_append : k_arity yX3_append = some 1 := by decide +kernel
set_option maxRecDepth 20000 in
theorem in_D_append : Cond.instanceMethod yX3_append ∈ lw_tbl := List.mem_append_right _ (List.mem_append_right _ (List.mem_append_left _ (List.mem_of_getElem? (i := 82) rfl)))
set_option maxRecDepth 20000 in
theorem se_D_append : Cond.selects yX3_append.cls yX3_append yX3_append ∈ lw_tbl := List.mem_append_right _ (List.mem_append_right _ (List.mem_append_left _ (List.mem_of_getElem? (i := 83) rfl)))
abbrev mi_D_reads : MI := (yX3_reads, cX3_reads, 2, (some .boolean))
set_option maxRecDepth 20000 in
theorem ok_D_reads : k_MI mi_D_reads := ⟨List.mem_append_right _ (List.mem_append_right _ (List.mem_append_left _ (List.mem_of_getElem? (i := 92) rfl))), ini_X3, ⟨by decide +kernel, by decide +kernel⟩, by decide +kernel, by decide⟩
theorem ar_D_reads : k_arity yX3_reads = some 1 := by decide +kernel
set_option maxRecDepth 20000 in
theorem in_D_reads : Cond.instanceMethod yX3_reads ∈ lw_tbl := List.mem_append_right _ (List.mem_append_right _ (List.mem_append_left _ (List.mem_of_getElem? (i := 90) rfl)))
set_option maxRecDepth 20000 in
theorem se_D_reads : Cond.selects yX3_reads.cls yX3_reads yX3_reads ∈ lw_tbl := List.mem_append_right _ (List.mem_append_right _ (List.mem_append_left _ (List.mem_of_getElem? (i := 91) rfl)))
abbrev mi_D_readLaw : MI := (yX3_readLaw, cX3_readLaw, 2, none)
set_option maxRecDepth 20000 in
theorem ok_D_readLaw : k_MI mi_D_readLaw := ⟨List.mem_append_right _ (List.mem_append_right _ (List.mem_append_left _ (List.mem_of_getElem? (i := 111) rfl))), ini_X3, ⟨by decide +kernel, by decide +kernel⟩, by decide +kernel, by decide⟩
theorem ar_D_readLaw : k_arity yX3_readLaw = some 1 := by decide +kernel
set_option maxRecDepth 20000 in
theorem in_D_readLaw : Cond.instanceMethod yX3_readLaw ∈ lw_tbl := List.mem_append_right _ (List.mem_append_right _ (List.mem_append_left _ (List.mem_of_getElem? (i := 110) rfl)))
set_option maxRecDepth 20000 in
theorem se_D_readLaw : Cond.selects yX3_readLaw.cls yX3_readLaw yX3_readLaw ∈ lw_tbl := List.mem_append_left _ (List.mem_of_getElem? (i := 5) rfl)
abbrev mi_D_readFlock : MI := (yX3_readFlock, cX3_readFlock, 3, none)
set_option maxRecDepth 20000 in
theorem ok_D_readFlock : k_MI mi_D_readFlock := ⟨List.mem_append_right _ (List.mem_append_right _ (List.mem_append_left _ (List.mem_of_getElem? (i := 127) rfl))), ini_X3, ⟨by decide +kernel, by decide +kernel⟩, by decide +kernel, by decide⟩
theorem ar_D_readFlock : k_arity yX3_readFlock = some 1 := by decide +kernel
set_option maxRecDepth 20000 in
theorem in_D_readFlock : Cond.instanceMethod yX3_readFlock ∈ lw_tbl := List.mem_append_right _ (List.mem_append_right _ (List.mem_append_left _ (List.mem_of_getElem? (i := 126) rfl)))
set_option maxRecDepth 20000 in
theorem se_D_readFlock : Cond.selects yX3_readFlock.cls yX3_readFlock yX3_readFlock ∈ lw_tbl := List.mem_append_left _ (List.mem_of_getElem? (i := 9) rfl)
abbrev mi_D_readSheep : MI := (yX3_readSheep, cX3_readSheep, 3, none)
set_option maxRecDepth 20000 in
theorem ok_D_readSheep : k_MI mi_D_readSheep := ⟨List.mem_append_right _ (List.mem_append_right _ (List.mem_append_left _ (List.mem_of_getElem? (i := 131) rfl))), ini_X3, ⟨by decide +kernel, by decide +kernel⟩, by decide +kernel, by decide⟩
theorem ar_D_readSheep : k_arity yX3_readSheep = some 2 := by decide +kernel
set_option maxRecDepth 20000 in
theorem in_D_readSheep : Cond.instanceMethod yX3_readSheep ∈ lw_tbl := List.mem_append_right _ (List.mem_append_right _ (List.mem_append_left _ (List.mem_of_getElem? (i := 130) rfl)))
set_option maxRecDepth 20000 in
theorem se_D_readSheep : Cond.selects yX3_readSheep.cls yX3_readSheep yX3_readSheep ∈ lw_tbl := List.mem_append_left _ (List.mem_of_getElem? (i := 10) rfl)
abbrev mi_D_readSleepers : MI := (yX3_readSleepers, cX3_readSleepers, 3, none)
set_option maxRecDepth 20000 in
theorem ok_D_readSleepers : k_MI mi_D_readSleepers := ⟨List.mem_append_right _ (List.mem_append_right _ (List.mem_append_left _ (List.mem_of_getElem? (i := 135) rfl))), ini_X3, ⟨by decide +kernel, by decide +kernel⟩, by decide +kernel, by decide⟩
theorem ar_D_readSleepers : k_arity yX3_readSleepers = some 1 := by decide +kernel
set_option maxRecDepth 20000 in
theorem in_D_readSleepers : Cond.instanceMethod yX3_readSleepers ∈ lw_tbl := List.mem_append_right _ (List.mem_append_right _ (List.mem_append_left _ (List.mem_of_getElem? (i := 134) rfl)))
set_option maxRecDepth 20000 in
theorem se_D_readSleepers : Cond.selects yX3_readSleepers.cls yX3_readSleepers yX3_readSleepers ∈ lw_tbl := List.mem_append_left _ (List.mem_of_getElem? (i := 11) rfl)
abbrev mi_D_readSleeper : MI := (yX3_readSleeper, cX3_readSleeper, 3, none)
set_option maxRecDepth 20000 in
theorem ok_D_readSleeper : k_MI mi_D_readSleeper := ⟨List.mem_append_right _ (List.mem_append_right _ (List.mem_append_left _ (List.mem_of_getElem? (i := 142) rfl))), ini_X3, ⟨by decide +kernel, by decide +kernel⟩, by decide +kernel, by decide⟩
theorem ar_D_readSleeper : k_arity yX3_readSleeper = some 2 := by decide +kernel
set_option maxRecDepth 20000 in
theorem in_D_readSleeper : Cond.instanceMethod yX3_readSleeper ∈ lw_tbl := List.mem_append_right _ (List.mem_append_right _ (List.mem_append_left _ (List.mem_of_getElem? (i := 141) rfl)))
set_option maxRecDepth 20000 in
theorem se_D_readSleeper : Cond.selects yX3_readSleeper.cls yX3_readSleeper yX3_readSleeper ∈ lw_tbl := List.mem_append_left _ (List.mem_of_getElem? (i := 12) rfl)
abbrev mi_D_kindOf : MI := (yX3_kindOf, cX3_kindOf, 1, (some .int))
set_option maxRecDepth 20000 in
theorem ok_D_kindOf : k_MI mi_D_kindOf := ⟨List.mem_append_right _ (List.mem_append_right _ (List.mem_append_left _ (List.mem_of_getElem? (i := 138) rfl))), ini_X3, ⟨by decide +kernel, by decide +kernel⟩, by decide +kernel, by decide⟩
theorem ar_D_kindOf : k_arity yX3_kindOf = some 1 := by decide +kernel
set_option maxRecDepth 20000 in
theorem st_D_kindOf : Cond.static yX3_kindOf ∈ lw_tbl := List.mem_append_right _ (List.mem_append_right _ (List.mem_append_left _ (List.mem_of_getElem? (i := 137) rfl)))
abbrev mi_D_take : MI := (yX3_take, cX3_take, 2, none)
set_option maxRecDepth 20000 in
theorem ok_D_take : k_MI mi_D_take := ⟨List.mem_append_right _ (List.mem_append_right _ (List.mem_append_left _ (List.mem_of_getElem? (i := 115) rfl))), ini_X3, ⟨by decide +kernel, by decide +kernel⟩, by decide +kernel, by decide⟩
theorem ar_D_take : k_arity yX3_take = some 1 := by decide +kernel
set_option maxRecDepth 20000 in
theorem in_D_take : Cond.instanceMethod yX3_take ∈ lw_tbl := List.mem_append_right _ (List.mem_append_right _ (List.mem_append_left _ (List.mem_of_getElem? (i := 114) rfl)))
set_option maxRecDepth 20000 in
theorem se_D_take : Cond.selects yX3_take.cls yX3_take yX3_take ∈ lw_tbl := List.mem_append_left _ (List.mem_of_getElem? (i := 6) rfl)
abbrev mi_D_takeNumber : MI := (yX3_takeNumber, cX3_takeNumber, 4, (some .int))
set_option maxRecDepth 20000 in
theorem ok_D_takeNumber : k_MI mi_D_takeNumber := ⟨List.mem_append_right _ (List.mem_append_right _ (List.mem_append_left _ (List.mem_of_getElem? (i := 123) rfl))), ini_X3, ⟨by decide +kernel, by decide +kernel⟩, by decide +kernel, by decide⟩
theorem ar_D_takeNumber : k_arity yX3_takeNumber = some 2 := by decide +kernel
set_option maxRecDepth 20000 in
theorem in_D_takeNumber : Cond.instanceMethod yX3_takeNumber ∈ lw_tbl := List.mem_append_right _ (List.mem_append_right _ (List.mem_append_left _ (List.mem_of_getElem? (i := 122) rfl)))
set_option maxRecDepth 20000 in
theorem se_D_takeNumber : Cond.selects yX3_takeNumber.cls yX3_takeNumber yX3_takeNumber ∈ lw_tbl := List.mem_append_left _ (List.mem_of_getElem? (i := 8) rfl)
abbrev mi_D_blame : MI := (yX3_blame, cX3_blame, 2, none)
set_option maxRecDepth 20000 in
theorem ok_D_blame : k_MI mi_D_blame := ⟨List.mem_append_right _ (List.mem_append_right _ (List.mem_append_left _ (List.mem_of_getElem? (i := 119) rfl))), ini_X3, ⟨by decide +kernel, by decide +kernel⟩, by decide +kernel, by decide⟩
theorem ar_D_blame : k_arity yX3_blame = some 1 := by decide +kernel
set_option maxRecDepth 20000 in
theorem in_D_blame : Cond.instanceMethod yX3_blame ∈ lw_tbl := List.mem_append_right _ (List.mem_append_right _ (List.mem_append_left _ (List.mem_of_getElem? (i := 118) rfl)))
set_option maxRecDepth 20000 in
theorem se_D_blame : Cond.selects yX3_blame.cls yX3_blame yX3_blame ∈ lw_tbl := List.mem_append_left _ (List.mem_of_getElem? (i := 7) rfl)
abbrev mi_D_look : MI := (yX3_look, cX3_look, 1, none)
set_option maxRecDepth 20000 in
theorem ok_D_look : k_MI mi_D_look := ⟨List.mem_append_right _ (List.mem_append_right _ (List.mem_append_left _ (List.mem_of_getElem? (i := 100) rfl))), ini_X3, ⟨by decide +kernel, by decide +kernel⟩, by decide +kernel, by decide⟩
theorem ar_D_look : k_arity yX3_look = some 0 := by decide +kernel
set_option maxRecDepth 20000 in
theorem in_D_look : Cond.instanceMethod yX3_look ∈ lw_tbl := List.mem_append_right _ (List.mem_append_right _ (List.mem_append_left _ (List.mem_of_getElem? (i := 99) rfl)))
set_option maxRecDepth 20000 in
theorem se_D_look : Cond.selects yX3_look.cls yX3_look yX3_look ∈ lw_tbl := List.mem_append_left _ (List.mem_of_getElem? (i := 3) rfl)
abbrev mi_D_lookAtNumber : MI := (yX3_lookAtNumber, cX3_lookAtNumber, 2, none)
set_option maxRecDepth 20000 in
theorem ok_D_lookAtNumber : k_MI mi_D_lookAtNumber := ⟨List.mem_append_right _ (List.mem_append_right _ (List.mem_append_left _ (List.mem_of_getElem? (i := 107) rfl))), ini_X3, ⟨by decide +kernel, by decide +kernel⟩, by decide +kernel, by decide⟩
theorem ar_D_lookAtNumber : k_arity yX3_lookAtNumber = some 0 := by decide +kernel
set_option maxRecDepth 20000 in
theorem in_D_lookAtNumber : Cond.instanceMethod yX3_lookAtNumber ∈ lw_tbl := List.mem_append_right _ (List.mem_append_right _ (List.mem_append_left _ (List.mem_of_getElem? (i := 106) rfl)))
set_option maxRecDepth 20000 in
theorem se_D_lookAtNumber : Cond.selects yX3_lookAtNumber.cls yX3_lookAtNumber yX3_lookAtNumber ∈ lw_tbl := List.mem_append_left _ (List.mem_of_getElem? (i := 4) rfl)
abbrev mi_D_isFigure : MI := (yX3_isFigure, cX3_isFigure, 1, (some .boolean))
set_option maxRecDepth 20000 in
theorem ok_D_isFigure : k_MI mi_D_isFigure := ⟨List.mem_append_right _ (List.mem_append_right _ (List.mem_append_left _ (List.mem_of_getElem? (i := 103) rfl))), ini_X3, ⟨by decide +kernel, by decide +kernel⟩, by decide +kernel, by decide⟩
theorem ar_D_isFigure : k_arity yX3_isFigure = some 1 := by decide +kernel
set_option maxRecDepth 20000 in
theorem st_D_isFigure : Cond.static yX3_isFigure ∈ lw_tbl := List.mem_append_right _ (List.mem_append_right _ (List.mem_append_left _ (List.mem_of_getElem? (i := 102) rfl)))
abbrev mi_W_init : MI := (yX4_init, cX4_init, 1, none)
set_option maxRecDepth 20000 in
theorem ok_W_init : k_MI mi_W_init := ⟨List.mem_append_right _ (List.mem_append_left _ (List.mem_of_getElem? (i := 24) rfl)), ini_X4, ⟨by decide +kernel, by decide +kernel⟩, by decide +kernel, by decide⟩
theorem ar_W_init : k_arity yX4_init = some 0 := by decide +kernel
set_option maxRecDepth 20000 in
theorem in_W_init : Cond.instanceMethod yX4_init ∈ lw_tbl := List.mem_append_right _ (List.mem_append_left _ (List.mem_of_getElem? (i := 23) rfl))
abbrev mi_W_isGone : MI := (yX4_isGone, cX4_isGone, 2, (some .boolean))
set_option maxRecDepth 20000 in
theorem ok_W_isGone : k_MI mi_W_isGone := ⟨List.mem_append_right _ (List.mem_append_right _ (List.mem_append_left _ (List.mem_of_getElem? (i := 48) rfl))), ini_X4, ⟨by decide +kernel, by decide +kernel⟩, by decide +kernel, by decide⟩
theorem ar_W_isGone : k_arity yX4_isGone = some 1 := by decide +kernel
set_option maxRecDepth 20000 in
theorem in_W_isGone : Cond.instanceMethod yX4_isGone ∈ lw_tbl := List.mem_append_right _ (List.mem_append_right _ (List.mem_append_left _ (List.mem_of_getElem? (i := 46) rfl)))
set_option maxRecDepth 20000 in
theorem se_W_isGone : Cond.selects yX4_isGone.cls yX4_isGone yX4_isGone ∈ lw_tbl := List.mem_append_right _ (List.mem_append_right _ (List.mem_append_left _ (List.mem_of_getElem? (i := 47) rfl)))
abbrev mi_W_lacks : MI := (yX4_lacks, cX4_lacks, 4, (some .boolean))
set_option maxRecDepth 20000 in
theorem ok_W_lacks : k_MI mi_W_lacks := ⟨List.mem_append_right _ (List.mem_append_right _ (List.mem_append_left _ (List.mem_of_getElem? (i := 52) rfl))), ini_X4, ⟨by decide +kernel, by decide +kernel⟩, by decide +kernel, by decide⟩
theorem ar_W_lacks : k_arity yX4_lacks = some 3 := by decide +kernel
set_option maxRecDepth 20000 in
theorem in_W_lacks : Cond.instanceMethod yX4_lacks ∈ lw_tbl := List.mem_append_right _ (List.mem_append_right _ (List.mem_append_left _ (List.mem_of_getElem? (i := 50) rfl)))
set_option maxRecDepth 20000 in
theorem se_W_lacks : Cond.selects yX4_lacks.cls yX4_lacks yX4_lacks ∈ lw_tbl := List.mem_append_right _ (List.mem_append_right _ (List.mem_append_left _ (List.mem_of_getElem? (i := 51) rfl)))
abbrev mi_W_placeOf : MI := (yX4_placeOf, cX4_placeOf, 3, (some .int))
set_option maxRecDepth 20000 in
theorem ok_W_placeOf : k_MI mi_W_placeOf := ⟨List.mem_append_right _ (List.mem_append_right _ (List.mem_append_left _ (List.mem_of_getElem? (i := 36) rfl))), ini_X4, ⟨by decide +kernel, by decide +kernel⟩, by decide +kernel, by decide⟩
theorem ar_W_placeOf : k_arity yX4_placeOf = some 2 := by decide +kernel
set_option maxRecDepth 20000 in
theorem in_W_placeOf : Cond.instanceMethod yX4_placeOf ∈ lw_tbl := List.mem_append_right _ (List.mem_append_right _ (List.mem_append_left _ (List.mem_of_getElem? (i := 34) rfl)))
set_option maxRecDepth 20000 in
theorem se_W_placeOf : Cond.selects yX4_placeOf.cls yX4_placeOf yX4_placeOf ∈ lw_tbl := List.mem_append_right _ (List.mem_append_right _ (List.mem_append_left _ (List.mem_of_getElem? (i := 35) rfl)))
abbrev mi_W_make : MI := (yX4_make, cX4_make, 5, none)
set_option maxRecDepth 20000 in
theorem ok_W_make : k_MI mi_W_make := ⟨List.mem_append_right _ (List.mem_append_right _ (List.mem_append_left _ (List.mem_of_getElem? (i := 32) rfl))), ini_X4, ⟨by decide +kernel, by decide +kernel⟩, by decide +kernel, by decide⟩
theorem ar_W_make : k_arity yX4_make = some 3 := by decide +kernel
set_option maxRecDepth 20000 in
theorem in_W_make : Cond.instanceMethod yX4_make ∈ lw_tbl := List.mem_append_right _ (List.mem_append_right _ (List.mem_append_left _ (List.mem_of_getElem? (i := 30) rfl)))
set_option maxRecDepth 20000 in
theorem se_W_make : Cond.selects yX4_make.cls yX4_make yX4_make ∈ lw_tbl := List.mem_append_right _ (List.mem_append_right _ (List.mem_append_left _ (List.mem_of_getElem? (i := 31) rfl)))
abbrev mi_W_put : MI := (yX4_put, cX4_put, 5, (some .int))
set_option maxRecDepth 20000 in
theorem ok_W_put : k_MI mi_W_put := ⟨List.mem_append_right _ (List.mem_append_right _ (List.mem_append_left _ (List.mem_of_getElem? (i := 56) rfl))), ini_X4, ⟨by decide +kernel, by decide +kernel⟩, by decide +kernel, by decide⟩
theorem ar_W_put : k_arity yX4_put = some 3 := by decide +kernel
set_option maxRecDepth 20000 in
theorem in_W_put : Cond.instanceMethod yX4_put ∈ lw_tbl := List.mem_append_right _ (List.mem_append_right _ (List.mem_append_left _ (List.mem_of_getElem? (i := 54) rfl)))
set_option maxRecDepth 20000 in
theorem se_W_put : Cond.selects yX4_put.cls yX4_put yX4_put ∈ lw_tbl := List.mem_append_right _ (List.mem_append_right _ (List.mem_append_left _ (List.mem_of_getElem? (i := 55) rfl)))
abbrev mi_W_move : MI := (yX4_move, cX4_move, 6, none)
set_option maxRecDepth 20000 in
theorem ok_W_move : k_MI mi_W_move := ⟨List.mem_append_right _ (List.mem_append_right _ (List.mem_append_left _ (List.mem_of_getElem? (i := 64) rfl))), ini_X4, ⟨by decide +kernel, by decide +kernel⟩, by decide +kernel, by decide⟩
theorem ar_W_move : k_arity yX4_move = some 5 := by decide +kernel
set_option maxRecDepth 20000 in
theorem in_W_move : Cond.instanceMethod yX4_move ∈ lw_tbl := List.mem_append_right _ (List.mem_append_right _ (List.mem_append_left _ (List.mem_of_getElem? (i := 62) rfl)))
set_option maxRecDepth 20000 in
theorem se_W_move : Cond.selects yX4_move.cls yX4_move yX4_move ∈ lw_tbl := List.mem_append_right _ (List.mem_append_right _ (List.mem_append_left _ (List.mem_of_getElem? (i := 63) rfl)))
abbrev mi_W_lose : MI := (yX4_lose, cX4_lose, 3, (some .int))
set_option maxRecDepth 20000 in
theorem ok_W_lose : k_MI mi_W_lose := ⟨List.mem_append_right _ (List.mem_append_right _ (List.mem_append_left _ (List.mem_of_getElem? (i := 75) rfl))), ini_X4, ⟨by decide +kernel, by decide +kernel⟩, by decide +kernel, by decide⟩
theorem ar_W_lose : k_arity yX4_lose = some 1 := by decide +kernel
set_option maxRecDepth 20000 in
theorem in_W_lose : Cond.instanceMethod yX4_lose ∈ lw_tbl := List.mem_append_right _ (List.mem_append_right _ (List.mem_append_left _ (List.mem_of_getElem? (i := 73) rfl)))
set_option maxRecDepth 20000 in
theorem se_W_lose : Cond.selects yX4_lose.cls yX4_lose yX4_lose ∈ lw_tbl := List.mem_append_right _ (List.mem_append_right _ (List.mem_append_left _ (List.mem_of_getElem? (i := 74) rfl)))
abbrev mi_W_howMany : MI := (yX4_howMany, cX4_howMany, 3, (some .int))
set_option maxRecDepth 20000 in
theorem ok_W_howMany : k_MI mi_W_howMany := ⟨List.mem_append_right _ (List.mem_append_right _ (List.mem_append_right _ (List.mem_append_left _ (List.mem_of_getElem? (i := 226) rfl)))), ini_X4, ⟨by decide +kernel, by decide +kernel⟩, by decide +kernel, by decide⟩
theorem ar_W_howMany : k_arity yX4_howMany = some 0 := by decide +kernel
set_option maxRecDepth 20000 in
theorem in_W_howMany : Cond.instanceMethod yX4_howMany ∈ lw_tbl := List.mem_append_right _ (List.mem_append_right _ (List.mem_append_right _ (List.mem_append_left _ (List.mem_of_getElem? (i := 224) rfl))))
set_option maxRecDepth 20000 in
theorem se_W_howMany : Cond.selects yX4_howMany.cls yX4_howMany yX4_howMany ∈ lw_tbl := List.mem_append_right _ (List.mem_append_right _ (List.mem_append_right _ (List.mem_append_left _ (List.mem_of_getElem? (i := 225) rfl))))
abbrev mi_S_init : MI := (yX5_init, cX5_init, 1, none)
set_option maxRecDepth 20000 in
theorem ok_S_init : k_MI mi_S_init := ⟨List.mem_append_right _ (List.mem_append_left _ (List.mem_of_getElem? (i := 80) rfl)), ini_X5, ⟨by decide +kernel, by decide +kernel⟩, by decide +kernel, by decide⟩
theorem ar_S_init : k_arity yX5_init = some 0 := by decide +kernel
set_option maxRecDepth 20000 in
theorem in_S_init : Cond.instanceMethod yX5_init ∈ lw_tbl := List.mem_append_right _ (List.mem_append_left _ (List.mem_of_getElem? (i := 79) rfl))
abbrev mi_S_clear : MI := (yX5_clear, cX5_clear, 2, none)
set_option maxRecDepth 20000 in
theorem ok_S_clear : k_MI mi_S_clear := ⟨List.mem_append_right _ (List.mem_append_right _ (List.mem_append_left _ (List.mem_of_getElem? (i := 96) rfl))), ini_X5, ⟨by decide +kernel, by decide +kernel⟩, by decide +kernel, by decide⟩
theorem ar_S_clear : k_arity yX5_clear = some 0 := by decide +kernel
set_option maxRecDepth 20000 in
theorem in_S_clear : Cond.instanceMethod yX5_clear ∈ lw_tbl := List.mem_append_right _ (List.mem_append_right _ (List.mem_append_left _ (List.mem_of_getElem? (i := 94) rfl)))
set_option maxRecDepth 20000 in
theorem se_S_clear : Cond.selects yX5_clear.cls yX5_clear yX5_clear ∈ lw_tbl := List.mem_append_right _ (List.mem_append_right _ (List.mem_append_left _ (List.mem_of_getElem? (i := 95) rfl)))
abbrev mi_S_become : MI := (yX5_become, cX5_become, 2, none)
set_option maxRecDepth 20000 in
theorem ok_S_become : k_MI mi_S_become := ⟨List.mem_append_right _ (List.mem_append_right _ (List.mem_append_left _ (List.mem_of_getElem? (i := 147) rfl))), ini_X5, ⟨by decide +kernel, by decide +kernel⟩, by decide +kernel, by decide⟩
theorem ar_S_become : k_arity yX5_become = some 1 := by decide +kernel
set_option maxRecDepth 20000 in
theorem in_S_become : Cond.instanceMethod yX5_become ∈ lw_tbl := List.mem_append_right _ (List.mem_append_right _ (List.mem_append_left _ (List.mem_of_getElem? (i := 145) rfl)))
set_option maxRecDepth 20000 in
theorem se_S_become : Cond.selects yX5_become.cls yX5_become yX5_become ∈ lw_tbl := List.mem_append_right _ (List.mem_append_right _ (List.mem_append_left _ (List.mem_of_getElem? (i := 146) rfl)))
abbrev mi_S_goBackTo : MI := (yX5_goBackTo, cX5_goBackTo, 2, none)
set_option maxRecDepth 20000 in
theorem ok_S_goBackTo : k_MI mi_S_goBackTo := ⟨List.mem_append_right _ (List.mem_append_right _ (List.mem_append_left _ (List.mem_of_getElem? (i := 152) rfl))), ini_X5, ⟨by decide +kernel, by decide +kernel⟩, by decide +kernel, by decide⟩
theorem ar_S_goBackTo : k_arity yX5_goBackTo = some 1 := by decide +kernel
set_option maxRecDepth 20000 in
theorem in_S_goBackTo : Cond.instanceMethod yX5_goBackTo ∈ lw_tbl := List.mem_append_right _ (List.mem_append_right _ (List.mem_append_left _ (List.mem_of_getElem? (i := 150) rfl)))
set_option maxRecDepth 20000 in
theorem se_S_goBackTo : Cond.selects yX5_goBackTo.cls yX5_goBackTo yX5_goBackTo ∈ lw_tbl := List.mem_append_right _ (List.mem_append_right _ (List.mem_append_left _ (List.mem_of_getElem? (i := 151) rfl)))
abbrev mi_S_isOff : MI := (yX5_isOff, cX5_isOff, 2, (some .boolean))
set_option maxRecDepth 20000 in
theorem ok_S_isOff : k_MI mi_S_isOff := ⟨List.mem_append_right _ (List.mem_append_right _ (List.mem_append_right _ (List.mem_append_left _ (List.mem_of_getElem? (i := 0) rfl)))), ini_X5, ⟨by decide +kernel, by decide +kernel⟩, by decide +kernel, by decide⟩
theorem ar_S_isOff : k_arity yX5_isOff = some 1 := by decide +kernel
set_option maxRecDepth 20000 in
theorem in_S_isOff : Cond.instanceMethod yX5_isOff ∈ lw_tbl := List.mem_append_right _ (List.mem_append_right _ (List.mem_append_left _ (List.mem_of_getElem? (i := 238) rfl)))
set_option maxRecDepth 20000 in
theorem se_S_isOff : Cond.selects yX5_isOff.cls yX5_isOff yX5_isOff ∈ lw_tbl := List.mem_append_right _ (List.mem_append_right _ (List.mem_append_left _ (List.mem_of_getElem? (i := 239) rfl)))
abbrev mi_S_wake : MI := (yX5_wake, cX5_wake, 2, none)
set_option maxRecDepth 20000 in
theorem ok_S_wake : k_MI mi_S_wake := ⟨List.mem_append_right _ (List.mem_append_right _ (List.mem_append_left _ (List.mem_of_getElem? (i := 202) rfl))), ini_X5, ⟨by decide +kernel, by decide +kernel⟩, by decide +kernel, by decide⟩
theorem ar_S_wake : k_arity yX5_wake = some 1 := by decide +kernel
set_option maxRecDepth 20000 in
theorem in_S_wake : Cond.instanceMethod yX5_wake ∈ lw_tbl := List.mem_append_right _ (List.mem_append_right _ (List.mem_append_left _ (List.mem_of_getElem? (i := 200) rfl)))
set_option maxRecDepth 20000 in
theorem se_S_wake : Cond.selects yX5_wake.cls yX5_wake yX5_wake ∈ lw_tbl := List.mem_append_right _ (List.mem_append_right _ (List.mem_append_left _ (List.mem_of_getElem? (i := 201) rfl)))
abbrev mi_S_startAnew : MI := (yX5_startAnew, cX5_startAnew, 2, none)
set_option maxRecDepth 20000 in
theorem ok_S_startAnew : k_MI mi_S_startAnew := ⟨List.mem_append_right _ (List.mem_append_right _ (List.mem_append_left _ (List.mem_of_getElem? (i := 198) rfl))), ini_X5, ⟨by decide +kernel, by decide +kernel⟩, by decide +kernel, by decide⟩
theorem ar_S_startAnew : k_arity yX5_startAnew = some 1 := by decide +kernel
set_option maxRecDepth 20000 in
theorem in_S_startAnew : Cond.instanceMethod yX5_startAnew ∈ lw_tbl := List.mem_append_right _ (List.mem_append_right _ (List.mem_append_left _ (List.mem_of_getElem? (i := 196) rfl)))
set_option maxRecDepth 20000 in
theorem se_S_startAnew : Cond.selects yX5_startAnew.cls yX5_startAnew yX5_startAnew ∈ lw_tbl := List.mem_append_right _ (List.mem_append_right _ (List.mem_append_left _ (List.mem_of_getElem? (i := 197) rfl)))
abbrev mi_S_hears : MI := (yX5_hears, cX5_hears, 3, (some .boolean))
set_option maxRecDepth 20000 in
theorem ok_S_hears : k_MI mi_S_hears := ⟨List.mem_append_right _ (List.mem_append_right _ (List.mem_append_left _ (List.mem_of_getElem? (i := 185) rfl))), ini_X5, ⟨by decide +kernel, by decide +kernel⟩, by decide +kernel, by decide⟩
theorem ar_S_hears : k_arity yX5_hears = some 2 := by decide +kernel
set_option maxRecDepth 20000 in
theorem in_S_hears : Cond.instanceMethod yX5_hears ∈ lw_tbl := List.mem_append_right _ (List.mem_append_right _ (List.mem_append_left _ (List.mem_of_getElem? (i := 183) rfl)))
set_option maxRecDepth 20000 in
theorem se_S_hears : Cond.selects yX5_hears.cls yX5_hears yX5_hears ∈ lw_tbl := List.mem_append_right _ (List.mem_append_right _ (List.mem_append_left _ (List.mem_of_getElem? (i := 184) rfl)))
abbrev mi_S_heardBy : MI := (yX5_heardBy, cX5_heardBy, 4, (some .int))
set_option maxRecDepth 20000 in
theorem ok_S_heardBy : k_MI mi_S_heardBy := ⟨List.mem_append_right _ (List.mem_append_right _ (List.mem_append_right _ (List.mem_append_left _ (List.mem_of_getElem? (i := 4) rfl)))), ini_X5, ⟨by decide +kernel, by decide +kernel⟩, by decide +kernel, by decide⟩
theorem ar_S_heardBy : k_arity yX5_heardBy = some 1 := by decide +kernel
set_option maxRecDepth 20000 in
theorem in_S_heardBy : Cond.instanceMethod yX5_heardBy ∈ lw_tbl := List.mem_append_right _ (List.mem_append_right _ (List.mem_append_right _ (List.mem_append_left _ (List.mem_of_getElem? (i := 2) rfl))))
set_option maxRecDepth 20000 in
theorem se_S_heardBy : Cond.selects yX5_heardBy.cls yX5_heardBy yX5_heardBy ∈ lw_tbl := List.mem_append_right _ (List.mem_append_right _ (List.mem_append_right _ (List.mem_append_left _ (List.mem_of_getElem? (i := 3) rfl))))
abbrev mi_S_placeOf : MI := (yX5_placeOf, cX5_placeOf, 3, (some .int))
set_option maxRecDepth 20000 in
theorem ok_S_placeOf : k_MI mi_S_placeOf := ⟨List.mem_append_right _ (List.mem_append_right _ (List.mem_append_right _ (List.mem_append_left _ (List.mem_of_getElem? (i := 12) rfl)))), ini_X5, ⟨by decide +kernel, by decide +kernel⟩, by decide +kernel, by decide⟩
theorem ar_S_placeOf : k_arity yX5_placeOf = some 1 := by decide +kernel
set_option maxRecDepth 20000 in
theorem in_S_placeOf : Cond.instanceMethod yX5_placeOf ∈ lw_tbl := List.mem_append_right _ (List.mem_append_right _ (List.mem_append_right _ (List.mem_append_left _ (List.mem_of_getElem? (i := 10) rfl))))
set_option maxRecDepth 20000 in
theorem se_S_placeOf : Cond.selects yX5_placeOf.cls yX5_placeOf yX5_placeOf ∈ lw_tbl := List.mem_append_right _ (List.mem_append_right _ (List.mem_append_right _ (List.mem_append_left _ (List.mem_of_getElem? (i := 11) rfl))))
abbrev mi_S_swap : MI := (yX5_swap, cX5_swap, 4, none)
set_option maxRecDepth 20000 in
theorem ok_S_swap : k_MI mi_S_swap := ⟨List.mem_append_right _ (List.mem_append_right _ (List.mem_append_left _ (List.mem_of_getElem? (i := 210) rfl))), ini_X5, ⟨by decide +kernel, by decide +kernel⟩, by decide +kernel, by decide⟩
theorem ar_S_swap : k_arity yX5_swap = some 2 := by decide +kernel
set_option maxRecDepth 20000 in
theorem in_S_swap : Cond.instanceMethod yX5_swap ∈ lw_tbl := List.mem_append_right _ (List.mem_append_right _ (List.mem_append_left _ (List.mem_of_getElem? (i := 208) rfl)))
set_option maxRecDepth 20000 in
theorem se_S_swap : Cond.selects yX5_swap.cls yX5_swap yX5_swap ∈ lw_tbl := List.mem_append_right _ (List.mem_append_right _ (List.mem_append_left _ (List.mem_of_getElem? (i := 209) rfl)))
abbrev mi_S_goOn : MI := (yX5_goOn, cX5_goOn, 4, none)
set_option maxRecDepth 20000 in
theorem ok_S_goOn : k_MI mi_S_goOn := ⟨List.mem_append_right _ (List.mem_append_right _ (List.mem_append_left _ (List.mem_of_getElem? (i := 181) rfl))), ini_X5, ⟨by decide +kernel, by decide +kernel⟩, by decide +kernel, by decide⟩
theorem ar_S_goOn : k_arity yX5_goOn = some 1 := by decide +kernel
set_option maxRecDepth 20000 in
theorem in_S_goOn : Cond.instanceMethod yX5_goOn ∈ lw_tbl := List.mem_append_right _ (List.mem_append_right _ (List.mem_append_left _ (List.mem_of_getElem? (i := 179) rfl)))
set_option maxRecDepth 20000 in
theorem se_S_goOn : Cond.selects yX5_goOn.cls yX5_goOn yX5_goOn ∈ lw_tbl := List.mem_append_right _ (List.mem_append_right _ (List.mem_append_left _ (List.mem_of_getElem? (i := 180) rfl)))
abbrev mi_S_hear : MI := (yX5_hear, cX5_hear, 5, none)
set_option maxRecDepth 20000 in
theorem ok_S_hear : k_MI mi_S_hear := ⟨List.mem_append_right _ (List.mem_append_right _ (List.mem_append_left _ (List.mem_of_getElem? (i := 189) rfl))), ini_X5, ⟨by decide +kernel, by decide +kernel⟩, by decide +kernel, by decide⟩
theorem ar_S_hear : k_arity yX5_hear = some 2 := by decide +kernel
set_option maxRecDepth 20000 in
theorem in_S_hear : Cond.instanceMethod yX5_hear ∈ lw_tbl := List.mem_append_right _ (List.mem_append_right _ (List.mem_append_left _ (List.mem_of_getElem? (i := 188) rfl)))
set_option maxRecDepth 20000 in
theorem se_S_hear : Cond.selects yX5_hear.cls yX5_hear yX5_hear ∈ lw_tbl := List.mem_append_left _ (List.mem_of_getElem? (i := 14) rfl)
abbrev mi_S_countMore : MI := (yX5_countMore, cX5_countMore, 3, none)
set_option maxRecDepth 20000 in
theorem ok_S_countMore : k_MI mi_S_countMore := ⟨List.mem_append_right _ (List.mem_append_right _ (List.mem_append_left _ (List.mem_of_getElem? (i := 193) rfl))), ini_X5, ⟨by decide +kernel, by decide +kernel⟩, by decide +kernel, by decide⟩
theorem ar_S_countMore : k_arity yX5_countMore = some 2 := by decide +kernel
set_option maxRecDepth 20000 in
theorem in_S_countMore : Cond.instanceMethod yX5_countMore ∈ lw_tbl := List.mem_append_right _ (List.mem_append_right _ (List.mem_append_left _ (List.mem_of_getElem? (i := 192) rfl)))
set_option maxRecDepth 20000 in
theorem se_S_countMore : Cond.selects yX5_countMore.cls yX5_countMore yX5_countMore ∈ lw_tbl := List.mem_append_left _ (List.mem_of_getElem? (i := 15) rfl)
abbrev mi_S_whatMatters : MI := (yX5_whatMatters, cX5_whatMatters, 6, (some .long))
set_option maxRecDepth 20000 in
theorem ok_S_whatMatters : k_MI mi_S_whatMatters := ⟨List.mem_append_right _ (List.mem_append_right _ (List.mem_append_right _ (List.mem_append_left _ (List.mem_of_getElem? (i := 49) rfl)))), ini_X5, ⟨by decide +kernel, by decide +kernel⟩, by decide +kernel, by decide⟩
theorem ar_S_whatMatters : k_arity yX5_whatMatters = some 1 := by decide +kernel
set_option maxRecDepth 20000 in
theorem in_S_whatMatters : Cond.instanceMethod yX5_whatMatters ∈ lw_tbl := List.mem_append_right _ (List.mem_append_right _ (List.mem_append_right _ (List.mem_append_left _ (List.mem_of_getElem? (i := 47) rfl))))
set_option maxRecDepth 20000 in
theorem se_S_whatMatters : Cond.selects yX5_whatMatters.cls yX5_whatMatters yX5_whatMatters ∈ lw_tbl := List.mem_append_right _ (List.mem_append_right _ (List.mem_append_right _ (List.mem_append_left _ (List.mem_of_getElem? (i := 48) rfl))))
abbrev mi_S_keepOnly : MI := (yX5_keepOnly, cX5_keepOnly, 5, none)
set_option maxRecDepth 20000 in
theorem ok_S_keepOnly : k_MI mi_S_keepOnly := ⟨List.mem_append_right _ (List.mem_append_right _ (List.mem_append_right _ (List.mem_append_left _ (List.mem_of_getElem? (i := 114) rfl)))), ini_X5, ⟨by decide +kernel, by decide +kernel⟩, by decide +kernel, by decide⟩
theorem ar_S_keepOnly : k_arity yX5_keepOnly = some 2 := by decide +kernel
set_option maxRecDepth 20000 in
theorem in_S_keepOnly : Cond.instanceMethod yX5_keepOnly ∈ lw_tbl := List.mem_append_right _ (List.mem_append_right _ (List.mem_append_right _ (List.mem_append_left _ (List.mem_of_getElem? (i := 112) rfl))))
set_option maxRecDepth 20000 in
theorem se_S_keepOnly : Cond.selects yX5_keepOnly.cls yX5_keepOnly yX5_keepOnly ∈ lw_tbl := List.mem_append_right _ (List.mem_append_right _ (List.mem_append_right _ (List.mem_append_left _ (List.mem_of_getElem? (i := 113) rfl))))
abbrev mi_S_lineUp : MI := (yX5_lineUp, cX5_lineUp, 2, none)
set_option maxRecDepth 20000 in
theorem ok_S_lineUp : k_MI mi_S_lineUp := ⟨List.mem_append_right _ (List.mem_append_right _ (List.mem_append_right _ (List.mem_append_left _ (List.mem_of_getElem? (i := 93) rfl)))), ini_X5, ⟨by decide +kernel, by decide +kernel⟩, by decide +kernel, by decide⟩
theorem ar_S_lineUp : k_arity yX5_lineUp = some 0 := by decide +kernel
set_option maxRecDepth 20000 in
theorem in_S_lineUp : Cond.instanceMethod yX5_lineUp ∈ lw_tbl := List.mem_append_right _ (List.mem_append_right _ (List.mem_append_right _ (List.mem_append_left _ (List.mem_of_getElem? (i := 91) rfl))))
set_option maxRecDepth 20000 in
theorem se_S_lineUp : Cond.selects yX5_lineUp.cls yX5_lineUp yX5_lineUp ∈ lw_tbl := List.mem_append_right _ (List.mem_append_right _ (List.mem_append_right _ (List.mem_append_left _ (List.mem_of_getElem? (i := 92) rfl))))
abbrev mi_S_orderNext : MI := (yX5_orderNext, cX5_orderNext, 5, (some .boolean))
set_option maxRecDepth 20000 in
theorem ok_S_orderNext : k_MI mi_S_orderNext := ⟨List.mem_append_right _ (List.mem_append_right _ (List.mem_append_right _ (List.mem_append_left _ (List.mem_of_getElem? (i := 100) rfl)))), ini_X5, ⟨by decide +kernel, by decide +kernel⟩, by decide +kernel, by decide⟩
theorem ar_S_orderNext : k_arity yX5_orderNext = some 0 := by decide +kernel
set_option maxRecDepth 20000 in
theorem in_S_orderNext : Cond.instanceMethod yX5_orderNext ∈ lw_tbl := List.mem_append_right _ (List.mem_append_right _ (List.mem_append_right _ (List.mem_append_left _ (List.mem_of_getElem? (i := 98) rfl))))
set_option maxRecDepth 20000 in
theorem se_S_orderNext : Cond.selects yX5_orderNext.cls yX5_orderNext yX5_orderNext ∈ lw_tbl := List.mem_append_right _ (List.mem_append_right _ (List.mem_append_right _ (List.mem_append_left _ (List.mem_of_getElem? (i := 99) rfl))))
abbrev mi_x_init : MI := (yX6_init, cX6_init, 1, none)
set_option maxRecDepth 20000 in
theorem ok_x_init : k_MI mi_x_init := ⟨List.mem_append_right _ (List.mem_append_left _ (List.mem_of_getElem? (i := 16) rfl)), ini_X6, ⟨by decide +kernel, by decide +kernel⟩, by decide +kernel, by decide⟩
theorem ar_x_init : k_arity yX6_init = some 0 := by decide +kernel
set_option maxRecDepth 20000 in
theorem in_x_init : Cond.instanceMethod yX6_init ∈ lw_tbl := List.mem_append_right _ (List.mem_append_left _ (List.mem_of_getElem? (i := 15) rfl))
abbrev mi_x_row : MI := (yX6_row, cX6_row, 4, (some .int))
set_option maxRecDepth 20000 in
theorem ok_x_row : k_MI mi_x_row := ⟨List.mem_append_right _ (List.mem_append_right _ (List.mem_append_left _ (List.mem_of_getElem? (i := 18) rfl))), ini_X6, ⟨by decide +kernel, by decide +kernel⟩, by decide +kernel, by decide⟩
theorem ar_x_row : k_arity yX6_row = some 3 := by decide +kernel
set_option maxRecDepth 20000 in
theorem in_x_row : Cond.instanceMethod yX6_row ∈ lw_tbl := List.mem_append_right _ (List.mem_append_right _ (List.mem_append_left _ (List.mem_of_getElem? (i := 16) rfl)))
set_option maxRecDepth 20000 in
theorem se_x_row : Cond.selects yX6_row.cls yX6_row yX6_row ∈ lw_tbl := List.mem_append_right _ (List.mem_append_right _ (List.mem_append_left _ (List.mem_of_getElem? (i := 17) rfl)))
abbrev mi_x_set : MI := (yX6_set, cX6_set, 4, (some .int))
set_option maxRecDepth 20000 in
theorem ok_x_set : k_MI mi_x_set := ⟨List.mem_append_right _ (List.mem_append_right _ (List.mem_append_left _ (List.mem_of_getElem? (i := 44) rfl))), ini_X6, ⟨by decide +kernel, by decide +kernel⟩, by decide +kernel, by decide⟩
theorem ar_x_set : k_arity yX6_set = some 3 := by decide +kernel
set_option maxRecDepth 20000 in
theorem in_x_set : Cond.instanceMethod yX6_set ∈ lw_tbl := List.mem_append_right _ (List.mem_append_right _ (List.mem_append_left _ (List.mem_of_getElem? (i := 42) rfl)))
set_option maxRecDepth 20000 in
theorem se_x_set : Cond.selects yX6_set.cls yX6_set yX6_set ∈ lw_tbl := List.mem_append_right _ (List.mem_append_right _ (List.mem_append_left _ (List.mem_of_getElem? (i := 43) rfl)))
abbrev mi_x_copy : MI := (yX6_copy, cX6_copy, 6, (some .int))
set_option maxRecDepth 20000 in
theorem ok_x_copy : k_MI mi_x_copy := ⟨List.mem_append_right _ (List.mem_append_right _ (List.mem_append_left _ (List.mem_of_getElem? (i := 60) rfl))), ini_X6, ⟨by decide +kernel, by decide +kernel⟩, by decide +kernel, by decide⟩
theorem ar_x_copy : k_arity yX6_copy = some 5 := by decide +kernel
set_option maxRecDepth 20000 in
theorem in_x_copy : Cond.instanceMethod yX6_copy ∈ lw_tbl := List.mem_append_right _ (List.mem_append_right _ (List.mem_append_left _ (List.mem_of_getElem? (i := 58) rfl)))
set_option maxRecDepth 20000 in
theorem se_x_copy : Cond.selects yX6_copy.cls yX6_copy yX6_copy ∈ lw_tbl := List.mem_append_right _ (List.mem_append_right _ (List.mem_append_left _ (List.mem_of_getElem? (i := 59) rfl)))
abbrev mi_x_drop : MI := (yX6_drop, cX6_drop, 2, (some .int))
set_option maxRecDepth 20000 in
theorem ok_x_drop : k_MI mi_x_drop := ⟨List.mem_append_right _ (List.mem_append_right _ (List.mem_append_left _ (List.mem_of_getElem? (i := 71) rfl))), ini_X6, ⟨by decide +kernel, by decide +kernel⟩, by decide +kernel, by decide⟩
theorem ar_x_drop : k_arity yX6_drop = some 1 := by decide +kernel
set_option maxRecDepth 20000 in
theorem in_x_drop : Cond.instanceMethod yX6_drop ∈ lw_tbl := List.mem_append_right _ (List.mem_append_right _ (List.mem_append_left _ (List.mem_of_getElem? (i := 69) rfl)))
set_option maxRecDepth 20000 in
theorem se_x_drop : Cond.selects yX6_drop.cls yX6_drop yX6_drop ∈ lw_tbl := List.mem_append_right _ (List.mem_append_right _ (List.mem_append_left _ (List.mem_of_getElem? (i := 70) rfl)))
abbrev mi_x_feed : MI := (yX6_feed, cX6_feed, 2, (some .int))
set_option maxRecDepth 20000 in
theorem ok_x_feed : k_MI mi_x_feed := ⟨List.mem_append_right _ (List.mem_append_right _ (List.mem_append_left _ (List.mem_of_getElem? (i := 79) rfl))), ini_X6, ⟨by decide +kernel, by decide +kernel⟩, by decide +kernel, by decide⟩
theorem ar_x_feed : k_arity yX6_feed = some 1 := by decide +kernel
set_option maxRecDepth 20000 in
theorem in_x_feed : Cond.instanceMethod yX6_feed ∈ lw_tbl := List.mem_append_right _ (List.mem_append_right _ (List.mem_append_left _ (List.mem_of_getElem? (i := 77) rfl)))
set_option maxRecDepth 20000 in
theorem se_x_feed : Cond.selects yX6_feed.cls yX6_feed yX6_feed ∈ lw_tbl := List.mem_append_right _ (List.mem_append_right _ (List.mem_append_left _ (List.mem_of_getElem? (i := 78) rfl)))
abbrev mi_x_square : MI := (yX6_square, cX6_square, 2, (some .int))
set_option maxRecDepth 20000 in
theorem ok_x_square : k_MI mi_x_square := ⟨List.mem_append_right _ (List.mem_append_right _ (List.mem_append_left _ (List.mem_of_getElem? (i := 88) rfl))), ini_X6, ⟨by decide +kernel, by decide +kernel⟩, by decide +kernel, by decide⟩
theorem ar_x_square : k_arity yX6_square = some 0 := by decide +kernel
set_option maxRecDepth 20000 in
theorem in_x_square : Cond.instanceMethod yX6_square ∈ lw_tbl := List.mem_append_right _ (List.mem_append_right _ (List.mem_append_left _ (List.mem_of_getElem? (i := 86) rfl)))
set_option maxRecDepth 20000 in
theorem se_x_square : Cond.selects yX6_square.cls yX6_square yX6_square ∈ lw_tbl := List.mem_append_right _ (List.mem_append_right _ (List.mem_append_left _ (List.mem_of_getElem? (i := 87) rfl)))
abbrev mi_x_fault : MI := (yX6_fault, cX6_fault, 1, (some .int))
set_option maxRecDepth 20000 in
theorem ok_x_fault : k_MI mi_x_fault := ⟨List.mem_append_right _ (List.mem_append_right _ (List.mem_append_left _ (List.mem_of_getElem? (i := 160) rfl))), ini_X6, ⟨by decide +kernel, by decide +kernel⟩, by decide +kernel, by decide⟩
theorem ar_x_fault : k_arity yX6_fault = some 0 := by decide +kernel
set_option maxRecDepth 20000 in
theorem in_x_fault : Cond.instanceMethod yX6_fault ∈ lw_tbl := List.mem_append_right _ (List.mem_append_right _ (List.mem_append_left _ (List.mem_of_getElem? (i := 158) rfl)))
set_option maxRecDepth 20000 in
theorem se_x_fault : Cond.selects yX6_fault.cls yX6_fault yX6_fault ∈ lw_tbl := List.mem_append_right _ (List.mem_append_right _ (List.mem_append_left _ (List.mem_of_getElem? (i := 159) rfl)))
abbrev mi_x_steps : MI := (yX6_steps, cX6_steps, 3, (some .int))
set_option maxRecDepth 20000 in
theorem ok_x_steps : k_MI mi_x_steps := ⟨List.mem_append_right _ (List.mem_append_right _ (List.mem_append_left _ (List.mem_of_getElem? (i := 164) rfl))), ini_X6, ⟨by decide +kernel, by decide +kernel⟩, by decide +kernel, by decide⟩
theorem ar_x_steps : k_arity yX6_steps = some 1 := by decide +kernel
set_option maxRecDepth 20000 in
theorem in_x_steps : Cond.instanceMethod yX6_steps ∈ lw_tbl := List.mem_append_right _ (List.mem_append_right _ (List.mem_append_left _ (List.mem_of_getElem? (i := 162) rfl)))
set_option maxRecDepth 20000 in
theorem se_x_steps : Cond.selects yX6_steps.cls yX6_steps yX6_steps ∈ lw_tbl := List.mem_append_right _ (List.mem_append_right _ (List.mem_append_left _ (List.mem_of_getElem? (i := 163) rfl)))
abbrev mi_x_change : MI := (yX6_change, cX6_change, 2, (some .int))
set_option maxRecDepth 20000 in
theorem ok_x_change : k_MI mi_x_change := ⟨List.mem_append_right _ (List.mem_append_right _ (List.mem_append_left _ (List.mem_of_getElem? (i := 206) rfl))), ini_X6, ⟨by decide +kernel, by decide +kernel⟩, by decide +kernel, by decide⟩
theorem ar_x_change : k_arity yX6_change = some 1 := by decide +kernel
set_option maxRecDepth 20000 in
theorem in_x_change : Cond.instanceMethod yX6_change ∈ lw_tbl := List.mem_append_right _ (List.mem_append_right _ (List.mem_append_left _ (List.mem_of_getElem? (i := 204) rfl)))
set_option maxRecDepth 20000 in
theorem se_x_change : Cond.selects yX6_change.cls yX6_change yX6_change ∈ lw_tbl := List.mem_append_right _ (List.mem_append_right _ (List.mem_append_left _ (List.mem_of_getElem? (i := 205) rfl)))
abbrev mi_x_wind : MI := (yX6_wind, cX6_wind, 3, (some .int))
set_option maxRecDepth 20000 in
theorem ok_x_wind : k_MI mi_x_wind := ⟨List.mem_append_right _ (List.mem_append_right _ (List.mem_append_left _ (List.mem_of_getElem? (i := 214) rfl))), ini_X6, ⟨by decide +kernel, by decide +kernel⟩, by decide +kernel, by decide⟩
theorem ar_x_wind : k_arity yX6_wind = some 1 := by decide +kernel
set_option maxRecDepth 20000 in
theorem in_x_wind : Cond.instanceMethod yX6_wind ∈ lw_tbl := List.mem_append_right _ (List.mem_append_right _ (List.mem_append_left _ (List.mem_of_getElem? (i := 212) rfl)))
set_option maxRecDepth 20000 in
theorem se_x_wind : Cond.selects yX6_wind.cls yX6_wind yX6_wind ∈ lw_tbl := List.mem_append_right _ (List.mem_append_right _ (List.mem_append_left _ (List.mem_of_getElem? (i := 213) rfl)))
abbrev mi_x_cough : MI := (yX6_cough, cX6_cough, 3, (some .int))
set_option maxRecDepth 20000 in
theorem ok_x_cough : k_MI mi_x_cough := ⟨List.mem_append_right _ (List.mem_append_right _ (List.mem_append_left _ (List.mem_of_getElem? (i := 218) rfl))), ini_X6, ⟨by decide +kernel, by decide +kernel⟩, by decide +kernel, by decide⟩
theorem ar_x_cough : k_arity yX6_cough = some 1 := by decide +kernel
set_option maxRecDepth 20000 in
theorem in_x_cough : Cond.instanceMethod yX6_cough ∈ lw_tbl := List.mem_append_right _ (List.mem_append_right _ (List.mem_append_left _ (List.mem_of_getElem? (i := 216) rfl)))
set_option maxRecDepth 20000 in
theorem se_x_cough : Cond.selects yX6_cough.cls yX6_cough yX6_cough ∈ lw_tbl := List.mem_append_right _ (List.mem_append_right _ (List.mem_append_left _ (List.mem_of_getElem? (i := 217) rfl)))
abbrev mi_x_undo : MI := (yX6_undo, cX6_undo, 1, (some .int))
set_option maxRecDepth 20000 in
theorem ok_x_undo : k_MI mi_x_undo := ⟨List.mem_append_right _ (List.mem_append_right _ (List.mem_append_left _ (List.mem_of_getElem? (i := 228) rfl))), ini_X6, ⟨by decide +kernel, by decide +kernel⟩, by decide +kernel, by decide⟩
theorem ar_x_undo : k_arity yX6_undo = some 0 := by decide +kernel
set_option maxRecDepth 20000 in
theorem in_x_undo : Cond.instanceMethod yX6_undo ∈ lw_tbl := List.mem_append_right _ (List.mem_append_right _ (List.mem_append_left _ (List.mem_of_getElem? (i := 226) rfl)))
set_option maxRecDepth 20000 in
theorem se_x_undo : Cond.selects yX6_undo.cls yX6_undo yX6_undo ∈ lw_tbl := List.mem_append_right _ (List.mem_append_right _ (List.mem_append_left _ (List.mem_of_getElem? (i := 227) rfl)))
abbrev mi_x_sleeper : MI := (yX6_sleeper, cX6_sleeper, 3, (some .int))
set_option maxRecDepth 20000 in
theorem ok_x_sleeper : k_MI mi_x_sleeper := ⟨List.mem_append_right _ (List.mem_append_right _ (List.mem_append_left _ (List.mem_of_getElem? (i := 236) rfl))), ini_X6, ⟨by decide +kernel, by decide +kernel⟩, by decide +kernel, by decide⟩
theorem ar_x_sleeper : k_arity yX6_sleeper = some 2 := by decide +kernel
set_option maxRecDepth 20000 in
theorem in_x_sleeper : Cond.instanceMethod yX6_sleeper ∈ lw_tbl := List.mem_append_right _ (List.mem_append_right _ (List.mem_append_left _ (List.mem_of_getElem? (i := 234) rfl)))
set_option maxRecDepth 20000 in
theorem se_x_sleeper : Cond.selects yX6_sleeper.cls yX6_sleeper yX6_sleeper ∈ lw_tbl := List.mem_append_right _ (List.mem_append_right _ (List.mem_append_left _ (List.mem_of_getElem? (i := 235) rfl)))
abbrev mi_x_sheep : MI := (yX6_sheep, cX6_sheep, 3, (some .int))
set_option maxRecDepth 20000 in
theorem ok_x_sheep : k_MI mi_x_sheep := ⟨List.mem_append_right _ (List.mem_append_right _ (List.mem_append_right _ (List.mem_append_left _ (List.mem_of_getElem? (i := 8) rfl)))), ini_X6, ⟨by decide +kernel, by decide +kernel⟩, by decide +kernel, by decide⟩
theorem ar_x_sheep : k_arity yX6_sheep = some 2 := by decide +kernel
set_option maxRecDepth 20000 in
theorem in_x_sheep : Cond.instanceMethod yX6_sheep ∈ lw_tbl := List.mem_append_right _ (List.mem_append_right _ (List.mem_append_right _ (List.mem_append_left _ (List.mem_of_getElem? (i := 6) rfl))))
set_option maxRecDepth 20000 in
theorem se_x_sheep : Cond.selects yX6_sheep.cls yX6_sheep yX6_sheep ∈ lw_tbl := List.mem_append_right _ (List.mem_append_right _ (List.mem_append_right _ (List.mem_append_left _ (List.mem_of_getElem? (i := 7) rfl))))
abbrev mi_x_off : MI := (yX6_off, cX6_off, 2, (some .int))
set_option maxRecDepth 20000 in
theorem ok_x_off : k_MI mi_x_off := ⟨List.mem_append_right _ (List.mem_append_right _ (List.mem_append_right _ (List.mem_append_left _ (List.mem_of_getElem? (i := 17) rfl)))), ini_X6, ⟨by decide +kernel, by decide +kernel⟩, by decide +kernel, by decide⟩
theorem ar_x_off : k_arity yX6_off = some 1 := by decide +kernel
set_option maxRecDepth 20000 in
theorem in_x_off : Cond.instanceMethod yX6_off ∈ lw_tbl := List.mem_append_right _ (List.mem_append_right _ (List.mem_append_right _ (List.mem_append_left _ (List.mem_of_getElem? (i := 15) rfl))))
set_option maxRecDepth 20000 in
theorem se_x_off : Cond.selects yX6_off.cls yX6_off yX6_off ∈ lw_tbl := List.mem_append_right _ (List.mem_append_right _ (List.mem_append_right _ (List.mem_append_left _ (List.mem_of_getElem? (i := 16) rfl))))
abbrev mi_x_counted : MI := (yX6_counted, cX6_counted, 3, (some .int))
set_option maxRecDepth 20000 in
theorem ok_x_counted : k_MI mi_x_counted := ⟨List.mem_append_right _ (List.mem_append_right _ (List.mem_append_right _ (List.mem_append_left _ (List.mem_of_getElem? (i := 35) rfl)))), ini_X6, ⟨by decide +kernel, by decide +kernel⟩, by decide +kernel, by decide⟩
theorem ar_x_counted : k_arity yX6_counted = some 2 := by decide +kernel
set_option maxRecDepth 20000 in
theorem in_x_counted : Cond.instanceMethod yX6_counted ∈ lw_tbl := List.mem_append_right _ (List.mem_append_right _ (List.mem_append_right _ (List.mem_append_left _ (List.mem_of_getElem? (i := 33) rfl))))
set_option maxRecDepth 20000 in
theorem se_x_counted : Cond.selects yX6_counted.cls yX6_counted yX6_counted ∈ lw_tbl := List.mem_append_right _ (List.mem_append_right _ (List.mem_append_right _ (List.mem_append_left _ (List.mem_of_getElem? (i := 34) rfl))))
abbrev mi_x_when : MI := (yX6_when, cX6_when, 2, (some .int))
set_option maxRecDepth 20000 in
theorem ok_x_when : k_MI mi_x_when := ⟨List.mem_append_right _ (List.mem_append_right _ (List.mem_append_right _ (List.mem_append_left _ (List.mem_of_getElem? (i := 39) rfl)))), ini_X6, ⟨by decide +kernel, by decide +kernel⟩, by decide +kernel, by decide⟩
theorem ar_x_when : k_arity yX6_when = some 1 := by decide +kernel
set_option maxRecDepth 20000 in
theorem in_x_when : Cond.instanceMethod yX6_when ∈ lw_tbl := List.mem_append_right _ (List.mem_append_right _ (List.mem_append_right _ (List.mem_append_left _ (List.mem_of_getElem? (i := 37) rfl))))
set_option maxRecDepth 20000 in
theorem se_x_when : Cond.selects yX6_when.cls yX6_when yX6_when ∈ lw_tbl := List.mem_append_right _ (List.mem_append_right _ (List.mem_append_right _ (List.mem_append_left _ (List.mem_of_getElem? (i := 38) rfl))))
abbrev mi_x_all : MI := (yX6_all, cX6_all, 2, (some .int))
set_option maxRecDepth 20000 in
theorem ok_x_all : k_MI mi_x_all := ⟨List.mem_append_right _ (List.mem_append_right _ (List.mem_append_right _ (List.mem_append_left _ (List.mem_of_getElem? (i := 54) rfl)))), ini_X6, ⟨by decide +kernel, by decide +kernel⟩, by decide +kernel, by decide⟩
theorem ar_x_all : k_arity yX6_all = some 1 := by decide +kernel
set_option maxRecDepth 20000 in
theorem in_x_all : Cond.instanceMethod yX6_all ∈ lw_tbl := List.mem_append_right _ (List.mem_append_right _ (List.mem_append_right _ (List.mem_append_left _ (List.mem_of_getElem? (i := 52) rfl))))
set_option maxRecDepth 20000 in
theorem se_x_all : Cond.selects yX6_all.cls yX6_all yX6_all ∈ lw_tbl := List.mem_append_right _ (List.mem_append_right _ (List.mem_append_right _ (List.mem_append_left _ (List.mem_of_getElem? (i := 53) rfl))))
abbrev mi_x_never : MI := (yX6_never, cX6_never, 1, (some .int))
set_option maxRecDepth 20000 in
theorem ok_x_never : k_MI mi_x_never := ⟨List.mem_append_right _ (List.mem_append_right _ (List.mem_append_right _ (List.mem_append_left _ (List.mem_of_getElem? (i := 62) rfl)))), ini_X6, ⟨by decide +kernel, by decide +kernel⟩, by decide +kernel, by decide⟩
theorem ar_x_never : k_arity yX6_never = some 0 := by decide +kernel
set_option maxRecDepth 20000 in
theorem in_x_never : Cond.instanceMethod yX6_never ∈ lw_tbl := List.mem_append_right _ (List.mem_append_right _ (List.mem_append_right _ (List.mem_append_left _ (List.mem_of_getElem? (i := 60) rfl))))
set_option maxRecDepth 20000 in
theorem se_x_never : Cond.selects yX6_never.cls yX6_never yX6_never ∈ lw_tbl := List.mem_append_right _ (List.mem_append_right _ (List.mem_append_right _ (List.mem_append_left _ (List.mem_of_getElem? (i := 61) rfl))))
abbrev mi_x_quiet : MI := (yX6_quiet, cX6_quiet, 2, (some .int))
set_option maxRecDepth 20000 in
theorem ok_x_quiet : k_MI mi_x_quiet := ⟨List.mem_append_right _ (List.mem_append_right _ (List.mem_append_right _ (List.mem_append_left _ (List.mem_of_getElem? (i := 70) rfl)))), ini_X6, ⟨by decide +kernel, by decide +kernel⟩, by decide +kernel, by decide⟩
theorem ar_x_quiet : k_arity yX6_quiet = some 1 := by decide +kernel
set_option maxRecDepth 20000 in
theorem in_x_quiet : Cond.instanceMethod yX6_quiet ∈ lw_tbl := List.mem_append_right _ (List.mem_append_right _ (List.mem_append_right _ (List.mem_append_left _ (List.mem_of_getElem? (i := 68) rfl))))
set_option maxRecDepth 20000 in
theorem se_x_quiet : Cond.selects yX6_quiet.cls yX6_quiet yX6_quiet ∈ lw_tbl := List.mem_append_right _ (List.mem_append_right _ (List.mem_append_right _ (List.mem_append_left _ (List.mem_of_getElem? (i := 69) rfl))))
abbrev mi_x_order : MI := (yX6_order, cX6_order, 4, (some .int))
set_option maxRecDepth 20000 in
theorem ok_x_order : k_MI mi_x_order := ⟨List.mem_append_right _ (List.mem_append_right _ (List.mem_append_right _ (List.mem_append_left _ (List.mem_of_getElem? (i := 84) rfl)))), ini_X6, ⟨by decide +kernel, by decide +kernel⟩, by decide +kernel, by decide⟩
theorem ar_x_order : k_arity yX6_order = some 2 := by decide +kernel
set_option maxRecDepth 20000 in
theorem in_x_order : Cond.instanceMethod yX6_order ∈ lw_tbl := List.mem_append_right _ (List.mem_append_right _ (List.mem_append_right _ (List.mem_append_left _ (List.mem_of_getElem? (i := 82) rfl))))
set_option maxRecDepth 20000 in
theorem se_x_order : Cond.selects yX6_order.cls yX6_order yX6_order ∈ lw_tbl := List.mem_append_right _ (List.mem_append_right _ (List.mem_append_right _ (List.mem_append_left _ (List.mem_of_getElem? (i := 83) rfl))))
abbrev mi_x_fewest : MI := (yX6_fewest, cX6_fewest, 5, (some .int))
set_option maxRecDepth 20000 in
theorem ok_x_fewest : k_MI mi_x_fewest := ⟨List.mem_append_right _ (List.mem_append_right _ (List.mem_append_right _ (List.mem_append_left _ (List.mem_of_getElem? (i := 106) rfl)))), ini_X6, ⟨by decide +kernel, by decide +kernel⟩, by decide +kernel, by decide⟩
theorem ar_x_fewest : k_arity yX6_fewest = some 3 := by decide +kernel
set_option maxRecDepth 20000 in
theorem in_x_fewest : Cond.instanceMethod yX6_fewest ∈ lw_tbl := List.mem_append_right _ (List.mem_append_right _ (List.mem_append_right _ (List.mem_append_left _ (List.mem_of_getElem? (i := 104) rfl))))
set_option maxRecDepth 20000 in
theorem se_x_fewest : Cond.selects yX6_fewest.cls yX6_fewest yX6_fewest ∈ lw_tbl := List.mem_append_right _ (List.mem_append_right _ (List.mem_append_right _ (List.mem_append_left _ (List.mem_of_getElem? (i := 105) rfl))))
abbrev mi_x_missing : MI := (yX6_missing, cX6_missing, 5, (some .int))
set_option maxRecDepth 20000 in
theorem ok_x_missing : k_MI mi_x_missing := ⟨List.mem_append_right _ (List.mem_append_right _ (List.mem_append_right _ (List.mem_append_left _ (List.mem_of_getElem? (i := 119) rfl)))), ini_X6, ⟨by decide +kernel, by decide +kernel⟩, by decide +kernel, by decide⟩
theorem ar_x_missing : k_arity yX6_missing = some 3 := by decide +kernel
set_option maxRecDepth 20000 in
theorem in_x_missing : Cond.instanceMethod yX6_missing ∈ lw_tbl := List.mem_append_right _ (List.mem_append_right _ (List.mem_append_right _ (List.mem_append_left _ (List.mem_of_getElem? (i := 117) rfl))))
set_option maxRecDepth 20000 in
theorem se_x_missing : Cond.selects yX6_missing.cls yX6_missing yX6_missing ∈ lw_tbl := List.mem_append_right _ (List.mem_append_right _ (List.mem_append_right _ (List.mem_append_left _ (List.mem_of_getElem? (i := 118) rfl))))
abbrev mi_x_windy : MI := (yX6_windy, cX6_windy, 5, (some .int))
set_option maxRecDepth 20000 in
theorem ok_x_windy : k_MI mi_x_windy := ⟨List.mem_append_right _ (List.mem_append_right _ (List.mem_append_right _ (List.mem_append_left _ (List.mem_of_getElem? (i := 136) rfl)))), ini_X6, ⟨by decide +kernel, by decide +kernel⟩, by decide +kernel, by decide⟩
theorem ar_x_windy : k_arity yX6_windy = some 3 := by decide +kernel
set_option maxRecDepth 20000 in
theorem in_x_windy : Cond.instanceMethod yX6_windy ∈ lw_tbl := List.mem_append_right _ (List.mem_append_right _ (List.mem_append_right _ (List.mem_append_left _ (List.mem_of_getElem? (i := 134) rfl))))
set_option maxRecDepth 20000 in
theorem se_x_windy : Cond.selects yX6_windy.cls yX6_windy yX6_windy ∈ lw_tbl := List.mem_append_right _ (List.mem_append_right _ (List.mem_append_right _ (List.mem_append_left _ (List.mem_of_getElem? (i := 135) rfl))))
abbrev mi_x_sorts : MI := (yX6_sorts, cX6_sorts, 6, (some .int))
set_option maxRecDepth 20000 in
theorem ok_x_sorts : k_MI mi_x_sorts := ⟨List.mem_append_right _ (List.mem_append_right _ (List.mem_append_right _ (List.mem_append_left _ (List.mem_of_getElem? (i := 144) rfl)))), ini_X6, ⟨by decide +kernel, by decide +kernel⟩, by decide +kernel, by decide⟩
theorem ar_x_sorts : k_arity yX6_sorts = some 4 := by decide +kernel
set_option maxRecDepth 20000 in
theorem in_x_sorts : Cond.instanceMethod yX6_sorts ∈ lw_tbl := List.mem_append_right _ (List.mem_append_right _ (List.mem_append_right _ (List.mem_append_left _ (List.mem_of_getElem? (i := 142) rfl))))
set_option maxRecDepth 20000 in
theorem se_x_sorts : Cond.selects yX6_sorts.cls yX6_sorts yX6_sorts ∈ lw_tbl := List.mem_append_right _ (List.mem_append_right _ (List.mem_append_right _ (List.mem_append_left _ (List.mem_of_getElem? (i := 143) rfl))))
abbrev mi_x_stay : MI := (yX6_stay, cX6_stay, 8, (some .int))
set_option maxRecDepth 20000 in
theorem ok_x_stay : k_MI mi_x_stay := ⟨List.mem_append_right _ (List.mem_append_right _ (List.mem_append_right _ (List.mem_append_left _ (List.mem_of_getElem? (i := 152) rfl)))), ini_X6, ⟨by decide +kernel, by decide +kernel⟩, by decide +kernel, by decide⟩
theorem ar_x_stay : k_arity yX6_stay = some 4 := by decide +kernel
set_option maxRecDepth 20000 in
theorem in_x_stay : Cond.instanceMethod yX6_stay ∈ lw_tbl := List.mem_append_right _ (List.mem_append_right _ (List.mem_append_right _ (List.mem_append_left _ (List.mem_of_getElem? (i := 150) rfl))))
set_option maxRecDepth 20000 in
theorem se_x_stay : Cond.selects yX6_stay.cls yX6_stay yX6_stay ∈ lw_tbl := List.mem_append_right _ (List.mem_append_right _ (List.mem_append_right _ (List.mem_append_left _ (List.mem_of_getElem? (i := 151) rfl))))
abbrev mi_x_image : MI := (yX6_image, cX6_image, 2, (some .int))
set_option maxRecDepth 20000 in
theorem ok_x_image : k_MI mi_x_image := ⟨List.mem_append_right _ (List.mem_append_right _ (List.mem_append_right _ (List.mem_append_left _ (List.mem_of_getElem? (i := 168) rfl)))), ini_X6, ⟨by decide +kernel, by decide +kernel⟩, by decide +kernel, by decide⟩
theorem ar_x_image : k_arity yX6_image = some 1 := by decide +kernel
set_option maxRecDepth 20000 in
theorem in_x_image : Cond.instanceMethod yX6_image ∈ lw_tbl := List.mem_append_right _ (List.mem_append_right _ (List.mem_append_right _ (List.mem_append_left _ (List.mem_of_getElem? (i := 166) rfl))))
set_option maxRecDepth 20000 in
theorem se_x_image : Cond.selects yX6_image.cls yX6_image yX6_image ∈ lw_tbl := List.mem_append_right _ (List.mem_append_right _ (List.mem_append_right _ (List.mem_append_left _ (List.mem_of_getElem? (i := 167) rfl))))
abbrev mi_x_restore : MI := (yX6_restore, cX6_restore, 2, (some .int))
set_option maxRecDepth 20000 in
theorem ok_x_restore : k_MI mi_x_restore := ⟨List.mem_append_right _ (List.mem_append_right _ (List.mem_append_right _ (List.mem_append_left _ (List.mem_of_getElem? (i := 176) rfl)))), ini_X6, ⟨by decide +kernel, by decide +kernel⟩, by decide +kernel, by decide⟩
theorem ar_x_restore : k_arity yX6_restore = some 1 := by decide +kernel
set_option maxRecDepth 20000 in
theorem in_x_restore : Cond.instanceMethod yX6_restore ∈ lw_tbl := List.mem_append_right _ (List.mem_append_right _ (List.mem_append_right _ (List.mem_append_left _ (List.mem_of_getElem? (i := 174) rfl))))
set_option maxRecDepth 20000 in
theorem se_x_restore : Cond.selects yX6_restore.cls yX6_restore yX6_restore ∈ lw_tbl := List.mem_append_right _ (List.mem_append_right _ (List.mem_append_right _ (List.mem_append_left _ (List.mem_of_getElem? (i := 175) rfl))))
abbrev mi_x_kind : MI := (yX6_kind, cX6_kind, 2, (some .int))
set_option maxRecDepth 20000 in
theorem ok_x_kind : k_MI mi_x_kind := ⟨List.mem_append_right _ (List.mem_append_right _ (List.mem_append_right _ (List.mem_append_left _ (List.mem_of_getElem? (i := 180) rfl)))), ini_X6, ⟨by decide +kernel, by decide +kernel⟩, by decide +kernel, by decide⟩
theorem ar_x_kind : k_arity yX6_kind = some 1 := by decide +kernel
set_option maxRecDepth 20000 in
theorem in_x_kind : Cond.instanceMethod yX6_kind ∈ lw_tbl := List.mem_append_right _ (List.mem_append_right _ (List.mem_append_right _ (List.mem_append_left _ (List.mem_of_getElem? (i := 178) rfl))))
set_option maxRecDepth 20000 in
theorem se_x_kind : Cond.selects yX6_kind.cls yX6_kind yX6_kind ∈ lw_tbl := List.mem_append_right _ (List.mem_append_right _ (List.mem_append_right _ (List.mem_append_left _ (List.mem_of_getElem? (i := 179) rfl))))
abbrev mi_x_as : MI := (yX6_as, cX6_as, 3, (some .int))
set_option maxRecDepth 20000 in
theorem ok_x_as : k_MI mi_x_as := ⟨List.mem_append_right _ (List.mem_append_right _ (List.mem_append_right _ (List.mem_append_left _ (List.mem_of_getElem? (i := 184) rfl)))), ini_X6, ⟨by decide +kernel, by decide +kernel⟩, by decide +kernel, by decide⟩
theorem ar_x_as : k_arity yX6_as = some 2 := by decide +kernel
set_option maxRecDepth 20000 in
theorem in_x_as : Cond.instanceMethod yX6_as ∈ lw_tbl := List.mem_append_right _ (List.mem_append_right _ (List.mem_append_right _ (List.mem_append_left _ (List.mem_of_getElem? (i := 182) rfl))))
set_option maxRecDepth 20000 in
theorem se_x_as : Cond.selects yX6_as.cls yX6_as yX6_as ∈ lw_tbl := List.mem_append_right _ (List.mem_append_right _ (List.mem_append_right _ (List.mem_append_left _ (List.mem_of_getElem? (i := 183) rfl))))
abbrev mi_x_ask : MI := (yX6_ask, cX6_ask, 3, (some .int))
set_option maxRecDepth 20000 in
theorem ok_x_ask : k_MI mi_x_ask := ⟨List.mem_append_right _ (List.mem_append_right _ (List.mem_append_right _ (List.mem_append_left _ (List.mem_of_getElem? (i := 193) rfl)))), ini_X6, ⟨by decide +kernel, by decide +kernel⟩, by decide +kernel, by decide⟩
theorem ar_x_ask : k_arity yX6_ask = some 2 := by decide +kernel
set_option maxRecDepth 20000 in
theorem in_x_ask : Cond.instanceMethod yX6_ask ∈ lw_tbl := List.mem_append_right _ (List.mem_append_right _ (List.mem_append_right _ (List.mem_append_left _ (List.mem_of_getElem? (i := 191) rfl))))
set_option maxRecDepth 20000 in
theorem se_x_ask : Cond.selects yX6_ask.cls yX6_ask yX6_ask ∈ lw_tbl := List.mem_append_right _ (List.mem_append_right _ (List.mem_append_right _ (List.mem_append_left _ (List.mem_of_getElem? (i := 192) rfl))))
abbrev mi_x_trace : MI := (yX6_trace, cX6_trace, 2, (some .int))
set_option maxRecDepth 20000 in
theorem ok_x_trace : k_MI mi_x_trace := ⟨List.mem_append_right _ (List.mem_append_right _ (List.mem_append_right _ (List.mem_append_left _ (List.mem_of_getElem? (i := 218) rfl)))), ini_X6, ⟨by decide +kernel, by decide +kernel⟩, by decide +kernel, by decide⟩
theorem ar_x_trace : k_arity yX6_trace = some 1 := by decide +kernel
set_option maxRecDepth 20000 in
theorem in_x_trace : Cond.instanceMethod yX6_trace ∈ lw_tbl := List.mem_append_right _ (List.mem_append_right _ (List.mem_append_right _ (List.mem_append_left _ (List.mem_of_getElem? (i := 216) rfl))))
set_option maxRecDepth 20000 in
theorem se_x_trace : Cond.selects yX6_trace.cls yX6_trace yX6_trace ∈ lw_tbl := List.mem_append_right _ (List.mem_append_right _ (List.mem_append_right _ (List.mem_append_left _ (List.mem_of_getElem? (i := 217) rfl))))
abbrev mi_x_count : MI := (yX6_count, cX6_count, 2, (some .int))
set_option maxRecDepth 20000 in
theorem ok_x_count : k_MI mi_x_count := ⟨List.mem_append_right _ (List.mem_append_right _ (List.mem_append_right _ (List.mem_append_left _ (List.mem_of_getElem? (i := 222) rfl)))), ini_X6, ⟨by decide +kernel, by decide +kernel⟩, by decide +kernel, by decide⟩
theorem ar_x_count : k_arity yX6_count = some 1 := by decide +kernel
set_option maxRecDepth 20000 in
theorem in_x_count : Cond.instanceMethod yX6_count ∈ lw_tbl := List.mem_append_right _ (List.mem_append_right _ (List.mem_append_right _ (List.mem_append_left _ (List.mem_of_getElem? (i := 220) rfl))))
set_option maxRecDepth 20000 in
theorem se_x_count : Cond.selects yX6_count.cls yX6_count yX6_count ∈ lw_tbl := List.mem_append_right _ (List.mem_append_right _ (List.mem_append_right _ (List.mem_append_left _ (List.mem_of_getElem? (i := 221) rfl))))
abbrev mi_x_status : MI := (yX6_status, cX6_status, 1, (some .int))
set_option maxRecDepth 20000 in
theorem ok_x_status : k_MI mi_x_status := ⟨List.mem_append_right _ (List.mem_append_right _ (List.mem_append_right _ (List.mem_append_left _ (List.mem_of_getElem? (i := 231) rfl)))), ini_X6, ⟨by decide +kernel, by decide +kernel⟩, by decide +kernel, by decide⟩
theorem ar_x_status : k_arity yX6_status = some 0 := by decide +kernel
set_option maxRecDepth 20000 in
theorem in_x_status : Cond.instanceMethod yX6_status ∈ lw_tbl := List.mem_append_right _ (List.mem_append_right _ (List.mem_append_right _ (List.mem_append_left _ (List.mem_of_getElem? (i := 229) rfl))))
set_option maxRecDepth 20000 in
theorem se_x_status : Cond.selects yX6_status.cls yX6_status yX6_status ∈ lw_tbl := List.mem_append_right _ (List.mem_append_right _ (List.mem_append_right _ (List.mem_append_left _ (List.mem_of_getElem? (i := 230) rfl))))
abbrev mi_x_found : MI := (yX6_found, cX6_found, 2, (some .int))
set_option maxRecDepth 20000 in
theorem ok_x_found : k_MI mi_x_found := ⟨List.mem_append_right _ (List.mem_append_right _ (List.mem_append_left _ (List.mem_of_getElem? (i := 27) rfl))), ini_X6, ⟨by decide +kernel, by decide +kernel⟩, by decide +kernel, by decide⟩
theorem ar_x_found : k_arity yX6_found = some 1 := by decide +kernel
set_option maxRecDepth 20000 in
theorem in_x_found : Cond.instanceMethod yX6_found ∈ lw_tbl := List.mem_append_right _ (List.mem_append_right _ (List.mem_append_left _ (List.mem_of_getElem? (i := 26) rfl)))
set_option maxRecDepth 20000 in
theorem se_x_found : Cond.selects yX6_found.cls yX6_found yX6_found ∈ lw_tbl := List.mem_append_left _ (List.mem_of_getElem? (i := 1) rfl)
abbrev mi_x_fine : MI := (yX6_fine, cX6_fine, 2, (some .int))
set_option maxRecDepth 20000 in
theorem ok_x_fine : k_MI mi_x_fine := ⟨List.mem_append_right _ (List.mem_append_right _ (List.mem_append_left _ (List.mem_of_getElem? (i := 40) rfl))), ini_X6, ⟨by decide +kernel, by decide +kernel⟩, by decide +kernel, by decide⟩
theorem ar_x_fine : k_arity yX6_fine = some 1 := by decide +kernel
set_option maxRecDepth 20000 in
theorem in_x_fine : Cond.instanceMethod yX6_fine ∈ lw_tbl := List.mem_append_right _ (List.mem_append_right _ (List.mem_append_left _ (List.mem_of_getElem? (i := 39) rfl)))
set_option maxRecDepth 20000 in
theorem se_x_fine : Cond.selects yX6_fine.cls yX6_fine yX6_fine ∈ lw_tbl := List.mem_append_left _ (List.mem_of_getElem? (i := 2) rfl)
abbrev mi_x_noSquare : MI := (yX6_noSquare, cX6_noSquare, 1, (some .boolean))
set_option maxRecDepth 20000 in
theorem ok_x_noSquare : k_MI mi_x_noSquare := ⟨List.mem_append_right _ (List.mem_append_right _ (List.mem_append_left _ (List.mem_of_getElem? (i := 168) rfl))), ini_X6, ⟨by decide +kernel, by decide +kernel⟩, by decide +kernel, by decide⟩
theorem ar_x_noSquare : k_arity yX6_noSquare = some 0 := by decide +kernel
set_option maxRecDepth 20000 in
theorem in_x_noSquare : Cond.instanceMethod yX6_noSquare ∈ lw_tbl := List.mem_append_right _ (List.mem_append_right _ (List.mem_append_left _ (List.mem_of_getElem? (i := 167) rfl)))
set_option maxRecDepth 20000 in
theorem se_x_noSquare : Cond.selects yX6_noSquare.cls yX6_noSquare yX6_noSquare ∈ lw_tbl := List.mem_append_left _ (List.mem_of_getElem? (i := 13) rfl)
abbrev mi_x_noRow : MI := (yX6_noRow, cX6_noRow, 2, (some .boolean))
set_option maxRecDepth 20000 in
theorem ok_x_noRow : k_MI mi_x_noRow := ⟨List.mem_append_right _ (List.mem_append_right _ (List.mem_append_left _ (List.mem_of_getElem? (i := 22) rfl))), ini_X6, ⟨by decide +kernel, by decide +kernel⟩, by decide +kernel, by decide⟩
theorem ar_x_noRow : k_arity yX6_noRow = some 1 := by decide +kernel
set_option maxRecDepth 20000 in
theorem in_x_noRow : Cond.instanceMethod yX6_noRow ∈ lw_tbl := List.mem_append_right _ (List.mem_append_right _ (List.mem_append_left _ (List.mem_of_getElem? (i := 21) rfl)))
set_option maxRecDepth 20000 in
theorem se_x_noRow : Cond.selects yX6_noRow.cls yX6_noRow yX6_noRow ∈ lw_tbl := List.mem_append_left _ (List.mem_of_getElem? (i := 0) rfl)
abbrev mi_x_noSleeper : MI := (yX6_noSleeper, cX6_noSleeper, 2, (some .boolean))
set_option maxRecDepth 20000 in
theorem ok_x_noSleeper : k_MI mi_x_noSleeper := ⟨List.mem_append_right _ (List.mem_append_right _ (List.mem_append_left _ (List.mem_of_getElem? (i := 222) rfl))), ini_X6, ⟨by decide +kernel, by decide +kernel⟩, by decide +kernel, by decide⟩
theorem ar_x_noSleeper : k_arity yX6_noSleeper = some 1 := by decide +kernel
set_option maxRecDepth 20000 in
theorem in_x_noSleeper : Cond.instanceMethod yX6_noSleeper ∈ lw_tbl := List.mem_append_right _ (List.mem_append_right _ (List.mem_append_left _ (List.mem_of_getElem? (i := 221) rfl)))
set_option maxRecDepth 20000 in
theorem se_x_noSleeper : Cond.selects yX6_noSleeper.cls yX6_noSleeper yX6_noSleeper ∈ lw_tbl := List.mem_append_left _ (List.mem_of_getElem? (i := 16) rfl)
abbrev mi_x_noSleepers : MI := (yX6_noSleepers, cX6_noSleepers, 2, (some .boolean))
set_option maxRecDepth 20000 in
theorem ok_x_noSleepers : k_MI mi_x_noSleepers := ⟨List.mem_append_right _ (List.mem_append_right _ (List.mem_append_right _ (List.mem_append_left _ (List.mem_of_getElem? (i := 58) rfl)))), ini_X6, ⟨by decide +kernel, by decide +kernel⟩, by decide +kernel, by decide⟩
theorem ar_x_noSleepers : k_arity yX6_noSleepers = some 1 := by decide +kernel
set_option maxRecDepth 20000 in
theorem in_x_noSleepers : Cond.instanceMethod yX6_noSleepers ∈ lw_tbl := List.mem_append_right _ (List.mem_append_right _ (List.mem_append_right _ (List.mem_append_left _ (List.mem_of_getElem? (i := 57) rfl))))
set_option maxRecDepth 20000 in
theorem se_x_noSleepers : Cond.selects yX6_noSleepers.cls yX6_noSleepers yX6_noSleepers ∈ lw_tbl := List.mem_append_left _ (List.mem_of_getElem? (i := 18) rfl)
abbrev mi_x_tooFar : MI := (yX6_tooFar, cX6_tooFar, 2, (some .boolean))
set_option maxRecDepth 20000 in
theorem ok_x_tooFar : k_MI mi_x_tooFar := ⟨List.mem_append_right _ (List.mem_append_right _ (List.mem_append_right _ (List.mem_append_left _ (List.mem_of_getElem? (i := 21) rfl)))), ini_X6, ⟨by decide +kernel, by decide +kernel⟩, by decide +kernel, by decide⟩
theorem ar_x_tooFar : k_arity yX6_tooFar = some 1 := by decide +kernel
set_option maxRecDepth 20000 in
theorem in_x_tooFar : Cond.instanceMethod yX6_tooFar ∈ lw_tbl := List.mem_append_right _ (List.mem_append_right _ (List.mem_append_right _ (List.mem_append_left _ (List.mem_of_getElem? (i := 20) rfl))))
set_option maxRecDepth 20000 in
theorem se_x_tooFar : Cond.selects yX6_tooFar.cls yX6_tooFar yX6_tooFar ∈ lw_tbl := List.mem_append_left _ (List.mem_of_getElem? (i := 17) rfl)
abbrev mi_x_unreadable : MI := (yX6_unreadable, cX6_unreadable, 4, (some .int))
set_option maxRecDepth 20000 in
theorem ok_x_unreadable : k_MI mi_x_unreadable := ⟨List.mem_append_right _ (List.mem_append_right _ (List.mem_append_right _ (List.mem_append_left _ (List.mem_of_getElem? (i := 123) rfl)))), ini_X6, ⟨by decide +kernel, by decide +kernel⟩, by decide +kernel, by decide⟩
theorem ar_x_unreadable : k_arity yX6_unreadable = some 3 := by decide +kernel
set_option maxRecDepth 20000 in
theorem in_x_unreadable : Cond.instanceMethod yX6_unreadable ∈ lw_tbl := List.mem_append_right _ (List.mem_append_right _ (List.mem_append_right _ (List.mem_append_left _ (List.mem_of_getElem? (i := 122) rfl))))
set_option maxRecDepth 20000 in
theorem se_x_unreadable : Cond.selects yX6_unreadable.cls yX6_unreadable yX6_unreadable ∈ lw_tbl := List.mem_append_left _ (List.mem_of_getElem? (i := 19) rfl)
abbrev mi_x_imageOf : MI := (yX6_imageOf, cX6_imageOf, 2, (some (.object "SheepSquare$Square")))
set_option maxRecDepth 20000 in
theorem ok_x_imageOf : k_MI mi_x_imageOf := ⟨List.mem_append_right _ (List.mem_append_right _ (List.mem_append_right _ (List.mem_append_left _ (List.mem_of_getElem? (i := 172) rfl)))), ini_X6, ⟨by decide +kernel, by decide +kernel⟩, by decide +kernel, by decide⟩
theorem ar_x_imageOf : k_arity yX6_imageOf = some 1 := by decide +kernel
set_option maxRecDepth 20000 in
theorem in_x_imageOf : Cond.instanceMethod yX6_imageOf ∈ lw_tbl := List.mem_append_right _ (List.mem_append_right _ (List.mem_append_right _ (List.mem_append_left _ (List.mem_of_getElem? (i := 171) rfl))))
set_option maxRecDepth 20000 in
theorem se_x_imageOf : Cond.selects yX6_imageOf.cls yX6_imageOf yX6_imageOf ∈ lw_tbl := List.mem_append_left _ (List.mem_of_getElem? (i := 21) rfl)
abbrev mi_x_isOne : MI := (yX6_isOne, cX6_isOne, 4, (some .boolean))
set_option maxRecDepth 20000 in
theorem ok_x_isOne : k_MI mi_x_isOne := ⟨List.mem_append_right _ (List.mem_append_right _ (List.mem_append_right _ (List.mem_append_left _ (List.mem_of_getElem? (i := 187) rfl)))), ini_X6, ⟨by decide +kernel, by decide +kernel⟩, by decide +kernel, by decide⟩
theorem ar_x_isOne : k_arity yX6_isOne = some 2 := by decide +kernel
set_option maxRecDepth 20000 in
theorem st_x_isOne : Cond.static yX6_isOne ∈ lw_tbl := List.mem_append_right _ (List.mem_append_right _ (List.mem_append_right _ (List.mem_append_left _ (List.mem_of_getElem? (i := 186) rfl))))
abbrev mi_x_greatestShared : MI := (yX6_greatestShared, cX6_greatestShared, 6, (some .int))
set_option maxRecDepth 20000 in
theorem ok_x_greatestShared : k_MI mi_x_greatestShared := ⟨List.mem_append_right _ (List.mem_append_right _ (List.mem_append_right _ (List.mem_append_left _ (List.mem_of_getElem? (i := 164) rfl)))), ini_X6, ⟨by decide +kernel, by decide +kernel⟩, by decide +kernel, by decide⟩
theorem ar_x_greatestShared : k_arity yX6_greatestShared = some 2 := by decide +kernel
set_option maxRecDepth 20000 in
theorem st_x_greatestShared : Cond.static yX6_greatestShared ∈ lw_tbl := List.mem_append_right _ (List.mem_append_right _ (List.mem_append_right _ (List.mem_append_left _ (List.mem_of_getElem? (i := 163) rfl))))
abbrev mi_m_init : MI := (yX7_init, cX7_init, 2, none)
set_option maxRecDepth 20000 in
theorem ok_m_init : k_MI mi_m_init := ⟨List.mem_append_right _ (List.mem_append_right _ (List.mem_append_right _ (List.mem_append_left _ (List.mem_of_getElem? (i := 236) rfl)))), ini_X7, ⟨by decide +kernel, by decide +kernel⟩, by decide +kernel, by decide⟩
theorem ar_m_init : k_arity yX7_init = some 0 := by decide +kernel
set_option maxRecDepth 20000 in
theorem in_m_init : Cond.instanceMethod yX7_init ∈ lw_tbl := List.mem_append_right _ (List.mem_append_right _ (List.mem_append_right _ (List.mem_append_left _ (List.mem_of_getElem? (i := 235) rfl))))
abbrev mi_m_in : MI := (yX7_in, cX7_in, 3, (some .boolean))
set_option maxRecDepth 20000 in
theorem ok_m_in : k_MI mi_m_in := ⟨List.mem_append_right _ (List.mem_append_right _ (List.mem_append_right _ (List.mem_append_right _ (List.mem_append_left _ (List.mem_of_getElem? (i := 84) rfl))))), ini_X7, ⟨by decide +kernel, by decide +kernel⟩, by decide +kernel, by decide⟩
theorem ar_m_in : k_arity yX7_in = some 3 := by decide +kernel
set_option maxRecDepth 20000 in
theorem st_m_in : Cond.static yX7_in ∈ lw_tbl := List.mem_append_right _ (List.mem_append_right _ (List.mem_append_right _ (List.mem_append_right _ (List.mem_append_left _ (List.mem_of_getElem? (i := 83) rfl)))))
abbrev mi_m_has : MI := (yX7_has, cX7_has, 2, (some .boolean))
set_option maxRecDepth 20000 in
theorem ok_m_has : k_MI mi_m_has := ⟨List.mem_append_right _ (List.mem_append_right _ (List.mem_append_right _ (List.mem_append_right _ (List.mem_append_left _ (List.mem_of_getElem? (i := 183) rfl))))), ini_X7, ⟨by decide +kernel, by decide +kernel⟩, by decide +kernel, by decide⟩
theorem ar_m_has : k_arity yX7_has = some 2 := by decide +kernel
set_option maxRecDepth 20000 in
theorem st_m_has : Cond.static yX7_has ∈ lw_tbl := List.mem_append_right _ (List.mem_append_right _ (List.mem_append_right _ (List.mem_append_right _ (List.mem_append_left _ (List.mem_of_getElem? (i := 182) rfl)))))
abbrev mi_m_bits : MI := (yX7_bits, cX7_bits, 3, (some .int))
set_option maxRecDepth 20000 in
theorem ok_m_bits : k_MI mi_m_bits := ⟨List.mem_append_right _ (List.mem_append_right _ (List.mem_append_right _ (List.mem_append_right _ (List.mem_append_left _ (List.mem_of_getElem? (i := 180) rfl))))), ini_X7, ⟨by decide +kernel, by decide +kernel⟩, by decide +kernel, by decide⟩
theorem ar_m_bits : k_arity yX7_bits = some 1 := by decide +kernel
set_option maxRecDepth 20000 in
theorem st_m_bits : Cond.static yX7_bits ∈ lw_tbl := List.mem_append_right _ (List.mem_append_right _ (List.mem_append_right _ (List.mem_append_right _ (List.mem_append_left _ (List.mem_of_getElem? (i := 179) rfl)))))
abbrev mi_m_lay : MI := (yX7_lay, cX7_lay, 5, none)
set_option maxRecDepth 20000 in
theorem ok_m_lay : k_MI mi_m_lay := ⟨List.mem_append_right _ (List.mem_append_right _ (List.mem_append_right _ (List.mem_append_right _ (List.mem_append_left _ (List.mem_of_getElem? (i := 153) rfl))))), ini_X7, ⟨by decide +kernel, by decide +kernel⟩, by decide +kernel, by decide⟩
theorem ar_m_lay : k_arity yX7_lay = some 4 := by decide +kernel
set_option maxRecDepth 20000 in
theorem st_m_lay : Cond.static yX7_lay ∈ lw_tbl := List.mem_append_right _ (List.mem_append_right _ (List.mem_append_right _ (List.mem_append_right _ (List.mem_append_left _ (List.mem_of_getElem? (i := 152) rfl)))))
abbrev mi_m_isSquare : MI := (yX7_isSquare, cX7_isSquare, 1, (some .boolean))
set_option maxRecDepth 20000 in
theorem ok_m_isSquare : k_MI mi_m_isSquare := ⟨List.mem_append_right _ (List.mem_append_right _ (List.mem_append_right _ (List.mem_append_right _ (List.mem_append_left _ (List.mem_of_getElem? (i := 165) rfl))))), ini_X7, ⟨by decide +kernel, by decide +kernel⟩, by decide +kernel, by decide⟩
theorem ar_m_isSquare : k_arity yX7_isSquare = some 0 := by decide +kernel
set_option maxRecDepth 20000 in
theorem in_m_isSquare : Cond.instanceMethod yX7_isSquare ∈ lw_tbl := List.mem_append_right _ (List.mem_append_right _ (List.mem_append_right _ (List.mem_append_right _ (List.mem_append_left _ (List.mem_of_getElem? (i := 164) rfl)))))
set_option maxRecDepth 20000 in
theorem se_m_isSquare : Cond.selects yX7_isSquare.cls yX7_isSquare yX7_isSquare ∈ lw_tbl := List.mem_append_left _ (List.mem_of_getElem? (i := 34) rfl)
abbrev mi_m_isOne : MI := (yX7_isOne, cX7_isOne, 2, (some .boolean))
set_option maxRecDepth 20000 in
theorem ok_m_isOne : k_MI mi_m_isOne := ⟨List.mem_append_right _ (List.mem_append_right _ (List.mem_append_right _ (List.mem_append_right _ (List.mem_append_left _ (List.mem_of_getElem? (i := 208) rfl))))), ini_X7, ⟨by decide +kernel, by decide +kernel⟩, by decide +kernel, by decide⟩
theorem ar_m_isOne : k_arity yX7_isOne = some 1 := by decide +kernel
set_option maxRecDepth 20000 in
theorem in_m_isOne : Cond.instanceMethod yX7_isOne ∈ lw_tbl := List.mem_append_right _ (List.mem_append_right _ (List.mem_append_right _ (List.mem_append_right _ (List.mem_append_left _ (List.mem_of_getElem? (i := 207) rfl)))))
set_option maxRecDepth 20000 in
theorem se_m_isOne : Cond.selects yX7_isOne.cls yX7_isOne yX7_isOne ∈ lw_tbl := List.mem_append_left _ (List.mem_of_getElem? (i := 37) rfl)
abbrev mi_m_isSet : MI := (yX7_isSet, cX7_isSet, 2, (some .boolean))
set_option maxRecDepth 20000 in
theorem ok_m_isSet : k_MI mi_m_isSet := ⟨List.mem_append_right _ (List.mem_append_right _ (List.mem_append_right _ (List.mem_append_right _ (List.mem_append_right _ (List.mem_of_getElem? (i := 17) rfl))))), ini_X7, ⟨by decide +kernel, by decide +kernel⟩, by decide +kernel, by decide⟩
theorem ar_m_isSet : k_arity yX7_isSet = some 1 := by decide +kernel
set_option maxRecDepth 20000 in
theorem in_m_isSet : Cond.instanceMethod yX7_isSet ∈ lw_tbl := List.mem_append_right _ (List.mem_append_right _ (List.mem_append_right _ (List.mem_append_right _ (List.mem_append_right _ (List.mem_of_getElem? (i := 16) rfl)))))
set_option maxRecDepth 20000 in
theorem se_m_isSet : Cond.selects yX7_isSet.cls yX7_isSet yX7_isSet ∈ lw_tbl := List.mem_append_left _ (List.mem_of_getElem? (i := 42) rfl)
abbrev mi_m_finds : MI := (yX7_finds, cX7_finds, 2, (some .int))
set_option maxRecDepth 20000 in
theorem ok_m_finds : k_MI mi_m_finds := ⟨List.mem_append_right _ (List.mem_append_right _ (List.mem_append_right _ (List.mem_append_right _ (List.mem_append_left _ (List.mem_of_getElem? (i := 89) rfl))))), ini_X7, ⟨by decide +kernel, by decide +kernel⟩, by decide +kernel, by decide⟩
theorem ar_m_finds : k_arity yX7_finds = some 1 := by decide +kernel
set_option maxRecDepth 20000 in
theorem in_m_finds : Cond.instanceMethod yX7_finds ∈ lw_tbl := List.mem_append_right _ (List.mem_append_right _ (List.mem_append_right _ (List.mem_append_right _ (List.mem_append_left _ (List.mem_of_getElem? (i := 88) rfl)))))
set_option maxRecDepth 20000 in
theorem se_m_finds : Cond.selects yX7_finds.cls yX7_finds yX7_finds ∈ lw_tbl := List.mem_append_left _ (List.mem_of_getElem? (i := 25) rfl)
abbrev mi_m_done : MI := (yX7_done, cX7_done, 2, (some .int))
set_option maxRecDepth 20000 in
theorem ok_m_done : k_MI mi_m_done := ⟨List.mem_append_right _ (List.mem_append_right _ (List.mem_append_right _ (List.mem_append_right _ (List.mem_append_left _ (List.mem_of_getElem? (i := 94) rfl))))), ini_X7, ⟨by decide +kernel, by decide +kernel⟩, by decide +kernel, by decide⟩
theorem ar_m_done : k_arity yX7_done = some 1 := by decide +kernel
set_option maxRecDepth 20000 in
theorem in_m_done : Cond.instanceMethod yX7_done ∈ lw_tbl := List.mem_append_right _ (List.mem_append_right _ (List.mem_append_right _ (List.mem_append_right _ (List.mem_append_left _ (List.mem_of_getElem? (i := 93) rfl)))))
set_option maxRecDepth 20000 in
theorem se_m_done : Cond.selects yX7_done.cls yX7_done yX7_done ∈ lw_tbl := List.mem_append_left _ (List.mem_of_getElem? (i := 26) rfl)
abbrev mi_m_isRow : MI := (yX7_isRow, cX7_isRow, 1, (some .boolean))
set_option maxRecDepth 20000 in
theorem ok_m_isRow : k_MI mi_m_isRow := ⟨List.mem_append_right _ (List.mem_append_right _ (List.mem_append_right _ (List.mem_append_right _ (List.mem_append_left _ (List.mem_of_getElem? (i := 81) rfl))))), ini_X7, ⟨by decide +kernel, by decide +kernel⟩, by decide +kernel, by decide⟩
theorem ar_m_isRow : k_arity yX7_isRow = some 1 := by decide +kernel
set_option maxRecDepth 20000 in
theorem st_m_isRow : Cond.static yX7_isRow ∈ lw_tbl := List.mem_append_right _ (List.mem_append_right _ (List.mem_append_right _ (List.mem_append_right _ (List.mem_append_left _ (List.mem_of_getElem? (i := 80) rfl)))))
abbrev mi_m_row : MI := (yX7_row, cX7_row, 5, (some .int))
set_option maxRecDepth 20000 in
theorem ok_m_row : k_MI mi_m_row := ⟨List.mem_append_right _ (List.mem_append_right _ (List.mem_append_right _ (List.mem_append_right _ (List.mem_append_left _ (List.mem_of_getElem? (i := 78) rfl))))), ini_X7, ⟨by decide +kernel, by decide +kernel⟩, by decide +kernel, by decide⟩
theorem ar_m_row : k_arity yX7_row = some 3 := by decide +kernel
set_option maxRecDepth 20000 in
theorem in_m_row : Cond.instanceMethod yX7_row ∈ lw_tbl := List.mem_append_right _ (List.mem_append_right _ (List.mem_append_right _ (List.mem_append_right _ (List.mem_append_left _ (List.mem_of_getElem? (i := 76) rfl)))))
set_option maxRecDepth 20000 in
theorem se_m_row : Cond.selects yX7_row.cls yX7_row yX7_row ∈ lw_tbl := List.mem_append_right _ (List.mem_append_right _ (List.mem_append_right _ (List.mem_append_right _ (List.mem_append_left _ (List.mem_of_getElem? (i := 77) rfl)))))
abbrev mi_m_set : MI := (yX7_set, cX7_set, 4, (some .int))
set_option maxRecDepth 20000 in
theorem ok_m_set : k_MI mi_m_set := ⟨List.mem_append_right _ (List.mem_append_right _ (List.mem_append_right _ (List.mem_append_right _ (List.mem_append_left _ (List.mem_of_getElem? (i := 98) rfl))))), ini_X7, ⟨by decide +kernel, by decide +kernel⟩, by decide +kernel, by decide⟩
theorem ar_m_set : k_arity yX7_set = some 3 := by decide +kernel
set_option maxRecDepth 20000 in
theorem in_m_set : Cond.instanceMethod yX7_set ∈ lw_tbl := List.mem_append_right _ (List.mem_append_right _ (List.mem_append_right _ (List.mem_append_right _ (List.mem_append_left _ (List.mem_of_getElem? (i := 96) rfl)))))
set_option maxRecDepth 20000 in
theorem se_m_set : Cond.selects yX7_set.cls yX7_set yX7_set ∈ lw_tbl := List.mem_append_right _ (List.mem_append_right _ (List.mem_append_right _ (List.mem_append_right _ (List.mem_append_left _ (List.mem_of_getElem? (i := 97) rfl)))))
abbrev mi_m_isPart : MI := (yX7_isPart, cX7_isPart, 3, (some .boolean))
set_option maxRecDepth 20000 in
theorem ok_m_isPart : k_MI mi_m_isPart := ⟨List.mem_append_right _ (List.mem_append_right _ (List.mem_append_right _ (List.mem_append_right _ (List.mem_append_left _ (List.mem_of_getElem? (i := 105) rfl))))), ini_X7, ⟨by decide +kernel, by decide +kernel⟩, by decide +kernel, by decide⟩
theorem ar_m_isPart : k_arity yX7_isPart = some 3 := by decide +kernel
set_option maxRecDepth 20000 in
theorem st_m_isPart : Cond.static yX7_isPart ∈ lw_tbl := List.mem_append_right _ (List.mem_append_right _ (List.mem_append_right _ (List.mem_append_right _ (List.mem_append_left _ (List.mem_of_getElem? (i := 104) rfl)))))
abbrev mi_m_copy : MI := (yX7_copy, cX7_copy, 9, (some .int))
set_option maxRecDepth 20000 in
theorem ok_m_copy : k_MI mi_m_copy := ⟨List.mem_append_right _ (List.mem_append_right _ (List.mem_append_right _ (List.mem_append_right _ (List.mem_append_left _ (List.mem_of_getElem? (i := 102) rfl))))), ini_X7, ⟨by decide +kernel, by decide +kernel⟩, by decide +kernel, by decide⟩
theorem ar_m_copy : k_arity yX7_copy = some 5 := by decide +kernel
set_option maxRecDepth 20000 in
theorem in_m_copy : Cond.instanceMethod yX7_copy ∈ lw_tbl := List.mem_append_right _ (List.mem_append_right _ (List.mem_append_right _ (List.mem_append_right _ (List.mem_append_left _ (List.mem_of_getElem? (i := 100) rfl)))))
set_option maxRecDepth 20000 in
theorem se_m_copy : Cond.selects yX7_copy.cls yX7_copy yX7_copy ∈ lw_tbl := List.mem_append_right _ (List.mem_append_right _ (List.mem_append_right _ (List.mem_append_right _ (List.mem_append_left _ (List.mem_of_getElem? (i := 101) rfl)))))
abbrev mi_m_drop : MI := (yX7_drop, cX7_drop, 2, (some .int))
set_option maxRecDepth 20000 in
theorem ok_m_drop : k_MI mi_m_drop := ⟨List.mem_append_right _ (List.mem_append_right _ (List.mem_append_right _ (List.mem_append_right _ (List.mem_append_left _ (List.mem_of_getElem? (i := 109) rfl))))), ini_X7, ⟨by decide +kernel, by decide +kernel⟩, by decide +kernel, by decide⟩
theorem ar_m_drop : k_arity yX7_drop = some 1 := by decide +kernel
set_option maxRecDepth 20000 in
theorem in_m_drop : Cond.instanceMethod yX7_drop ∈ lw_tbl := List.mem_append_right _ (List.mem_append_right _ (List.mem_append_right _ (List.mem_append_right _ (List.mem_append_left _ (List.mem_of_getElem? (i := 107) rfl)))))
set_option maxRecDepth 20000 in
theorem se_m_drop : Cond.selects yX7_drop.cls yX7_drop yX7_drop ∈ lw_tbl := List.mem_append_right _ (List.mem_append_right _ (List.mem_append_right _ (List.mem_append_right _ (List.mem_append_left _ (List.mem_of_getElem? (i := 108) rfl)))))
abbrev mi_m_feed : MI := (yX7_feed, cX7_feed, 2, (some .int))
set_option maxRecDepth 20000 in
theorem ok_m_feed : k_MI mi_m_feed := ⟨List.mem_append_right _ (List.mem_append_right _ (List.mem_append_right _ (List.mem_append_right _ (List.mem_append_left _ (List.mem_of_getElem? (i := 113) rfl))))), ini_X7, ⟨by decide +kernel, by decide +kernel⟩, by decide +kernel, by decide⟩
theorem ar_m_feed : k_arity yX7_feed = some 1 := by decide +kernel
set_option maxRecDepth 20000 in
theorem in_m_feed : Cond.instanceMethod yX7_feed ∈ lw_tbl := List.mem_append_right _ (List.mem_append_right _ (List.mem_append_right _ (List.mem_append_right _ (List.mem_append_left _ (List.mem_of_getElem? (i := 111) rfl)))))
set_option maxRecDepth 20000 in
theorem se_m_feed : Cond.selects yX7_feed.cls yX7_feed yX7_feed ∈ lw_tbl := List.mem_append_right _ (List.mem_append_right _ (List.mem_append_right _ (List.mem_append_right _ (List.mem_append_left _ (List.mem_of_getElem? (i := 112) rfl)))))
abbrev mi_m_nextToken : MI := (yX7_nextToken, cX7_nextToken, 2, none)
set_option maxRecDepth 20000 in
theorem ok_m_nextToken : k_MI mi_m_nextToken := ⟨List.mem_append_right _ (List.mem_append_right _ (List.mem_append_right _ (List.mem_append_right _ (List.mem_append_left _ (List.mem_of_getElem? (i := 130) rfl))))), ini_X7, ⟨by decide +kernel, by decide +kernel⟩, by decide +kernel, by decide⟩
theorem ar_m_nextToken : k_arity yX7_nextToken = some 0 := by decide +kernel
set_option maxRecDepth 20000 in
theorem in_m_nextToken : Cond.instanceMethod yX7_nextToken ∈ lw_tbl := List.mem_append_right _ (List.mem_append_right _ (List.mem_append_right _ (List.mem_append_right _ (List.mem_append_left _ (List.mem_of_getElem? (i := 129) rfl)))))
set_option maxRecDepth 20000 in
theorem se_m_nextToken : Cond.selects yX7_nextToken.cls yX7_nextToken yX7_nextToken ∈ lw_tbl := List.mem_append_left _ (List.mem_of_getElem? (i := 29) rfl)
abbrev mi_m_fails : MI := (yX7_fails, cX7_fails, 2, (some .boolean))
set_option maxRecDepth 20000 in
theorem ok_m_fails : k_MI mi_m_fails := ⟨List.mem_append_right _ (List.mem_append_right _ (List.mem_append_right _ (List.mem_append_right _ (List.mem_append_left _ (List.mem_of_getElem? (i := 134) rfl))))), ini_X7, ⟨by decide +kernel, by decide +kernel⟩, by decide +kernel, by decide⟩
theorem ar_m_fails : k_arity yX7_fails = some 1 := by decide +kernel
set_option maxRecDepth 20000 in
theorem in_m_fails : Cond.instanceMethod yX7_fails ∈ lw_tbl := List.mem_append_right _ (List.mem_append_right _ (List.mem_append_right _ (List.mem_append_right _ (List.mem_append_left _ (List.mem_of_getElem? (i := 133) rfl)))))
set_option maxRecDepth 20000 in
theorem se_m_fails : Cond.selects yX7_fails.cls yX7_fails yX7_fails ∈ lw_tbl := List.mem_append_left _ (List.mem_of_getElem? (i := 30) rfl)
abbrev mi_m_isSign : MI := (yX7_isSign, cX7_isSign, 2, (some .boolean))
set_option maxRecDepth 20000 in
theorem ok_m_isSign : k_MI mi_m_isSign := ⟨List.mem_append_right _ (List.mem_append_right _ (List.mem_append_right _ (List.mem_append_right _ (List.mem_append_left _ (List.mem_of_getElem? (i := 126) rfl))))), ini_X7, ⟨by decide +kernel, by decide +kernel⟩, by decide +kernel, by decide⟩
theorem ar_m_isSign : k_arity yX7_isSign = some 1 := by decide +kernel
set_option maxRecDepth 20000 in
theorem in_m_isSign : Cond.instanceMethod yX7_isSign ∈ lw_tbl := List.mem_append_right _ (List.mem_append_right _ (List.mem_append_right _ (List.mem_append_right _ (List.mem_append_left _ (List.mem_of_getElem? (i := 125) rfl)))))
set_option maxRecDepth 20000 in
theorem se_m_isSign : Cond.selects yX7_isSign.cls yX7_isSign yX7_isSign ∈ lw_tbl := List.mem_append_left _ (List.mem_of_getElem? (i := 28) rfl)
abbrev mi_m_isNumber : MI := (yX7_isNumber, cX7_isNumber, 3, (some .boolean))
set_option maxRecDepth 20000 in
theorem ok_m_isNumber : k_MI mi_m_isNumber := ⟨List.mem_append_right _ (List.mem_append_right _ (List.mem_append_right _ (List.mem_append_right _ (List.mem_append_left _ (List.mem_of_getElem? (i := 138) rfl))))), ini_X7, ⟨by decide +kernel, by decide +kernel⟩, by decide +kernel, by decide⟩
theorem ar_m_isNumber : k_arity yX7_isNumber = some 2 := by decide +kernel
set_option maxRecDepth 20000 in
theorem in_m_isNumber : Cond.instanceMethod yX7_isNumber ∈ lw_tbl := List.mem_append_right _ (List.mem_append_right _ (List.mem_append_right _ (List.mem_append_right _ (List.mem_append_left _ (List.mem_of_getElem? (i := 137) rfl)))))
set_option maxRecDepth 20000 in
theorem se_m_isNumber : Cond.selects yX7_isNumber.cls yX7_isNumber yX7_isNumber ∈ lw_tbl := List.mem_append_left _ (List.mem_of_getElem? (i := 31) rfl)
abbrev mi_m_isPair : MI := (yX7_isPair, cX7_isPair, 6, (some .boolean))
set_option maxRecDepth 20000 in
theorem ok_m_isPair : k_MI mi_m_isPair := ⟨List.mem_append_right _ (List.mem_append_right _ (List.mem_append_right _ (List.mem_append_right _ (List.mem_append_left _ (List.mem_of_getElem? (i := 146) rfl))))), ini_X7, ⟨by decide +kernel, by decide +kernel⟩, by decide +kernel, by decide⟩
theorem ar_m_isPair : k_arity yX7_isPair = some 5 := by decide +kernel
set_option maxRecDepth 20000 in
theorem in_m_isPair : Cond.instanceMethod yX7_isPair ∈ lw_tbl := List.mem_append_right _ (List.mem_append_right _ (List.mem_append_right _ (List.mem_append_right _ (List.mem_append_left _ (List.mem_of_getElem? (i := 145) rfl)))))
set_option maxRecDepth 20000 in
theorem se_m_isPair : Cond.selects yX7_isPair.cls yX7_isPair yX7_isPair ∈ lw_tbl := List.mem_append_left _ (List.mem_of_getElem? (i := 33) rfl)
abbrev mi_m_sortBy : MI := (yX7_sortBy, cX7_sortBy, 1, (some .int))
set_option maxRecDepth 20000 in
theorem ok_m_sortBy : k_MI mi_m_sortBy := ⟨List.mem_append_right _ (List.mem_append_right _ (List.mem_append_right _ (List.mem_append_right _ (List.mem_append_left _ (List.mem_of_getElem? (i := 149) rfl))))), ini_X7, ⟨by decide +kernel, by decide +kernel⟩, by decide +kernel, by decide⟩
theorem ar_m_sortBy : k_arity yX7_sortBy = some 1 := by decide +kernel
set_option maxRecDepth 20000 in
theorem st_m_sortBy : Cond.static yX7_sortBy ∈ lw_tbl := List.mem_append_right _ (List.mem_append_right _ (List.mem_append_right _ (List.mem_append_right _ (List.mem_append_left _ (List.mem_of_getElem? (i := 148) rfl)))))
abbrev mi_m_isItem : MI := (yX7_isItem, cX7_isItem, 3, (some .boolean))
set_option maxRecDepth 20000 in
theorem ok_m_isItem : k_MI mi_m_isItem := ⟨List.mem_append_right _ (List.mem_append_right _ (List.mem_append_right _ (List.mem_append_right _ (List.mem_append_left _ (List.mem_of_getElem? (i := 142) rfl))))), ini_X7, ⟨by decide +kernel, by decide +kernel⟩, by decide +kernel, by decide⟩
theorem ar_m_isItem : k_arity yX7_isItem = some 0 := by decide +kernel
set_option maxRecDepth 20000 in
theorem in_m_isItem : Cond.instanceMethod yX7_isItem ∈ lw_tbl := List.mem_append_right _ (List.mem_append_right _ (List.mem_append_right _ (List.mem_append_right _ (List.mem_append_left _ (List.mem_of_getElem? (i := 141) rfl)))))
set_option maxRecDepth 20000 in
theorem se_m_isItem : Cond.selects yX7_isItem.cls yX7_isItem yX7_isItem ∈ lw_tbl := List.mem_append_left _ (List.mem_of_getElem? (i := 32) rfl)
abbrev mi_m_isRead : MI := (yX7_isRead, cX7_isRead, 2, (some .boolean))
set_option maxRecDepth 20000 in
theorem ok_m_isRead : k_MI mi_m_isRead := ⟨List.mem_append_right _ (List.mem_append_right _ (List.mem_append_right _ (List.mem_append_right _ (List.mem_append_left _ (List.mem_of_getElem? (i := 122) rfl))))), ini_X7, ⟨by decide +kernel, by decide +kernel⟩, by decide +kernel, by decide⟩
theorem ar_m_isRead : k_arity yX7_isRead = some 0 := by decide +kernel
set_option maxRecDepth 20000 in
theorem in_m_isRead : Cond.instanceMethod yX7_isRead ∈ lw_tbl := List.mem_append_right _ (List.mem_append_right _ (List.mem_append_right _ (List.mem_append_right _ (List.mem_append_left _ (List.mem_of_getElem? (i := 121) rfl)))))
set_option maxRecDepth 20000 in
theorem se_m_isRead : Cond.selects yX7_isRead.cls yX7_isRead yX7_isRead ∈ lw_tbl := List.mem_append_left _ (List.mem_of_getElem? (i := 27) rfl)
abbrev mi_m_square : MI := (yX7_square, cX7_square, 2, (some .int))
set_option maxRecDepth 20000 in
theorem ok_m_square : k_MI mi_m_square := ⟨List.mem_append_right _ (List.mem_append_right _ (List.mem_append_right _ (List.mem_append_right _ (List.mem_append_left _ (List.mem_of_getElem? (i := 118) rfl))))), ini_X7, ⟨by decide +kernel, by decide +kernel⟩, by decide +kernel, by decide⟩
theorem ar_m_square : k_arity yX7_square = some 0 := by decide +kernel
set_option maxRecDepth 20000 in
theorem in_m_square : Cond.instanceMethod yX7_square ∈ lw_tbl := List.mem_append_right _ (List.mem_append_right _ (List.mem_append_right _ (List.mem_append_right _ (List.mem_append_left _ (List.mem_of_getElem? (i := 116) rfl)))))
set_option maxRecDepth 20000 in
theorem se_m_square : Cond.selects yX7_square.cls yX7_square yX7_square ∈ lw_tbl := List.mem_append_right _ (List.mem_append_right _ (List.mem_append_right _ (List.mem_append_right _ (List.mem_append_left _ (List.mem_of_getElem? (i := 117) rfl)))))
abbrev mi_m_fault : MI := (yX7_fault, cX7_fault, 1, (some .int))
set_option maxRecDepth 20000 in
theorem ok_m_fault : k_MI mi_m_fault := ⟨List.mem_append_right _ (List.mem_append_right _ (List.mem_append_right _ (List.mem_append_right _ (List.mem_append_left _ (List.mem_of_getElem? (i := 157) rfl))))), ini_X7, ⟨by decide +kernel, by decide +kernel⟩, by decide +kernel, by decide⟩
theorem ar_m_fault : k_arity yX7_fault = some 0 := by decide +kernel
set_option maxRecDepth 20000 in
theorem in_m_fault : Cond.instanceMethod yX7_fault ∈ lw_tbl := List.mem_append_right _ (List.mem_append_right _ (List.mem_append_right _ (List.mem_append_right _ (List.mem_append_left _ (List.mem_of_getElem? (i := 155) rfl)))))
set_option maxRecDepth 20000 in
theorem se_m_fault : Cond.selects yX7_fault.cls yX7_fault yX7_fault ∈ lw_tbl := List.mem_append_right _ (List.mem_append_right _ (List.mem_append_right _ (List.mem_append_right _ (List.mem_append_left _ (List.mem_of_getElem? (i := 156) rfl)))))
abbrev mi_m_note : MI := (yX7_note, cX7_note, 2, none)
set_option maxRecDepth 20000 in
theorem ok_m_note : k_MI mi_m_note := ⟨List.mem_append_right _ (List.mem_append_right _ (List.mem_append_right _ (List.mem_append_right _ (List.mem_append_left _ (List.mem_of_getElem? (i := 170) rfl))))), ini_X7, ⟨by decide +kernel, by decide +kernel⟩, by decide +kernel, by decide⟩
theorem ar_m_note : k_arity yX7_note = some 0 := by decide +kernel
set_option maxRecDepth 20000 in
theorem in_m_note : Cond.instanceMethod yX7_note ∈ lw_tbl := List.mem_append_right _ (List.mem_append_right _ (List.mem_append_right _ (List.mem_append_right _ (List.mem_append_left _ (List.mem_of_getElem? (i := 169) rfl)))))
set_option maxRecDepth 20000 in
theorem se_m_note : Cond.selects yX7_note.cls yX7_note yX7_note ∈ lw_tbl := List.mem_append_left _ (List.mem_of_getElem? (i := 35) rfl)
abbrev mi_m_hears : MI := (yX7_hears, cX7_hears, 3, (some .boolean))
set_option maxRecDepth 20000 in
theorem ok_m_hears : k_MI mi_m_hears := ⟨List.mem_append_right _ (List.mem_append_right _ (List.mem_append_right _ (List.mem_append_right _ (List.mem_append_left _ (List.mem_of_getElem? (i := 186) rfl))))), ini_X7, ⟨by decide +kernel, by decide +kernel⟩, by decide +kernel, by decide⟩
theorem ar_m_hears : k_arity yX7_hears = some 3 := by decide +kernel
set_option maxRecDepth 20000 in
theorem st_m_hears : Cond.static yX7_hears ∈ lw_tbl := List.mem_append_right _ (List.mem_append_right _ (List.mem_append_right _ (List.mem_append_right _ (List.mem_append_left _ (List.mem_of_getElem? (i := 185) rfl)))))
abbrev mi_m_countedBy : MI := (yX7_countedBy, cX7_countedBy, 7, (some .int))
set_option maxRecDepth 20000 in
theorem ok_m_countedBy : k_MI mi_m_countedBy := ⟨List.mem_append_right _ (List.mem_append_right _ (List.mem_append_right _ (List.mem_append_right _ (List.mem_append_left _ (List.mem_of_getElem? (i := 189) rfl))))), ini_X7, ⟨by decide +kernel, by decide +kernel⟩, by decide +kernel, by decide⟩
theorem ar_m_countedBy : k_arity yX7_countedBy = some 3 := by decide +kernel
set_option maxRecDepth 20000 in
theorem st_m_countedBy : Cond.static yX7_countedBy ∈ lw_tbl := List.mem_append_right _ (List.mem_append_right _ (List.mem_append_right _ (List.mem_append_right _ (List.mem_append_left _ (List.mem_of_getElem? (i := 188) rfl)))))
abbrev mi_m_pass : MI := (yX7_pass, cX7_pass, 6, none)
set_option maxRecDepth 20000 in
theorem ok_m_pass : k_MI mi_m_pass := ⟨List.mem_append_right _ (List.mem_append_right _ (List.mem_append_right _ (List.mem_append_right _ (List.mem_append_left _ (List.mem_of_getElem? (i := 177) rfl))))), ini_X7, ⟨by decide +kernel, by decide +kernel⟩, by decide +kernel, by decide⟩
theorem ar_m_pass : k_arity yX7_pass = some 2 := by decide +kernel
set_option maxRecDepth 20000 in
theorem st_m_pass : Cond.static yX7_pass ∈ lw_tbl := List.mem_append_right _ (List.mem_append_right _ (List.mem_append_right _ (List.mem_append_right _ (List.mem_append_left _ (List.mem_of_getElem? (i := 176) rfl)))))
abbrev mi_m_offOf : MI := (yX7_offOf, cX7_offOf, 3, (some .int))
set_option maxRecDepth 20000 in
theorem ok_m_offOf : k_MI mi_m_offOf := ⟨List.mem_append_right _ (List.mem_append_right _ (List.mem_append_right _ (List.mem_append_right _ (List.mem_append_left _ (List.mem_of_getElem? (i := 192) rfl))))), ini_X7, ⟨by decide +kernel, by decide +kernel⟩, by decide +kernel, by decide⟩
theorem ar_m_offOf : k_arity yX7_offOf = some 1 := by decide +kernel
set_option maxRecDepth 20000 in
theorem st_m_offOf : Cond.static yX7_offOf ∈ lw_tbl := List.mem_append_right _ (List.mem_append_right _ (List.mem_append_right _ (List.mem_append_right _ (List.mem_append_left _ (List.mem_of_getElem? (i := 191) rfl)))))
abbrev mi_m_flock : MI := (yX7_flock, cX7_flock, 1, (some .int))
set_option maxRecDepth 20000 in
theorem ok_m_flock : k_MI mi_m_flock := ⟨List.mem_append_right _ (List.mem_append_right _ (List.mem_append_right _ (List.mem_append_right _ (List.mem_append_left _ (List.mem_of_getElem? (i := 174) rfl))))), ini_X7, ⟨by decide +kernel, by decide +kernel⟩, by decide +kernel, by decide⟩
theorem ar_m_flock : k_arity yX7_flock = some 0 := by decide +kernel
set_option maxRecDepth 20000 in
theorem in_m_flock : Cond.instanceMethod yX7_flock ∈ lw_tbl := List.mem_append_right _ (List.mem_append_right _ (List.mem_append_right _ (List.mem_append_right _ (List.mem_append_left _ (List.mem_of_getElem? (i := 173) rfl)))))
set_option maxRecDepth 20000 in
theorem se_m_flock : Cond.selects yX7_flock.cls yX7_flock yX7_flock ∈ lw_tbl := List.mem_append_left _ (List.mem_of_getElem? (i := 36) rfl)
abbrev mi_m_steps : MI := (yX7_steps, cX7_steps, 3, (some .int))
set_option maxRecDepth 20000 in
theorem ok_m_steps : k_MI mi_m_steps := ⟨List.mem_append_right _ (List.mem_append_right _ (List.mem_append_right _ (List.mem_append_right _ (List.mem_append_left _ (List.mem_of_getElem? (i := 161) rfl))))), ini_X7, ⟨by decide +kernel, by decide +kernel⟩, by decide +kernel, by decide⟩
theorem ar_m_steps : k_arity yX7_steps = some 1 := by decide +kernel
set_option maxRecDepth 20000 in
theorem in_m_steps : Cond.instanceMethod yX7_steps ∈ lw_tbl := List.mem_append_right _ (List.mem_append_right _ (List.mem_append_right _ (List.mem_append_right _ (List.mem_append_left _ (List.mem_of_getElem? (i := 159) rfl)))))
set_option maxRecDepth 20000 in
theorem se_m_steps : Cond.selects yX7_steps.cls yX7_steps yX7_steps ∈ lw_tbl := List.mem_append_right _ (List.mem_append_right _ (List.mem_append_right _ (List.mem_append_right _ (List.mem_append_left _ (List.mem_of_getElem? (i := 160) rfl)))))
abbrev mi_m_change : MI := (yX7_change, cX7_change, 3, (some .int))
set_option maxRecDepth 20000 in
theorem ok_m_change : k_MI mi_m_change := ⟨List.mem_append_right _ (List.mem_append_right _ (List.mem_append_right _ (List.mem_append_right _ (List.mem_append_left _ (List.mem_of_getElem? (i := 196) rfl))))), ini_X7, ⟨by decide +kernel, by decide +kernel⟩, by decide +kernel, by decide⟩
theorem ar_m_change : k_arity yX7_change = some 1 := by decide +kernel
set_option maxRecDepth 20000 in
theorem in_m_change : Cond.instanceMethod yX7_change ∈ lw_tbl := List.mem_append_right _ (List.mem_append_right _ (List.mem_append_right _ (List.mem_append_right _ (List.mem_append_left _ (List.mem_of_getElem? (i := 194) rfl)))))
set_option maxRecDepth 20000 in
theorem se_m_change : Cond.selects yX7_change.cls yX7_change yX7_change ∈ lw_tbl := List.mem_append_right _ (List.mem_append_right _ (List.mem_append_right _ (List.mem_append_right _ (List.mem_append_left _ (List.mem_of_getElem? (i := 195) rfl)))))
abbrev mi_m_wind : MI := (yX7_wind, cX7_wind, 3, (some .int))
set_option maxRecDepth 20000 in
theorem ok_m_wind : k_MI mi_m_wind := ⟨List.mem_append_right _ (List.mem_append_right _ (List.mem_append_right _ (List.mem_append_right _ (List.mem_append_left _ (List.mem_of_getElem? (i := 200) rfl))))), ini_X7, ⟨by decide +kernel, by decide +kernel⟩, by decide +kernel, by decide⟩
theorem ar_m_wind : k_arity yX7_wind = some 1 := by decide +kernel
set_option maxRecDepth 20000 in
theorem in_m_wind : Cond.instanceMethod yX7_wind ∈ lw_tbl := List.mem_append_right _ (List.mem_append_right _ (List.mem_append_right _ (List.mem_append_right _ (List.mem_append_left _ (List.mem_of_getElem? (i := 198) rfl)))))
set_option maxRecDepth 20000 in
theorem se_m_wind : Cond.selects yX7_wind.cls yX7_wind yX7_wind ∈ lw_tbl := List.mem_append_right _ (List.mem_append_right _ (List.mem_append_right _ (List.mem_append_right _ (List.mem_append_left _ (List.mem_of_getElem? (i := 199) rfl)))))
abbrev mi_m_cough : MI := (yX7_cough, cX7_cough, 3, (some .int))
set_option maxRecDepth 20000 in
theorem ok_m_cough : k_MI mi_m_cough := ⟨List.mem_append_right _ (List.mem_append_right _ (List.mem_append_right _ (List.mem_append_right _ (List.mem_append_left _ (List.mem_of_getElem? (i := 204) rfl))))), ini_X7, ⟨by decide +kernel, by decide +kernel⟩, by decide +kernel, by decide⟩
theorem ar_m_cough : k_arity yX7_cough = some 1 := by decide +kernel
set_option maxRecDepth 20000 in
theorem in_m_cough : Cond.instanceMethod yX7_cough ∈ lw_tbl := List.mem_append_right _ (List.mem_append_right _ (List.mem_append_right _ (List.mem_append_right _ (List.mem_append_left _ (List.mem_of_getElem? (i := 202) rfl)))))
set_option maxRecDepth 20000 in
theorem se_m_cough : Cond.selects yX7_cough.cls yX7_cough yX7_cough ∈ lw_tbl := List.mem_append_right _ (List.mem_append_right _ (List.mem_append_right _ (List.mem_append_right _ (List.mem_append_left _ (List.mem_of_getElem? (i := 203) rfl)))))
abbrev mi_m_undo : MI := (yX7_undo, cX7_undo, 1, (some .int))
set_option maxRecDepth 20000 in
theorem ok_m_undo : k_MI mi_m_undo := ⟨List.mem_append_right _ (List.mem_append_right _ (List.mem_append_right _ (List.mem_append_right _ (List.mem_append_left _ (List.mem_of_getElem? (i := 212) rfl))))), ini_X7, ⟨by decide +kernel, by decide +kernel⟩, by decide +kernel, by decide⟩
theorem ar_m_undo : k_arity yX7_undo = some 0 := by decide +kernel
set_option maxRecDepth 20000 in
theorem in_m_undo : Cond.instanceMethod yX7_undo ∈ lw_tbl := List.mem_append_right _ (List.mem_append_right _ (List.mem_append_right _ (List.mem_append_right _ (List.mem_append_left _ (List.mem_of_getElem? (i := 210) rfl)))))
set_option maxRecDepth 20000 in
theorem se_m_undo : Cond.selects yX7_undo.cls yX7_undo yX7_undo ∈ lw_tbl := List.mem_append_right _ (List.mem_append_right _ (List.mem_append_right _ (List.mem_append_right _ (List.mem_append_left _ (List.mem_of_getElem? (i := 211) rfl)))))
abbrev mi_m_heardBy : MI := (yX7_heardBy, cX7_heardBy, 4, (some .int))
set_option maxRecDepth 20000 in
theorem ok_m_heardBy : k_MI mi_m_heardBy := ⟨List.mem_append_right _ (List.mem_append_right _ (List.mem_append_right _ (List.mem_append_right _ (List.mem_append_left _ (List.mem_of_getElem? (i := 220) rfl))))), ini_X7, ⟨by decide +kernel, by decide +kernel⟩, by decide +kernel, by decide⟩
theorem ar_m_heardBy : k_arity yX7_heardBy = some 1 := by decide +kernel
set_option maxRecDepth 20000 in
theorem in_m_heardBy : Cond.instanceMethod yX7_heardBy ∈ lw_tbl := List.mem_append_right _ (List.mem_append_right _ (List.mem_append_right _ (List.mem_append_right _ (List.mem_append_left _ (List.mem_of_getElem? (i := 219) rfl)))))
set_option maxRecDepth 20000 in
theorem se_m_heardBy : Cond.selects yX7_heardBy.cls yX7_heardBy yX7_heardBy ∈ lw_tbl := List.mem_append_left _ (List.mem_of_getElem? (i := 38) rfl)
abbrev mi_m_sleeper : MI := (yX7_sleeper, cX7_sleeper, 3, (some .int))
set_option maxRecDepth 20000 in
theorem ok_m_sleeper : k_MI mi_m_sleeper := ⟨List.mem_append_right _ (List.mem_append_right _ (List.mem_append_right _ (List.mem_append_right _ (List.mem_append_left _ (List.mem_of_getElem? (i := 216) rfl))))), ini_X7, ⟨by decide +kernel, by decide +kernel⟩, by decide +kernel, by decide⟩
theorem ar_m_sleeper : k_arity yX7_sleeper = some 2 := by decide +kernel
set_option maxRecDepth 20000 in
theorem in_m_sleeper : Cond.instanceMethod yX7_sleeper ∈ lw_tbl := List.mem_append_right _ (List.mem_append_right _ (List.mem_append_right _ (List.mem_append_right _ (List.mem_append_left _ (List.mem_of_getElem? (i := 214) rfl)))))
set_option maxRecDepth 20000 in
theorem se_m_sleeper : Cond.selects yX7_sleeper.cls yX7_sleeper yX7_sleeper ∈ lw_tbl := List.mem_append_right _ (List.mem_append_right _ (List.mem_append_right _ (List.mem_append_right _ (List.mem_append_left _ (List.mem_of_getElem? (i := 215) rfl)))))
abbrev mi_m_sheep : MI := (yX7_sheep, cX7_sheep, 5, (some .int))
set_option maxRecDepth 20000 in
theorem ok_m_sheep : k_MI mi_m_sheep := ⟨List.mem_append_right _ (List.mem_append_right _ (List.mem_append_right _ (List.mem_append_right _ (List.mem_append_left _ (List.mem_of_getElem? (i := 224) rfl))))), ini_X7, ⟨by decide +kernel, by decide +kernel⟩, by decide +kernel, by decide⟩
theorem ar_m_sheep : k_arity yX7_sheep = some 2 := by decide +kernel
set_option maxRecDepth 20000 in
theorem in_m_sheep : Cond.instanceMethod yX7_sheep ∈ lw_tbl := List.mem_append_right _ (List.mem_append_right _ (List.mem_append_right _ (List.mem_append_right _ (List.mem_append_left _ (List.mem_of_getElem? (i := 222) rfl)))))
set_option maxRecDepth 20000 in
theorem se_m_sheep : Cond.selects yX7_sheep.cls yX7_sheep yX7_sheep ∈ lw_tbl := List.mem_append_right _ (List.mem_append_right _ (List.mem_append_right _ (List.mem_append_right _ (List.mem_append_left _ (List.mem_of_getElem? (i := 223) rfl)))))
abbrev mi_m_begin : MI := (yX7_begin, cX7_begin, 1, none)
set_option maxRecDepth 20000 in
theorem ok_m_begin : k_MI mi_m_begin := ⟨List.mem_append_right _ (List.mem_append_right _ (List.mem_append_right _ (List.mem_append_right _ (List.mem_append_left _ (List.mem_of_getElem? (i := 236) rfl))))), ini_X7, ⟨by decide +kernel, by decide +kernel⟩, by decide +kernel, by decide⟩
theorem ar_m_begin : k_arity yX7_begin = some 0 := by decide +kernel
set_option maxRecDepth 20000 in
theorem in_m_begin : Cond.instanceMethod yX7_begin ∈ lw_tbl := List.mem_append_right _ (List.mem_append_right _ (List.mem_append_right _ (List.mem_append_right _ (List.mem_append_left _ (List.mem_of_getElem? (i := 235) rfl)))))
set_option maxRecDepth 20000 in
theorem se_m_begin : Cond.selects yX7_begin.cls yX7_begin yX7_begin ∈ lw_tbl := List.mem_append_left _ (List.mem_of_getElem? (i := 40) rfl)
abbrev mi_m_goOn : MI := (yX7_goOn, cX7_goOn, 3, none)
set_option maxRecDepth 20000 in
theorem ok_m_goOn : k_MI mi_m_goOn := ⟨List.mem_append_right _ (List.mem_append_right _ (List.mem_append_right _ (List.mem_append_right _ (List.mem_append_left _ (List.mem_of_getElem? (i := 232) rfl))))), ini_X7, ⟨by decide +kernel, by decide +kernel⟩, by decide +kernel, by decide⟩
theorem ar_m_goOn : k_arity yX7_goOn = some 1 := by decide +kernel
set_option maxRecDepth 20000 in
theorem in_m_goOn : Cond.instanceMethod yX7_goOn ∈ lw_tbl := List.mem_append_right _ (List.mem_append_right _ (List.mem_append_right _ (List.mem_append_right _ (List.mem_append_left _ (List.mem_of_getElem? (i := 231) rfl)))))
set_option maxRecDepth 20000 in
theorem se_m_goOn : Cond.selects yX7_goOn.cls yX7_goOn yX7_goOn ∈ lw_tbl := List.mem_append_left _ (List.mem_of_getElem? (i := 39) rfl)
abbrev mi_m_off : MI := (yX7_off, cX7_off, 2, (some .int))
set_option maxRecDepth 20000 in
theorem ok_m_off : k_MI mi_m_off := ⟨List.mem_append_right _ (List.mem_append_right _ (List.mem_append_right _ (List.mem_append_right _ (List.mem_append_left _ (List.mem_of_getElem? (i := 228) rfl))))), ini_X7, ⟨by decide +kernel, by decide +kernel⟩, by decide +kernel, by decide⟩
theorem ar_m_off : k_arity yX7_off = some 1 := by decide +kernel
set_option maxRecDepth 20000 in
theorem in_m_off : Cond.instanceMethod yX7_off ∈ lw_tbl := List.mem_append_right _ (List.mem_append_right _ (List.mem_append_right _ (List.mem_append_right _ (List.mem_append_left _ (List.mem_of_getElem? (i := 226) rfl)))))
set_option maxRecDepth 20000 in
theorem se_m_off : Cond.selects yX7_off.cls yX7_off yX7_off ∈ lw_tbl := List.mem_append_right _ (List.mem_append_right _ (List.mem_append_right _ (List.mem_append_right _ (List.mem_append_left _ (List.mem_of_getElem? (i := 227) rfl)))))
abbrev mi_m_counted : MI := (yX7_counted, cX7_counted, 3, (some .int))
set_option maxRecDepth 20000 in
theorem ok_m_counted : k_MI mi_m_counted := ⟨List.mem_append_right _ (List.mem_append_right _ (List.mem_append_right _ (List.mem_append_right _ (List.mem_append_right _ (List.mem_of_getElem? (i := 0) rfl))))), ini_X7, ⟨by decide +kernel, by decide +kernel⟩, by decide +kernel, by decide⟩
theorem ar_m_counted : k_arity yX7_counted = some 2 := by decide +kernel
set_option maxRecDepth 20000 in
theorem in_m_counted : Cond.instanceMethod yX7_counted ∈ lw_tbl := List.mem_append_right _ (List.mem_append_right _ (List.mem_append_right _ (List.mem_append_right _ (List.mem_append_left _ (List.mem_of_getElem? (i := 238) rfl)))))
set_option maxRecDepth 20000 in
theorem se_m_counted : Cond.selects yX7_counted.cls yX7_counted yX7_counted ∈ lw_tbl := List.mem_append_right _ (List.mem_append_right _ (List.mem_append_right _ (List.mem_append_right _ (List.mem_append_left _ (List.mem_of_getElem? (i := 239) rfl)))))
abbrev mi_m_firstOf : MI := (yX7_firstOf, cX7_firstOf, 5, (some .int))
set_option maxRecDepth 20000 in
theorem ok_m_firstOf : k_MI mi_m_firstOf := ⟨List.mem_append_right _ (List.mem_append_right _ (List.mem_append_right _ (List.mem_append_right _ (List.mem_append_right _ (List.mem_of_getElem? (i := 8) rfl))))), ini_X7, ⟨by decide +kernel, by decide +kernel⟩, by decide +kernel, by decide⟩
theorem ar_m_firstOf : k_arity yX7_firstOf = some 3 := by decide +kernel
set_option maxRecDepth 20000 in
theorem in_m_firstOf : Cond.instanceMethod yX7_firstOf ∈ lw_tbl := List.mem_append_right _ (List.mem_append_right _ (List.mem_append_right _ (List.mem_append_right _ (List.mem_append_right _ (List.mem_of_getElem? (i := 7) rfl)))))
set_option maxRecDepth 20000 in
theorem se_m_firstOf : Cond.selects yX7_firstOf.cls yX7_firstOf yX7_firstOf ∈ lw_tbl := List.mem_append_left _ (List.mem_of_getElem? (i := 41) rfl)
abbrev mi_m_when : MI := (yX7_when, cX7_when, 2, (some .int))
set_option maxRecDepth 20000 in
theorem ok_m_when : k_MI mi_m_when := ⟨List.mem_append_right _ (List.mem_append_right _ (List.mem_append_right _ (List.mem_append_right _ (List.mem_append_right _ (List.mem_of_getElem? (i := 4) rfl))))), ini_X7, ⟨by decide +kernel, by decide +kernel⟩, by decide +kernel, by decide⟩
theorem ar_m_when : k_arity yX7_when = some 1 := by decide +kernel
set_option maxRecDepth 20000 in
theorem in_m_when : Cond.instanceMethod yX7_when ∈ lw_tbl := List.mem_append_right _ (List.mem_append_right _ (List.mem_append_right _ (List.mem_append_right _ (List.mem_append_right _ (List.mem_of_getElem? (i := 2) rfl)))))
set_option maxRecDepth 20000 in
theorem se_m_when : Cond.selects yX7_when.cls yX7_when yX7_when ∈ lw_tbl := List.mem_append_right _ (List.mem_append_right _ (List.mem_append_right _ (List.mem_append_right _ (List.mem_append_right _ (List.mem_of_getElem? (i := 3) rfl)))))
abbrev mi_m_all : MI := (yX7_all, cX7_all, 2, (some .int))
set_option maxRecDepth 20000 in
theorem ok_m_all : k_MI mi_m_all := ⟨List.mem_append_right _ (List.mem_append_right _ (List.mem_append_right _ (List.mem_append_right _ (List.mem_append_right _ (List.mem_of_getElem? (i := 13) rfl))))), ini_X7, ⟨by decide +kernel, by decide +kernel⟩, by decide +kernel, by decide⟩
theorem ar_m_all : k_arity yX7_all = some 1 := by decide +kernel
set_option maxRecDepth 20000 in
theorem in_m_all : Cond.instanceMethod yX7_all ∈ lw_tbl := List.mem_append_right _ (List.mem_append_right _ (List.mem_append_right _ (List.mem_append_right _ (List.mem_append_right _ (List.mem_of_getElem? (i := 11) rfl)))))
set_option maxRecDepth 20000 in
theorem se_m_all : Cond.selects yX7_all.cls yX7_all yX7_all ∈ lw_tbl := List.mem_append_right _ (List.mem_append_right _ (List.mem_append_right _ (List.mem_append_right _ (List.mem_append_right _ (List.mem_of_getElem? (i := 12) rfl)))))
abbrev mi_m_layOff : MI := (yX7_layOff, cX7_layOff, 2, none)
set_option maxRecDepth 20000 in
theorem ok_m_layOff : k_MI mi_m_layOff := ⟨List.mem_append_right _ (List.mem_append_right _ (List.mem_append_right _ (List.mem_append_right _ (List.mem_append_right _ (List.mem_of_getElem? (i := 25) rfl))))), ini_X7, ⟨by decide +kernel, by decide +kernel⟩, by decide +kernel, by decide⟩
theorem ar_m_layOff : k_arity yX7_layOff = some 0 := by decide +kernel
set_option maxRecDepth 20000 in
theorem in_m_layOff : Cond.instanceMethod yX7_layOff ∈ lw_tbl := List.mem_append_right _ (List.mem_append_right _ (List.mem_append_right _ (List.mem_append_right _ (List.mem_append_right _ (List.mem_of_getElem? (i := 24) rfl)))))
set_option maxRecDepth 20000 in
theorem se_m_layOff : Cond.selects yX7_layOff.cls yX7_layOff yX7_layOff ∈ lw_tbl := List.mem_append_left _ (List.mem_of_getElem? (i := 43) rfl)
abbrev mi_m_never : MI := (yX7_never, cX7_never, 3, (some .int))
set_option maxRecDepth 20000 in
theorem ok_m_never : k_MI mi_m_never := ⟨List.mem_append_right _ (List.mem_append_right _ (List.mem_append_right _ (List.mem_append_right _ (List.mem_append_right _ (List.mem_of_getElem? (i := 21) rfl))))), ini_X7, ⟨by decide +kernel, by decide +kernel⟩, by decide +kernel, by decide⟩
theorem ar_m_never : k_arity yX7_never = some 0 := by decide +kernel
set_option maxRecDepth 20000 in
theorem in_m_never : Cond.instanceMethod yX7_never ∈ lw_tbl := List.mem_append_right _ (List.mem_append_right _ (List.mem_append_right _ (List.mem_append_right _ (List.mem_append_right _ (List.mem_of_getElem? (i := 19) rfl)))))
set_option maxRecDepth 20000 in
theorem se_m_never : Cond.selects yX7_never.cls yX7_never yX7_never ∈ lw_tbl := List.mem_append_right _ (List.mem_append_right _ (List.mem_append_right _ (List.mem_append_right _ (List.mem_append_right _ (List.mem_of_getElem? (i := 20) rfl)))))
abbrev mi_m_quiet : MI := (yX7_quiet, cX7_quiet, 5, (some .int))
set_option maxRecDepth 20000 in
theorem ok_m_quiet : k_MI mi_m_quiet := ⟨List.mem_append_right _ (List.mem_append_right _ (List.mem_append_right _ (List.mem_append_right _ (List.mem_append_right _ (List.mem_of_getElem? (i := 29) rfl))))), ini_X7, ⟨by decide +kernel, by decide +kernel⟩, by decide +kernel, by decide⟩
theorem ar_m_quiet : k_arity yX7_quiet = some 1 := by decide +kernel
set_option maxRecDepth 20000 in
theorem in_m_quiet : Cond.instanceMethod yX7_quiet ∈ lw_tbl := List.mem_append_right _ (List.mem_append_right _ (List.mem_append_right _ (List.mem_append_right _ (List.mem_append_right _ (List.mem_of_getElem? (i := 27) rfl)))))
set_option maxRecDepth 20000 in
theorem se_m_quiet : Cond.selects yX7_quiet.cls yX7_quiet yX7_quiet ∈ lw_tbl := List.mem_append_right _ (List.mem_append_right _ (List.mem_append_right _ (List.mem_append_right _ (List.mem_append_right _ (List.mem_of_getElem? (i := 28) rfl)))))
abbrev mi_m_layRow : MI := (yX7_layRow, cX7_layRow, 9, none)
set_option maxRecDepth 20000 in
theorem ok_m_layRow : k_MI mi_m_layRow := ⟨List.mem_append_right _ (List.mem_append_right _ (List.mem_append_right _ (List.mem_append_right _ (List.mem_append_right _ (List.mem_of_getElem? (i := 37) rfl))))), ini_X7, ⟨by decide +kernel, by decide +kernel⟩, by decide +kernel, by decide⟩
theorem ar_m_layRow : k_arity yX7_layRow = some 1 := by decide +kernel
set_option maxRecDepth 20000 in
theorem in_m_layRow : Cond.instanceMethod yX7_layRow ∈ lw_tbl := List.mem_append_right _ (List.mem_append_right _ (List.mem_append_right _ (List.mem_append_right _ (List.mem_append_right _ (List.mem_of_getElem? (i := 36) rfl)))))
set_option maxRecDepth 20000 in
theorem se_m_layRow : Cond.selects yX7_layRow.cls yX7_layRow yX7_layRow ∈ lw_tbl := List.mem_append_left _ (List.mem_of_getElem? (i := 44) rfl)
abbrev mi_m_order : MI := (yX7_order, cX7_order, 8, (some .int))
set_option maxRecDepth 20000 in
theorem ok_m_order : k_MI mi_m_order := ⟨List.mem_append_right _ (List.mem_append_right _ (List.mem_append_right _ (List.mem_append_right _ (List.mem_append_right _ (List.mem_of_getElem? (i := 33) rfl))))), ini_X7, ⟨by decide +kernel, by decide +kernel⟩, by decide +kernel, by decide⟩
theorem ar_m_order : k_arity yX7_order = some 2 := by decide +kernel
set_option maxRecDepth 20000 in
theorem in_m_order : Cond.instanceMethod yX7_order ∈ lw_tbl := List.mem_append_right _ (List.mem_append_right _ (List.mem_append_right _ (List.mem_append_right _ (List.mem_append_right _ (List.mem_of_getElem? (i := 31) rfl)))))
set_option maxRecDepth 20000 in
theorem se_m_order : Cond.selects yX7_order.cls yX7_order yX7_order ∈ lw_tbl := List.mem_append_right _ (List.mem_append_right _ (List.mem_append_right _ (List.mem_append_right _ (List.mem_append_right _ (List.mem_of_getElem? (i := 32) rfl)))))
abbrev mi_m_fewest : MI := (yX7_fewest, cX7_fewest, 6, (some .int))
set_option maxRecDepth 20000 in
theorem ok_m_fewest : k_MI mi_m_fewest := ⟨List.mem_append_right _ (List.mem_append_right _ (List.mem_append_right _ (List.mem_append_right _ (List.mem_append_right _ (List.mem_of_getElem? (i := 41) rfl))))), ini_X7, ⟨by decide +kernel, by decide +kernel⟩, by decide +kernel, by decide⟩
theorem ar_m_fewest : k_arity yX7_fewest = some 3 := by decide +kernel
set_option maxRecDepth 20000 in
theorem in_m_fewest : Cond.instanceMethod yX7_fewest ∈ lw_tbl := List.mem_append_right _ (List.mem_append_right _ (List.mem_append_right _ (List.mem_append_right _ (List.mem_append_right _ (List.mem_of_getElem? (i := 39) rfl)))))
set_option maxRecDepth 20000 in
theorem se_m_fewest : Cond.selects yX7_fewest.cls yX7_fewest yX7_fewest ∈ lw_tbl := List.mem_append_right _ (List.mem_append_right _ (List.mem_append_right _ (List.mem_append_right _ (List.mem_append_right _ (List.mem_of_getElem? (i := 40) rfl)))))
abbrev mi_m_takeOut : MI := (yX7_takeOut, cX7_takeOut, 5, (some .int))
set_option maxRecDepth 20000 in
theorem ok_m_takeOut : k_MI mi_m_takeOut := ⟨List.mem_append_right _ (List.mem_append_right _ (List.mem_append_right _ (List.mem_append_right _ (List.mem_append_right _ (List.mem_of_getElem? (i := 49) rfl))))), ini_X7, ⟨by decide +kernel, by decide +kernel⟩, by decide +kernel, by decide⟩
theorem ar_m_takeOut : k_arity yX7_takeOut = some 3 := by decide +kernel
set_option maxRecDepth 20000 in
theorem in_m_takeOut : Cond.instanceMethod yX7_takeOut ∈ lw_tbl := List.mem_append_right _ (List.mem_append_right _ (List.mem_append_right _ (List.mem_append_right _ (List.mem_append_right _ (List.mem_of_getElem? (i := 48) rfl)))))
set_option maxRecDepth 20000 in
theorem se_m_takeOut : Cond.selects yX7_takeOut.cls yX7_takeOut yX7_takeOut ∈ lw_tbl := List.mem_append_left _ (List.mem_of_getElem? (i := 45) rfl)
abbrev mi_m_isSo : MI := (yX7_isSo, cX7_isSo, 5, (some .boolean))
set_option maxRecDepth 20000 in
theorem ok_m_isSo : k_MI mi_m_isSo := ⟨List.mem_append_right _ (List.mem_append_right _ (List.mem_append_right _ (List.mem_append_right _ (List.mem_append_right _ (List.mem_of_getElem? (i := 53) rfl))))), ini_X7, ⟨by decide +kernel, by decide +kernel⟩, by decide +kernel, by decide⟩
theorem ar_m_isSo : k_arity yX7_isSo = some 2 := by decide +kernel
set_option maxRecDepth 20000 in
theorem in_m_isSo : Cond.instanceMethod yX7_isSo ∈ lw_tbl := List.mem_append_right _ (List.mem_append_right _ (List.mem_append_right _ (List.mem_append_right _ (List.mem_append_right _ (List.mem_of_getElem? (i := 52) rfl)))))
set_option maxRecDepth 20000 in
theorem se_m_isSo : Cond.selects yX7_isSo.cls yX7_isSo yX7_isSo ∈ lw_tbl := List.mem_append_left _ (List.mem_of_getElem? (i := 46) rfl)
abbrev mi_m_missing : MI := (yX7_missing, cX7_missing, 7, (some .int))
set_option maxRecDepth 20000 in
theorem ok_m_missing : k_MI mi_m_missing := ⟨List.mem_append_right _ (List.mem_append_right _ (List.mem_append_right _ (List.mem_append_right _ (List.mem_append_right _ (List.mem_of_getElem? (i := 45) rfl))))), ini_X7, ⟨by decide +kernel, by decide +kernel⟩, by decide +kernel, by decide⟩
theorem ar_m_missing : k_arity yX7_missing = some 3 := by decide +kernel
set_option maxRecDepth 20000 in
theorem in_m_missing : Cond.instanceMethod yX7_missing ∈ lw_tbl := List.mem_append_right _ (List.mem_append_right _ (List.mem_append_right _ (List.mem_append_right _ (List.mem_append_right _ (List.mem_of_getElem? (i := 43) rfl)))))
set_option maxRecDepth 20000 in
theorem se_m_missing : Cond.selects yX7_missing.cls yX7_missing yX7_missing ∈ lw_tbl := List.mem_append_right _ (List.mem_append_right _ (List.mem_append_right _ (List.mem_append_right _ (List.mem_append_right _ (List.mem_of_getElem? (i := 44) rfl)))))
abbrev mi_m_windy : MI := (yX7_windy, cX7_windy, 7, (some .int))
set_option maxRecDepth 20000 in
theorem ok_m_windy : k_MI mi_m_windy := ⟨List.mem_append_right _ (List.mem_append_right _ (List.mem_append_right _ (List.mem_append_right _ (List.mem_append_right _ (List.mem_of_getElem? (i := 57) rfl))))), ini_X7, ⟨by decide +kernel, by decide +kernel⟩, by decide +kernel, by decide⟩
theorem ar_m_windy : k_arity yX7_windy = some 3 := by decide +kernel
set_option maxRecDepth 20000 in
theorem in_m_windy : Cond.instanceMethod yX7_windy ∈ lw_tbl := List.mem_append_right _ (List.mem_append_right _ (List.mem_append_right _ (List.mem_append_right _ (List.mem_append_right _ (List.mem_of_getElem? (i := 55) rfl)))))
set_option maxRecDepth 20000 in
theorem se_m_windy : Cond.selects yX7_windy.cls yX7_windy yX7_windy ∈ lw_tbl := List.mem_append_right _ (List.mem_append_right _ (List.mem_append_right _ (List.mem_append_right _ (List.mem_append_right _ (List.mem_of_getElem? (i := 56) rfl)))))
abbrev mi_m_sorts : MI := (yX7_sorts, cX7_sorts, 8, (some .int))
set_option maxRecDepth 20000 in
theorem ok_m_sorts : k_MI mi_m_sorts := ⟨List.mem_append_right _ (List.mem_append_right _ (List.mem_append_right _ (List.mem_append_right _ (List.mem_append_right _ (List.mem_of_getElem? (i := 61) rfl))))), ini_X7, ⟨by decide +kernel, by decide +kernel⟩, by decide +kernel, by decide⟩
theorem ar_m_sorts : k_arity yX7_sorts = some 4 := by decide +kernel
set_option maxRecDepth 20000 in
theorem in_m_sorts : Cond.instanceMethod yX7_sorts ∈ lw_tbl := List.mem_append_right _ (List.mem_append_right _ (List.mem_append_right _ (List.mem_append_right _ (List.mem_append_right _ (List.mem_of_getElem? (i := 59) rfl)))))
set_option maxRecDepth 20000 in
theorem se_m_sorts : Cond.selects yX7_sorts.cls yX7_sorts yX7_sorts ∈ lw_tbl := List.mem_append_right _ (List.mem_append_right _ (List.mem_append_right _ (List.mem_append_right _ (List.mem_append_right _ (List.mem_of_getElem? (i := 60) rfl)))))
abbrev mi_m_stay : MI := (yX7_stay, cX7_stay, 10, (some .int))
set_option maxRecDepth 20000 in
theorem ok_m_stay : k_MI mi_m_stay := ⟨List.mem_append_right _ (List.mem_append_right _ (List.mem_append_right _ (List.mem_append_right _ (List.mem_append_right _ (List.mem_of_getElem? (i := 65) rfl))))), ini_X7, ⟨by decide +kernel, by decide +kernel⟩, by decide +kernel, by decide⟩
theorem ar_m_stay : k_arity yX7_stay = some 4 := by decide +kernel
set_option maxRecDepth 20000 in
theorem in_m_stay : Cond.instanceMethod yX7_stay ∈ lw_tbl := List.mem_append_right _ (List.mem_append_right _ (List.mem_append_right _ (List.mem_append_right _ (List.mem_append_right _ (List.mem_of_getElem? (i := 63) rfl)))))
set_option maxRecDepth 20000 in
theorem se_m_stay : Cond.selects yX7_stay.cls yX7_stay yX7_stay ∈ lw_tbl := List.mem_append_right _ (List.mem_append_right _ (List.mem_append_right _ (List.mem_append_right _ (List.mem_append_right _ (List.mem_of_getElem? (i := 64) rfl)))))
abbrev mi_m_image : MI := (yX7_image, cX7_image, 2, (some .int))
set_option maxRecDepth 20000 in
theorem ok_m_image : k_MI mi_m_image := ⟨List.mem_append_right _ (List.mem_append_right _ (List.mem_append_right _ (List.mem_append_right _ (List.mem_append_right _ (List.mem_of_getElem? (i := 69) rfl))))), ini_X7, ⟨by decide +kernel, by decide +kernel⟩, by decide +kernel, by decide⟩
theorem ar_m_image : k_arity yX7_image = some 1 := by decide +kernel
set_option maxRecDepth 20000 in
theorem in_m_image : Cond.instanceMethod yX7_image ∈ lw_tbl := List.mem_append_right _ (List.mem_append_right _ (List.mem_append_right _ (List.mem_append_right _ (List.mem_append_right _ (List.mem_of_getElem? (i := 67) rfl)))))
set_option maxRecDepth 20000 in
theorem se_m_image : Cond.selects yX7_image.cls yX7_image yX7_image ∈ lw_tbl := List.mem_append_right _ (List.mem_append_right _ (List.mem_append_right _ (List.mem_append_right _ (List.mem_append_right _ (List.mem_of_getElem? (i := 68) rfl)))))
abbrev mi_m_restore : MI := (yX7_restore, cX7_restore, 2, (some .int))
set_option maxRecDepth 20000 in
theorem ok_m_restore : k_MI mi_m_restore := ⟨List.mem_append_right _ (List.mem_append_right _ (List.mem_append_right _ (List.mem_append_right _ (List.mem_append_right _ (List.mem_of_getElem? (i := 73) rfl))))), ini_X7, ⟨by decide +kernel, by decide +kernel⟩, by decide +kernel, by decide⟩
theorem ar_m_restore : k_arity yX7_restore = some 1 := by decide +kernel
set_option maxRecDepth 20000 in
theorem in_m_restore : Cond.instanceMethod yX7_restore ∈ lw_tbl := List.mem_append_right _ (List.mem_append_right _ (List.mem_append_right _ (List.mem_append_right _ (List.mem_append_right _ (List.mem_of_getElem? (i := 71) rfl)))))
set_option maxRecDepth 20000 in
theorem se_m_restore : Cond.selects yX7_restore.cls yX7_restore yX7_restore ∈ lw_tbl := List.mem_append_right _ (List.mem_append_right _ (List.mem_append_right _ (List.mem_append_right _ (List.mem_append_right _ (List.mem_of_getElem? (i := 72) rfl)))))
abbrev mi_m_kind : MI := (yX7_kind, cX7_kind, 2, (some .int))
set_option maxRecDepth 20000 in
theorem ok_m_kind : k_MI mi_m_kind := ⟨List.mem_append_right _ (List.mem_append_right _ (List.mem_append_right _ (List.mem_append_right _ (List.mem_append_right _ (List.mem_of_getElem? (i := 77) rfl))))), ini_X7, ⟨by decide +kernel, by decide +kernel⟩, by decide +kernel, by decide⟩
theorem ar_m_kind : k_arity yX7_kind = some 1 := by decide +kernel
set_option maxRecDepth 20000 in
theorem in_m_kind : Cond.instanceMethod yX7_kind ∈ lw_tbl := List.mem_append_right _ (List.mem_append_right _ (List.mem_append_right _ (List.mem_append_right _ (List.mem_append_right _ (List.mem_of_getElem? (i := 75) rfl)))))
set_option maxRecDepth 20000 in
theorem se_m_kind : Cond.selects yX7_kind.cls yX7_kind yX7_kind ∈ lw_tbl := List.mem_append_right _ (List.mem_append_right _ (List.mem_append_right _ (List.mem_append_right _ (List.mem_append_right _ (List.mem_of_getElem? (i := 76) rfl)))))
abbrev mi_m_parentOf : MI := (yX7_parentOf, cX7_parentOf, 1, (some .int))
set_option maxRecDepth 20000 in
theorem ok_m_parentOf : k_MI mi_m_parentOf := ⟨List.mem_append_right _ (List.mem_append_right _ (List.mem_append_right _ (List.mem_append_right _ (List.mem_append_right _ (List.mem_of_getElem? (i := 84) rfl))))), ini_X7, ⟨by decide +kernel, by decide +kernel⟩, by decide +kernel, by decide⟩
theorem ar_m_parentOf : k_arity yX7_parentOf = some 1 := by decide +kernel
set_option maxRecDepth 20000 in
theorem st_m_parentOf : Cond.static yX7_parentOf ∈ lw_tbl := List.mem_append_right _ (List.mem_append_right _ (List.mem_append_right _ (List.mem_append_right _ (List.mem_append_right _ (List.mem_of_getElem? (i := 83) rfl)))))
abbrev mi_m_as : MI := (yX7_as, cX7_as, 5, (some .int))
set_option maxRecDepth 20000 in
theorem ok_m_as : k_MI mi_m_as := ⟨List.mem_append_right _ (List.mem_append_right _ (List.mem_append_right _ (List.mem_append_right _ (List.mem_append_right _ (List.mem_of_getElem? (i := 81) rfl))))), ini_X7, ⟨by decide +kernel, by decide +kernel⟩, by decide +kernel, by decide⟩
theorem ar_m_as : k_arity yX7_as = some 2 := by decide +kernel
set_option maxRecDepth 20000 in
theorem in_m_as : Cond.instanceMethod yX7_as ∈ lw_tbl := List.mem_append_right _ (List.mem_append_right _ (List.mem_append_right _ (List.mem_append_right _ (List.mem_append_right _ (List.mem_of_getElem? (i := 79) rfl)))))
set_option maxRecDepth 20000 in
theorem se_m_as : Cond.selects yX7_as.cls yX7_as yX7_as ∈ lw_tbl := List.mem_append_right _ (List.mem_append_right _ (List.mem_append_right _ (List.mem_append_right _ (List.mem_append_right _ (List.mem_of_getElem? (i := 80) rfl)))))
abbrev mi_m_begins : MI := (yX7_begins, cX7_begins, 2, none)
set_option maxRecDepth 20000 in
theorem ok_m_begins : k_MI mi_m_begins := ⟨List.mem_append_right _ (List.mem_append_right _ (List.mem_append_right _ (List.mem_append_right _ (List.mem_append_right _ (List.mem_of_getElem? (i := 96) rfl))))), ini_X7, ⟨by decide +kernel, by decide +kernel⟩, by decide +kernel, by decide⟩
theorem ar_m_begins : k_arity yX7_begins = some 1 := by decide +kernel
set_option maxRecDepth 20000 in
theorem in_m_begins : Cond.instanceMethod yX7_begins ∈ lw_tbl := List.mem_append_right _ (List.mem_append_right _ (List.mem_append_right _ (List.mem_append_right _ (List.mem_append_right _ (List.mem_of_getElem? (i := 95) rfl)))))
set_option maxRecDepth 20000 in
theorem se_m_begins : Cond.selects yX7_begins.cls yX7_begins yX7_begins ∈ lw_tbl := List.mem_append_left _ (List.mem_of_getElem? (i := 48) rfl)
abbrev mi_m_markPlain : MI := (yX7_markPlain, cX7_markPlain, 2, (some .int))
set_option maxRecDepth 20000 in
theorem ok_m_markPlain : k_MI mi_m_markPlain := ⟨List.mem_append_right _ (List.mem_append_right _ (List.mem_append_right _ (List.mem_append_right _ (List.mem_append_right _ (List.mem_of_getElem? (i := 108) rfl))))), ini_X7, ⟨by decide +kernel, by decide +kernel⟩, by decide +kernel, by decide⟩
theorem ar_m_markPlain : k_arity yX7_markPlain = some 1 := by decide +kernel
set_option maxRecDepth 20000 in
theorem in_m_markPlain : Cond.instanceMethod yX7_markPlain ∈ lw_tbl := List.mem_append_right _ (List.mem_append_right _ (List.mem_append_right _ (List.mem_append_right _ (List.mem_append_right _ (List.mem_of_getElem? (i := 107) rfl)))))
set_option maxRecDepth 20000 in
theorem se_m_markPlain : Cond.selects yX7_markPlain.cls yX7_markPlain yX7_markPlain ∈ lw_tbl := List.mem_append_left _ (List.mem_of_getElem? (i := 51) rfl)
abbrev mi_m_markWarm : MI := (yX7_markWarm, cX7_markWarm, 3, (some .int))
set_option maxRecDepth 20000 in
theorem ok_m_markWarm : k_MI mi_m_markWarm := ⟨List.mem_append_right _ (List.mem_append_right _ (List.mem_append_right _ (List.mem_append_right _ (List.mem_append_right _ (List.mem_of_getElem? (i := 104) rfl))))), ini_X7, ⟨by decide +kernel, by decide +kernel⟩, by decide +kernel, by decide⟩
theorem ar_m_markWarm : k_arity yX7_markWarm = some 1 := by decide +kernel
set_option maxRecDepth 20000 in
theorem in_m_markWarm : Cond.instanceMethod yX7_markWarm ∈ lw_tbl := List.mem_append_right _ (List.mem_append_right _ (List.mem_append_right _ (List.mem_append_right _ (List.mem_append_right _ (List.mem_of_getElem? (i := 103) rfl)))))
set_option maxRecDepth 20000 in
theorem se_m_markWarm : Cond.selects yX7_markWarm.cls yX7_markWarm yX7_markWarm ∈ lw_tbl := List.mem_append_left _ (List.mem_of_getElem? (i := 50) rfl)
abbrev mi_m_sizeNervous : MI := (yX7_sizeNervous, cX7_sizeNervous, 2, (some .int))
set_option maxRecDepth 20000 in
theorem ok_m_sizeNervous : k_MI mi_m_sizeNervous := ⟨List.mem_append_right _ (List.mem_append_right _ (List.mem_append_right _ (List.mem_append_right _ (List.mem_append_right _ (List.mem_of_getElem? (i := 100) rfl))))), ini_X7, ⟨by decide +kernel, by decide +kernel⟩, by decide +kernel, by decide⟩
theorem ar_m_sizeNervous : k_arity yX7_sizeNervous = some 1 := by decide +kernel
set_option maxRecDepth 20000 in
theorem in_m_sizeNervous : Cond.instanceMethod yX7_sizeNervous ∈ lw_tbl := List.mem_append_right _ (List.mem_append_right _ (List.mem_append_right _ (List.mem_append_right _ (List.mem_append_right _ (List.mem_of_getElem? (i := 99) rfl)))))
set_option maxRecDepth 20000 in
theorem se_m_sizeNervous : Cond.selects yX7_sizeNervous.cls yX7_sizeNervous yX7_sizeNervous ∈ lw_tbl := List.mem_append_left _ (List.mem_of_getElem? (i := 49) rfl)
abbrev mi_m_sizeOf : MI := (yX7_sizeOf, cX7_sizeOf, 4, (some .int))
set_option maxRecDepth 20000 in
theorem ok_m_sizeOf : k_MI mi_m_sizeOf := ⟨List.mem_append_right _ (List.mem_append_right _ (List.mem_append_right _ (List.mem_append_right _ (List.mem_append_right _ (List.mem_of_getElem? (i := 92) rfl))))), ini_X7, ⟨by decide +kernel, by decide +kernel⟩, by decide +kernel, by decide⟩
theorem ar_m_sizeOf : k_arity yX7_sizeOf = some 1 := by decide +kernel
set_option maxRecDepth 20000 in
theorem in_m_sizeOf : Cond.instanceMethod yX7_sizeOf ∈ lw_tbl := List.mem_append_right _ (List.mem_append_right _ (List.mem_append_right _ (List.mem_append_right _ (List.mem_append_right _ (List.mem_of_getElem? (i := 91) rfl)))))
set_option maxRecDepth 20000 in
theorem se_m_sizeOf : Cond.selects yX7_sizeOf.cls yX7_sizeOf yX7_sizeOf ∈ lw_tbl := List.mem_append_left _ (List.mem_of_getElem? (i := 47) rfl)
abbrev mi_m_markOf : MI := (yX7_markOf, cX7_markOf, 2, (some .int))
set_option maxRecDepth 20000 in
theorem ok_m_markOf : k_MI mi_m_markOf := ⟨List.mem_append_right _ (List.mem_append_right _ (List.mem_append_right _ (List.mem_append_right _ (List.mem_append_right _ (List.mem_of_getElem? (i := 112) rfl))))), ini_X7, ⟨by decide +kernel, by decide +kernel⟩, by decide +kernel, by decide⟩
theorem ar_m_markOf : k_arity yX7_markOf = some 1 := by decide +kernel
set_option maxRecDepth 20000 in
theorem in_m_markOf : Cond.instanceMethod yX7_markOf ∈ lw_tbl := List.mem_append_right _ (List.mem_append_right _ (List.mem_append_right _ (List.mem_append_right _ (List.mem_append_right _ (List.mem_of_getElem? (i := 111) rfl)))))
set_option maxRecDepth 20000 in
theorem se_m_markOf : Cond.selects yX7_markOf.cls yX7_markOf yX7_markOf ∈ lw_tbl := List.mem_append_left _ (List.mem_of_getElem? (i := 52) rfl)
abbrev mi_m_ask : MI := (yX7_ask, cX7_ask, 3, (some .int))
set_option maxRecDepth 20000 in
theorem ok_m_ask : k_MI mi_m_ask := ⟨List.mem_append_right _ (List.mem_append_right _ (List.mem_append_right _ (List.mem_append_right _ (List.mem_append_right _ (List.mem_of_getElem? (i := 88) rfl))))), ini_X7, ⟨by decide +kernel, by decide +kernel⟩, by decide +kernel, by decide⟩
theorem ar_m_ask : k_arity yX7_ask = some 2 := by decide +kernel
set_option maxRecDepth 20000 in
theorem in_m_ask : Cond.instanceMethod yX7_ask ∈ lw_tbl := List.mem_append_right _ (List.mem_append_right _ (List.mem_append_right _ (List.mem_append_right _ (List.mem_append_right _ (List.mem_of_getElem? (i := 86) rfl)))))
set_option maxRecDepth 20000 in
theorem se_m_ask : Cond.selects yX7_ask.cls yX7_ask yX7_ask ∈ lw_tbl := List.mem_append_right _ (List.mem_append_right _ (List.mem_append_right _ (List.mem_append_right _ (List.mem_append_right _ (List.mem_of_getElem? (i := 87) rfl)))))
abbrev mi_m_trace : MI := (yX7_trace, cX7_trace, 2, (some .int))
set_option maxRecDepth 20000 in
theorem ok_m_trace : k_MI mi_m_trace := ⟨List.mem_append_right _ (List.mem_append_right _ (List.mem_append_right _ (List.mem_append_right _ (List.mem_append_right _ (List.mem_of_getElem? (i := 116) rfl))))), ini_X7, ⟨by decide +kernel, by decide +kernel⟩, by decide +kernel, by decide⟩
theorem ar_m_trace : k_arity yX7_trace = some 1 := by decide +kernel
set_option maxRecDepth 20000 in
theorem in_m_trace : Cond.instanceMethod yX7_trace ∈ lw_tbl := List.mem_append_right _ (List.mem_append_right _ (List.mem_append_right _ (List.mem_append_right _ (List.mem_append_right _ (List.mem_of_getElem? (i := 114) rfl)))))
set_option maxRecDepth 20000 in
theorem se_m_trace : Cond.selects yX7_trace.cls yX7_trace yX7_trace ∈ lw_tbl := List.mem_append_right _ (List.mem_append_right _ (List.mem_append_right _ (List.mem_append_right _ (List.mem_append_right _ (List.mem_of_getElem? (i := 115) rfl)))))
abbrev mi_m_count : MI := (yX7_count, cX7_count, 4, (some .int))
set_option maxRecDepth 20000 in
theorem ok_m_count : k_MI mi_m_count := ⟨List.mem_append_right _ (List.mem_append_right _ (List.mem_append_right _ (List.mem_append_right _ (List.mem_append_right _ (List.mem_of_getElem? (i := 120) rfl))))), ini_X7, ⟨by decide +kernel, by decide +kernel⟩, by decide +kernel, by decide⟩
theorem ar_m_count : k_arity yX7_count = some 1 := by decide +kernel
set_option maxRecDepth 20000 in
theorem in_m_count : Cond.instanceMethod yX7_count ∈ lw_tbl := List.mem_append_right _ (List.mem_append_right _ (List.mem_append_right _ (List.mem_append_right _ (List.mem_append_right _ (List.mem_of_getElem? (i := 118) rfl)))))
set_option maxRecDepth 20000 in
theorem se_m_count : Cond.selects yX7_count.cls yX7_count yX7_count ∈ lw_tbl := List.mem_append_right _ (List.mem_append_right _ (List.mem_append_right _ (List.mem_append_right _ (List.mem_append_right _ (List.mem_of_getElem? (i := 119) rfl)))))
abbrev mi_m_status : MI := (yX7_status, cX7_status, 1, (some .int))
set_option maxRecDepth 20000 in
theorem ok_m_status : k_MI mi_m_status := ⟨List.mem_append_right _ (List.mem_append_right _ (List.mem_append_right _ (List.mem_append_right _ (List.mem_append_right _ (List.mem_of_getElem? (i := 124) rfl))))), ini_X7, ⟨by decide +kernel, by decide +kernel⟩, by decide +kernel, by decide⟩
theorem ar_m_status : k_arity yX7_status = some 0 := by decide +kernel
set_option maxRecDepth 20000 in
theorem in_m_status : Cond.instanceMethod yX7_status ∈ lw_tbl := List.mem_append_right _ (List.mem_append_right _ (List.mem_append_right _ (List.mem_append_right _ (List.mem_append_right _ (List.mem_of_getElem? (i := 122) rfl)))))
set_option maxRecDepth 20000 in
theorem se_m_status : Cond.selects yX7_status.cls yX7_status yX7_status ∈ lw_tbl := List.mem_append_right _ (List.mem_append_right _ (List.mem_append_right _ (List.mem_append_right _ (List.mem_append_right _ (List.mem_of_getElem? (i := 123) rfl)))))
abbrev mi_J_bitCount : MI := (yJ6_bitCount_0f7a4, cJ6_bitCount_0f7a4, 1, (some .int))
set_option maxRecDepth 20000 in
theorem ok_J_bitCount : k_MI mi_J_bitCount := ⟨List.mem_append_right _ (List.mem_append_right _ (List.mem_append_right _ (List.mem_append_left _ (List.mem_of_getElem? (i := 77) rfl)))), ini_J6, ⟨by decide +kernel, by decide +kernel⟩, by decide +kernel, by decide⟩
theorem ar_J_bitCount : k_arity yJ6_bitCount_0f7a4 = some 1 := by decide +kernel
set_option maxRecDepth 20000 in
theorem st_J_bitCount : Cond.static yJ6_bitCount_0f7a4 ∈ lw_tbl := List.mem_append_right _ (List.mem_append_right _ (List.mem_append_right _ (List.mem_append_left _ (List.mem_of_getElem? (i := 76) rfl))))
theorem ki_0_0 : (0 : Int32).toInt = (0 : Int) + ((0 : Nat) : Int) := by decide +kernel
theorem ki_0_1 : (1 : Int32).toInt = (0 : Int) + ((0 + 1 : Nat) : Int) := by decide +kernel
theorem ki_0_2 : (2 : Int32).toInt = (0 : Int) + ((0 + 1 + 1 : Nat) : Int) := by decide +kernel
theorem ki_0_3 : (3 : Int32).toInt = (0 : Int) + ((0 + 1 + 1 + 1 : Nat) : Int) := by decide +kernel
theorem ki_0_4 : (4 : Int32).toInt = (0 : Int) + ((0 + 1 + 1 + 1 + 1 : Nat) : Int) := by decide +kernel
theorem ki_0_5 : (5 : Int32).toInt = (0 : Int) + ((0 + 1 + 1 + 1 + 1 + 1 : Nat) : Int) := by decide +kernel
theorem ki_0_6 : (6 : Int32).toInt = (0 : Int) + ((0 + 1 + 1 + 1 + 1 + 1 + 1 : Nat) : Int) := by decide +kernel
theorem ki_0_7 : (7 : Int32).toInt = (0 : Int) + ((0 + 1 + 1 + 1 + 1 + 1 + 1 + 1 : Nat) : Int) := by decide +kernel
theorem ki_2_0 : (2 : Int32).toInt = (2 : Int) + ((0 : Nat) : Int) := by decide +kernel
theorem ki_2_1 : (3 : Int32).toInt = (2 : Int) + ((0 + 1 : Nat) : Int) := by decide +kernel
theorem ki_2_2 : (4 : Int32).toInt = (2 : Int) + ((0 + 1 + 1 : Nat) : Int) := by decide +kernel
theorem ki_2_3 : (5 : Int32).toInt = (2 : Int) + ((0 + 1 + 1 + 1 : Nat) : Int) := by decide +kernel
theorem ki_10_0 : (10 : Int32).toInt = (10 : Int) + ((0 : Nat) : Int) := by decide +kernel
theorem ki_10_1 : (11 : Int32).toInt = (10 : Int) + ((0 + 1 : Nat) : Int) := by decide +kernel
theorem ki_10_2 : (12 : Int32).toInt = (10 : Int) + ((0 + 1 + 1 : Nat) : Int) := by decide +kernel
theorem ki_10_3 : (13 : Int32).toInt = (10 : Int) + ((0 + 1 + 1 + 1 : Nat) : Int) := by decide +kernel
theorem ki_10_4 : (14 : Int32).toInt = (10 : Int) + ((0 + 1 + 1 + 1 + 1 : Nat) : Int) := by decide +kernel
theorem ki_10_5 : (15 : Int32).toInt = (10 : Int) + ((0 + 1 + 1 + 1 + 1 + 1 : Nat) : Int) := by decide +kernel
theorem ki_10_6 : (16 : Int32).toInt = (10 : Int) + ((0 + 1 + 1 + 1 + 1 + 1 + 1 : Nat) : Int) := by decide +kernel
theorem ki_10_7 : (17 : Int32).toInt = (10 : Int) + ((0 + 1 + 1 + 1 + 1 + 1 + 1 + 1 : Nat) : Int) := by decide +kernel
theorem ki_10_8 : (18 : Int32).toInt = (10 : Int) + ((0 + 1 + 1 + 1 + 1 + 1 + 1 + 1 + 1 : Nat) : Int) := by decide +kernel
theorem ki_10_9 : (19 : Int32).toInt = (10 : Int) + ((0 + 1 + 1 + 1 + 1 + 1 + 1 + 1 + 1 + 1 : Nat) : Int) := by decide +kernel
theorem ki_10_10 : (20 : Int32).toInt = (10 : Int) + ((0 + 1 + 1 + 1 + 1 + 1 + 1 + 1 + 1 + 1 + 1 : Nat) : Int) := by decide +kernel
theorem ki_10_11 : (21 : Int32).toInt = (10 : Int) + ((0 + 1 + 1 + 1 + 1 + 1 + 1 + 1 + 1 + 1 + 1 + 1 : Nat) : Int) := by decide +kernel
theorem ki_10_12 : (22 : Int32).toInt = (10 : Int) + ((0 + 1 + 1 + 1 + 1 + 1 + 1 + 1 + 1 + 1 + 1 + 1 + 1 : Nat) : Int) := by decide +kernel
theorem ki_10_13 : (23 : Int32).toInt = (10 : Int) + ((0 + 1 + 1 + 1 + 1 + 1 + 1 + 1 + 1 + 1 + 1 + 1 + 1 + 1 : Nat) : Int) := by decide +kernel
theorem ki_10_14 : (24 : Int32).toInt = (10 : Int) + ((0 + 1 + 1 + 1 + 1 + 1 + 1 + 1 + 1 + 1 + 1 + 1 + 1 + 1 + 1 : Nat) : Int) := by decide +kernel
theorem kc_b_m3 : (Int8.ofInt (-3)).toInt32 = (-3 : Int32) := by decide +kernel
theorem kc_b_m2 : (Int8.ofInt (-2)).toInt32 = (-2 : Int32) := by decide +kernel
theorem kc_b_6 : (Int8.ofInt (6)).toInt32 = (6 : Int32) := by decide +kernel
theorem kc_b_7 : (Int8.ofInt (7)).toInt32 = (7 : Int32) := by decide +kernel
theorem kc_b_8 : (Int8.ofInt (8)).toInt32 = (8 : Int32) := by decide +kernel
theorem kc_b_9 : (Int8.ofInt (9)).toInt32 = (9 : Int32) := by decide +kernel
theorem kc_b_10 : (Int8.ofInt (10)).toInt32 = (10 : Int32) := by decide +kernel
theorem kc_b_11 : (Int8.ofInt (11)).toInt32 = (11 : Int32) := by decide +kernel
theorem kc_b_12 : (Int8.ofInt (12)).toInt32 = (12 : Int32) := by decide +kernel
theorem kc_b_13 : (Int8.ofInt (13)).toInt32 = (13 : Int32) := by decide +kernel
theorem kc_b_14 : (Int8.ofInt (14)).toInt32 = (14 : Int32) := by decide +kernel
theorem kc_b_16 : (Int8.ofInt (16)).toInt32 = (16 : Int32) := by decide +kernel
theorem kc_b_20 : (Int8.ofInt (20)).toInt32 = (20 : Int32) := by decide +kernel
theorem kc_b_21 : (Int8.ofInt (21)).toInt32 = (21 : Int32) := by decide +kernel
theorem kc_b_22 : (Int8.ofInt (22)).toInt32 = (22 : Int32) := by decide +kernel
theorem kc_b_23 : (Int8.ofInt (23)).toInt32 = (23 : Int32) := by decide +kernel
theorem kc_b_24 : (Int8.ofInt (24)).toInt32 = (24 : Int32) := by decide +kernel
theorem kc_b_27 : (Int8.ofInt (27)).toInt32 = (27 : Int32) := by decide +kernel
theorem kc_b_31 : (Int8.ofInt (31)).toInt32 = (31 : Int32) := by decide +kernel
theorem kc_b_32 : (Int8.ofInt (32)).toInt32 = (32 : Int32) := by decide +kernel
theorem kc_b_37 : (Int8.ofInt (37)).toInt32 = (37 : Int32) := by decide +kernel
theorem kc_b_40 : (Int8.ofInt (40)).toInt32 = (40 : Int32) := by decide +kernel
theorem kc_b_42 : (Int8.ofInt (42)).toInt32 = (42 : Int32) := by decide +kernel
theorem kc_b_44 : (Int8.ofInt (44)).toInt32 = (44 : Int32) := by decide +kernel
theorem kc_b_47 : (Int8.ofInt (47)).toInt32 = (47 : Int32) := by decide +kernel
theorem kc_b_48 : (Int8.ofInt (48)).toInt32 = (48 : Int32) := by decide +kernel
theorem kc_b_57 : (Int8.ofInt (57)).toInt32 = (57 : Int32) := by decide +kernel
theorem kc_b_59 : (Int8.ofInt (59)).toInt32 = (59 : Int32) := by decide +kernel
theorem kc_b_60 : (Int8.ofInt (60)).toInt32 = (60 : Int32) := by decide +kernel
theorem kc_b_63 : (Int8.ofInt (63)).toInt32 = (63 : Int32) := by decide +kernel
theorem kc_b_64 : (Int8.ofInt (64)).toInt32 = (64 : Int32) := by decide +kernel
theorem kc_b_94 : (Int8.ofInt (94)).toInt32 = (94 : Int32) := by decide +kernel
theorem kc_b_97 : (Int8.ofInt (97)).toInt32 = (97 : Int32) := by decide +kernel
theorem kc_b_99 : (Int8.ofInt (99)).toInt32 = (99 : Int32) := by decide +kernel
theorem kc_b_100 : (Int8.ofInt (100)).toInt32 = (100 : Int32) := by decide +kernel
theorem kc_b_102 : (Int8.ofInt (102)).toInt32 = (102 : Int32) := by decide +kernel
theorem kc_b_105 : (Int8.ofInt (105)).toInt32 = (105 : Int32) := by decide +kernel
theorem kc_b_106 : (Int8.ofInt (106)).toInt32 = (106 : Int32) := by decide +kernel
theorem kc_b_108 : (Int8.ofInt (108)).toInt32 = (108 : Int32) := by decide +kernel
theorem kc_b_110 : (Int8.ofInt (110)).toInt32 = (110 : Int32) := by decide +kernel
theorem kc_b_112 : (Int8.ofInt (112)).toInt32 = (112 : Int32) := by decide +kernel
theorem kc_b_113 : (Int8.ofInt (113)).toInt32 = (113 : Int32) := by decide +kernel
theorem kc_b_116 : (Int8.ofInt (116)).toInt32 = (116 : Int32) := by decide +kernel
theorem kc_b_120 : (Int8.ofInt (120)).toInt32 = (120 : Int32) := by decide +kernel
theorem kc_b_122 : (Int8.ofInt (122)).toInt32 = (122 : Int32) := by decide +kernel
theorem kc_i_m1 : Int32.ofInt (-1) = (-1 : Int32) := by decide +kernel
theorem kc_i_0 : Int32.ofInt (0) = (0 : Int32) := by decide +kernel
theorem kc_i_1 : Int32.ofInt (1) = (1 : Int32) := by decide +kernel
theorem kc_i_2 : Int32.ofInt (2) = (2 : Int32) := by decide +kernel
theorem kc_i_3 : Int32.ofInt (3) = (3 : Int32) := by decide +kernel
theorem kc_i_4 : Int32.ofInt (4) = (4 : Int32) := by decide +kernel
theorem kc_i_5 : Int32.ofInt (5) = (5 : Int32) := by decide +kernel
theorem kc_s_128 : (Int16.ofInt (128)).toInt32 = (128 : Int32) := by decide +kernel
theorem kc_s_144 : (Int16.ofInt (144)).toInt32 = (144 : Int32) := by decide +kernel
theorem kc_s_255 : (Int16.ofInt (255)).toInt32 = (255 : Int32) := by decide +kernel
theorem kc_s_320 : (Int16.ofInt (320)).toInt32 = (320 : Int32) := by decide +kernel
theorem kc_s_720 : (Int16.ofInt (720)).toInt32 = (720 : Int32) := by decide +kernel
theorem kc_s_1000 : (Int16.ofInt (1000)).toInt32 = (1000 : Int32) := by decide +kernel
theorem kc_s_1081 : (Int16.ofInt (1081)).toInt32 = (1081 : Int32) := by decide +kernel
theorem kc_s_1128 : (Int16.ofInt (1128)).toInt32 = (1128 : Int32) := by decide +kernel
theorem kc_s_9999 : (Int16.ofInt (9999)).toInt32 = (9999 : Int32) := by decide +kernel
set_option maxRecDepth 20000 in
theorem fl_X6_10 : k_FL RX6 10 6 0 := ⟨by decide, by decide, List.mem_append_right _ (List.mem_append_left _ (List.mem_of_getElem? (i := 227) rfl))⟩
set_option maxRecDepth 20000 in
theorem fl_X6_19 : k_FL RX6 19 6 1 := ⟨by decide, by decide, List.mem_append_right _ (List.mem_append_left _ (List.mem_of_getElem? (i := 228) rfl))⟩
set_option maxRecDepth 20000 in
theorem fl_X6_26 : k_FL RX6 26 6 2 := ⟨by decide, by decide, List.mem_append_right _ (List.mem_append_left _ (List.mem_of_getElem? (i := 229) rfl))⟩
set_option maxRecDepth 20000 in
theorem fl_X6_30 : k_FL RX6 30 6 3 := ⟨by decide, by decide, List.mem_append_right _ (List.mem_append_left _ (List.mem_of_getElem? (i := 230) rfl))⟩
set_option maxRecDepth 20000 in
theorem fl_X6_33 : k_FL RX6 33 6 4 := ⟨by decide, by decide, List.mem_append_right _ (List.mem_append_left _ (List.mem_of_getElem? (i := 231) rfl))⟩
set_option maxRecDepth 20000 in
theorem fl_X6_39 : k_FL RX6 39 6 5 := ⟨by decide, by decide, List.mem_append_right _ (List.mem_append_left _ (List.mem_of_getElem? (i := 232) rfl))⟩
set_option maxRecDepth 20000 in
theorem fl_X6_46 : k_FL RX6 46 6 6 := ⟨by decide, by decide, List.mem_append_right _ (List.mem_append_left _ (List.mem_of_getElem? (i := 233) rfl))⟩
set_option maxRecDepth 20000 in
theorem fl_X6_53 : k_FL RX6 53 6 7 := ⟨by decide, by decide, List.mem_append_right _ (List.mem_append_left _ (List.mem_of_getElem? (i := 234) rfl))⟩
set_option maxRecDepth 20000 in
theorem fl_X6_57 : k_FL RX6 57 6 8 := ⟨by decide, by decide, List.mem_append_right _ (List.mem_append_left _ (List.mem_of_getElem? (i := 235) rfl))⟩
set_option maxRecDepth 20000 in
theorem fl_X6_88 : k_FL RX6 88 4 0 := ⟨by decide, by decide, List.mem_append_right _ (List.mem_append_left _ (List.mem_of_getElem? (i := 27) rfl))⟩
set_option maxRecDepth 20000 in
theorem fl_X6_99 : k_FL RX6 99 3 1 := ⟨by decide, by decide, List.mem_append_right _ (List.mem_append_left _ (List.mem_of_getElem? (i := 47) rfl))⟩
set_option maxRecDepth 20000 in
theorem fl_X6_107 : k_FL RX6 107 2 0 := ⟨by decide, by decide, List.mem_append_right _ (List.mem_append_left _ (List.mem_of_getElem? (i := 192) rfl))⟩
set_option maxRecDepth 20000 in
theorem fl_X6_115 : k_FL RX6 115 3 3 := ⟨by decide, by decide, List.mem_append_right _ (List.mem_append_left _ (List.mem_of_getElem? (i := 51) rfl))⟩
set_option maxRecDepth 20000 in
theorem fl_X6_125 : k_FL RX6 125 5 1 := ⟨by decide, by decide, List.mem_append_right _ (List.mem_append_left _ (List.mem_of_getElem? (i := 89) rfl))⟩
set_option maxRecDepth 20000 in
theorem fl_X6_128 : k_FL RX6 128 3 2 := ⟨by decide, by decide, List.mem_append_right _ (List.mem_append_left _ (List.mem_of_getElem? (i := 49) rfl))⟩
set_option maxRecDepth 20000 in
theorem fl_X6_136 : k_FL RX6 136 5 2 := ⟨by decide, by decide, List.mem_append_right _ (List.mem_append_left _ (List.mem_of_getElem? (i := 92) rfl))⟩
set_option maxRecDepth 20000 in
theorem fl_X6_145 : k_FL RX6 145 5 4 := ⟨by decide, by decide, List.mem_append_right _ (List.mem_append_left _ (List.mem_of_getElem? (i := 101) rfl))⟩
set_option maxRecDepth 20000 in
theorem fl_X6_148 : k_FL RX6 148 5 0 := ⟨by decide, by decide, List.mem_append_right _ (List.mem_append_left _ (List.mem_of_getElem? (i := 85) rfl))⟩
set_option maxRecDepth 20000 in
theorem fl_X6_155 : k_FL RX6 155 5 7 := ⟨by decide, by decide, List.mem_append_right _ (List.mem_append_left _ (List.mem_of_getElem? (i := 112) rfl))⟩
set_option maxRecDepth 20000 in
theorem fl_X6_158 : k_FL RX6 158 5 3 := ⟨by decide, by decide, List.mem_append_right _ (List.mem_append_left _ (List.mem_of_getElem? (i := 97) rfl))⟩
set_option maxRecDepth 20000 in
theorem fl_X6_164 : k_FL RX6 164 5 11 := ⟨by decide, by decide, List.mem_append_right _ (List.mem_append_left _ (List.mem_of_getElem? (i := 128) rfl))⟩
set_option maxRecDepth 20000 in
theorem fl_X6_173 : k_FL RX6 173 0 0 := ⟨by decide, by decide, List.mem_append_right _ (List.mem_append_left _ (List.mem_of_getElem? (i := 161) rfl))⟩
set_option maxRecDepth 20000 in
theorem fl_X6_179 : k_FL RX6 179 5 9 := ⟨by decide, by decide, List.mem_append_right _ (List.mem_append_left _ (List.mem_of_getElem? (i := 121) rfl))⟩
set_option maxRecDepth 20000 in
theorem fl_X6_182 : k_FL RX6 182 5 10 := ⟨by decide, by decide, List.mem_append_right _ (List.mem_append_left _ (List.mem_of_getElem? (i := 124) rfl))⟩
set_option maxRecDepth 20000 in
theorem fl_X6_191 : k_FL RX6 191 5 5 := ⟨by decide, by decide, List.mem_append_right _ (List.mem_append_left _ (List.mem_of_getElem? (i := 104) rfl))⟩
set_option maxRecDepth 20000 in
theorem fl_X6_194 : k_FL RX6 194 5 6 := ⟨by decide, by decide, List.mem_append_right _ (List.mem_append_left _ (List.mem_of_getElem? (i := 107) rfl))⟩
set_option maxRecDepth 20000 in
theorem fl_X6_228 : k_FL RX6 228 2 1 := ⟨by decide, by decide, List.mem_append_right _ (List.mem_append_left _ (List.mem_of_getElem? (i := 194) rfl))⟩
set_option maxRecDepth 20000 in
theorem fl_X6_267 : k_FL RX6 267 5 8 := ⟨by decide, by decide, List.mem_append_right _ (List.mem_append_left _ (List.mem_of_getElem? (i := 117) rfl))⟩
set_option maxRecDepth 20000 in
theorem fl_X6_276 : k_FL RX6 276 1 1 := ⟨by decide, by decide, List.mem_append_right _ (List.mem_append_left _ (List.mem_of_getElem? (i := 209) rfl))⟩
set_option maxRecDepth 20000 in
theorem fl_X6_279 : k_FL RX6 279 1 0 := ⟨by decide, by decide, List.mem_append_right _ (List.mem_append_left _ (List.mem_of_getElem? (i := 207) rfl))⟩
set_option maxRecDepth 20000 in
theorem fl_X0_9 : k_FL RX0 9 0 0 := ⟨by decide, by decide, List.mem_append_right _ (List.mem_append_left _ (List.mem_of_getElem? (i := 160) rfl))⟩
set_option maxRecDepth 20000 in
theorem fl_X0_15 : k_FL RX0 15 0 1 := ⟨by decide, by decide, List.mem_append_right _ (List.mem_append_left _ (List.mem_of_getElem? (i := 162) rfl))⟩
set_option maxRecDepth 20000 in
theorem fl_X0_18 : k_FL RX0 18 0 2 := ⟨by decide, by decide, List.mem_append_right _ (List.mem_append_left _ (List.mem_of_getElem? (i := 163) rfl))⟩
set_option maxRecDepth 20000 in
theorem fl_X0_22 : k_FL RX0 22 0 3 := ⟨by decide, by decide, List.mem_append_right _ (List.mem_append_left _ (List.mem_of_getElem? (i := 164) rfl))⟩
set_option maxRecDepth 20000 in
theorem fl_X0_25 : k_FL RX0 25 0 4 := ⟨by decide, by decide, List.mem_append_right _ (List.mem_append_left _ (List.mem_of_getElem? (i := 165) rfl))⟩
set_option maxRecDepth 20000 in
theorem fl_X0_28 : k_FL RX0 28 0 5 := ⟨by decide, by decide, List.mem_append_right _ (List.mem_append_left _ (List.mem_of_getElem? (i := 166) rfl))⟩
set_option maxRecDepth 20000 in
theorem fl_X0_31 : k_FL RX0 31 0 6 := ⟨by decide, by decide, List.mem_append_right _ (List.mem_append_left _ (List.mem_of_getElem? (i := 167) rfl))⟩
set_option maxRecDepth 20000 in
theorem fl_X0_34 : k_FL RX0 34 5 2 := ⟨by decide, by decide, List.mem_append_right _ (List.mem_append_left _ (List.mem_of_getElem? (i := 91) rfl))⟩
set_option maxRecDepth 20000 in
theorem fl_X0_38 : k_FL RX0 38 5 3 := ⟨by decide, by decide, List.mem_append_right _ (List.mem_append_left _ (List.mem_of_getElem? (i := 94) rfl))⟩
set_option maxRecDepth 20000 in
theorem fl_X0_40 : k_FL RX0 40 5 4 := ⟨by decide, by decide, List.mem_append_right _ (List.mem_append_left _ (List.mem_of_getElem? (i := 99) rfl))⟩
set_option maxRecDepth 20000 in
theorem fl_X0_42 : k_FL RX0 42 5 11 := ⟨by decide, by decide, List.mem_append_right _ (List.mem_append_left _ (List.mem_of_getElem? (i := 127) rfl))⟩
set_option maxRecDepth 20000 in
theorem fl_X0_49 : k_FL RX0 49 5 7 := ⟨by decide, by decide, List.mem_append_right _ (List.mem_append_left _ (List.mem_of_getElem? (i := 109) rfl))⟩
set_option maxRecDepth 20000 in
theorem fl_X1_9 : k_FL RX1 9 1 0 := ⟨by decide, by decide, List.mem_append_right _ (List.mem_append_left _ (List.mem_of_getElem? (i := 206) rfl))⟩
set_option maxRecDepth 20000 in
theorem fl_X1_15 : k_FL RX1 15 1 1 := ⟨by decide, by decide, List.mem_append_right _ (List.mem_append_left _ (List.mem_of_getElem? (i := 208) rfl))⟩
set_option maxRecDepth 20000 in
theorem fl_X1_19 : k_FL RX1 19 1 2 := ⟨by decide, by decide, List.mem_append_right _ (List.mem_append_left _ (List.mem_of_getElem? (i := 210) rfl))⟩
set_option maxRecDepth 20000 in
theorem fl_X1_22 : k_FL RX1 22 1 3 := ⟨by decide, by decide, List.mem_append_right _ (List.mem_append_left _ (List.mem_of_getElem? (i := 211) rfl))⟩
set_option maxRecDepth 20000 in
theorem fl_X1_25 : k_FL RX1 25 1 4 := ⟨by decide, by decide, List.mem_append_right _ (List.mem_append_left _ (List.mem_of_getElem? (i := 212) rfl))⟩
set_option maxRecDepth 20000 in
theorem fl_X1_28 : k_FL RX1 28 1 5 := ⟨by decide, by decide, List.mem_append_right _ (List.mem_append_left _ (List.mem_of_getElem? (i := 213) rfl))⟩
set_option maxRecDepth 20000 in
theorem fl_X1_31 : k_FL RX1 31 5 8 := ⟨by decide, by decide, List.mem_append_right _ (List.mem_append_left _ (List.mem_of_getElem? (i := 114) rfl))⟩
set_option maxRecDepth 20000 in
theorem fl_X1_35 : k_FL RX1 35 5 9 := ⟨by decide, by decide, List.mem_append_right _ (List.mem_append_left _ (List.mem_of_getElem? (i := 119) rfl))⟩
set_option maxRecDepth 20000 in
theorem fl_X1_37 : k_FL RX1 37 5 11 := ⟨by decide, by decide, List.mem_append_right _ (List.mem_append_left _ (List.mem_of_getElem? (i := 126) rfl))⟩
set_option maxRecDepth 20000 in
theorem fl_X2_12 : k_FL RX2 12 2 0 := ⟨by decide, by decide, List.mem_append_right _ (List.mem_append_left _ (List.mem_of_getElem? (i := 191) rfl))⟩
set_option maxRecDepth 20000 in
theorem fl_X2_18 : k_FL RX2 18 2 1 := ⟨by decide, by decide, List.mem_append_right _ (List.mem_append_left _ (List.mem_of_getElem? (i := 193) rfl))⟩
set_option maxRecDepth 20000 in
theorem fl_X2_30 : k_FL RX2 30 5 0 := ⟨by decide, by decide, List.mem_append_right _ (List.mem_append_left _ (List.mem_of_getElem? (i := 83) rfl))⟩
set_option maxRecDepth 20000 in
theorem fl_X2_37 : k_FL RX2 37 5 4 := ⟨by decide, by decide, List.mem_append_right _ (List.mem_append_left _ (List.mem_of_getElem? (i := 100) rfl))⟩
set_option maxRecDepth 20000 in
theorem fl_X2_44 : k_FL RX2 44 5 1 := ⟨by decide, by decide, List.mem_append_right _ (List.mem_append_left _ (List.mem_of_getElem? (i := 87) rfl))⟩
set_option maxRecDepth 20000 in
theorem fl_X2_66 : k_FL RX2 66 5 7 := ⟨by decide, by decide, List.mem_append_right _ (List.mem_append_left _ (List.mem_of_getElem? (i := 111) rfl))⟩
set_option maxRecDepth 20000 in
theorem fl_X2_87 : k_FL RX2 87 5 3 := ⟨by decide, by decide, List.mem_append_right _ (List.mem_append_left _ (List.mem_of_getElem? (i := 96) rfl))⟩
set_option maxRecDepth 20000 in
theorem fl_X2_90 : k_FL RX2 90 5 8 := ⟨by decide, by decide, List.mem_append_right _ (List.mem_append_left _ (List.mem_of_getElem? (i := 116) rfl))⟩
set_option maxRecDepth 20000 in
theorem fl_X2_93 : k_FL RX2 93 4 2 := ⟨by decide, by decide, List.mem_append_right _ (List.mem_append_left _ (List.mem_of_getElem? (i := 30) rfl))⟩
set_option maxRecDepth 20000 in
theorem fl_X3_11 : k_FL RX3 11 3 0 := ⟨by decide, by decide, List.mem_append_right _ (List.mem_append_left _ (List.mem_of_getElem? (i := 45) rfl))⟩
set_option maxRecDepth 20000 in
theorem fl_X3_15 : k_FL RX3 15 3 1 := ⟨by decide, by decide, List.mem_append_right _ (List.mem_append_left _ (List.mem_of_getElem? (i := 46) rfl))⟩
set_option maxRecDepth 20000 in
theorem fl_X3_19 : k_FL RX3 19 3 2 := ⟨by decide, by decide, List.mem_append_right _ (List.mem_append_left _ (List.mem_of_getElem? (i := 48) rfl))⟩
set_option maxRecDepth 20000 in
theorem fl_X3_22 : k_FL RX3 22 3 3 := ⟨by decide, by decide, List.mem_append_right _ (List.mem_append_left _ (List.mem_of_getElem? (i := 50) rfl))⟩
set_option maxRecDepth 20000 in
theorem fl_X3_25 : k_FL RX3 25 3 4 := ⟨by decide, by decide, List.mem_append_right _ (List.mem_append_left _ (List.mem_of_getElem? (i := 52) rfl))⟩
set_option maxRecDepth 20000 in
theorem fl_X3_29 : k_FL RX3 29 3 5 := ⟨by decide, by decide, List.mem_append_right _ (List.mem_append_left _ (List.mem_of_getElem? (i := 53) rfl))⟩
set_option maxRecDepth 20000 in
theorem fl_X3_32 : k_FL RX3 32 3 6 := ⟨by decide, by decide, List.mem_append_right _ (List.mem_append_left _ (List.mem_of_getElem? (i := 54) rfl))⟩
set_option maxRecDepth 20000 in
theorem fl_X3_35 : k_FL RX3 35 3 7 := ⟨by decide, by decide, List.mem_append_right _ (List.mem_append_left _ (List.mem_of_getElem? (i := 55) rfl))⟩
set_option maxRecDepth 20000 in
theorem fl_X3_38 : k_FL RX3 38 3 8 := ⟨by decide, by decide, List.mem_append_right _ (List.mem_append_left _ (List.mem_of_getElem? (i := 56) rfl))⟩
set_option maxRecDepth 20000 in
theorem fl_X3_70 : k_FL RX3 70 5 3 := ⟨by decide, by decide, List.mem_append_right _ (List.mem_append_left _ (List.mem_of_getElem? (i := 95) rfl))⟩
set_option maxRecDepth 20000 in
theorem fl_X3_73 : k_FL RX3 73 5 0 := ⟨by decide, by decide, List.mem_append_right _ (List.mem_append_left _ (List.mem_of_getElem? (i := 84) rfl))⟩
set_option maxRecDepth 20000 in
theorem fl_X3_80 : k_FL RX3 80 5 5 := ⟨by decide, by decide, List.mem_append_right _ (List.mem_append_left _ (List.mem_of_getElem? (i := 103) rfl))⟩
set_option maxRecDepth 20000 in
theorem fl_X3_83 : k_FL RX3 83 5 6 := ⟨by decide, by decide, List.mem_append_right _ (List.mem_append_left _ (List.mem_of_getElem? (i := 106) rfl))⟩
set_option maxRecDepth 20000 in
theorem fl_X3_86 : k_FL RX3 86 5 7 := ⟨by decide, by decide, List.mem_append_right _ (List.mem_append_left _ (List.mem_of_getElem? (i := 110) rfl))⟩
set_option maxRecDepth 20000 in
theorem fl_X3_93 : k_FL RX3 93 5 1 := ⟨by decide, by decide, List.mem_append_right _ (List.mem_append_left _ (List.mem_of_getElem? (i := 88) rfl))⟩
set_option maxRecDepth 20000 in
theorem fl_X3_99 : k_FL RX3 99 5 8 := ⟨by decide, by decide, List.mem_append_right _ (List.mem_append_left _ (List.mem_of_getElem? (i := 115) rfl))⟩
set_option maxRecDepth 20000 in
theorem fl_X3_102 : k_FL RX3 102 5 9 := ⟨by decide, by decide, List.mem_append_right _ (List.mem_append_left _ (List.mem_of_getElem? (i := 120) rfl))⟩
set_option maxRecDepth 20000 in
theorem fl_X3_105 : k_FL RX3 105 5 10 := ⟨by decide, by decide, List.mem_append_right _ (List.mem_append_left _ (List.mem_of_getElem? (i := 123) rfl))⟩
set_option maxRecDepth 20000 in
theorem fl_X4_9 : k_FL RX4 9 4 0 := ⟨by decide, by decide, List.mem_append_right _ (List.mem_append_left _ (List.mem_of_getElem? (i := 26) rfl))⟩
set_option maxRecDepth 20000 in
theorem fl_X4_13 : k_FL RX4 13 4 1 := ⟨by decide, by decide, List.mem_append_right _ (List.mem_append_left _ (List.mem_of_getElem? (i := 28) rfl))⟩
set_option maxRecDepth 20000 in
theorem fl_X4_16 : k_FL RX4 16 4 2 := ⟨by decide, by decide, List.mem_append_right _ (List.mem_append_left _ (List.mem_of_getElem? (i := 29) rfl))⟩
set_option maxRecDepth 20000 in
theorem fl_X5_9 : k_FL RX5 9 5 0 := ⟨by decide, by decide, List.mem_append_right _ (List.mem_append_left _ (List.mem_of_getElem? (i := 82) rfl))⟩
set_option maxRecDepth 20000 in
theorem fl_X5_15 : k_FL RX5 15 5 1 := ⟨by decide, by decide, List.mem_append_right _ (List.mem_append_left _ (List.mem_of_getElem? (i := 86) rfl))⟩
set_option maxRecDepth 20000 in
theorem fl_X5_18 : k_FL RX5 18 5 2 := ⟨by decide, by decide, List.mem_append_right _ (List.mem_append_left _ (List.mem_of_getElem? (i := 90) rfl))⟩
set_option maxRecDepth 20000 in
theorem fl_X5_21 : k_FL RX5 21 5 3 := ⟨by decide, by decide, List.mem_append_right _ (List.mem_append_left _ (List.mem_of_getElem? (i := 93) rfl))⟩
set_option maxRecDepth 20000 in
theorem fl_X5_24 : k_FL RX5 24 5 4 := ⟨by decide, by decide, List.mem_append_right _ (List.mem_append_left _ (List.mem_of_getElem? (i := 98) rfl))⟩
set_option maxRecDepth 20000 in
theorem fl_X5_27 : k_FL RX5 27 5 5 := ⟨by decide, by decide, List.mem_append_right _ (List.mem_append_left _ (List.mem_of_getElem? (i := 102) rfl))⟩
set_option maxRecDepth 20000 in
theorem fl_X5_31 : k_FL RX5 31 5 6 := ⟨by decide, by decide, List.mem_append_right _ (List.mem_append_left _ (List.mem_of_getElem? (i := 105) rfl))⟩
set_option maxRecDepth 20000 in
theorem fl_X5_34 : k_FL RX5 34 5 7 := ⟨by decide, by decide, List.mem_append_right _ (List.mem_append_left _ (List.mem_of_getElem? (i := 108) rfl))⟩
set_option maxRecDepth 20000 in
theorem fl_X5_37 : k_FL RX5 37 5 8 := ⟨by decide, by decide, List.mem_append_right _ (List.mem_append_left _ (List.mem_of_getElem? (i := 113) rfl))⟩
set_option maxRecDepth 20000 in
theorem fl_X5_40 : k_FL RX5 40 5 9 := ⟨by decide, by decide, List.mem_append_right _ (List.mem_append_left _ (List.mem_of_getElem? (i := 118) rfl))⟩
set_option maxRecDepth 20000 in
theorem fl_X5_43 : k_FL RX5 43 5 10 := ⟨by decide, by decide, List.mem_append_right _ (List.mem_append_left _ (List.mem_of_getElem? (i := 122) rfl))⟩
set_option maxRecDepth 20000 in
theorem fl_X5_46 : k_FL RX5 46 5 11 := ⟨by decide, by decide, List.mem_append_right _ (List.mem_append_left _ (List.mem_of_getElem? (i := 125) rfl))⟩
set_option maxRecDepth 20000 in
theorem fl_X7_7 : k_FL RX7 7 7 0 := ⟨by decide, by decide, List.mem_append_right _ (List.mem_append_right _ (List.mem_append_right _ (List.mem_append_left _ (List.mem_of_getElem? (i := 238) rfl))))⟩
set_option maxRecDepth 20000 in
theorem fl_X7_13 : k_FL RX7 13 7 1 := ⟨by decide, by decide, List.mem_append_right _ (List.mem_append_right _ (List.mem_append_right _ (List.mem_append_left _ (List.mem_of_getElem? (i := 239) rfl))))⟩
set_option maxRecDepth 20000 in
theorem fl_X7_16 : k_FL RX7 16 7 2 := ⟨by decide, by decide, List.mem_append_right _ (List.mem_append_right _ (List.mem_append_right _ (List.mem_append_right _ (List.mem_append_left _ (List.mem_of_getElem? (i := 0) rfl)))))⟩
set_option maxRecDepth 20000 in
theorem fl_X7_19 : k_FL RX7 19 7 5 := ⟨by decide, by decide, List.mem_append_right _ (List.mem_append_right _ (List.mem_append_right _ (List.mem_append_right _ (List.mem_append_left _ (List.mem_of_getElem? (i := 3) rfl)))))⟩
set_option maxRecDepth 20000 in
theorem fl_X7_22 : k_FL RX7 22 7 12 := ⟨by decide, by decide, List.mem_append_right _ (List.mem_append_right _ (List.mem_append_right _ (List.mem_append_right _ (List.mem_append_left _ (List.mem_of_getElem? (i := 10) rfl)))))⟩
set_option maxRecDepth 20000 in
theorem fl_X7_25 : k_FL RX7 25 7 13 := ⟨by decide, by decide, List.mem_append_right _ (List.mem_append_right _ (List.mem_append_right _ (List.mem_append_right _ (List.mem_append_left _ (List.mem_of_getElem? (i := 11) rfl)))))⟩
set_option maxRecDepth 20000 in
theorem fl_X7_28 : k_FL RX7 28 7 14 := ⟨by decide, by decide, List.mem_append_right _ (List.mem_append_right _ (List.mem_append_right _ (List.mem_append_right _ (List.mem_append_left _ (List.mem_of_getElem? (i := 12) rfl)))))⟩
set_option maxRecDepth 20000 in
theorem fl_X7_31 : k_FL RX7 31 7 15 := ⟨by decide, by decide, List.mem_append_right _ (List.mem_append_right _ (List.mem_append_right _ (List.mem_append_right _ (List.mem_append_left _ (List.mem_of_getElem? (i := 13) rfl)))))⟩
set_option maxRecDepth 20000 in
theorem fl_X7_34 : k_FL RX7 34 7 16 := ⟨by decide, by decide, List.mem_append_right _ (List.mem_append_right _ (List.mem_append_right _ (List.mem_append_right _ (List.mem_append_left _ (List.mem_of_getElem? (i := 14) rfl)))))⟩
set_option maxRecDepth 20000 in
theorem fl_X7_38 : k_FL RX7 38 7 17 := ⟨by decide, by decide, List.mem_append_right _ (List.mem_append_right _ (List.mem_append_right _ (List.mem_append_right _ (List.mem_append_left _ (List.mem_of_getElem? (i := 15) rfl)))))⟩
set_option maxRecDepth 20000 in
theorem fl_X7_41 : k_FL RX7 41 7 19 := ⟨by decide, by decide, List.mem_append_right _ (List.mem_append_right _ (List.mem_append_right _ (List.mem_append_right _ (List.mem_append_left _ (List.mem_of_getElem? (i := 17) rfl)))))⟩
set_option maxRecDepth 20000 in
theorem fl_X7_44 : k_FL RX7 44 7 21 := ⟨by decide, by decide, List.mem_append_right _ (List.mem_append_right _ (List.mem_append_right _ (List.mem_append_right _ (List.mem_append_left _ (List.mem_of_getElem? (i := 19) rfl)))))⟩
set_option maxRecDepth 20000 in
theorem fl_X7_47 : k_FL RX7 47 7 22 := ⟨by decide, by decide, List.mem_append_right _ (List.mem_append_right _ (List.mem_append_right _ (List.mem_append_right _ (List.mem_append_left _ (List.mem_of_getElem? (i := 20) rfl)))))⟩
set_option maxRecDepth 20000 in
theorem fl_X7_50 : k_FL RX7 50 7 23 := ⟨by decide, by decide, List.mem_append_right _ (List.mem_append_right _ (List.mem_append_right _ (List.mem_append_right _ (List.mem_append_left _ (List.mem_of_getElem? (i := 21) rfl)))))⟩
set_option maxRecDepth 20000 in
theorem fl_X7_53 : k_FL RX7 53 7 24 := ⟨by decide, by decide, List.mem_append_right _ (List.mem_append_right _ (List.mem_append_right _ (List.mem_append_right _ (List.mem_append_left _ (List.mem_of_getElem? (i := 22) rfl)))))⟩
set_option maxRecDepth 20000 in
theorem fl_X7_60 : k_FL RX7 60 7 3 := ⟨by decide, by decide, List.mem_append_right _ (List.mem_append_right _ (List.mem_append_right _ (List.mem_append_right _ (List.mem_append_left _ (List.mem_of_getElem? (i := 1) rfl)))))⟩
set_option maxRecDepth 20000 in
theorem fl_X7_80 : k_FL RX7 80 7 4 := ⟨by decide, by decide, List.mem_append_right _ (List.mem_append_right _ (List.mem_append_right _ (List.mem_append_right _ (List.mem_append_left _ (List.mem_of_getElem? (i := 2) rfl)))))⟩
set_option maxRecDepth 20000 in
theorem fl_X7_84 : k_FL RX7 84 7 6 := ⟨by decide, by decide, List.mem_append_right _ (List.mem_append_right _ (List.mem_append_right _ (List.mem_append_right _ (List.mem_append_left _ (List.mem_of_getElem? (i := 4) rfl)))))⟩
set_option maxRecDepth 20000 in
theorem fl_X7_87 : k_FL RX7 87 7 7 := ⟨by decide, by decide, List.mem_append_right _ (List.mem_append_right _ (List.mem_append_right _ (List.mem_append_right _ (List.mem_append_left _ (List.mem_of_getElem? (i := 5) rfl)))))⟩
set_option maxRecDepth 20000 in
theorem fl_X7_90 : k_FL RX7 90 7 9 := ⟨by decide, by decide, List.mem_append_right _ (List.mem_append_right _ (List.mem_append_right _ (List.mem_append_right _ (List.mem_append_left _ (List.mem_of_getElem? (i := 7) rfl)))))⟩
set_option maxRecDepth 20000 in
theorem fl_X7_93 : k_FL RX7 93 7 8 := ⟨by decide, by decide, List.mem_append_right _ (List.mem_append_right _ (List.mem_append_right _ (List.mem_append_right _ (List.mem_append_left _ (List.mem_of_getElem? (i := 6) rfl)))))⟩
set_option maxRecDepth 20000 in
theorem fl_X7_96 : k_FL RX7 96 7 10 := ⟨by decide, by decide, List.mem_append_right _ (List.mem_append_right _ (List.mem_append_right _ (List.mem_append_right _ (List.mem_append_left _ (List.mem_of_getElem? (i := 8) rfl)))))⟩
set_option maxRecDepth 20000 in
theorem fl_X7_126 : k_FL RX7 126 7 11 := ⟨by decide, by decide, List.mem_append_right _ (List.mem_append_right _ (List.mem_append_right _ (List.mem_append_right _ (List.mem_append_left _ (List.mem_of_getElem? (i := 9) rfl)))))⟩
set_option maxRecDepth 20000 in
theorem fl_X7_134 : k_FL RX7 134 7 18 := ⟨by decide, by decide, List.mem_append_right _ (List.mem_append_right _ (List.mem_append_right _ (List.mem_append_right _ (List.mem_append_left _ (List.mem_of_getElem? (i := 16) rfl)))))⟩
set_option maxRecDepth 20000 in
theorem fl_X7_206 : k_FL RX7 206 7 20 := ⟨by decide, by decide, List.mem_append_right _ (List.mem_append_right _ (List.mem_append_right _ (List.mem_append_right _ (List.mem_append_left _ (List.mem_of_getElem? (i := 18) rfl)))))⟩
set_option maxRecDepth 20000 in
theorem ml_X6_61 : Cond.methodLink RX6 61 yX6_noRow ∈ lw_tbl := List.mem_append_right _ (List.mem_append_right _ (List.mem_append_left _ (List.mem_of_getElem? (i := 19) rfl)))
set_option maxRecDepth 20000 in
theorem ml_X6_66 : Cond.methodLink RX6 66 yX6_found ∈ lw_tbl := List.mem_append_right _ (List.mem_append_right _ (List.mem_append_left _ (List.mem_of_getElem? (i := 24) rfl)))
set_option maxRecDepth 20000 in
theorem ml_X6_70 : Cond.methodLink RX6 70 yX4_make ∈ lw_tbl := List.mem_append_right _ (List.mem_append_right _ (List.mem_append_left _ (List.mem_of_getElem? (i := 29) rfl)))
set_option maxRecDepth 20000 in
theorem ml_X6_74 : Cond.methodLink RX6 74 yX6_fine ∈ lw_tbl := List.mem_append_right _ (List.mem_append_right _ (List.mem_append_left _ (List.mem_of_getElem? (i := 37) rfl)))
set_option maxRecDepth 20000 in
theorem ml_X6_77 : Cond.methodLink RX6 77 yX4_isGone ∈ lw_tbl := List.mem_append_right _ (List.mem_append_right _ (List.mem_append_left _ (List.mem_of_getElem? (i := 45) rfl)))
set_option maxRecDepth 20000 in
theorem ml_X6_80 : Cond.methodLink RX6 80 yX4_lacks ∈ lw_tbl := List.mem_append_right _ (List.mem_append_right _ (List.mem_append_left _ (List.mem_of_getElem? (i := 49) rfl)))
set_option maxRecDepth 20000 in
theorem ml_X6_84 : Cond.methodLink RX6 84 yX4_put ∈ lw_tbl := List.mem_append_right _ (List.mem_append_right _ (List.mem_append_left _ (List.mem_of_getElem? (i := 53) rfl)))
set_option maxRecDepth 20000 in
theorem ml_X6_92 : Cond.methodLink RX6 92 yX4_move ∈ lw_tbl := List.mem_append_right _ (List.mem_append_right _ (List.mem_append_left _ (List.mem_of_getElem? (i := 61) rfl)))
set_option maxRecDepth 20000 in
theorem ml_X6_96 : Cond.methodLink RX6 96 yX4_lose ∈ lw_tbl := List.mem_append_right _ (List.mem_append_right _ (List.mem_append_left _ (List.mem_of_getElem? (i := 72) rfl)))
set_option maxRecDepth 20000 in
theorem ml_X6_103 : Cond.methodLink RX6 103 yX3_append ∈ lw_tbl := List.mem_append_right _ (List.mem_append_right _ (List.mem_append_left _ (List.mem_of_getElem? (i := 81) rfl)))
set_option maxRecDepth 20000 in
theorem ml_X6_110 : Cond.methodLink RX6 110 yX3_reads ∈ lw_tbl := List.mem_append_right _ (List.mem_append_right _ (List.mem_append_left _ (List.mem_of_getElem? (i := 89) rfl)))
set_option maxRecDepth 20000 in
theorem ml_X6_118 : Cond.methodLink RX6 118 yX5_become ∈ lw_tbl := List.mem_append_right _ (List.mem_append_right _ (List.mem_append_left _ (List.mem_of_getElem? (i := 144) rfl)))
set_option maxRecDepth 20000 in
theorem ml_X6_122 : Cond.methodLink RX6 122 yX0_forget ∈ lw_tbl := List.mem_append_right _ (List.mem_append_right _ (List.mem_append_left _ (List.mem_of_getElem? (i := 153) rfl)))
set_option maxRecDepth 20000 in
theorem ml_X6_131 : Cond.methodLink RX6 131 yX6_noSquare ∈ lw_tbl := List.mem_append_right _ (List.mem_append_right _ (List.mem_append_left _ (List.mem_of_getElem? (i := 165) rfl)))
set_option maxRecDepth 20000 in
theorem ml_X6_139 : Cond.methodLink RX6 139 yX0_keep ∈ lw_tbl := List.mem_append_right _ (List.mem_append_right _ (List.mem_append_left _ (List.mem_of_getElem? (i := 170) rfl)))
set_option maxRecDepth 20000 in
theorem ml_X6_142 : Cond.methodLink RX6 142 yX5_goOn ∈ lw_tbl := List.mem_append_right _ (List.mem_append_right _ (List.mem_append_left _ (List.mem_of_getElem? (i := 178) rfl)))
set_option maxRecDepth 20000 in
theorem ml_X6_151 : Cond.methodLink RX6 151 yX5_swap ∈ lw_tbl := List.mem_append_right _ (List.mem_append_right _ (List.mem_append_left _ (List.mem_of_getElem? (i := 207) rfl)))
set_option maxRecDepth 20000 in
theorem ml_X6_161 : Cond.methodLink RX6 161 yX6_noSleeper ∈ lw_tbl := List.mem_append_right _ (List.mem_append_right _ (List.mem_append_left _ (List.mem_of_getElem? (i := 219) rfl)))
set_option maxRecDepth 20000 in
theorem ml_X6_167 : Cond.methodLink RX6 167 yX5_startAnew ∈ lw_tbl := List.mem_append_right _ (List.mem_append_right _ (List.mem_append_left _ (List.mem_of_getElem? (i := 223) rfl)))
set_option maxRecDepth 20000 in
theorem ml_X6_170 : Cond.methodLink RX6 170 yX5_wake ∈ lw_tbl := List.mem_append_right _ (List.mem_append_right _ (List.mem_append_left _ (List.mem_of_getElem? (i := 224) rfl)))
set_option maxRecDepth 20000 in
theorem ml_X6_176 : Cond.methodLink RX6 176 yX0_takeBack ∈ lw_tbl := List.mem_append_right _ (List.mem_append_right _ (List.mem_append_left _ (List.mem_of_getElem? (i := 229) rfl)))
set_option maxRecDepth 20000 in
theorem ml_X6_185 : Cond.methodLink RX6 185 yX5_isOff ∈ lw_tbl := List.mem_append_right _ (List.mem_append_right _ (List.mem_append_left _ (List.mem_of_getElem? (i := 237) rfl)))
set_option maxRecDepth 20000 in
theorem ml_X6_188 : Cond.methodLink RX6 188 yX5_heardBy ∈ lw_tbl := List.mem_append_right _ (List.mem_append_right _ (List.mem_append_right _ (List.mem_append_left _ (List.mem_of_getElem? (i := 1) rfl))))
set_option maxRecDepth 20000 in
theorem ml_X6_197 : Cond.methodLink RX6 197 yX5_placeOf ∈ lw_tbl := List.mem_append_right _ (List.mem_append_right _ (List.mem_append_right _ (List.mem_append_left _ (List.mem_of_getElem? (i := 9) rfl))))
set_option maxRecDepth 20000 in
theorem ml_X6_200 : Cond.methodLink RX6 200 yX6_tooFar ∈ lw_tbl := List.mem_append_right _ (List.mem_append_right _ (List.mem_append_right _ (List.mem_append_left _ (List.mem_of_getElem? (i := 18) rfl))))
set_option maxRecDepth 20000 in
theorem ml_X6_203 : Cond.methodLink RX6 203 yX2_begin ∈ lw_tbl := List.mem_append_right _ (List.mem_append_right _ (List.mem_append_right _ (List.mem_append_left _ (List.mem_of_getElem? (i := 22) rfl))))
set_option maxRecDepth 20000 in
theorem ml_X6_206 : Cond.methodLink RX6 206 yX2_goFar ∈ lw_tbl := List.mem_append_right _ (List.mem_append_right _ (List.mem_append_right _ (List.mem_append_left _ (List.mem_of_getElem? (i := 27) rfl))))
set_option maxRecDepth 20000 in
theorem ml_X6_209 : Cond.methodLink RX6 209 yX2_soonest ∈ lw_tbl := List.mem_append_right _ (List.mem_append_right _ (List.mem_append_right _ (List.mem_append_left _ (List.mem_of_getElem? (i := 40) rfl))))
set_option maxRecDepth 20000 in
theorem ml_X6_213 : Cond.methodLink RX6 213 yX6_noSleepers ∈ lw_tbl := List.mem_append_right _ (List.mem_append_right _ (List.mem_append_right _ (List.mem_append_left _ (List.mem_of_getElem? (i := 55) rfl))))
set_option maxRecDepth 20000 in
theorem ml_X6_216 : Cond.methodLink RX6 216 yX2_sleepless ∈ lw_tbl := List.mem_append_right _ (List.mem_append_right _ (List.mem_append_right _ (List.mem_append_left _ (List.mem_of_getElem? (i := 63) rfl))))
set_option maxRecDepth 20000 in
theorem ml_X6_220 : Cond.methodLink RX6 220 yX2_calm ∈ lw_tbl := List.mem_append_right _ (List.mem_append_right _ (List.mem_append_right _ (List.mem_append_left _ (List.mem_of_getElem? (i := 71) rfl))))
set_option maxRecDepth 20000 in
theorem ml_X6_223 : Cond.methodLink RX6 223 yX2_bestOrder ∈ lw_tbl := List.mem_append_right _ (List.mem_append_right _ (List.mem_append_right _ (List.mem_append_left _ (List.mem_of_getElem? (i := 85) rfl))))
set_option maxRecDepth 20000 in
theorem ml_X6_231 : Cond.methodLink RX6 231 yX2_smallestFlock ∈ lw_tbl := List.mem_append_right _ (List.mem_append_right _ (List.mem_append_right _ (List.mem_append_left _ (List.mem_of_getElem? (i := 107) rfl))))
set_option maxRecDepth 20000 in
theorem ml_X6_235 : Cond.methodLink RX6 235 yJ6_bitCount_0f7a4 ∈ lw_tbl := List.mem_append_right _ (List.mem_append_right _ (List.mem_append_right _ (List.mem_append_left _ (List.mem_of_getElem? (i := 115) rfl))))
set_option maxRecDepth 20000 in
theorem ml_X6_240 : Cond.methodLink RX6 240 yX6_unreadable ∈ lw_tbl := List.mem_append_right _ (List.mem_append_right _ (List.mem_append_right _ (List.mem_append_left _ (List.mem_of_getElem? (i := 120) rfl))))
set_option maxRecDepth 20000 in
theorem ml_X6_243 : Cond.methodLink RX6 243 yX4_placeOf ∈ lw_tbl := List.mem_append_right _ (List.mem_append_right _ (List.mem_append_right _ (List.mem_append_left _ (List.mem_of_getElem? (i := 124) rfl))))
set_option maxRecDepth 20000 in
theorem ml_X6_245 : Cond.methodLink RX6 245 yX2_strays ∈ lw_tbl := List.mem_append_right _ (List.mem_append_right _ (List.mem_append_right _ (List.mem_append_left _ (List.mem_of_getElem? (i := 125) rfl))))
set_option maxRecDepth 20000 in
theorem ml_X6_249 : Cond.methodLink RX6 249 yX2_winds ∈ lw_tbl := List.mem_append_right _ (List.mem_append_right _ (List.mem_append_right _ (List.mem_append_left _ (List.mem_of_getElem? (i := 137) rfl))))
set_option maxRecDepth 20000 in
theorem ml_X6_252 : Cond.methodLink RX6 252 yX2_kinds ∈ lw_tbl := List.mem_append_right _ (List.mem_append_right _ (List.mem_append_right _ (List.mem_append_left _ (List.mem_of_getElem? (i := 145) rfl))))
set_option maxRecDepth 20000 in
theorem ml_X6_256 : Cond.methodLink RX6 256 yX2_chance ∈ lw_tbl := List.mem_append_right _ (List.mem_append_right _ (List.mem_append_right _ (List.mem_append_left _ (List.mem_of_getElem? (i := 153) rfl))))
set_option maxRecDepth 20000 in
theorem ml_X6_260 : Cond.methodLink RX6 260 yX6_greatestShared ∈ lw_tbl := List.mem_append_right _ (List.mem_append_right _ (List.mem_append_right _ (List.mem_append_left _ (List.mem_of_getElem? (i := 162) rfl))))
set_option maxRecDepth 20000 in
theorem ml_X6_263 : Cond.methodLink RX6 263 yX6_imageOf ∈ lw_tbl := List.mem_append_right _ (List.mem_append_right _ (List.mem_append_right _ (List.mem_append_left _ (List.mem_of_getElem? (i := 169) rfl))))
set_option maxRecDepth 20000 in
theorem ml_X6_270 : Cond.methodLink RX6 270 yX6_isOne ∈ lw_tbl := List.mem_append_right _ (List.mem_append_right _ (List.mem_append_right _ (List.mem_append_left _ (List.mem_of_getElem? (i := 185) rfl))))
set_option maxRecDepth 20000 in
theorem ml_X6_274 : Cond.methodLink RX6 274 yX1_begin ∈ lw_tbl := List.mem_append_right _ (List.mem_append_right _ (List.mem_append_right _ (List.mem_append_left _ (List.mem_of_getElem? (i := 194) rfl))))
set_option maxRecDepth 20000 in
theorem ml_X6_282 : Cond.methodLink RX6 282 yX4_howMany ∈ lw_tbl := List.mem_append_right _ (List.mem_append_right _ (List.mem_append_right _ (List.mem_append_left _ (List.mem_of_getElem? (i := 223) rfl))))
set_option maxRecDepth 20000 in
theorem ml_X1_39 : Cond.methodLink RX1 39 yX1_answer ∈ lw_tbl := List.mem_append_right _ (List.mem_append_right _ (List.mem_append_right _ (List.mem_append_left _ (List.mem_of_getElem? (i := 198) rfl))))
set_option maxRecDepth 20000 in
theorem ml_X1_43 : Cond.methodLink RX1 43 yX1_bodyFor ∈ lw_tbl := List.mem_append_right _ (List.mem_append_right _ (List.mem_append_right _ (List.mem_append_left _ (List.mem_of_getElem? (i := 202) rfl))))
set_option maxRecDepth 20000 in
theorem ml_X1_47 : Cond.methodLink RX1 47 yX1_give ∈ lw_tbl := List.mem_append_right _ (List.mem_append_right _ (List.mem_append_right _ (List.mem_append_left _ (List.mem_of_getElem? (i := 211) rfl))))
set_option maxRecDepth 20000 in
theorem ml_X2_22 : Cond.methodLink RX2 22 yX5_become ∈ lw_tbl := List.mem_append_right _ (List.mem_append_right _ (List.mem_append_right _ (List.mem_append_left _ (List.mem_of_getElem? (i := 26) rfl))))
set_option maxRecDepth 20000 in
theorem ml_X2_26 : Cond.methodLink RX2 26 yX5_goOn ∈ lw_tbl := List.mem_append_right _ (List.mem_append_right _ (List.mem_append_right _ (List.mem_append_left _ (List.mem_of_getElem? (i := 31) rfl))))
set_option maxRecDepth 20000 in
theorem ml_X2_40 : Cond.methodLink RX2 40 yX5_whatMatters ∈ lw_tbl := List.mem_append_right _ (List.mem_append_right _ (List.mem_append_right _ (List.mem_append_left _ (List.mem_of_getElem? (i := 46) rfl))))
set_option maxRecDepth 20000 in
theorem ml_X2_47 : Cond.methodLink RX2 47 yJ6_bitCount_0f7a4 ∈ lw_tbl := List.mem_append_right _ (List.mem_append_right _ (List.mem_append_right _ (List.mem_append_left _ (List.mem_of_getElem? (i := 75) rfl))))
set_option maxRecDepth 20000 in
theorem ml_X2_53 : Cond.methodLink RX2 53 yX2_begin ∈ lw_tbl := List.mem_append_right _ (List.mem_append_right _ (List.mem_append_right _ (List.mem_append_left _ (List.mem_of_getElem? (i := 89) rfl))))
set_option maxRecDepth 20000 in
theorem ml_X2_56 : Cond.methodLink RX2 56 yX5_lineUp ∈ lw_tbl := List.mem_append_right _ (List.mem_append_right _ (List.mem_append_right _ (List.mem_append_left _ (List.mem_of_getElem? (i := 90) rfl))))
set_option maxRecDepth 20000 in
theorem ml_X2_59 : Cond.methodLink RX2 59 yX5_goBackTo ∈ lw_tbl := List.mem_append_right _ (List.mem_append_right _ (List.mem_append_right _ (List.mem_append_left _ (List.mem_of_getElem? (i := 94) rfl))))
set_option maxRecDepth 20000 in
theorem ml_X2_62 : Cond.methodLink RX2 62 yX2_soonest ∈ lw_tbl := List.mem_append_right _ (List.mem_append_right _ (List.mem_append_right _ (List.mem_append_left _ (List.mem_of_getElem? (i := 95) rfl))))
set_option maxRecDepth 20000 in
theorem ml_X2_75 : Cond.methodLink RX2 75 yX5_orderNext ∈ lw_tbl := List.mem_append_right _ (List.mem_append_right _ (List.mem_append_right _ (List.mem_append_left _ (List.mem_of_getElem? (i := 97) rfl))))
set_option maxRecDepth 20000 in
theorem ml_X2_79 : Cond.methodLink RX2 79 yX5_keepOnly ∈ lw_tbl := List.mem_append_right _ (List.mem_append_right _ (List.mem_append_right _ (List.mem_append_left _ (List.mem_of_getElem? (i := 111) rfl))))
set_option maxRecDepth 20000 in
theorem ml_X2_83 : Cond.methodLink RX2 83 yX2_goesSo ∈ lw_tbl := List.mem_append_right _ (List.mem_append_right _ (List.mem_append_right _ (List.mem_append_left _ (List.mem_of_getElem? (i := 129) rfl))))
set_option maxRecDepth 20000 in
theorem ml_X2_98 : Cond.methodLink RX2 98 yX2_goFar ∈ lw_tbl := List.mem_append_right _ (List.mem_append_right _ (List.mem_append_right _ (List.mem_append_left _ (List.mem_of_getElem? (i := 157) rfl))))
set_option maxRecDepth 20000 in
theorem ml_X2_102 : Cond.methodLink RX2 102 yX5_isOff ∈ lw_tbl := List.mem_append_right _ (List.mem_append_right _ (List.mem_append_right _ (List.mem_append_left _ (List.mem_of_getElem? (i := 158) rfl))))
set_option maxRecDepth 20000 in
theorem ml_X2_106 : Cond.methodLink RX2 106 yX2_weight ∈ lw_tbl := List.mem_append_right _ (List.mem_append_right _ (List.mem_append_right _ (List.mem_append_left _ (List.mem_of_getElem? (i := 159) rfl))))
set_option maxRecDepth 20000 in
theorem ml_X3_41 : Cond.methodLink RX3 41 yX5_clear ∈ lw_tbl := List.mem_append_right _ (List.mem_append_right _ (List.mem_append_left _ (List.mem_of_getElem? (i := 93) rfl)))
set_option maxRecDepth 20000 in
theorem ml_X3_46 : Cond.methodLink RX3 46 yX3_look ∈ lw_tbl := List.mem_append_right _ (List.mem_append_right _ (List.mem_append_left _ (List.mem_of_getElem? (i := 97) rfl)))
set_option maxRecDepth 20000 in
theorem ml_X3_49 : Cond.methodLink RX3 49 yX3_readLaw ∈ lw_tbl := List.mem_append_right _ (List.mem_append_right _ (List.mem_append_left _ (List.mem_of_getElem? (i := 108) rfl)))
set_option maxRecDepth 20000 in
theorem ml_X3_53 : Cond.methodLink RX3 53 yX3_readFlock ∈ lw_tbl := List.mem_append_right _ (List.mem_append_right _ (List.mem_append_left _ (List.mem_of_getElem? (i := 124) rfl)))
set_option maxRecDepth 20000 in
theorem ml_X3_56 : Cond.methodLink RX3 56 yX3_readSleepers ∈ lw_tbl := List.mem_append_right _ (List.mem_append_right _ (List.mem_append_left _ (List.mem_of_getElem? (i := 132) rfl)))
set_option maxRecDepth 20000 in
theorem ml_X3_59 : Cond.methodLink RX3 59 yX3_blame ∈ lw_tbl := List.mem_append_right _ (List.mem_append_right _ (List.mem_append_left _ (List.mem_of_getElem? (i := 116) rfl)))
set_option maxRecDepth 20000 in
theorem ml_X3_63 : Cond.methodLink RX3 63 yX3_take ∈ lw_tbl := List.mem_append_right _ (List.mem_append_right _ (List.mem_append_left _ (List.mem_of_getElem? (i := 112) rfl)))
set_option maxRecDepth 20000 in
theorem ml_X3_66 : Cond.methodLink RX3 66 yX3_takeNumber ∈ lw_tbl := List.mem_append_right _ (List.mem_append_right _ (List.mem_append_left _ (List.mem_of_getElem? (i := 120) rfl)))
set_option maxRecDepth 20000 in
theorem ml_X3_76 : Cond.methodLink RX3 76 yX3_readSheep ∈ lw_tbl := List.mem_append_right _ (List.mem_append_right _ (List.mem_append_left _ (List.mem_of_getElem? (i := 128) rfl)))
set_option maxRecDepth 20000 in
theorem ml_X3_89 : Cond.methodLink RX3 89 yX3_kindOf ∈ lw_tbl := List.mem_append_right _ (List.mem_append_right _ (List.mem_append_left _ (List.mem_of_getElem? (i := 136) rfl)))
set_option maxRecDepth 20000 in
theorem ml_X3_96 : Cond.methodLink RX3 96 yX3_readSleeper ∈ lw_tbl := List.mem_append_right _ (List.mem_append_right _ (List.mem_append_left _ (List.mem_of_getElem? (i := 139) rfl)))
set_option maxRecDepth 20000 in
theorem ml_X3_108 : Cond.methodLink RX3 108 yX3_isFigure ∈ lw_tbl := List.mem_append_right _ (List.mem_append_right _ (List.mem_append_left _ (List.mem_of_getElem? (i := 101) rfl)))
set_option maxRecDepth 20000 in
theorem ml_X3_112 : Cond.methodLink RX3 112 yX3_lookAtNumber ∈ lw_tbl := List.mem_append_right _ (List.mem_append_right _ (List.mem_append_left _ (List.mem_of_getElem? (i := 104) rfl)))
set_option maxRecDepth 20000 in
theorem ml_X4_19 : Cond.methodLink RX4 19 yX4_placeOf ∈ lw_tbl := List.mem_append_right _ (List.mem_append_right _ (List.mem_append_left _ (List.mem_of_getElem? (i := 33) rfl)))
set_option maxRecDepth 20000 in
theorem ml_X4_29 : Cond.methodLink RX4 29 yX4_isGone ∈ lw_tbl := List.mem_append_right _ (List.mem_append_right _ (List.mem_append_right _ (List.mem_append_left _ (List.mem_of_getElem? (i := 227) rfl))))
set_option maxRecDepth 20000 in
theorem ml_X5_55 : Cond.methodLink RX5 55 yX5_goBackTo ∈ lw_tbl := List.mem_append_right _ (List.mem_append_right _ (List.mem_append_left _ (List.mem_of_getElem? (i := 149) rfl)))
set_option maxRecDepth 20000 in
theorem ml_X5_59 : Cond.methodLink RX5 59 yX5_hears ∈ lw_tbl := List.mem_append_right _ (List.mem_append_right _ (List.mem_append_left _ (List.mem_of_getElem? (i := 182) rfl)))
set_option maxRecDepth 20000 in
theorem ml_X5_64 : Cond.methodLink RX5 64 yX5_hear ∈ lw_tbl := List.mem_append_right _ (List.mem_append_right _ (List.mem_append_left _ (List.mem_of_getElem? (i := 186) rfl)))
set_option maxRecDepth 20000 in
theorem ml_X5_68 : Cond.methodLink RX5 68 yX5_countMore ∈ lw_tbl := List.mem_append_right _ (List.mem_append_right _ (List.mem_append_left _ (List.mem_of_getElem? (i := 190) rfl)))
set_option maxRecDepth 20000 in
theorem ml_X5_71 : Cond.methodLink RX5 71 yX5_startAnew ∈ lw_tbl := List.mem_append_right _ (List.mem_append_right _ (List.mem_append_left _ (List.mem_of_getElem? (i := 195) rfl)))
set_option maxRecDepth 20000 in
theorem ml_X5_75 : Cond.methodLink RX5 75 yX5_wake ∈ lw_tbl := List.mem_append_right _ (List.mem_append_right _ (List.mem_append_left _ (List.mem_of_getElem? (i := 199) rfl)))
set_option maxRecDepth 20000 in
theorem ml_X5_84 : Cond.methodLink RX5 84 yX5_isOff ∈ lw_tbl := List.mem_append_right _ (List.mem_append_right _ (List.mem_append_right _ (List.mem_append_left _ (List.mem_of_getElem? (i := 50) rfl))))
set_option maxRecDepth 20000 in
theorem ml_X5_88 : Cond.methodLink RX5 88 yX5_swap ∈ lw_tbl := List.mem_append_right _ (List.mem_append_right _ (List.mem_append_right _ (List.mem_append_left _ (List.mem_of_getElem? (i := 101) rfl))))
set_option maxRecDepth 20000 in
theorem ml_X7_56 : Cond.methodLink RX7 56 yX7_in ∈ lw_tbl := List.mem_append_right _ (List.mem_append_right _ (List.mem_append_right _ (List.mem_append_right _ (List.mem_append_left _ (List.mem_of_getElem? (i := 82) rfl)))))
set_option maxRecDepth 20000 in
theorem ml_X7_65 : Cond.methodLink RX7 65 yX7_isRow ∈ lw_tbl := List.mem_append_right _ (List.mem_append_right _ (List.mem_append_right _ (List.mem_append_right _ (List.mem_append_left _ (List.mem_of_getElem? (i := 79) rfl)))))
set_option maxRecDepth 20000 in
theorem ml_X7_70 : Cond.methodLink RX7 70 yX7_finds ∈ lw_tbl := List.mem_append_right _ (List.mem_append_right _ (List.mem_append_right _ (List.mem_append_right _ (List.mem_append_left _ (List.mem_of_getElem? (i := 86) rfl)))))
set_option maxRecDepth 20000 in
theorem ml_X7_74 : Cond.methodLink RX7 74 yX7_done ∈ lw_tbl := List.mem_append_right _ (List.mem_append_right _ (List.mem_append_right _ (List.mem_append_right _ (List.mem_append_left _ (List.mem_of_getElem? (i := 91) rfl)))))
set_option maxRecDepth 20000 in
theorem ml_X7_77 : Cond.methodLink RX7 77 yX7_isPart ∈ lw_tbl := List.mem_append_right _ (List.mem_append_right _ (List.mem_append_right _ (List.mem_append_right _ (List.mem_append_left _ (List.mem_of_getElem? (i := 103) rfl)))))
set_option maxRecDepth 20000 in
theorem ml_X7_99 : Cond.methodLink RX7 99 yX7_nextToken ∈ lw_tbl := List.mem_append_right _ (List.mem_append_right _ (List.mem_append_right _ (List.mem_append_right _ (List.mem_append_left _ (List.mem_of_getElem? (i := 127) rfl)))))
set_option maxRecDepth 20000 in
theorem ml_X7_102 : Cond.methodLink RX7 102 yX7_fails ∈ lw_tbl := List.mem_append_right _ (List.mem_append_right _ (List.mem_append_right _ (List.mem_append_right _ (List.mem_append_left _ (List.mem_of_getElem? (i := 131) rfl)))))
set_option maxRecDepth 20000 in
theorem ml_X7_105 : Cond.methodLink RX7 105 yX7_isNumber ∈ lw_tbl := List.mem_append_right _ (List.mem_append_right _ (List.mem_append_right _ (List.mem_append_right _ (List.mem_append_left _ (List.mem_of_getElem? (i := 135) rfl)))))
set_option maxRecDepth 20000 in
theorem ml_X7_109 : Cond.methodLink RX7 109 yX7_isSign ∈ lw_tbl := List.mem_append_right _ (List.mem_append_right _ (List.mem_append_right _ (List.mem_append_right _ (List.mem_append_left _ (List.mem_of_getElem? (i := 123) rfl)))))
set_option maxRecDepth 20000 in
theorem ml_X7_112 : Cond.methodLink RX7 112 yX7_isPair ∈ lw_tbl := List.mem_append_right _ (List.mem_append_right _ (List.mem_append_right _ (List.mem_append_right _ (List.mem_append_left _ (List.mem_of_getElem? (i := 143) rfl)))))
set_option maxRecDepth 20000 in
theorem ml_X7_116 : Cond.methodLink RX7 116 yX7_sortBy ∈ lw_tbl := List.mem_append_right _ (List.mem_append_right _ (List.mem_append_right _ (List.mem_append_right _ (List.mem_append_left _ (List.mem_of_getElem? (i := 147) rfl)))))
set_option maxRecDepth 20000 in
theorem ml_X7_119 : Cond.methodLink RX7 119 yX7_isItem ∈ lw_tbl := List.mem_append_right _ (List.mem_append_right _ (List.mem_append_right _ (List.mem_append_right _ (List.mem_append_left _ (List.mem_of_getElem? (i := 139) rfl)))))
set_option maxRecDepth 20000 in
theorem ml_X7_123 : Cond.methodLink RX7 123 yX7_isRead ∈ lw_tbl := List.mem_append_right _ (List.mem_append_right _ (List.mem_append_right _ (List.mem_append_right _ (List.mem_append_left _ (List.mem_of_getElem? (i := 119) rfl)))))
set_option maxRecDepth 20000 in
theorem ml_X7_130 : Cond.methodLink RX7 130 yX7_lay ∈ lw_tbl := List.mem_append_right _ (List.mem_append_right _ (List.mem_append_right _ (List.mem_append_right _ (List.mem_append_left _ (List.mem_of_getElem? (i := 151) rfl)))))
set_option maxRecDepth 20000 in
theorem ml_X7_137 : Cond.methodLink RX7 137 yX7_bits ∈ lw_tbl := List.mem_append_right _ (List.mem_append_right _ (List.mem_append_right _ (List.mem_append_right _ (List.mem_append_left _ (List.mem_of_getElem? (i := 178) rfl)))))
set_option maxRecDepth 20000 in
theorem ml_X7_140 : Cond.methodLink RX7 140 yX7_has ∈ lw_tbl := List.mem_append_right _ (List.mem_append_right _ (List.mem_append_right _ (List.mem_append_right _ (List.mem_append_left _ (List.mem_of_getElem? (i := 181) rfl)))))
set_option maxRecDepth 20000 in
theorem ml_X7_143 : Cond.methodLink RX7 143 yX7_hears ∈ lw_tbl := List.mem_append_right _ (List.mem_append_right _ (List.mem_append_right _ (List.mem_append_right _ (List.mem_append_left _ (List.mem_of_getElem? (i := 184) rfl)))))
set_option maxRecDepth 20000 in
theorem ml_X7_147 : Cond.methodLink RX7 147 yX7_countedBy ∈ lw_tbl := List.mem_append_right _ (List.mem_append_right _ (List.mem_append_right _ (List.mem_append_right _ (List.mem_append_left _ (List.mem_of_getElem? (i := 187) rfl)))))
set_option maxRecDepth 20000 in
theorem ml_X7_151 : Cond.methodLink RX7 151 yX7_isSquare ∈ lw_tbl := List.mem_append_right _ (List.mem_append_right _ (List.mem_append_right _ (List.mem_append_right _ (List.mem_append_left _ (List.mem_of_getElem? (i := 162) rfl)))))
set_option maxRecDepth 20000 in
theorem ml_X7_155 : Cond.methodLink RX7 155 yX7_note ∈ lw_tbl := List.mem_append_right _ (List.mem_append_right _ (List.mem_append_right _ (List.mem_append_right _ (List.mem_append_left _ (List.mem_of_getElem? (i := 167) rfl)))))
set_option maxRecDepth 20000 in
theorem ml_X7_158 : Cond.methodLink RX7 158 yX7_flock ∈ lw_tbl := List.mem_append_right _ (List.mem_append_right _ (List.mem_append_right _ (List.mem_append_right _ (List.mem_append_left _ (List.mem_of_getElem? (i := 171) rfl)))))
set_option maxRecDepth 20000 in
theorem ml_X7_162 : Cond.methodLink RX7 162 yX7_pass ∈ lw_tbl := List.mem_append_right _ (List.mem_append_right _ (List.mem_append_right _ (List.mem_append_right _ (List.mem_append_left _ (List.mem_of_getElem? (i := 175) rfl)))))
set_option maxRecDepth 20000 in
theorem ml_X7_166 : Cond.methodLink RX7 166 yX7_offOf ∈ lw_tbl := List.mem_append_right _ (List.mem_append_right _ (List.mem_append_right _ (List.mem_append_right _ (List.mem_append_left _ (List.mem_of_getElem? (i := 190) rfl)))))
set_option maxRecDepth 20000 in
theorem ml_X7_170 : Cond.methodLink RX7 170 yX7_isOne ∈ lw_tbl := List.mem_append_right _ (List.mem_append_right _ (List.mem_append_right _ (List.mem_append_right _ (List.mem_append_left _ (List.mem_of_getElem? (i := 205) rfl)))))
set_option maxRecDepth 20000 in
theorem ml_X7_173 : Cond.methodLink RX7 173 yX7_heardBy ∈ lw_tbl := List.mem_append_right _ (List.mem_append_right _ (List.mem_append_right _ (List.mem_append_right _ (List.mem_append_left _ (List.mem_of_getElem? (i := 217) rfl)))))
set_option maxRecDepth 20000 in
theorem ml_X7_176 : Cond.methodLink RX7 176 yX7_begin ∈ lw_tbl := List.mem_append_right _ (List.mem_append_right _ (List.mem_append_right _ (List.mem_append_right _ (List.mem_append_left _ (List.mem_of_getElem? (i := 233) rfl)))))
set_option maxRecDepth 20000 in
theorem ml_X7_179 : Cond.methodLink RX7 179 yX7_goOn ∈ lw_tbl := List.mem_append_right _ (List.mem_append_right _ (List.mem_append_right _ (List.mem_append_right _ (List.mem_append_left _ (List.mem_of_getElem? (i := 229) rfl)))))
set_option maxRecDepth 20000 in
theorem ml_X7_184 : Cond.methodLink RX7 184 yX7_firstOf ∈ lw_tbl := List.mem_append_right _ (List.mem_append_right _ (List.mem_append_right _ (List.mem_append_right _ (List.mem_append_right _ (List.mem_of_getElem? (i := 5) rfl)))))
set_option maxRecDepth 20000 in
theorem ml_X7_188 : Cond.methodLink RX7 188 yX7_isSet ∈ lw_tbl := List.mem_append_right _ (List.mem_append_right _ (List.mem_append_right _ (List.mem_append_right _ (List.mem_append_right _ (List.mem_of_getElem? (i := 14) rfl)))))
set_option maxRecDepth 20000 in
theorem ml_X7_191 : Cond.methodLink RX7 191 yX7_layOff ∈ lw_tbl := List.mem_append_right _ (List.mem_append_right _ (List.mem_append_right _ (List.mem_append_right _ (List.mem_append_right _ (List.mem_of_getElem? (i := 22) rfl)))))
set_option maxRecDepth 20000 in
theorem ml_X7_194 : Cond.methodLink RX7 194 yX7_layRow ∈ lw_tbl := List.mem_append_right _ (List.mem_append_right _ (List.mem_append_right _ (List.mem_append_right _ (List.mem_append_right _ (List.mem_of_getElem? (i := 34) rfl)))))
set_option maxRecDepth 20000 in
theorem ml_X7_197 : Cond.methodLink RX7 197 yX7_takeOut ∈ lw_tbl := List.mem_append_right _ (List.mem_append_right _ (List.mem_append_right _ (List.mem_append_right _ (List.mem_append_right _ (List.mem_of_getElem? (i := 46) rfl)))))
set_option maxRecDepth 20000 in
theorem ml_X7_200 : Cond.methodLink RX7 200 yX7_isSo ∈ lw_tbl := List.mem_append_right _ (List.mem_append_right _ (List.mem_append_right _ (List.mem_append_right _ (List.mem_append_right _ (List.mem_of_getElem? (i := 50) rfl)))))
set_option maxRecDepth 20000 in
theorem ml_X7_203 : Cond.methodLink RX7 203 yX7_parentOf ∈ lw_tbl := List.mem_append_right _ (List.mem_append_right _ (List.mem_append_right _ (List.mem_append_right _ (List.mem_append_right _ (List.mem_of_getElem? (i := 82) rfl)))))
set_option maxRecDepth 20000 in
theorem ml_X7_209 : Cond.methodLink RX7 209 yX7_begins ∈ lw_tbl := List.mem_append_right _ (List.mem_append_right _ (List.mem_append_right _ (List.mem_append_right _ (List.mem_append_right _ (List.mem_of_getElem? (i := 93) rfl)))))
set_option maxRecDepth 20000 in
theorem ml_X7_212 : Cond.methodLink RX7 212 yX7_markPlain ∈ lw_tbl := List.mem_append_right _ (List.mem_append_right _ (List.mem_append_right _ (List.mem_append_right _ (List.mem_append_right _ (List.mem_of_getElem? (i := 105) rfl)))))
set_option maxRecDepth 20000 in
theorem ml_X7_215 : Cond.methodLink RX7 215 yX7_sizeNervous ∈ lw_tbl := List.mem_append_right _ (List.mem_append_right _ (List.mem_append_right _ (List.mem_append_right _ (List.mem_append_right _ (List.mem_of_getElem? (i := 97) rfl)))))
set_option maxRecDepth 20000 in
theorem ml_X7_218 : Cond.methodLink RX7 218 yX7_markWarm ∈ lw_tbl := List.mem_append_right _ (List.mem_append_right _ (List.mem_append_right _ (List.mem_append_right _ (List.mem_append_right _ (List.mem_of_getElem? (i := 101) rfl)))))
set_option maxRecDepth 20000 in
theorem ml_X7_221 : Cond.methodLink RX7 221 yX7_sizeOf ∈ lw_tbl := List.mem_append_right _ (List.mem_append_right _ (List.mem_append_right _ (List.mem_append_right _ (List.mem_append_right _ (List.mem_of_getElem? (i := 89) rfl)))))
set_option maxRecDepth 20000 in
theorem ml_X7_224 : Cond.methodLink RX7 224 yX7_markOf ∈ lw_tbl := List.mem_append_right _ (List.mem_append_right _ (List.mem_append_right _ (List.mem_append_right _ (List.mem_append_right _ (List.mem_of_getElem? (i := 109) rfl)))))
set_option maxRecDepth 20000 in
theorem ct_X6_65 : Cond.constant RX6 65 (-1000001) ∈ lw_tbl := List.mem_append_right _ (List.mem_append_right _ (List.mem_append_left _ (List.mem_of_getElem? (i := 23) rfl)))
set_option maxRecDepth 20000 in
theorem ct_X6_102 : Cond.constant RX6 102 (-1000003) ∈ lw_tbl := List.mem_append_right _ (List.mem_append_right _ (List.mem_append_left _ (List.mem_of_getElem? (i := 80) rfl)))
set_option maxRecDepth 20000 in
theorem ct_X6_114 : Cond.constant RX6 114 (-1000100) ∈ lw_tbl := List.mem_append_right _ (List.mem_append_right _ (List.mem_append_left _ (List.mem_of_getElem? (i := 143) rfl)))
set_option maxRecDepth 20000 in
theorem ct_X6_135 : Cond.constant RX6 135 (-1000002) ∈ lw_tbl := List.mem_append_right _ (List.mem_append_right _ (List.mem_append_left _ (List.mem_of_getElem? (i := 169) rfl)))
set_option maxRecDepth 20000 in
theorem ct_X6_227 : Cond.constant RX6 227 (-1000000) ∈ lw_tbl := List.mem_append_right _ (List.mem_append_right _ (List.mem_append_right _ (List.mem_append_left _ (List.mem_of_getElem? (i := 102) rfl))))
set_option maxRecDepth 20000 in
theorem ct_X6_285 : Cond.constant RX6 285 (-1000010) ∈ lw_tbl := List.mem_append_right _ (List.mem_append_right _ (List.mem_append_left _ (List.mem_of_getElem? (i := 28) rfl)))
set_option maxRecDepth 20000 in
theorem ct_X2_34 : Cond.constant RX2 34 (-1000000) ∈ lw_tbl := List.mem_append_right _ (List.mem_append_right _ (List.mem_append_right _ (List.mem_append_left _ (List.mem_of_getElem? (i := 44) rfl))))
set_option maxRecDepth 20000 in
theorem ct_X2_35 : Cond.constantLong RX2 35 (-1) ∈ lw_tbl := List.mem_append_right _ (List.mem_append_right _ (List.mem_append_right _ (List.mem_append_left _ (List.mem_of_getElem? (i := 45) rfl))))
set_option maxRecDepth 20000 in
theorem ct_X5_63 : Cond.constant RX5 63 (-1000000) ∈ lw_tbl := List.mem_append_right _ (List.mem_append_right _ (List.mem_append_right _ (List.mem_append_left _ (List.mem_of_getElem? (i := 13) rfl))))
set_option maxRecDepth 20000 in
theorem ct_X7_64 : Cond.constant RX7 64 (-1000010) ∈ lw_tbl := List.mem_append_right _ (List.mem_append_right _ (List.mem_append_right _ (List.mem_append_right _ (List.mem_append_left _ (List.mem_of_getElem? (i := 90) rfl)))))
set_option maxRecDepth 20000 in
theorem ct_X7_69 : Cond.constant RX7 69 (-1000001) ∈ lw_tbl := List.mem_append_right _ (List.mem_append_right _ (List.mem_append_right _ (List.mem_append_right _ (List.mem_append_left _ (List.mem_of_getElem? (i := 85) rfl)))))
set_option maxRecDepth 20000 in
theorem ct_X7_83 : Cond.constant RX7 83 (-1000003) ∈ lw_tbl := List.mem_append_right _ (List.mem_append_right _ (List.mem_append_right _ (List.mem_append_right _ (List.mem_append_left _ (List.mem_of_getElem? (i := 114) rfl)))))
set_option maxRecDepth 20000 in
theorem ct_X7_129 : Cond.constant RX7 129 (-1000100) ∈ lw_tbl := List.mem_append_right _ (List.mem_append_right _ (List.mem_append_right _ (List.mem_append_right _ (List.mem_append_left _ (List.mem_of_getElem? (i := 150) rfl)))))
set_option maxRecDepth 20000 in
theorem ct_X7_154 : Cond.constant RX7 154 (-1000002) ∈ lw_tbl := List.mem_append_right _ (List.mem_append_right _ (List.mem_append_right _ (List.mem_append_right _ (List.mem_append_left _ (List.mem_of_getElem? (i := 166) rfl)))))
set_option maxRecDepth 20000 in
theorem ct_X7_183 : Cond.constant RX7 183 (-1000000) ∈ lw_tbl := List.mem_append_right _ (List.mem_append_right _ (List.mem_append_right _ (List.mem_append_right _ (List.mem_append_right _ (List.mem_of_getElem? (i := 9) rfl)))))
set_option maxRecDepth 20000 in
theorem ct_J6_265 : Cond.constant RJ6 265 (1431655765) ∈ lw_tbl := List.mem_append_right _ (List.mem_append_right _ (List.mem_append_right _ (List.mem_append_left _ (List.mem_of_getElem? (i := 78) rfl))))
set_option maxRecDepth 20000 in
theorem ct_J6_266 : Cond.constant RJ6 266 (858993459) ∈ lw_tbl := List.mem_append_right _ (List.mem_append_right _ (List.mem_append_right _ (List.mem_append_left _ (List.mem_of_getElem? (i := 79) rfl))))
set_option maxRecDepth 20000 in
theorem ct_J6_267 : Cond.constant RJ6 267 (252645135) ∈ lw_tbl := List.mem_append_right _ (List.mem_append_right _ (List.mem_append_right _ (List.mem_append_left _ (List.mem_of_getElem? (i := 80) rfl))))
set_option maxRecDepth 20000 in
theorem cl_X6_7 : Cond.classLink RX6 7 (k_cl 4).1 ∈ lw_tbl := List.mem_append_right _ (List.mem_append_left _ (List.mem_of_getElem? (i := 20) rfl))
set_option maxRecDepth 20000 in
theorem cl_X6_16 : Cond.classLink RX6 16 (k_cl 3).1 ∈ lw_tbl := List.mem_append_right _ (List.mem_append_left _ (List.mem_of_getElem? (i := 39) rfl))
set_option maxRecDepth 20000 in
theorem cl_X6_23 : Cond.classLink RX6 23 (k_cl 5).1 ∈ lw_tbl := List.mem_append_right _ (List.mem_append_left _ (List.mem_of_getElem? (i := 76) rfl))
set_option maxRecDepth 20000 in
theorem cl_X6_36 : Cond.classLink RX6 36 (k_cl 0).1 ∈ lw_tbl := List.mem_append_right _ (List.mem_append_left _ (List.mem_of_getElem? (i := 154) rfl))
set_option maxRecDepth 20000 in
theorem cl_X6_43 : Cond.classLink RX6 43 (k_cl 2).1 ∈ lw_tbl := List.mem_append_right _ (List.mem_append_left _ (List.mem_of_getElem? (i := 183) rfl))
set_option maxRecDepth 20000 in
theorem cl_X6_50 : Cond.classLink RX6 50 (k_cl 1).1 ∈ lw_tbl := List.mem_append_right _ (List.mem_append_left _ (List.mem_of_getElem? (i := 200) rfl))
set_option maxRecDepth 20000 in
theorem cl_X2_9 : Cond.classLink RX2 9 (k_cl 5).1 ∈ lw_tbl := List.mem_append_right _ (List.mem_append_left _ (List.mem_of_getElem? (i := 189) rfl))
