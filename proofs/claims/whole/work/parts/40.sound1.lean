/-! ===== the machine does what the functions say ===== -/
set_option maxHeartbeats 10000000 in
set_option maxRecDepth 20000 in
theorem s_A_init_0 (G : GG) : Sq kId G (kF G (1) mi_A_init) mi_A_init 0 b_A_init_0 := by
  unfold b_A_init_0
  exact (sq_aload_n (pc := 0) dX0_init_0 rfl
    (sq_cobj (d := 1) (pc := 1) dX0_init_1 (List.mem_append_right _ (List.mem_append_left _ (List.mem_of_getElem? (i := 159) rfl))) in_obj co_obj (by decide) (k_ok_kF G (1) mi_A_init)
    (sq_aload_n (pc := 4) dX0_init_4 rfl
    (sq_iconst (pc := 5) dX0_init_5 kc_i_0
    (sq_cputi (pc := 6) dX0_init_6 fl_X0_9 rfl rfl
    (sq_aload_n (pc := 9) dX0_init_9 rfl
    (sq_iconst (pc := 10) dX0_init_10 kc_i_0
    (sq_cputi (pc := 11) dX0_init_11 fl_X0_15 rfl rfl
    (sq_aload_n (pc := 14) dX0_init_14 rfl
    (sq_bipush (pc := 15) dX0_init_15 kc_b_24
    (sq_cnewi (pc := 17) dX0_init_17 ac_int (k_ok_kF G (1) mi_A_init)
    (sq_cputr (pc := 19) dX0_init_19 fl_X0_18 rfl rfl rfl rfl (fun _ => rfl) (fun _ => rfl)
    (sq_aload_n (pc := 22) dX0_init_22 rfl
    (sq_bipush (pc := 23) dX0_init_23 kc_b_24
    (sq_cnewi (pc := 25) dX0_init_25 ac_int (k_ok_kF G (1) mi_A_init)
    (sq_cputr (pc := 27) dX0_init_27 fl_X0_22 rfl rfl rfl rfl (fun _ => rfl) (fun _ => rfl)
    (sq_aload_n (pc := 30) dX0_init_30 rfl
    (sq_bipush (pc := 31) dX0_init_31 kc_b_24
    (sq_cnewi (pc := 33) dX0_init_33 ac_int (k_ok_kF G (1) mi_A_init)
    (sq_cputr (pc := 35) dX0_init_35 fl_X0_25 rfl rfl rfl rfl (fun _ => rfl) (fun _ => rfl)
    (sq_aload_n (pc := 38) dX0_init_38 rfl
    (sq_bipush (pc := 39) dX0_init_39 kc_b_120
    (sq_cnewi (pc := 41) dX0_init_41 ac_int (k_ok_kF G (1) mi_A_init)
    (sq_cputr (pc := 43) dX0_init_43 fl_X0_28 rfl rfl rfl rfl (fun _ => rfl) (fun _ => rfl)
    (sq_aload_n (pc := 46) dX0_init_46 rfl
    (sq_sipush (pc := 47) dX0_init_47 kc_s_144
    (sq_cnewi (pc := 50) dX0_init_50 ac_int (k_ok_kF G (1) mi_A_init)
    (sq_cputr (pc := 52) dX0_init_52 fl_X0_31 rfl rfl rfl rfl (fun _ => rfl) (fun _ => rfl)
    (sq_ret rfl (pc := 55) dX0_init_55)))))))))))))))))))))))))))))
theorem m_A_init (G : GG) : RS kId G 1 mi_A_init r_A_init := by
  intro as M v M' h
  unfold r_A_init at h
  split at h
  · exact mc_of ok_A_init (s_A_init_0 G) (k_c1 _ rfl) (Nat.le_of_ble_eq_true rfl) rfl h
  · cases h
set_option maxHeartbeats 10000000 in
set_option maxRecDepth 20000 in
theorem s_A_keep_0 (G : GG) : Sq kE G (kF G (1) mi_A_keep) mi_A_keep 0 b_A_keep_0 := by
  unfold b_A_keep_0
  exact (sq_aload_n (pc := 0) dX0_keep_0 rfl
    (sq_getr (pc := 1) dX0_keep_1 fl_X0_18 rfl rfl (by decide)
    (sq_aload_n (pc := 4) dX0_keep_4 rfl
    (sq_geti (pc := 5) dX0_keep_5 fl_X0_15 rfl
    (sq_aload_n (pc := 8) dX0_keep_8 rfl
    (sq_geti (pc := 9) dX0_keep_9 fl_X0_34 rfl
    (sq_iast (pc := 12) dX0_keep_12
    (sq_aload_n (pc := 13) dX0_keep_13 rfl
    (sq_getr (pc := 14) dX0_keep_14 fl_X0_22 rfl rfl (by decide)
    (sq_aload_n (pc := 17) dX0_keep_17 rfl
    (sq_geti (pc := 18) dX0_keep_18 fl_X0_15 rfl
    (sq_aload_n (pc := 21) dX0_keep_21 rfl
    (sq_geti (pc := 22) dX0_keep_22 fl_X0_38 rfl
    (sq_iast (pc := 25) dX0_keep_25
    (sq_aload_n (pc := 26) dX0_keep_26 rfl
    (sq_getr (pc := 27) dX0_keep_27 fl_X0_25 rfl rfl (by decide)
    (sq_aload_n (pc := 30) dX0_keep_30 rfl
    (sq_geti (pc := 31) dX0_keep_31 fl_X0_15 rfl
    (sq_aload_n (pc := 34) dX0_keep_34 rfl
    (sq_geti (pc := 35) dX0_keep_35 fl_X0_40 rfl
    (sq_iast (pc := 38) dX0_keep_38
    (sq_aload_n (pc := 39) dX0_keep_39 rfl
    (sq_getr (pc := 40) dX0_keep_40 fl_X0_42 rfl rfl (by decide)
    (sq_iconst (pc := 43) dX0_keep_43 kc_i_0
    (sq_aload_n (pc := 44) dX0_keep_44 rfl
    (sq_getr (pc := 45) dX0_keep_45 fl_X0_28 rfl rfl (by decide)
    (sq_aload_n (pc := 48) dX0_keep_48 rfl
    (sq_geti (pc := 49) dX0_keep_49 fl_X0_15 rfl
    (sq_iconst (pc := 52) dX0_keep_52 kc_i_5
    (sq_imul (pc := 53) dX0_keep_53
    (sq_iconst (pc := 54) dX0_keep_54 kc_i_5
    (sq_copy (d := 1) (pc := 55) dX0_keep_55 (List.mem_append_right _ (List.mem_append_right _ (List.mem_append_left _ (List.mem_of_getElem? (i := 174) rfl)))) nat_cpy st_cpy ini_sys (by decide) (k_ok_kF G (1) mi_A_keep)
    (sq_aload_n (pc := 58) dX0_keep_58 rfl
    (sq_getr (pc := 59) dX0_keep_59 fl_X0_49 rfl rfl (by decide)
    (sq_iconst (pc := 62) dX0_keep_62 kc_i_0
    (sq_aload_n (pc := 63) dX0_keep_63 rfl
    (sq_getr (pc := 64) dX0_keep_64 fl_X0_31 rfl rfl (by decide)
    (sq_aload_n (pc := 67) dX0_keep_67 rfl
    (sq_geti (pc := 68) dX0_keep_68 fl_X0_15 rfl
    (sq_bipush (pc := 71) dX0_keep_71 kc_b_6
    (sq_imul (pc := 73) dX0_keep_73
    (sq_bipush (pc := 74) dX0_keep_74 kc_b_6
    (sq_copy (d := 1) (pc := 76) dX0_keep_76 (List.mem_append_right _ (List.mem_append_right _ (List.mem_append_left _ (List.mem_of_getElem? (i := 174) rfl)))) nat_cpy st_cpy ini_sys (by decide) (k_ok_kF G (1) mi_A_keep)
    (sq_aload_n (pc := 79) dX0_keep_79 rfl
    (sq_aload_n (pc := 80) dX0_keep_80 rfl
    (sq_geti (pc := 81) dX0_keep_81 fl_X0_15 rfl
    (sq_iconst (pc := 84) dX0_keep_84 kc_i_1
    (sq_iadd (pc := 85) dX0_keep_85
    (sq_bipush (pc := 86) dX0_keep_86 kc_b_24
    (sq_irem (pc := 88) dX0_keep_88
    (sq_puti (pc := 89) dX0_keep_89 fl_X0_15 rfl rfl
    (sq_aload_n (pc := 92) dX0_keep_92 rfl
    (sq_bipush (pc := 93) dX0_keep_93 kc_b_24
    (sq_aload_n (pc := 95) dX0_keep_95 rfl
    (sq_geti (pc := 96) dX0_keep_96 fl_X0_9 rfl
    (sq_iconst (pc := 99) dX0_keep_99 kc_i_1
    (sq_iadd (pc := 100) dX0_keep_100
    (sq_min (d := 1) (pc := 101) dX0_keep_101 (List.mem_append_right _ (List.mem_append_right _ (List.mem_append_left _ (List.mem_of_getElem? (i := 175) rfl)))) st_min ini_math co_min (by decide) (k_ok_kF G (1) mi_A_keep)
    (sq_puti (pc := 104) dX0_keep_104 fl_X0_9 rfl rfl
    (sq_ret rfl (pc := 107) dX0_keep_107))))))))))))))))))))))))))))))))))))))))))))))))))))))))))))
theorem m_A_keep (G : GG) : RS kE G 1 mi_A_keep r_A_keep := by
  intro as M v M' h
  unfold r_A_keep at h
  split at h
  · exact mc_of ok_A_keep (s_A_keep_0 G) (k_c1 _ rfl) (Nat.le_of_ble_eq_true rfl) rfl h
  · cases h
set_option maxHeartbeats 10000000 in
set_option maxRecDepth 20000 in
theorem s_A_takeBack_0 (G : GG) : Sq kE G (kF G (1) mi_A_takeBack) mi_A_takeBack 0 b_A_takeBack_0 := by
  unfold b_A_takeBack_0
  exact (sq_aload_n (pc := 0) dX0_takeBack_0 rfl
    (sq_geti (pc := 1) dX0_takeBack_1 fl_X0_9 rfl
    (sq_ifne (pc := 4) dX0_takeBack_4 (tgt := 8) rfl
    (sq_ret rfl (pc := 7) dX0_takeBack_7)
    (sq_aload_n (pc := 8) dX0_takeBack_8 rfl
    (sq_dup (pc := 9) dX0_takeBack_9
    (sq_geti (pc := 10) dX0_takeBack_10 fl_X0_9 rfl
    (sq_iconst (pc := 13) dX0_takeBack_13 kc_i_1
    (sq_isub (pc := 14) dX0_takeBack_14
    (sq_puti (pc := 15) dX0_takeBack_15 fl_X0_9 rfl rfl
    (sq_aload_n (pc := 18) dX0_takeBack_18 rfl
    (sq_aload_n (pc := 19) dX0_takeBack_19 rfl
    (sq_geti (pc := 20) dX0_takeBack_20 fl_X0_15 rfl
    (sq_bipush (pc := 23) dX0_takeBack_23 kc_b_24
    (sq_iadd (pc := 25) dX0_takeBack_25
    (sq_iconst (pc := 26) dX0_takeBack_26 kc_i_1
    (sq_isub (pc := 27) dX0_takeBack_27
    (sq_bipush (pc := 28) dX0_takeBack_28 kc_b_24
    (sq_irem (pc := 30) dX0_takeBack_30
    (sq_puti (pc := 31) dX0_takeBack_31 fl_X0_15 rfl rfl
    (sq_aload_n (pc := 34) dX0_takeBack_34 rfl
    (sq_aload_n (pc := 35) dX0_takeBack_35 rfl
    (sq_getr (pc := 36) dX0_takeBack_36 fl_X0_18 rfl rfl (by decide)
    (sq_aload_n (pc := 39) dX0_takeBack_39 rfl
    (sq_geti (pc := 40) dX0_takeBack_40 fl_X0_15 rfl
    (sq_iald (pc := 43) dX0_takeBack_43
    (sq_puti (pc := 44) dX0_takeBack_44 fl_X0_34 rfl rfl
    (sq_aload_n (pc := 47) dX0_takeBack_47 rfl
    (sq_aload_n (pc := 48) dX0_takeBack_48 rfl
    (sq_getr (pc := 49) dX0_takeBack_49 fl_X0_22 rfl rfl (by decide)
    (sq_aload_n (pc := 52) dX0_takeBack_52 rfl
    (sq_geti (pc := 53) dX0_takeBack_53 fl_X0_15 rfl
    (sq_iald (pc := 56) dX0_takeBack_56
    (sq_puti (pc := 57) dX0_takeBack_57 fl_X0_38 rfl rfl
    (sq_aload_n (pc := 60) dX0_takeBack_60 rfl
    (sq_aload_n (pc := 61) dX0_takeBack_61 rfl
    (sq_getr (pc := 62) dX0_takeBack_62 fl_X0_25 rfl rfl (by decide)
    (sq_aload_n (pc := 65) dX0_takeBack_65 rfl
    (sq_geti (pc := 66) dX0_takeBack_66 fl_X0_15 rfl
    (sq_iald (pc := 69) dX0_takeBack_69
    (sq_puti (pc := 70) dX0_takeBack_70 fl_X0_40 rfl rfl
    (sq_aload_n (pc := 73) dX0_takeBack_73 rfl
    (sq_getr (pc := 74) dX0_takeBack_74 fl_X0_28 rfl rfl (by decide)
    (sq_aload_n (pc := 77) dX0_takeBack_77 rfl
    (sq_geti (pc := 78) dX0_takeBack_78 fl_X0_15 rfl
    (sq_iconst (pc := 81) dX0_takeBack_81 kc_i_5
    (sq_imul (pc := 82) dX0_takeBack_82
    (sq_aload_n (pc := 83) dX0_takeBack_83 rfl
    (sq_getr (pc := 84) dX0_takeBack_84 fl_X0_42 rfl rfl (by decide)
    (sq_iconst (pc := 87) dX0_takeBack_87 kc_i_0
    (sq_iconst (pc := 88) dX0_takeBack_88 kc_i_5
    (sq_copy (d := 1) (pc := 89) dX0_takeBack_89 (List.mem_append_right _ (List.mem_append_right _ (List.mem_append_left _ (List.mem_of_getElem? (i := 174) rfl)))) nat_cpy st_cpy ini_sys (by decide) (k_ok_kF G (1) mi_A_takeBack)
    (sq_aload_n (pc := 92) dX0_takeBack_92 rfl
    (sq_getr (pc := 93) dX0_takeBack_93 fl_X0_31 rfl rfl (by decide)
    (sq_aload_n (pc := 96) dX0_takeBack_96 rfl
    (sq_geti (pc := 97) dX0_takeBack_97 fl_X0_15 rfl
    (sq_bipush (pc := 100) dX0_takeBack_100 kc_b_6
    (sq_imul (pc := 102) dX0_takeBack_102
    (sq_aload_n (pc := 103) dX0_takeBack_103 rfl
    (sq_getr (pc := 104) dX0_takeBack_104 fl_X0_49 rfl rfl (by decide)
    (sq_iconst (pc := 107) dX0_takeBack_107 kc_i_0
    (sq_bipush (pc := 108) dX0_takeBack_108 kc_b_6
    (sq_copy (d := 1) (pc := 110) dX0_takeBack_110 (List.mem_append_right _ (List.mem_append_right _ (List.mem_append_left _ (List.mem_of_getElem? (i := 174) rfl)))) nat_cpy st_cpy ini_sys (by decide) (k_ok_kF G (1) mi_A_takeBack)
    (sq_ret rfl (pc := 113) dX0_takeBack_113)))))))))))))))))))))))))))))))))))))))))))))))))))))))))))))))
theorem m_A_takeBack (G : GG) : RS kE G 1 mi_A_takeBack r_A_takeBack := by
  intro as M v M' h
  unfold r_A_takeBack at h
  split at h
  · exact mc_of ok_A_takeBack (s_A_takeBack_0 G) (k_c1 _ rfl) (Nat.le_of_ble_eq_true rfl) rfl h
  · cases h
set_option maxHeartbeats 10000000 in
set_option maxRecDepth 20000 in
theorem s_A_forget_0 (G : GG) : Sq kE G (kF G (0) mi_A_forget) mi_A_forget 0 b_A_forget_0 := by
  unfold b_A_forget_0
  exact (sq_aload_n (pc := 0) dX0_forget_0 rfl
    (sq_iconst (pc := 1) dX0_forget_1 kc_i_0
    (sq_puti (pc := 2) dX0_forget_2 fl_X0_9 rfl rfl
    (sq_ret rfl (pc := 5) dX0_forget_5))))
theorem m_A_forget (G : GG) : RS kE G 0 mi_A_forget r_A_forget := by
  intro as M v M' h
  unfold r_A_forget at h
  split at h
  · exact mc_of ok_A_forget (s_A_forget_0 G) (k_c1 _ rfl) (Nat.le_of_ble_eq_true rfl) rfl h
  · cases h
set_option maxHeartbeats 10000000 in
set_option maxRecDepth 20000 in
theorem s_Q_init_0 (G : GG) : Sq kId G (kF G (1) mi_Q_init) mi_Q_init 0 b_Q_init_0 := by
  unfold b_Q_init_0
  exact (sq_aload_n (pc := 0) dX1_init_0 rfl
    (sq_cobj (d := 1) (pc := 1) dX1_init_1 (List.mem_append_right _ (List.mem_append_left _ (List.mem_of_getElem? (i := 205) rfl))) in_obj co_obj (by decide) (k_ok_kF G (1) mi_Q_init)
    (sq_aload_n (pc := 4) dX1_init_4 rfl
    (sq_bipush (pc := 5) dX1_init_5 kc_b_16
    (sq_cnewi (pc := 7) dX1_init_7 ac_int (k_ok_kF G (1) mi_Q_init)
    (sq_cputr (pc := 9) dX1_init_9 fl_X1_9 rfl rfl rfl rfl (fun _ => rfl) (fun _ => rfl)
    (sq_aload_n (pc := 12) dX1_init_12 rfl
    (sq_iconst (pc := 13) dX1_init_13 kc_i_0
    (sq_cputi (pc := 14) dX1_init_14 fl_X1_15 rfl rfl
    (sq_aload_n (pc := 17) dX1_init_17 rfl
    (sq_iconst (pc := 18) dX1_init_18 kc_i_0
    (sq_cputi (pc := 19) dX1_init_19 fl_X1_19 rfl rfl
    (sq_aload_n (pc := 22) dX1_init_22 rfl
    (sq_iconst (pc := 23) dX1_init_23 kc_i_0
    (sq_cputi (pc := 24) dX1_init_24 fl_X1_22 rfl rfl
    (sq_aload_n (pc := 27) dX1_init_27 rfl
    (sq_iconst (pc := 28) dX1_init_28 kc_i_0
    (sq_cputi (pc := 29) dX1_init_29 fl_X1_25 rfl rfl
    (sq_aload_n (pc := 32) dX1_init_32 rfl
    (sq_iconst (pc := 33) dX1_init_33 kc_i_0
    (sq_cputi (pc := 34) dX1_init_34 fl_X1_28 rfl rfl
    (sq_ret rfl (pc := 37) dX1_init_37))))))))))))))))))))))
theorem m_Q_init (G : GG) : RS kId G 1 mi_Q_init r_Q_init := by
  intro as M v M' h
  unfold r_Q_init at h
  split at h
  · exact mc_of ok_Q_init (s_Q_init_0 G) (k_c1 _ rfl) (Nat.le_of_ble_eq_true rfl) rfl h
  · cases h
set_option maxHeartbeats 10000000 in
set_option maxRecDepth 20000 in
theorem s_Q_bodyFor_49 (G : GG) : Sq kE G (kF G (0) mi_Q_bodyFor) mi_Q_bodyFor 49 (b_Q_bodyFor_49) := by
  unfold b_Q_bodyFor_49
  exact (sq_aload_n (pc := 49) dX1_bodyFor_49 rfl
    (sq_iload_n (pc := 50) dX1_bodyFor_50 rfl
    (sq_sald (pc := 51) dX1_bodyFor_51
    (sq_iret rfl (pc := 52) dX1_bodyFor_52))))
set_option maxHeartbeats 10000000 in
set_option maxRecDepth 20000 in
theorem s_Q_bodyFor_22 (G : GG) (n : Nat) : Sq kE G (kF G (0) mi_Q_bodyFor) mi_Q_bodyFor 22 (b_Q_bodyFor_22 n) := by
  induction n with
  | zero => exact sq_none
  | succ n ih =>
    unfold b_Q_bodyFor_22
    exact (sq_iload (pc := 22) dX1_bodyFor_22
    (sq_gets0N (host := RX6) (pc := 24) dX1_bodyFor_24 (List.mem_of_getElem? (i := 7) rfl)
    (sq_salen (pc := 27) dX1_bodyFor_27
    (sq_cge (pc := 28) dX1_bodyFor_28 (tgt := 49) rfl
    (s_Q_bodyFor_49 G)
    (sq_aload_n (pc := 31) dX1_bodyFor_31 rfl
    (sq_iload_n (pc := 32) dX1_bodyFor_32 rfl
    (sq_sald (pc := 33) dX1_bodyFor_33
    (sq_ifne (pc := 34) dX1_bodyFor_34 (tgt := 49) rfl
    (sq_gets0N (host := RX6) (pc := 37) dX1_bodyFor_37 (List.mem_of_getElem? (i := 7) rfl)
    (sq_iload_n (pc := 40) dX1_bodyFor_40 rfl
    (sq_sald (pc := 41) dX1_bodyFor_41
    (sq_istore_n (pc := 42) dX1_bodyFor_42 rfl
    (sq_iinc (pc := 43) dX1_bodyFor_43 rfl
    (sq_goto (pc := 46) dX1_bodyFor_46 (tgt := 22) rfl ih))))))
    (s_Q_bodyFor_49 G)))))))))
set_option maxHeartbeats 10000000 in
set_option maxRecDepth 20000 in
theorem s_Q_bodyFor_13 (G : GG) : Sq kE G (kF G (0) mi_Q_bodyFor) mi_Q_bodyFor 13 (b_Q_bodyFor_13) := by
  unfold b_Q_bodyFor_13
  exact (sq_astore_n (pc := 13) dX1_bodyFor_13 rfl
    (sq_aload_n (pc := 14) dX1_bodyFor_14 rfl
    (sq_geti (pc := 15) dX1_bodyFor_15 fl_X1_22 rfl
    (sq_istore_n (pc := 18) dX1_bodyFor_18 rfl
    (sq_iconst (pc := 19) dX1_bodyFor_19 kc_i_0
    (sq_istore (pc := 20) dX1_bodyFor_20
    (s_Q_bodyFor_22 G k_fu)))))))
set_option maxHeartbeats 10000000 in
set_option maxRecDepth 20000 in
theorem s_Q_bodyFor_0 (G : GG) : Sq kE G (kF G (0) mi_Q_bodyFor) mi_Q_bodyFor 0 b_Q_bodyFor_0 := by
  unfold b_Q_bodyFor_0
  exact (sq_iload_n (pc := 0) dX1_bodyFor_0 rfl
    (sq_ifne (pc := 1) dX1_bodyFor_1 (tgt := 10) rfl
    (sq_gets1 (pc := 4) dX1_bodyFor_4 (List.mem_append_right _ (List.mem_append_right _ (List.mem_append_right _ (List.mem_append_left _ (List.mem_of_getElem? (i := 206) rfl)))))
    (sq_goto (pc := 7) dX1_bodyFor_7 (tgt := 13) rfl (s_Q_bodyFor_13 G)))
    (sq_gets2 (pc := 10) dX1_bodyFor_10 (List.mem_append_right _ (List.mem_append_right _ (List.mem_append_right _ (List.mem_append_left _ (List.mem_of_getElem? (i := 208) rfl)))))
    (s_Q_bodyFor_13 G))))
theorem m_Q_bodyFor (G : GG) : RS kE G 0 mi_Q_bodyFor r_Q_bodyFor := by
  intro as M v M' h
  unfold r_Q_bodyFor at h
  split at h
  · exact mc_of ok_Q_bodyFor (s_Q_bodyFor_0 G) (k_c1 _ rfl) (Nat.le_of_ble_eq_true rfl) rfl h
  · cases h
set_option maxHeartbeats 10000000 in
set_option maxRecDepth 20000 in
theorem s_S_init_0 (G : GG) : Sq kId G (kF G (1) mi_S_init) mi_S_init 0 b_S_init_0 := by
  unfold b_S_init_0
  exact (sq_aload_n (pc := 0) dX5_init_0 rfl
    (sq_cobj (d := 1) (pc := 1) dX5_init_1 (List.mem_append_right _ (List.mem_append_left _ (List.mem_of_getElem? (i := 81) rfl))) in_obj co_obj (by decide) (k_ok_kF G (1) mi_S_init)
    (sq_aload_n (pc := 4) dX5_init_4 rfl
    (sq_iconst (pc := 5) dX5_init_5 kc_i_0
    (sq_cputi (pc := 6) dX5_init_6 fl_X5_9 rfl rfl
    (sq_aload_n (pc := 9) dX5_init_9 rfl
    (sq_iconst (pc := 10) dX5_init_10 kc_i_0
    (sq_cputi (pc := 11) dX5_init_11 fl_X5_15 rfl rfl
    (sq_aload_n (pc := 14) dX5_init_14 rfl
    (sq_iconst (pc := 15) dX5_init_15 kc_i_0
    (sq_cputi (pc := 16) dX5_init_16 fl_X5_18 rfl rfl
    (sq_aload_n (pc := 19) dX5_init_19 rfl
    (sq_iconst (pc := 20) dX5_init_20 kc_i_0
    (sq_cputi (pc := 21) dX5_init_21 fl_X5_21 rfl rfl
    (sq_aload_n (pc := 24) dX5_init_24 rfl
    (sq_iconst (pc := 25) dX5_init_25 kc_i_0
    (sq_cputi (pc := 26) dX5_init_26 fl_X5_24 rfl rfl
    (sq_aload_n (pc := 29) dX5_init_29 rfl
    (sq_bipush (pc := 30) dX5_init_30 kc_b_6
    (sq_cnewi (pc := 32) dX5_init_32 ac_int (k_ok_kF G (1) mi_S_init)
    (sq_cputr (pc := 34) dX5_init_34 fl_X5_27 rfl rfl rfl rfl (fun _ => rfl) (fun _ => rfl)
    (sq_aload_n (pc := 37) dX5_init_37 rfl
    (sq_bipush (pc := 38) dX5_init_38 kc_b_6
    (sq_cnewi (pc := 40) dX5_init_40 ac_int (k_ok_kF G (1) mi_S_init)
    (sq_cputr (pc := 42) dX5_init_42 fl_X5_31 rfl rfl rfl rfl (fun _ => rfl) (fun _ => rfl)
    (sq_aload_n (pc := 45) dX5_init_45 rfl
    (sq_bipush (pc := 46) dX5_init_46 kc_b_6
    (sq_cnewi (pc := 48) dX5_init_48 ac_int (k_ok_kF G (1) mi_S_init)
    (sq_cputr (pc := 50) dX5_init_50 fl_X5_34 rfl rfl rfl rfl (fun _ => rfl) (fun _ => rfl)
    (sq_aload_n (pc := 53) dX5_init_53 rfl
    (sq_iconst (pc := 54) dX5_init_54 kc_i_5
    (sq_cnewi (pc := 55) dX5_init_55 ac_int (k_ok_kF G (1) mi_S_init)
    (sq_cputr (pc := 57) dX5_init_57 fl_X5_37 rfl rfl rfl rfl (fun _ => rfl) (fun _ => rfl)
    (sq_aload_n (pc := 60) dX5_init_60 rfl
    (sq_iconst (pc := 61) dX5_init_61 kc_i_5
    (sq_cnewi (pc := 62) dX5_init_62 ac_int (k_ok_kF G (1) mi_S_init)
    (sq_cputr (pc := 64) dX5_init_64 fl_X5_40 rfl rfl rfl rfl (fun _ => rfl) (fun _ => rfl)
    (sq_aload_n (pc := 67) dX5_init_67 rfl
    (sq_iconst (pc := 68) dX5_init_68 kc_i_5
    (sq_cnewi (pc := 69) dX5_init_69 ac_int (k_ok_kF G (1) mi_S_init)
    (sq_cputr (pc := 71) dX5_init_71 fl_X5_43 rfl rfl rfl rfl (fun _ => rfl) (fun _ => rfl)
    (sq_aload_n (pc := 74) dX5_init_74 rfl
    (sq_iconst (pc := 75) dX5_init_75 kc_i_5
    (sq_cnewi (pc := 76) dX5_init_76 ac_int (k_ok_kF G (1) mi_S_init)
    (sq_cputr (pc := 78) dX5_init_78 fl_X5_46 rfl rfl rfl rfl (fun _ => rfl) (fun _ => rfl)
    (sq_ret rfl (pc := 81) dX5_init_81))))))))))))))))))))))))))))))))))))))))))))))
theorem m_S_init (G : GG) : RS kId G 1 mi_S_init r_S_init := by
  intro as M v M' h
  unfold r_S_init at h
  split at h
  · exact mc_of ok_S_init (s_S_init_0 G) (k_c1 _ rfl) (Nat.le_of_ble_eq_true rfl) rfl h
  · cases h
set_option maxHeartbeats 10000000 in
set_option maxRecDepth 20000 in
theorem s_F_init_0 (G : GG) : Sq kId G (kF G (2) mi_F_init) mi_F_init 0 b_F_init_0 := by
  unfold b_F_init_0
  exact (sq_aload_n (pc := 0) dX2_init_0 rfl
    (sq_cobj (d := 2) (pc := 1) dX2_init_1 (List.mem_append_right _ (List.mem_append_left _ (List.mem_of_getElem? (i := 188) rfl))) in_obj co_obj (by decide) (k_ok_kF G (2) mi_F_init)
    (sq_aload_n (pc := 4) dX2_init_4 rfl
    (sq_cnew (pc := 5) dX2_init_5 (by decide) cl_X2_9 ins_5 ini_X5 (k_ok_kF G (2) mi_F_init)
    (sq_dup (pc := 8) dX2_init_8
    (sq_callIN (host := RX6) (d := 2) (pc := 9) dX2_init_9 (List.mem_of_getElem? (i := 5) rfl) in_S_init ok_S_init rfl rfl ar_S_init (by decide) (k_ok_kF G (2) mi_F_init) (m_S_init G)
    (sq_cputr (pc := 12) dX2_init_12 fl_X2_12 rfl rfl rfl rfl (fun _ => rfl) (fun _ => rfl)
    (sq_aload_n (pc := 15) dX2_init_15 rfl
    (sq_bipush (pc := 16) dX2_init_16 kc_b_6
    (sq_cnewi (pc := 18) dX2_init_18 ac_int (k_ok_kF G (2) mi_F_init)
    (sq_cputr (pc := 20) dX2_init_20 fl_X2_18 rfl rfl rfl rfl (fun _ => rfl) (fun _ => rfl)
    (sq_ret rfl (pc := 23) dX2_init_23))))))))))))
theorem m_F_init (G : GG) : RS kId G 2 mi_F_init r_F_init := by
  intro as M v M' h
  unfold r_F_init at h
  split at h
  · exact mc_of ok_F_init (s_F_init_0 G) (k_c1 _ rfl) (Nat.le_of_ble_eq_true rfl) rfl h
  · cases h
set_option maxHeartbeats 10000000 in
set_option maxRecDepth 20000 in
theorem s_S_goBackTo_0 (G : GG) : Sq kE G (kF G (1) mi_S_goBackTo) mi_S_goBackTo 0 b_S_goBackTo_0 := by
  unfold b_S_goBackTo_0
  exact (sq_aload_n (pc := 0) dX5_goBackTo_0 rfl
    (sq_aload_n (pc := 1) dX5_goBackTo_1 rfl
    (sq_geti (pc := 2) dX5_goBackTo_2 fl_X5_18 rfl
    (sq_puti (pc := 5) dX5_goBackTo_5 fl_X5_18 rfl rfl
    (sq_aload_n (pc := 8) dX5_goBackTo_8 rfl
    (sq_aload_n (pc := 9) dX5_goBackTo_9 rfl
    (sq_geti (pc := 10) dX5_goBackTo_10 fl_X5_24 rfl
    (sq_puti (pc := 13) dX5_goBackTo_13 fl_X5_24 rfl rfl
    (sq_aload_n (pc := 16) dX5_goBackTo_16 rfl
    (sq_getr (pc := 17) dX5_goBackTo_17 fl_X5_46 rfl rfl (by decide)
    (sq_iconst (pc := 20) dX5_goBackTo_20 kc_i_0
    (sq_aload_n (pc := 21) dX5_goBackTo_21 rfl
    (sq_getr (pc := 22) dX5_goBackTo_22 fl_X5_46 rfl rfl (by decide)
    (sq_iconst (pc := 25) dX5_goBackTo_25 kc_i_0
    (sq_iconst (pc := 26) dX5_goBackTo_26 kc_i_5
    (sq_copy (d := 1) (pc := 27) dX5_goBackTo_27 (List.mem_append_right _ (List.mem_append_right _ (List.mem_append_left _ (List.mem_of_getElem? (i := 148) rfl)))) nat_cpy st_cpy ini_sys (by decide) (k_ok_kF G (1) mi_S_goBackTo)
    (sq_ret rfl (pc := 30) dX5_goBackTo_30)))))))))))))))))
theorem m_S_goBackTo (G : GG) : RS kE G 1 mi_S_goBackTo r_S_goBackTo := by
  intro as M v M' h
  unfold r_S_goBackTo at h
  split at h
  · exact mc_of ok_S_goBackTo (s_S_goBackTo_0 G) (k_c1 _ rfl) (Nat.le_of_ble_eq_true rfl) rfl h
  · cases h
set_option maxHeartbeats 10000000 in
set_option maxRecDepth 20000 in
theorem s_S_become_0 (G : GG) : Sq kE G (kF G (2) mi_S_become) mi_S_become 0 b_S_become_0 := by
  unfold b_S_become_0
  exact (sq_aload_n (pc := 0) dX5_become_0 rfl
    (sq_aload_n (pc := 1) dX5_become_1 rfl
    (sq_geti (pc := 2) dX5_become_2 fl_X5_9 rfl
    (sq_puti (pc := 5) dX5_become_5 fl_X5_9 rfl rfl
    (sq_aload_n (pc := 8) dX5_become_8 rfl
    (sq_aload_n (pc := 9) dX5_become_9 rfl
    (sq_geti (pc := 10) dX5_become_10 fl_X5_15 rfl
    (sq_puti (pc := 13) dX5_become_13 fl_X5_15 rfl rfl
    (sq_aload_n (pc := 16) dX5_become_16 rfl
    (sq_aload_n (pc := 17) dX5_become_17 rfl
    (sq_geti (pc := 18) dX5_become_18 fl_X5_21 rfl
    (sq_puti (pc := 21) dX5_become_21 fl_X5_21 rfl rfl
    (sq_aload_n (pc := 24) dX5_become_24 rfl
    (sq_getr (pc := 25) dX5_become_25 fl_X5_27 rfl rfl (by decide)
    (sq_iconst (pc := 28) dX5_become_28 kc_i_0
    (sq_aload_n (pc := 29) dX5_become_29 rfl
    (sq_getr (pc := 30) dX5_become_30 fl_X5_27 rfl rfl (by decide)
    (sq_iconst (pc := 33) dX5_become_33 kc_i_0
    (sq_bipush (pc := 34) dX5_become_34 kc_b_6
    (sq_copy (d := 2) (pc := 36) dX5_become_36 (List.mem_append_right _ (List.mem_append_right _ (List.mem_append_left _ (List.mem_of_getElem? (i := 148) rfl)))) nat_cpy st_cpy ini_sys (by decide) (k_ok_kF G (2) mi_S_become)
    (sq_aload_n (pc := 39) dX5_become_39 rfl
    (sq_getr (pc := 40) dX5_become_40 fl_X5_31 rfl rfl (by decide)
    (sq_iconst (pc := 43) dX5_become_43 kc_i_0
    (sq_aload_n (pc := 44) dX5_become_44 rfl
    (sq_getr (pc := 45) dX5_become_45 fl_X5_31 rfl rfl (by decide)
    (sq_iconst (pc := 48) dX5_become_48 kc_i_0
    (sq_bipush (pc := 49) dX5_become_49 kc_b_6
    (sq_copy (d := 2) (pc := 51) dX5_become_51 (List.mem_append_right _ (List.mem_append_right _ (List.mem_append_left _ (List.mem_of_getElem? (i := 148) rfl)))) nat_cpy st_cpy ini_sys (by decide) (k_ok_kF G (2) mi_S_become)
    (sq_aload_n (pc := 54) dX5_become_54 rfl
    (sq_getr (pc := 55) dX5_become_55 fl_X5_34 rfl rfl (by decide)
    (sq_iconst (pc := 58) dX5_become_58 kc_i_0
    (sq_aload_n (pc := 59) dX5_become_59 rfl
    (sq_getr (pc := 60) dX5_become_60 fl_X5_34 rfl rfl (by decide)
    (sq_iconst (pc := 63) dX5_become_63 kc_i_0
    (sq_bipush (pc := 64) dX5_become_64 kc_b_6
    (sq_copy (d := 2) (pc := 66) dX5_become_66 (List.mem_append_right _ (List.mem_append_right _ (List.mem_append_left _ (List.mem_of_getElem? (i := 148) rfl)))) nat_cpy st_cpy ini_sys (by decide) (k_ok_kF G (2) mi_S_become)
    (sq_aload_n (pc := 69) dX5_become_69 rfl
    (sq_getr (pc := 70) dX5_become_70 fl_X5_37 rfl rfl (by decide)
    (sq_iconst (pc := 73) dX5_become_73 kc_i_0
    (sq_aload_n (pc := 74) dX5_become_74 rfl
    (sq_getr (pc := 75) dX5_become_75 fl_X5_37 rfl rfl (by decide)
    (sq_iconst (pc := 78) dX5_become_78 kc_i_0
    (sq_iconst (pc := 79) dX5_become_79 kc_i_5
    (sq_copy (d := 2) (pc := 80) dX5_become_80 (List.mem_append_right _ (List.mem_append_right _ (List.mem_append_left _ (List.mem_of_getElem? (i := 148) rfl)))) nat_cpy st_cpy ini_sys (by decide) (k_ok_kF G (2) mi_S_become)
    (sq_aload_n (pc := 83) dX5_become_83 rfl
    (sq_getr (pc := 84) dX5_become_84 fl_X5_40 rfl rfl (by decide)
    (sq_iconst (pc := 87) dX5_become_87 kc_i_0
    (sq_aload_n (pc := 88) dX5_become_88 rfl
    (sq_getr (pc := 89) dX5_become_89 fl_X5_40 rfl rfl (by decide)
    (sq_iconst (pc := 92) dX5_become_92 kc_i_0
    (sq_iconst (pc := 93) dX5_become_93 kc_i_5
    (sq_copy (d := 2) (pc := 94) dX5_become_94 (List.mem_append_right _ (List.mem_append_right _ (List.mem_append_left _ (List.mem_of_getElem? (i := 148) rfl)))) nat_cpy st_cpy ini_sys (by decide) (k_ok_kF G (2) mi_S_become)
    (sq_aload_n (pc := 97) dX5_become_97 rfl
    (sq_getr (pc := 98) dX5_become_98 fl_X5_43 rfl rfl (by decide)
    (sq_iconst (pc := 101) dX5_become_101 kc_i_0
    (sq_aload_n (pc := 102) dX5_become_102 rfl
    (sq_getr (pc := 103) dX5_become_103 fl_X5_43 rfl rfl (by decide)
    (sq_iconst (pc := 106) dX5_become_106 kc_i_0
    (sq_iconst (pc := 107) dX5_become_107 kc_i_5
    (sq_copy (d := 2) (pc := 108) dX5_become_108 (List.mem_append_right _ (List.mem_append_right _ (List.mem_append_left _ (List.mem_of_getElem? (i := 148) rfl)))) nat_cpy st_cpy ini_sys (by decide) (k_ok_kF G (2) mi_S_become)
    (sq_aload_n (pc := 111) dX5_become_111 rfl
    (sq_aload_n (pc := 112) dX5_become_112 rfl
    (sq_callV (d := 2) (d' := 1) (mi' := mi_S_goBackTo) (pc := 113) dX5_become_113 ml_X5_55 in_S_goBackTo se_S_goBackTo ok_S_goBackTo ar_S_goBackTo (by decide) rfl (by decide) (k_ok_kF G (2) mi_S_become) (m_S_goBackTo G)
    (sq_ret rfl (pc := 116) dX5_become_116))))))))))))))))))))))))))))))))))))))))))))))))))))))))))))))))
theorem m_S_become (G : GG) : RS kE G 2 mi_S_become r_S_become := by
  intro as M v M' h
  unfold r_S_become at h
  split at h
  · exact mc_of ok_S_become (s_S_become_0 G) (k_c1 _ rfl) (Nat.le_of_ble_eq_true rfl) rfl h
  · cases h
set_option maxHeartbeats 10000000 in
set_option maxRecDepth 20000 in
theorem s_F_begin_0 (G : GG) : Sq kE G (kF G (3) mi_F_begin) mi_F_begin 0 b_F_begin_0 := by
  unfold b_F_begin_0
  exact (sq_aload_n (pc := 0) dX2_begin_0 rfl
    (sq_getr (pc := 1) dX2_begin_1 fl_X2_12 rfl rfl (by decide)
    (sq_aload_n (pc := 4) dX2_begin_4 rfl
    (sq_callV (d := 3) (d' := 2) (mi' := mi_S_become) (pc := 5) dX2_begin_5 ml_X2_22 in_S_become se_S_become ok_S_become ar_S_become (by decide) rfl (by decide) (k_ok_kF G (3) mi_F_begin) (m_S_become G)
    (sq_ret rfl (pc := 8) dX2_begin_8)))))
theorem m_F_begin (G : GG) : RS kE G 3 mi_F_begin r_F_begin := by
  intro as M v M' h
  unfold r_F_begin at h
  split at h
  · exact mc_of ok_F_begin (s_F_begin_0 G) (k_c1 _ rfl) (Nat.le_of_ble_eq_true rfl) rfl h
  · cases h
set_option maxHeartbeats 10000000 in
set_option maxRecDepth 20000 in
theorem s_S_countMore_0 (G : GG) : Sq kE G (kF G (1) mi_S_countMore) mi_S_countMore 0 b_S_countMore_0 := by
  unfold b_S_countMore_0
  exact (sq_aload_n (pc := 0) dX5_countMore_0 rfl
    (sq_getr (pc := 1) dX5_countMore_1 fl_X5_46 rfl rfl (by decide)
    (sq_iload_n (pc := 4) dX5_countMore_4 rfl
    (sq_bipush (pc := 5) dX5_countMore_5 kc_b_99
    (sq_aload_n (pc := 7) dX5_countMore_7 rfl
    (sq_getr (pc := 8) dX5_countMore_8 fl_X5_46 rfl rfl (by decide)
    (sq_iload_n (pc := 11) dX5_countMore_11 rfl
    (sq_iald (pc := 12) dX5_countMore_12
    (sq_iload_n (pc := 13) dX5_countMore_13 rfl
    (sq_iadd (pc := 14) dX5_countMore_14
    (sq_min (d := 1) (pc := 15) dX5_countMore_15 (List.mem_append_right _ (List.mem_append_right _ (List.mem_append_left _ (List.mem_of_getElem? (i := 194) rfl)))) st_min ini_math co_min (by decide) (k_ok_kF G (1) mi_S_countMore)
    (sq_iast (pc := 18) dX5_countMore_18
    (sq_ret rfl (pc := 19) dX5_countMore_19)))))))))))))
theorem m_S_countMore (G : GG) : RS kE G 1 mi_S_countMore r_S_countMore := by
  intro as M v M' h
  unfold r_S_countMore at h
  split at h
  · exact mc_of ok_S_countMore (s_S_countMore_0 G) (k_c1 _ rfl) (Nat.le_of_ble_eq_true rfl) rfl h
  · cases h
set_option maxHeartbeats 10000000 in
set_option maxRecDepth 20000 in
theorem s_S_startAnew_0 (G : GG) : Sq kE G (kF G (0) mi_S_startAnew) mi_S_startAnew 0 b_S_startAnew_0 := by
  unfold b_S_startAnew_0
  exact (sq_aload_n (pc := 0) dX5_startAnew_0 rfl
    (sq_getr (pc := 1) dX5_startAnew_1 fl_X5_46 rfl rfl (by decide)
    (sq_iload_n (pc := 4) dX5_startAnew_4 rfl
    (sq_iconst (pc := 5) dX5_startAnew_5 kc_i_0
    (sq_iast (pc := 6) dX5_startAnew_6
    (sq_ret rfl (pc := 7) dX5_startAnew_7))))))
theorem m_S_startAnew (G : GG) : RS kE G 0 mi_S_startAnew r_S_startAnew := by
  intro as M v M' h
  unfold r_S_startAnew at h
  split at h
  · exact mc_of ok_S_startAnew (s_S_startAnew_0 G) (k_c1 _ rfl) (Nat.le_of_ble_eq_true rfl) rfl h
  · cases h
set_option maxHeartbeats 10000000 in
set_option maxRecDepth 20000 in
theorem s_S_wake_0 (G : GG) : Sq kE G (kF G (0) mi_S_wake) mi_S_wake 0 b_S_wake_0 := by
  unfold b_S_wake_0
  exact (sq_aload_n (pc := 0) dX5_wake_0 rfl
    (sq_dup (pc := 1) dX5_wake_1
    (sq_geti (pc := 2) dX5_wake_2 fl_X5_24 rfl
    (sq_iconst (pc := 5) dX5_wake_5 kc_i_1
    (sq_iload_n (pc := 6) dX5_wake_6 rfl
    (sq_ishl (pc := 7) dX5_wake_7
    (sq_iconst (pc := 8) dX5_wake_8 kc_i_m1
    (sq_ixor (pc := 9) dX5_wake_9
    (sq_iand (pc := 10) dX5_wake_10
    (sq_puti (pc := 11) dX5_wake_11 fl_X5_24 rfl rfl
    (sq_ret rfl (pc := 14) dX5_wake_14)))))))))))
theorem m_S_wake (G : GG) : RS kE G 0 mi_S_wake r_S_wake := by
  intro as M v M' h
  unfold r_S_wake at h
  split at h
  · exact mc_of ok_S_wake (s_S_wake_0 G) (k_c1 _ rfl) (Nat.le_of_ble_eq_true rfl) rfl h
  · cases h
set_option maxHeartbeats 10000000 in
set_option maxRecDepth 20000 in
theorem s_S_hear_144 (G : GG) : Sq kE G (kF G (2) mi_S_hear) mi_S_hear 144 (b_S_hear_144) := by
  unfold b_S_hear_144
  exact (sq_ret rfl (pc := 144) dX5_hear_144)
set_option maxHeartbeats 10000000 in
set_option maxRecDepth 20000 in
theorem s_S_hear_72 (G : GG) : Sq kE G (kF G (2) mi_S_hear) mi_S_hear 72 (b_S_hear_72) := by
  unfold b_S_hear_72
  exact (sq_callV (d := 2) (d' := 1) (mi' := mi_S_countMore) (pc := 72) dX5_hear_72 ml_X5_68 in_S_countMore se_S_countMore ok_S_countMore ar_S_countMore (by decide) rfl (by decide) (k_ok_kF G (2) mi_S_hear) (m_S_countMore G)
    (sq_goto (pc := 75) dX5_hear_75 (tgt := 144) rfl (s_S_hear_144 G)))
set_option maxHeartbeats 10000000 in
set_option maxRecDepth 20000 in
theorem s_S_hear_22 (G : GG) : Sq kE G (kF G (2) mi_S_hear) mi_S_hear 22 (b_S_hear_22) := by
  unfold b_S_hear_22
  exact (sq_istore (pc := 22) dX5_hear_22
    (sq_aload_n (pc := 24) dX5_hear_24 rfl
    (sq_getr (pc := 25) dX5_hear_25 fl_X5_37 rfl rfl (by decide)
    (sq_iload_n (pc := 28) dX5_hear_28 rfl
    (sq_iald (pc := 29) dX5_hear_29
    (sq_tsw (pc := 30) dX5_hear_30 (td := 138) rfl (by decide +kernel)
    ((k_swT_cons 30 60 ki_2_0 (by decide +kernel) (by decide +kernel) (sq_aload_n (pc := 60) dX5_hear_60 rfl
    (sq_iload_n (pc := 61) dX5_hear_61 rfl
    (sq_iload (pc := 62) dX5_hear_62
    (sq_ifeq (pc := 64) dX5_hear_64 (tgt := 71) rfl
    (sq_iconst (pc := 71) dX5_hear_71 kc_i_1
    (s_S_hear_72 G))
    (sq_iconst (pc := 67) dX5_hear_67 kc_i_2
    (sq_goto (pc := 68) dX5_hear_68 (tgt := 72) rfl (s_S_hear_72 G))))))) 
    (k_swT_cons 48 78 ki_2_1 (by decide +kernel) (by decide +kernel) (sq_iload_n (pc := 78) dX5_hear_78 rfl
    (sq_ifne (pc := 79) dX5_hear_79 (tgt := 144) rfl
    (sq_aload_n (pc := 82) dX5_hear_82 rfl
    (sq_iload_n (pc := 83) dX5_hear_83 rfl
    (sq_iconst (pc := 84) dX5_hear_84 kc_i_1
    (sq_callV (d := 2) (d' := 1) (mi' := mi_S_countMore) (pc := 85) dX5_hear_85 ml_X5_68 in_S_countMore se_S_countMore ok_S_countMore ar_S_countMore (by decide) rfl (by decide) (k_ok_kF G (2) mi_S_hear) (m_S_countMore G)
    (sq_goto (pc := 88) dX5_hear_88 (tgt := 144) rfl (s_S_hear_144 G))))))
    (s_S_hear_144 G))) 
    (k_swT_cons 61 91 ki_2_2 (by decide +kernel) (by decide +kernel) (sq_iload_n (pc := 91) dX5_hear_91 rfl
    (sq_ifeq (pc := 92) dX5_hear_92 (tgt := 103) rfl
    (sq_aload_n (pc := 103) dX5_hear_103 rfl
    (sq_iload_n (pc := 104) dX5_hear_104 rfl
    (sq_iconst (pc := 105) dX5_hear_105 kc_i_1
    (sq_callV (d := 2) (d' := 1) (mi' := mi_S_countMore) (pc := 106) dX5_hear_106 ml_X5_68 in_S_countMore se_S_countMore ok_S_countMore ar_S_countMore (by decide) rfl (by decide) (k_ok_kF G (2) mi_S_hear) (m_S_countMore G)
    (sq_goto (pc := 109) dX5_hear_109 (tgt := 144) rfl (s_S_hear_144 G))))))
    (sq_aload_n (pc := 95) dX5_hear_95 rfl
    (sq_iload_n (pc := 96) dX5_hear_96 rfl
    (sq_callV (d := 2) (d' := 0) (mi' := mi_S_startAnew) (pc := 97) dX5_hear_97 ml_X5_71 in_S_startAnew se_S_startAnew ok_S_startAnew ar_S_startAnew (by decide) rfl (by decide) (k_ok_kF G (2) mi_S_hear) (m_S_startAnew G)
    (sq_goto (pc := 100) dX5_hear_100 (tgt := 144) rfl (s_S_hear_144 G))))))) 
    (k_swT_cons 82 112 ki_2_3 (by decide +kernel) (by decide +kernel) (sq_iload_n (pc := 112) dX5_hear_112 rfl
    (sq_ifeq (pc := 113) dX5_hear_113 (tgt := 129) rfl
    (sq_aload_n (pc := 129) dX5_hear_129 rfl
    (sq_iload_n (pc := 130) dX5_hear_130 rfl
    (sq_iconst (pc := 131) dX5_hear_131 kc_i_1
    (sq_callV (d := 2) (d' := 1) (mi' := mi_S_countMore) (pc := 132) dX5_hear_132 ml_X5_68 in_S_countMore se_S_countMore ok_S_countMore ar_S_countMore (by decide) rfl (by decide) (k_ok_kF G (2) mi_S_hear) (m_S_countMore G)
    (sq_goto (pc := 135) dX5_hear_135 (tgt := 144) rfl (s_S_hear_144 G))))))
    (sq_aload_n (pc := 116) dX5_hear_116 rfl
    (sq_iload_n (pc := 117) dX5_hear_117 rfl
    (sq_callV (d := 2) (d' := 0) (mi' := mi_S_startAnew) (pc := 118) dX5_hear_118 ml_X5_71 in_S_startAnew se_S_startAnew ok_S_startAnew ar_S_startAnew (by decide) rfl (by decide) (k_ok_kF G (2) mi_S_hear) (m_S_startAnew G)
    (sq_aload_n (pc := 121) dX5_hear_121 rfl
    (sq_iload_n (pc := 122) dX5_hear_122 rfl
    (sq_callV (d := 2) (d' := 0) (mi' := mi_S_wake) (pc := 123) dX5_hear_123 ml_X5_75 in_S_wake se_S_wake ok_S_wake ar_S_wake (by decide) rfl (by decide) (k_ok_kF G (2) mi_S_hear) (m_S_wake G)
    (sq_goto (pc := 126) dX5_hear_126 (tgt := 144) rfl (s_S_hear_144 G)))))))))) k_swT_nil)))))
    (sq_aload_n (pc := 138) dX5_hear_138 rfl
    (sq_iload_n (pc := 139) dX5_hear_139 rfl
    (sq_iconst (pc := 140) dX5_hear_140 kc_i_1
    (sq_callV (d := 2) (d' := 1) (mi' := mi_S_countMore) (pc := 141) dX5_hear_141 ml_X5_68 in_S_countMore se_S_countMore ok_S_countMore ar_S_countMore (by decide) rfl (by decide) (k_ok_kF G (2) mi_S_hear) (m_S_countMore G)
    (s_S_hear_144 G)))))))))))
set_option maxHeartbeats 10000000 in
set_option maxRecDepth 20000 in
theorem s_S_hear_10 (G : GG) : Sq kE G (kF G (2) mi_S_hear) mi_S_hear 10 (b_S_hear_10) := by
  unfold b_S_hear_10
  exact (sq_istore_n (pc := 10) dX5_hear_10 rfl
    (sq_iload_n (pc := 11) dX5_hear_11 rfl
    (sq_iconst (pc := 12) dX5_hear_12 kc_i_1
    (sq_iand (pc := 13) dX5_hear_13
    (sq_ifne (pc := 14) dX5_hear_14 (tgt := 21) rfl
    (sq_iconst (pc := 17) dX5_hear_17 kc_i_1
    (sq_goto (pc := 18) dX5_hear_18 (tgt := 22) rfl (s_S_hear_22 G)))
    (sq_iconst (pc := 21) dX5_hear_21 kc_i_0
    (s_S_hear_22 G)))))))
set_option maxHeartbeats 10000000 in
set_option maxRecDepth 20000 in
theorem s_S_hear_0 (G : GG) : Sq kE G (kF G (2) mi_S_hear) mi_S_hear 0 b_S_hear_0 := by
  unfold b_S_hear_0
  exact (sq_iload_n (pc := 0) dX5_hear_0 rfl
    (sq_iconst (pc := 1) dX5_hear_1 kc_i_2
    (sq_clt (pc := 2) dX5_hear_2 (tgt := 9) rfl
    (sq_iconst (pc := 9) dX5_hear_9 kc_i_0
    (s_S_hear_10 G))
    (sq_iconst (pc := 5) dX5_hear_5 kc_i_1
    (sq_goto (pc := 6) dX5_hear_6 (tgt := 10) rfl (s_S_hear_10 G))))))
theorem m_S_hear (G : GG) : RS kE G 2 mi_S_hear r_S_hear := by
  intro as M v M' h
  unfold r_S_hear at h
  split at h
  · exact mc_of ok_S_hear (s_S_hear_0 G) (k_c1 _ rfl) (Nat.le_of_ble_eq_true rfl) rfl h
  · cases h
set_option maxHeartbeats 10000000 in
set_option maxRecDepth 20000 in
theorem s_S_hears_27 (G : GG) : Sq kE G (kF G (0) mi_S_hears) mi_S_hears 27 (b_S_hears_27) := by
  unfold b_S_hears_27
  exact (sq_zret rfl (pc := 27) dX5_hears_27)
set_option maxHeartbeats 10000000 in
set_option maxRecDepth 20000 in
theorem s_S_hears_22 (G : GG) : Sq kE G (kF G (0) mi_S_hears) mi_S_hears 22 (b_S_hears_22) := by
  unfold b_S_hears_22
  exact (sq_iconst (pc := 22) dX5_hears_22 kc_i_1
    (sq_goto (pc := 23) dX5_hears_23 (tgt := 27) rfl (s_S_hears_27 G)))
set_option maxHeartbeats 10000000 in
set_option maxRecDepth 20000 in
theorem s_S_hears_0 (G : GG) : Sq kE G (kF G (0) mi_S_hears) mi_S_hears 0 b_S_hears_0 := by
  unfold b_S_hears_0
  exact (sq_aload_n (pc := 0) dX5_hears_0 rfl
    (sq_getr (pc := 1) dX5_hears_1 fl_X5_43 rfl rfl (by decide)
    (sq_iload_n (pc := 4) dX5_hears_4 rfl
    (sq_iald (pc := 5) dX5_hears_5
    (sq_ifeq (pc := 6) dX5_hears_6 (tgt := 22) rfl
    (s_S_hears_22 G)
    (sq_aload_n (pc := 9) dX5_hears_9 rfl
    (sq_getr (pc := 10) dX5_hears_10 fl_X5_27 rfl rfl (by decide)
    (sq_iload_n (pc := 13) dX5_hears_13 rfl
    (sq_iald (pc := 14) dX5_hears_14
    (sq_aload_n (pc := 15) dX5_hears_15 rfl
    (sq_geti (pc := 16) dX5_hears_16 fl_X5_21 rfl
    (sq_cle (pc := 19) dX5_hears_19 (tgt := 26) rfl
    (sq_iconst (pc := 26) dX5_hears_26 kc_i_0
    (s_S_hears_27 G))
    (s_S_hears_22 G)))))))))))))
theorem m_S_hears (G : GG) : RS kE G 0 mi_S_hears r_S_hears := by
  intro as M v M' h
  unfold r_S_hears at h
  split at h
  · exact mc_of ok_S_hears (s_S_hears_0 G) (k_c1 _ rfl) (Nat.le_of_ble_eq_true rfl) rfl h
  · cases h
set_option maxHeartbeats 10000000 in
set_option maxRecDepth 20000 in
theorem s_S_goOn_102 (G : GG) {k36 : Kt Mi} (h36 : Sq kE G (kF G (3) mi_S_goOn) mi_S_goOn 36 k36) : Sq kE G (kF G (3) mi_S_goOn) mi_S_goOn 102 (b_S_goOn_102 k36) := by
  unfold b_S_goOn_102
  exact (sq_iinc (pc := 102) dX5_goOn_102 rfl
    (sq_goto (pc := 105) dX5_goOn_105 (tgt := 36) rfl h36))
set_option maxHeartbeats 10000000 in
set_option maxRecDepth 20000 in
theorem s_S_goOn_75 (G : GG) {k36 : Kt Mi} (h36 : Sq kE G (kF G (3) mi_S_goOn) mi_S_goOn 36 k36) : Sq kE G (kF G (3) mi_S_goOn) mi_S_goOn 75 (b_S_goOn_75 k36) := by
  unfold b_S_goOn_75
  exact (sq_aload_n (pc := 75) dX5_goOn_75 rfl
    (sq_getr (pc := 76) dX5_goOn_76 fl_X5_46 rfl rfl (by decide)
    (sq_iload_n (pc := 79) dX5_goOn_79 rfl
    (sq_iald (pc := 80) dX5_goOn_80
    (sq_aload_n (pc := 81) dX5_goOn_81 rfl
    (sq_getr (pc := 82) dX5_goOn_82 fl_X5_40 rfl rfl (by decide)
    (sq_iload_n (pc := 85) dX5_goOn_85 rfl
    (sq_iald (pc := 86) dX5_goOn_86
    (sq_clt (pc := 87) dX5_goOn_87 (tgt := 102) rfl
    (s_S_goOn_102 G h36)
    (sq_aload_n (pc := 90) dX5_goOn_90 rfl
    (sq_dup (pc := 91) dX5_goOn_91
    (sq_geti (pc := 92) dX5_goOn_92 fl_X5_24 rfl
    (sq_iconst (pc := 95) dX5_goOn_95 kc_i_1
    (sq_iload_n (pc := 96) dX5_goOn_96 rfl
    (sq_ishl (pc := 97) dX5_goOn_97
    (sq_ior (pc := 98) dX5_goOn_98
    (sq_puti (pc := 99) dX5_goOn_99 fl_X5_24 rfl rfl
    (s_S_goOn_102 G h36))))))))))))))))))
set_option maxHeartbeats 10000000 in
set_option maxRecDepth 20000 in
theorem s_S_goOn_36 (G : GG) (n : Nat) : Sq kE G (kF G (3) mi_S_goOn) mi_S_goOn 36 (b_S_goOn_36 n) := by
  induction n with
  | zero => exact sq_none
  | succ n ih =>
    unfold b_S_goOn_36
    exact (sq_iload_n (pc := 36) dX5_goOn_36 rfl
    (sq_aload_n (pc := 37) dX5_goOn_37 rfl
    (sq_geti (pc := 38) dX5_goOn_38 fl_X5_15 rfl
    (sq_cge (pc := 41) dX5_goOn_41 (tgt := 108) rfl
    (sq_ret rfl (pc := 108) dX5_goOn_108)
    (sq_iload_n (pc := 44) dX5_goOn_44 rfl
    (sq_iload_n (pc := 45) dX5_goOn_45 rfl
    (sq_ishr (pc := 46) dX5_goOn_46
    (sq_iconst (pc := 47) dX5_goOn_47 kc_i_1
    (sq_iand (pc := 48) dX5_goOn_48
    (sq_ifne (pc := 49) dX5_goOn_49 (tgt := 55) rfl
    (sq_goto (pc := 52) dX5_goOn_52 (tgt := 102) rfl (s_S_goOn_102 G ih))
    (sq_aload_n (pc := 55) dX5_goOn_55 rfl
    (sq_iload_n (pc := 56) dX5_goOn_56 rfl
    (sq_iload_n (pc := 57) dX5_goOn_57 rfl
    (sq_callV (d := 3) (d' := 0) (mi' := mi_S_hears) (pc := 58) dX5_goOn_58 ml_X5_59 in_S_hears se_S_hears ok_S_hears ar_S_hears (by decide) rfl (by decide) (k_ok_kF G (3) mi_S_goOn) (m_S_hears G)
    (sq_ifeq (pc := 61) dX5_goOn_61 (tgt := 75) rfl
    (s_S_goOn_75 G ih)
    (sq_aload_n (pc := 64) dX5_goOn_64 rfl
    (sq_iload_n (pc := 65) dX5_goOn_65 rfl
    (sq_aload_n (pc := 66) dX5_goOn_66 rfl
    (sq_getr (pc := 67) dX5_goOn_67 fl_X5_31 rfl rfl (by decide)
    (sq_iload_n (pc := 70) dX5_goOn_70 rfl
    (sq_iald (pc := 71) dX5_goOn_71
    (sq_callV (d := 3) (d' := 2) (mi' := mi_S_hear) (pc := 72) dX5_goOn_72 ml_X5_64 in_S_hear se_S_hear ok_S_hear ar_S_hear (by decide) rfl (by decide) (k_ok_kF G (3) mi_S_goOn) (m_S_hear G)
    (s_S_goOn_75 G ih)))))))))))))))))))))))
set_option maxHeartbeats 10000000 in
set_option maxRecDepth 20000 in
theorem s_S_goOn_0 (G : GG) : Sq kE G (kF G (3) mi_S_goOn) mi_S_goOn 0 b_S_goOn_0 := by
  unfold b_S_goOn_0
  exact (sq_aload_n (pc := 0) dX5_goOn_0 rfl
    (sq_geti (pc := 1) dX5_goOn_1 fl_X5_9 rfl
    (sq_iconst (pc := 4) dX5_goOn_4 kc_i_1
    (sq_cge (pc := 5) dX5_goOn_5 (tgt := 9) rfl
    (sq_aload_n (pc := 9) dX5_goOn_9 rfl
    (sq_getr (pc := 10) dX5_goOn_10 fl_X5_34 rfl rfl (by decide)
    (sq_aload_n (pc := 13) dX5_goOn_13 rfl
    (sq_geti (pc := 14) dX5_goOn_14 fl_X5_18 rfl
    (sq_aload_n (pc := 17) dX5_goOn_17 rfl
    (sq_geti (pc := 18) dX5_goOn_18 fl_X5_9 rfl
    (sq_irem (pc := 21) dX5_goOn_21
    (sq_iald (pc := 22) dX5_goOn_22
    (sq_istore_n (pc := 23) dX5_goOn_23 rfl
    (sq_aload_n (pc := 24) dX5_goOn_24 rfl
    (sq_dup (pc := 25) dX5_goOn_25
    (sq_geti (pc := 26) dX5_goOn_26 fl_X5_18 rfl
    (sq_iconst (pc := 29) dX5_goOn_29 kc_i_1
    (sq_iadd (pc := 30) dX5_goOn_30
    (sq_puti (pc := 31) dX5_goOn_31 fl_X5_18 rfl rfl
    (sq_iconst (pc := 34) dX5_goOn_34 kc_i_0
    (sq_istore_n (pc := 35) dX5_goOn_35 rfl
    (s_S_goOn_36 G k_fu))))))))))))))))))
    (sq_ret rfl (pc := 8) dX5_goOn_8)))))
theorem m_S_goOn (G : GG) : RS kE G 3 mi_S_goOn r_S_goOn := by
  intro as M v M' h
  unfold r_S_goOn at h
  split at h
  · exact mc_of ok_S_goOn (s_S_goOn_0 G) (k_c1 _ rfl) (Nat.le_of_ble_eq_true rfl) rfl h
  · cases h
set_option maxHeartbeats 10000000 in
set_option maxRecDepth 20000 in
theorem s_F_goFar_2 (G : GG) (n : Nat) : Sq kE G (kF G (4) mi_F_goFar) mi_F_goFar 2 (b_F_goFar_2 n) := by
  induction n with
  | zero => exact sq_none
  | succ n ih =>
    unfold b_F_goFar_2
    exact (sq_iload_n (pc := 2) dX2_goFar_2 rfl
    (sq_iload_n (pc := 3) dX2_goFar_3 rfl
    (sq_cge (pc := 4) dX2_goFar_4 (tgt := 21) rfl
    (sq_ret rfl (pc := 21) dX2_goFar_21)
    (sq_aload_n (pc := 7) dX2_goFar_7 rfl
    (sq_getr (pc := 8) dX2_goFar_8 fl_X2_12 rfl rfl (by decide)
    (sq_iload_n (pc := 11) dX2_goFar_11 rfl
    (sq_callV (d := 4) (d' := 3) (mi' := mi_S_goOn) (pc := 12) dX2_goFar_12 ml_X2_26 in_S_goOn se_S_goOn ok_S_goOn ar_S_goOn (by decide) rfl (by decide) (k_ok_kF G (4) mi_F_goFar) (m_S_goOn G)
    (sq_iinc (pc := 15) dX2_goFar_15 rfl
    (sq_goto (pc := 18) dX2_goFar_18 (tgt := 2) rfl ih)))))))))
set_option maxHeartbeats 10000000 in
set_option maxRecDepth 20000 in
theorem s_F_goFar_0 (G : GG) : Sq kE G (kF G (4) mi_F_goFar) mi_F_goFar 0 b_F_goFar_0 := by
  unfold b_F_goFar_0
  exact (sq_iconst (pc := 0) dX2_goFar_0 kc_i_0
    (sq_istore_n (pc := 1) dX2_goFar_1 rfl
    (s_F_goFar_2 G k_fu)))
theorem m_F_goFar (G : GG) : RS kE G 4 mi_F_goFar r_F_goFar := by
  intro as M v M' h
  unfold r_F_goFar at h
  split at h
  · exact mc_of ok_F_goFar (s_F_goFar_0 G) (k_c1 _ rfl) (Nat.le_of_ble_eq_true rfl) rfl h
  · cases h
set_option maxHeartbeats 10000000 in
set_option maxRecDepth 20000 in
theorem s_S_isOff_16 (G : GG) : Sq kE G (kF G (0) mi_S_isOff) mi_S_isOff 16 (b_S_isOff_16) := by
  unfold b_S_isOff_16
  exact (sq_zret rfl (pc := 16) dX5_isOff_16)
set_option maxHeartbeats 10000000 in
set_option maxRecDepth 20000 in
theorem s_S_isOff_0 (G : GG) : Sq kE G (kF G (0) mi_S_isOff) mi_S_isOff 0 b_S_isOff_0 := by
  unfold b_S_isOff_0
  exact (sq_aload_n (pc := 0) dX5_isOff_0 rfl
    (sq_geti (pc := 1) dX5_isOff_1 fl_X5_24 rfl
    (sq_iload_n (pc := 4) dX5_isOff_4 rfl
    (sq_ishr (pc := 5) dX5_isOff_5
    (sq_iconst (pc := 6) dX5_isOff_6 kc_i_1
    (sq_iand (pc := 7) dX5_isOff_7
    (sq_ifeq (pc := 8) dX5_isOff_8 (tgt := 15) rfl
    (sq_iconst (pc := 15) dX5_isOff_15 kc_i_0
    (s_S_isOff_16 G))
    (sq_iconst (pc := 11) dX5_isOff_11 kc_i_1
    (sq_goto (pc := 12) dX5_isOff_12 (tgt := 16) rfl (s_S_isOff_16 G))))))))))
theorem m_S_isOff (G : GG) : RS kE G 0 mi_S_isOff r_S_isOff := by
  intro as M v M' h
  unfold r_S_isOff at h
  split at h
  · exact mc_of ok_S_isOff (s_S_isOff_0 G) (k_c1 _ rfl) (Nat.le_of_ble_eq_true rfl) rfl h
  · cases h
set_option maxHeartbeats 10000000 in
set_option maxRecDepth 20000 in
theorem s_S_whatMatters_78 (G : GG) {k5 : Kt Mi} (h5 : Sq kE G (kF G (1) mi_S_whatMatters) mi_S_whatMatters 5 k5) : Sq kE G (kF G (1) mi_S_whatMatters) mi_S_whatMatters 78 (b_S_whatMatters_78 k5) := by
  unfold b_S_whatMatters_78
  exact (sq_iinc (pc := 78) dX5_whatMatters_78 rfl
    (sq_goto (pc := 81) dX5_whatMatters_81 (tgt := 5) rfl h5))
set_option maxHeartbeats 10000000 in
set_option maxRecDepth 20000 in
theorem s_S_whatMatters_69 (G : GG) {k5 : Kt Mi} (h5 : Sq kE G (kF G (1) mi_S_whatMatters) mi_S_whatMatters 5 k5) : Sq kE G (kF G (1) mi_S_whatMatters) mi_S_whatMatters 69 (b_S_whatMatters_69 k5) := by
  unfold b_S_whatMatters_69
  exact (sq_lload_n (pc := 69) dX5_whatMatters_69 rfl
    (sq_bipush (pc := 70) dX5_whatMatters_70 kc_b_8
    (sq_lshl (pc := 72) dX5_whatMatters_72
    (sq_iload (pc := 73) dX5_whatMatters_73
    (sq_i2l (pc := 75) dX5_whatMatters_75
    (sq_lor (pc := 76) dX5_whatMatters_76
    (sq_lstore_n (pc := 77) dX5_whatMatters_77 rfl
    (s_S_whatMatters_78 G h5))))))))
set_option maxHeartbeats 10000000 in
set_option maxRecDepth 20000 in
theorem s_S_whatMatters_67 (G : GG) {k5 : Kt Mi} (h5 : Sq kE G (kF G (1) mi_S_whatMatters) mi_S_whatMatters 5 k5) : Sq kE G (kF G (1) mi_S_whatMatters) mi_S_whatMatters 67 (b_S_whatMatters_67 k5) := by
  unfold b_S_whatMatters_67
  exact (sq_istore (pc := 67) dX5_whatMatters_67
    (s_S_whatMatters_69 G h5))
set_option maxHeartbeats 10000000 in
set_option maxRecDepth 20000 in
theorem s_S_whatMatters_5 (G : GG) (n : Nat) : Sq kE G (kF G (1) mi_S_whatMatters) mi_S_whatMatters 5 (b_S_whatMatters_5 n) := by
  induction n with
  | zero => exact sq_none
  | succ n ih =>
    unfold b_S_whatMatters_5
    exact (sq_iload (pc := 5) dX5_whatMatters_5
    (sq_aload_n (pc := 7) dX5_whatMatters_7 rfl
    (sq_geti (pc := 8) dX5_whatMatters_8 fl_X5_15 rfl
    (sq_cge (pc := 11) dX5_whatMatters_11 (tgt := 84) rfl
    (sq_lload_n (pc := 84) dX5_whatMatters_84 rfl
    (sq_lret rfl (pc := 85) dX5_whatMatters_85))
    (sq_iload_n (pc := 14) dX5_whatMatters_14 rfl
    (sq_iload (pc := 15) dX5_whatMatters_15
    (sq_ishr (pc := 17) dX5_whatMatters_17
    (sq_iconst (pc := 18) dX5_whatMatters_18 kc_i_1
    (sq_iand (pc := 19) dX5_whatMatters_19
    (sq_ifne (pc := 20) dX5_whatMatters_20 (tgt := 26) rfl
    (sq_goto (pc := 23) dX5_whatMatters_23 (tgt := 78) rfl (s_S_whatMatters_78 G ih))
    (sq_aload_n (pc := 26) dX5_whatMatters_26 rfl
    (sq_getr (pc := 27) dX5_whatMatters_27 fl_X5_46 rfl rfl (by decide)
    (sq_iload (pc := 30) dX5_whatMatters_30
    (sq_iald (pc := 32) dX5_whatMatters_32
    (sq_istore (pc := 33) dX5_whatMatters_33
    (sq_aload_n (pc := 35) dX5_whatMatters_35 rfl
    (sq_iload (pc := 36) dX5_whatMatters_36
    (sq_callV (d := 1) (d' := 0) (mi' := mi_S_isOff) (pc := 38) dX5_whatMatters_38 ml_X5_84 in_S_isOff se_S_isOff ok_S_isOff ar_S_isOff (by decide) rfl (by decide) (k_ok_kF G (1) mi_S_whatMatters) (m_S_isOff G)
    (sq_ifeq (pc := 41) dX5_whatMatters_41 (tgt := 69) rfl
    (s_S_whatMatters_69 G ih)
    (sq_aload_n (pc := 44) dX5_whatMatters_44 rfl
    (sq_getr (pc := 45) dX5_whatMatters_45 fl_X5_37 rfl rfl (by decide)
    (sq_iload (pc := 48) dX5_whatMatters_48
    (sq_iald (pc := 50) dX5_whatMatters_50
    (sq_iconst (pc := 51) dX5_whatMatters_51 kc_i_5
    (sq_cne (pc := 52) dX5_whatMatters_52 (tgt := 64) rfl
    (sq_iload (pc := 55) dX5_whatMatters_55
    (sq_sipush (pc := 57) dX5_whatMatters_57 kc_s_128
    (sq_iadd (pc := 60) dX5_whatMatters_60
    (sq_goto (pc := 61) dX5_whatMatters_61 (tgt := 67) rfl (s_S_whatMatters_67 G ih)))))
    (sq_sipush (pc := 64) dX5_whatMatters_64 kc_s_255
    (s_S_whatMatters_67 G ih)))))))))))))))))))))))))))
set_option maxHeartbeats 10000000 in
set_option maxRecDepth 20000 in
theorem s_S_whatMatters_0 (G : GG) : Sq kE G (kF G (1) mi_S_whatMatters) mi_S_whatMatters 0 b_S_whatMatters_0 := by
  unfold b_S_whatMatters_0
  exact (sq_lconst (pc := 0) dX5_whatMatters_0 rfl
    (sq_lstore_n (pc := 1) dX5_whatMatters_1 rfl
    (sq_iconst (pc := 2) dX5_whatMatters_2 kc_i_0
    (sq_istore (pc := 3) dX5_whatMatters_3
    (s_S_whatMatters_5 G k_fu)))))
theorem m_S_whatMatters (G : GG) : RS kE G 1 mi_S_whatMatters r_S_whatMatters := by
  intro as M v M' h
  unfold r_S_whatMatters at h
  split at h
  · exact mc_of ok_S_whatMatters (s_S_whatMatters_0 G) (k_c1 _ rfl) (Nat.le_of_ble_eq_true rfl) rfl h
  · cases h
set_option maxHeartbeats 10000000 in
set_option maxRecDepth 20000 in
theorem s_F_soonest_79 (G : GG) {k21 : Kt Mi} (h21 : Sq kE G (kF G (4) mi_F_soonest) mi_F_soonest 21 k21) : Sq kE G (kF G (4) mi_F_soonest) mi_F_soonest 79 (b_F_soonest_79 k21) := by
  unfold b_F_soonest_79
  exact (sq_aload_n (pc := 79) dX2_soonest_79 rfl
    (sq_getr (pc := 80) dX2_soonest_80 fl_X2_12 rfl rfl (by decide)
    (sq_iload_n (pc := 83) dX2_soonest_83 rfl
    (sq_callV (d := 4) (d' := 3) (mi' := mi_S_goOn) (pc := 84) dX2_soonest_84 ml_X2_26 in_S_goOn se_S_goOn ok_S_goOn ar_S_goOn (by decide) rfl (by decide) (k_ok_kF G (4) mi_F_soonest) (m_S_goOn G)
    (sq_iinc (pc := 87) dX2_soonest_87 rfl
    (sq_goto (pc := 90) dX2_soonest_90 (tgt := 21) rfl h21))))))
set_option maxHeartbeats 10000000 in
set_option maxRecDepth 20000 in
theorem s_F_soonest_21 (G : GG) (n : Nat) : Sq kE G (kF G (4) mi_F_soonest) mi_F_soonest 21 (b_F_soonest_21 n) := by
  induction n with
  | zero => exact sq_none
  | succ n ih =>
    unfold b_F_soonest_21
    exact (sq_iload (pc := 21) dX2_soonest_21
    (sq_iload_n (pc := 23) dX2_soonest_23 rfl
    (sq_cgt (pc := 24) dX2_soonest_24 (tgt := 93) rfl
    (sq_ldc (pc := 93) dX2_soonest_93 ct_X2_34
    (sq_iret rfl (pc := 95) dX2_soonest_95))
    (sq_aload_n (pc := 27) dX2_soonest_27 rfl
    (sq_getr (pc := 28) dX2_soonest_28 fl_X2_12 rfl rfl (by decide)
    (sq_geti (pc := 31) dX2_soonest_31 fl_X2_37 rfl
    (sq_iload_n (pc := 34) dX2_soonest_34 rfl
    (sq_iand (pc := 35) dX2_soonest_35
    (sq_iload_n (pc := 36) dX2_soonest_36 rfl
    (sq_cne (pc := 37) dX2_soonest_37 (tgt := 43) rfl
    (sq_iload (pc := 40) dX2_soonest_40
    (sq_iret rfl (pc := 42) dX2_soonest_42))
    (sq_iload (pc := 43) dX2_soonest_43
    (sq_aload_n (pc := 45) dX2_soonest_45 rfl
    (sq_getr (pc := 46) dX2_soonest_46 fl_X2_12 rfl rfl (by decide)
    (sq_geti (pc := 49) dX2_soonest_49 fl_X2_30 rfl
    (sq_irem (pc := 52) dX2_soonest_52
    (sq_ifne (pc := 53) dX2_soonest_53 (tgt := 79) rfl
    (sq_aload_n (pc := 56) dX2_soonest_56 rfl
    (sq_getr (pc := 57) dX2_soonest_57 fl_X2_12 rfl rfl (by decide)
    (sq_iload_n (pc := 60) dX2_soonest_60 rfl
    (sq_callV (d := 4) (d' := 1) (mi' := mi_S_whatMatters) (pc := 61) dX2_soonest_61 ml_X2_40 in_S_whatMatters se_S_whatMatters ok_S_whatMatters ar_S_whatMatters (by decide) rfl (by decide) (k_ok_kF G (4) mi_F_soonest) (m_S_whatMatters G)
    (sq_lstore (pc := 64) dX2_soonest_64
    (sq_lload (pc := 66) dX2_soonest_66
    (sq_lload_n (pc := 68) dX2_soonest_68 rfl
    (sq_lcmp (pc := 69) dX2_soonest_69
    (sq_ifne (pc := 70) dX2_soonest_70 (tgt := 76) rfl
    (sq_ldc (pc := 73) dX2_soonest_73 ct_X2_34
    (sq_iret rfl (pc := 75) dX2_soonest_75))
    (sq_lload (pc := 76) dX2_soonest_76
    (sq_lstore_n (pc := 78) dX2_soonest_78 rfl
    (s_F_soonest_79 G ih))))))))))))
    (s_F_soonest_79 G ih)))))))))))))))))
set_option maxHeartbeats 10000000 in
set_option maxRecDepth 20000 in
theorem s_F_soonest_0 (G : GG) : Sq kE G (kF G (4) mi_F_soonest) mi_F_soonest 0 b_F_soonest_0 := by
  unfold b_F_soonest_0
  exact (sq_aload_n (pc := 0) dX2_soonest_0 rfl
    (sq_getr (pc := 1) dX2_soonest_1 fl_X2_12 rfl rfl (by decide)
    (sq_geti (pc := 4) dX2_soonest_4 fl_X2_30 rfl
    (sq_iconst (pc := 7) dX2_soonest_7 kc_i_1
    (sq_cge (pc := 8) dX2_soonest_8 (tgt := 14) rfl
    (sq_ldc2 (pc := 14) dX2_soonest_14 ct_X2_35
    (sq_lstore_n (pc := 17) dX2_soonest_17 rfl
    (sq_iconst (pc := 18) dX2_soonest_18 kc_i_0
    (sq_istore (pc := 19) dX2_soonest_19
    (s_F_soonest_21 G k_fu)))))
    (sq_ldc (pc := 11) dX2_soonest_11 ct_X2_34
    (sq_iret rfl (pc := 13) dX2_soonest_13)))))))
theorem m_F_soonest (G : GG) : RS kE G 4 mi_F_soonest r_F_soonest := by
  intro as M v M' h
  unfold r_F_soonest at h
  split at h
  · exact mc_of ok_F_soonest (s_F_soonest_0 G) (k_c1 _ rfl) (Nat.le_of_ble_eq_true rfl) rfl h
  · cases h
set_option maxHeartbeats 10000000 in
set_option maxRecDepth 20000 in
theorem s_F_sleepless_10 (G : GG) (n : Nat) : Sq kE G (kF G (4) mi_F_sleepless) mi_F_sleepless 10 (b_F_sleepless_10 n) := by
  induction n with
  | zero => exact sq_none
  | succ n ih =>
    unfold b_F_sleepless_10
    exact (sq_iload_n (pc := 10) dX2_sleepless_10 rfl
    (sq_bipush (pc := 11) dX2_sleepless_11 kc_b_99
    (sq_cgt (pc := 13) dX2_sleepless_13 (tgt := 41) rfl
    (sq_iconst (pc := 41) dX2_sleepless_41 kc_i_1
    (sq_aload_n (pc := 42) dX2_sleepless_42 rfl
    (sq_getr (pc := 43) dX2_sleepless_43 fl_X2_12 rfl rfl (by decide)
    (sq_geti (pc := 46) dX2_sleepless_46 fl_X2_44 rfl
    (sq_ishl (pc := 49) dX2_sleepless_49
    (sq_iconst (pc := 50) dX2_sleepless_50 kc_i_1
    (sq_isub (pc := 51) dX2_sleepless_51
    (sq_iload_n (pc := 52) dX2_sleepless_52 rfl
    (sq_iconst (pc := 53) dX2_sleepless_53 kc_i_m1
    (sq_ixor (pc := 54) dX2_sleepless_54
    (sq_iand (pc := 55) dX2_sleepless_55
    (sq_iret rfl (pc := 56) dX2_sleepless_56))))))))))))
    (sq_aload_n (pc := 16) dX2_sleepless_16 rfl
    (sq_getr (pc := 17) dX2_sleepless_17 fl_X2_12 rfl rfl (by decide)
    (sq_bipush (pc := 20) dX2_sleepless_20 kc_b_31
    (sq_callV (d := 4) (d' := 3) (mi' := mi_S_goOn) (pc := 22) dX2_sleepless_22 ml_X2_26 in_S_goOn se_S_goOn ok_S_goOn ar_S_goOn (by decide) rfl (by decide) (k_ok_kF G (4) mi_F_sleepless) (m_S_goOn G)
    (sq_iload_n (pc := 25) dX2_sleepless_25 rfl
    (sq_aload_n (pc := 26) dX2_sleepless_26 rfl
    (sq_getr (pc := 27) dX2_sleepless_27 fl_X2_12 rfl rfl (by decide)
    (sq_geti (pc := 30) dX2_sleepless_30 fl_X2_37 rfl
    (sq_ior (pc := 33) dX2_sleepless_33
    (sq_istore_n (pc := 34) dX2_sleepless_34 rfl
    (sq_iinc (pc := 35) dX2_sleepless_35 rfl
    (sq_goto (pc := 38) dX2_sleepless_38 (tgt := 10) rfl ih)))))))))))))))
set_option maxHeartbeats 10000000 in
set_option maxRecDepth 20000 in
theorem s_F_sleepless_0 (G : GG) : Sq kE G (kF G (4) mi_F_sleepless) mi_F_sleepless 0 b_F_sleepless_0 := by
  unfold b_F_sleepless_0
  exact (sq_aload_n (pc := 0) dX2_sleepless_0 rfl
    (sq_getr (pc := 1) dX2_sleepless_1 fl_X2_12 rfl rfl (by decide)
    (sq_geti (pc := 4) dX2_sleepless_4 fl_X2_37 rfl
    (sq_istore_n (pc := 7) dX2_sleepless_7 rfl
    (sq_iconst (pc := 8) dX2_sleepless_8 kc_i_1
    (sq_istore_n (pc := 9) dX2_sleepless_9 rfl
    (s_F_sleepless_10 G k_fu)))))))
theorem m_F_sleepless (G : GG) : RS kE G 4 mi_F_sleepless r_F_sleepless := by
  intro as M v M' h
  unfold r_F_sleepless at h
  split at h
  · exact mc_of ok_F_sleepless (s_F_sleepless_0 G) (k_c1 _ rfl) (Nat.le_of_ble_eq_true rfl) rfl h
  · cases h
set_option maxHeartbeats 10000000 in
set_option maxRecDepth 20000 in
theorem s_J_bitCount_0 (G : GG) : Sq kE G (kF G (0) mi_J_bitCount) mi_J_bitCount 0 b_J_bitCount_0 := by
  unfold b_J_bitCount_0
  exact (sq_iload_n (pc := 0) dJ6_bitCount_0f7a4_0 rfl
    (sq_iload_n (pc := 1) dJ6_bitCount_0f7a4_1 rfl
    (sq_iconst (pc := 2) dJ6_bitCount_0f7a4_2 kc_i_1
    (sq_iushr (pc := 3) dJ6_bitCount_0f7a4_3
    (sq_ldcw (pc := 4) dJ6_bitCount_0f7a4_4 ct_J6_265
    (sq_iand (pc := 7) dJ6_bitCount_0f7a4_7
    (sq_isub (pc := 8) dJ6_bitCount_0f7a4_8
    (sq_istore_n (pc := 9) dJ6_bitCount_0f7a4_9 rfl
    (sq_iload_n (pc := 10) dJ6_bitCount_0f7a4_10 rfl
    (sq_ldcw (pc := 11) dJ6_bitCount_0f7a4_11 ct_J6_266
    (sq_iand (pc := 14) dJ6_bitCount_0f7a4_14
    (sq_iload_n (pc := 15) dJ6_bitCount_0f7a4_15 rfl
    (sq_iconst (pc := 16) dJ6_bitCount_0f7a4_16 kc_i_2
    (sq_iushr (pc := 17) dJ6_bitCount_0f7a4_17
    (sq_ldcw (pc := 18) dJ6_bitCount_0f7a4_18 ct_J6_266
    (sq_iand (pc := 21) dJ6_bitCount_0f7a4_21
    (sq_iadd (pc := 22) dJ6_bitCount_0f7a4_22
    (sq_istore_n (pc := 23) dJ6_bitCount_0f7a4_23 rfl
    (sq_iload_n (pc := 24) dJ6_bitCount_0f7a4_24 rfl
    (sq_iload_n (pc := 25) dJ6_bitCount_0f7a4_25 rfl
    (sq_iconst (pc := 26) dJ6_bitCount_0f7a4_26 kc_i_4
    (sq_iushr (pc := 27) dJ6_bitCount_0f7a4_27
    (sq_iadd (pc := 28) dJ6_bitCount_0f7a4_28
    (sq_ldcw (pc := 29) dJ6_bitCount_0f7a4_29 ct_J6_267
    (sq_iand (pc := 32) dJ6_bitCount_0f7a4_32
    (sq_istore_n (pc := 33) dJ6_bitCount_0f7a4_33 rfl
    (sq_iload_n (pc := 34) dJ6_bitCount_0f7a4_34 rfl
    (sq_iload_n (pc := 35) dJ6_bitCount_0f7a4_35 rfl
    (sq_bipush (pc := 36) dJ6_bitCount_0f7a4_36 kc_b_8
    (sq_iushr (pc := 38) dJ6_bitCount_0f7a4_38
    (sq_iadd (pc := 39) dJ6_bitCount_0f7a4_39
    (sq_istore_n (pc := 40) dJ6_bitCount_0f7a4_40 rfl
    (sq_iload_n (pc := 41) dJ6_bitCount_0f7a4_41 rfl
    (sq_iload_n (pc := 42) dJ6_bitCount_0f7a4_42 rfl
    (sq_bipush (pc := 43) dJ6_bitCount_0f7a4_43 kc_b_16
    (sq_iushr (pc := 45) dJ6_bitCount_0f7a4_45
    (sq_iadd (pc := 46) dJ6_bitCount_0f7a4_46
    (sq_istore_n (pc := 47) dJ6_bitCount_0f7a4_47 rfl
    (sq_iload_n (pc := 48) dJ6_bitCount_0f7a4_48 rfl
    (sq_bipush (pc := 49) dJ6_bitCount_0f7a4_49 kc_b_63
    (sq_iand (pc := 51) dJ6_bitCount_0f7a4_51
    (sq_iret rfl (pc := 52) dJ6_bitCount_0f7a4_52))))))))))))))))))))))))))))))))))))))))))
theorem m_J_bitCount (G : GG) : RS kE G 0 mi_J_bitCount r_J_bitCount := by
  intro as M v M' h
  unfold r_J_bitCount at h
  split at h
  · exact mc_of ok_J_bitCount (s_J_bitCount_0 G) (k_c1 _ rfl) (Nat.le_of_ble_eq_true rfl) rfl h
  · cases h
set_option maxHeartbeats 10000000 in
set_option maxRecDepth 20000 in
theorem s_F_calm_31 (G : GG) {k4 : Kt Mi} (h4 : Sq kE G (kF G (4) mi_F_calm) mi_F_calm 4 k4) : Sq kE G (kF G (4) mi_F_calm) mi_F_calm 31 (b_F_calm_31 k4) := by
  unfold b_F_calm_31
  exact (sq_istore_n (pc := 31) dX2_calm_31 rfl
    (sq_iload_n (pc := 32) dX2_calm_32 rfl
    (sq_bipush (pc := 33) dX2_calm_33 kc_b_6
    (sq_cle (pc := 35) dX2_calm_35 (tgt := 43) rfl
    (sq_aload_n (pc := 43) dX2_calm_43 rfl
    (sq_getr (pc := 44) dX2_calm_44 fl_X2_12 rfl rfl (by decide)
    (sq_bipush (pc := 47) dX2_calm_47 kc_b_31
    (sq_callV (d := 4) (d' := 3) (mi' := mi_S_goOn) (pc := 49) dX2_calm_49 ml_X2_26 in_S_goOn se_S_goOn ok_S_goOn ar_S_goOn (by decide) rfl (by decide) (k_ok_kF G (4) mi_F_calm) (m_S_goOn G)
    (sq_iinc (pc := 52) dX2_calm_52 rfl
    (sq_goto (pc := 55) dX2_calm_55 (tgt := 4) rfl h4))))))
    (sq_iload_n (pc := 38) dX2_calm_38 rfl
    (sq_bipush (pc := 39) dX2_calm_39 kc_b_6
    (sq_isub (pc := 41) dX2_calm_41
    (sq_iret rfl (pc := 42) dX2_calm_42))))))))
set_option maxHeartbeats 10000000 in
set_option maxRecDepth 20000 in
theorem s_F_calm_4 (G : GG) (n : Nat) : Sq kE G (kF G (4) mi_F_calm) mi_F_calm 4 (b_F_calm_4 n) := by
  induction n with
  | zero => exact sq_none
  | succ n ih =>
    unfold b_F_calm_4
    exact (sq_iload_n (pc := 4) dX2_calm_4 rfl
    (sq_bipush (pc := 5) dX2_calm_5 kc_b_105
    (sq_cgt (pc := 7) dX2_calm_7 (tgt := 58) rfl
    (sq_ldc (pc := 58) dX2_calm_58 ct_X2_34
    (sq_iret rfl (pc := 60) dX2_calm_60))
    (sq_aload_n (pc := 10) dX2_calm_10 rfl
    (sq_getr (pc := 11) dX2_calm_11 fl_X2_12 rfl rfl (by decide)
    (sq_geti (pc := 14) dX2_calm_14 fl_X2_37 rfl
    (sq_callS (d := 4) (d' := 0) (mi' := mi_J_bitCount) (pc := 17) dX2_calm_17 ml_X2_47 st_J_bitCount ok_J_bitCount ar_J_bitCount (by decide) (k_ok_kF G (4) mi_F_calm) (m_J_bitCount G)
    (sq_iload_n (pc := 20) dX2_calm_20 rfl
    (sq_clt (pc := 21) dX2_calm_21 (tgt := 30) rfl
    (sq_iconst (pc := 30) dX2_calm_30 kc_i_0
    (s_F_calm_31 G ih))
    (sq_iload_n (pc := 24) dX2_calm_24 rfl
    (sq_iconst (pc := 25) dX2_calm_25 kc_i_1
    (sq_iadd (pc := 26) dX2_calm_26
    (sq_goto (pc := 27) dX2_calm_27 (tgt := 31) rfl (s_F_calm_31 G ih))))))))))))))
set_option maxHeartbeats 10000000 in
set_option maxRecDepth 20000 in
theorem s_F_calm_0 (G : GG) : Sq kE G (kF G (4) mi_F_calm) mi_F_calm 0 b_F_calm_0 := by
  unfold b_F_calm_0
  exact (sq_iconst (pc := 0) dX2_calm_0 kc_i_0
    (sq_istore_n (pc := 1) dX2_calm_1 rfl
    (sq_iconst (pc := 2) dX2_calm_2 kc_i_0
    (sq_istore_n (pc := 3) dX2_calm_3 rfl
    (s_F_calm_4 G k_fu)))))
theorem m_F_calm (G : GG) : RS kE G 4 mi_F_calm r_F_calm := by
  intro as M v M' h
  unfold r_F_calm at h
  split at h
  · exact mc_of ok_F_calm (s_F_calm_0 G) (k_c1 _ rfl) (Nat.le_of_ble_eq_true rfl) rfl h
  · cases h
set_option maxHeartbeats 10000000 in
set_option maxRecDepth 20000 in
theorem s_S_lineUp_2 (G : GG) (n : Nat) : Sq kE G (kF G (0) mi_S_lineUp) mi_S_lineUp 2 (b_S_lineUp_2 n) := by
  induction n with
  | zero => exact sq_none
  | succ n ih =>
    unfold b_S_lineUp_2
    exact (sq_iload_n (pc := 2) dX5_lineUp_2 rfl
    (sq_aload_n (pc := 3) dX5_lineUp_3 rfl
    (sq_geti (pc := 4) dX5_lineUp_4 fl_X5_9 rfl
    (sq_cge (pc := 7) dX5_lineUp_7 (tgt := 23) rfl
    (sq_ret rfl (pc := 23) dX5_lineUp_23)
    (sq_aload_n (pc := 10) dX5_lineUp_10 rfl
    (sq_getr (pc := 11) dX5_lineUp_11 fl_X5_34 rfl rfl (by decide)
    (sq_iload_n (pc := 14) dX5_lineUp_14 rfl
    (sq_iload_n (pc := 15) dX5_lineUp_15 rfl
    (sq_iast (pc := 16) dX5_lineUp_16
    (sq_iinc (pc := 17) dX5_lineUp_17 rfl
    (sq_goto (pc := 20) dX5_lineUp_20 (tgt := 2) rfl ih)))))))))))
set_option maxHeartbeats 10000000 in
set_option maxRecDepth 20000 in
theorem s_S_lineUp_0 (G : GG) : Sq kE G (kF G (0) mi_S_lineUp) mi_S_lineUp 0 b_S_lineUp_0 := by
  unfold b_S_lineUp_0
  exact (sq_iconst (pc := 0) dX5_lineUp_0 kc_i_0
    (sq_istore_n (pc := 1) dX5_lineUp_1 rfl
    (s_S_lineUp_2 G k_fu)))
theorem m_S_lineUp (G : GG) : RS kE G 0 mi_S_lineUp r_S_lineUp := by
  intro as M v M' h
  unfold r_S_lineUp at h
  split at h
  · exact mc_of ok_S_lineUp (s_S_lineUp_0 G) (k_c1 _ rfl) (Nat.le_of_ble_eq_true rfl) rfl h
  · cases h
set_option maxHeartbeats 10000000 in
set_option maxRecDepth 20000 in
theorem s_S_swap_0 (G : GG) : Sq kE G (kF G (0) mi_S_swap) mi_S_swap 0 b_S_swap_0 := by
  unfold b_S_swap_0
  exact (sq_aload_n (pc := 0) dX5_swap_0 rfl
    (sq_getr (pc := 1) dX5_swap_1 fl_X5_34 rfl rfl (by decide)
    (sq_iload_n (pc := 4) dX5_swap_4 rfl
    (sq_iald (pc := 5) dX5_swap_5
    (sq_istore_n (pc := 6) dX5_swap_6 rfl
    (sq_aload_n (pc := 7) dX5_swap_7 rfl
    (sq_getr (pc := 8) dX5_swap_8 fl_X5_34 rfl rfl (by decide)
    (sq_iload_n (pc := 11) dX5_swap_11 rfl
    (sq_aload_n (pc := 12) dX5_swap_12 rfl
    (sq_getr (pc := 13) dX5_swap_13 fl_X5_34 rfl rfl (by decide)
    (sq_iload_n (pc := 16) dX5_swap_16 rfl
    (sq_iald (pc := 17) dX5_swap_17
    (sq_iast (pc := 18) dX5_swap_18
    (sq_aload_n (pc := 19) dX5_swap_19 rfl
    (sq_getr (pc := 20) dX5_swap_20 fl_X5_34 rfl rfl (by decide)
    (sq_iload_n (pc := 23) dX5_swap_23 rfl
    (sq_iload_n (pc := 24) dX5_swap_24 rfl
    (sq_iast (pc := 25) dX5_swap_25
    (sq_ret rfl (pc := 26) dX5_swap_26)))))))))))))))))))
theorem m_S_swap (G : GG) : RS kE G 0 mi_S_swap r_S_swap := by
  intro as M v M' h
  unfold r_S_swap at h
  split at h
  · exact mc_of ok_S_swap (s_S_swap_0 G) (k_c1 _ rfl) (Nat.le_of_ble_eq_true rfl) rfl h
  · cases h
set_option maxHeartbeats 10000000 in
set_option maxRecDepth 20000 in
theorem s_S_orderNext_91 (G : GG) (n : Nat) : Sq kE G (kF G (1) mi_S_orderNext) mi_S_orderNext 91 (b_S_orderNext_91 n) := by
  induction n with
  | zero => exact sq_none
  | succ n ih =>
    unfold b_S_orderNext_91
    exact (sq_iload_n (pc := 91) dX5_orderNext_91 rfl
    (sq_iload (pc := 92) dX5_orderNext_92
    (sq_cge (pc := 94) dX5_orderNext_94 (tgt := 113) rfl
    (sq_iconst (pc := 113) dX5_orderNext_113 kc_i_1
    (sq_zret rfl (pc := 114) dX5_orderNext_114))
    (sq_aload_n (pc := 97) dX5_orderNext_97 rfl
    (sq_iload_n (pc := 98) dX5_orderNext_98 rfl
    (sq_iinc (pc := 99) dX5_orderNext_99 rfl
    (sq_iload (pc := 102) dX5_orderNext_102
    (sq_iinc (pc := 104) dX5_orderNext_104 rfl
    (sq_callV (d := 1) (d' := 0) (mi' := mi_S_swap) (pc := 107) dX5_orderNext_107 ml_X5_88 in_S_swap se_S_swap ok_S_swap ar_S_swap (by decide) rfl (by decide) (k_ok_kF G (1) mi_S_orderNext) (m_S_swap G)
    (sq_goto (pc := 110) dX5_orderNext_110 (tgt := 91) rfl ih))))))))))
set_option maxHeartbeats 10000000 in
set_option maxRecDepth 20000 in
theorem s_S_orderNext_73 (G : GG) : Sq kE G (kF G (1) mi_S_orderNext) mi_S_orderNext 73 (b_S_orderNext_73) := by
  unfold b_S_orderNext_73
  exact (sq_aload_n (pc := 73) dX5_orderNext_73 rfl
    (sq_iload_n (pc := 74) dX5_orderNext_74 rfl
    (sq_iload_n (pc := 75) dX5_orderNext_75 rfl
    (sq_callV (d := 1) (d' := 0) (mi' := mi_S_swap) (pc := 76) dX5_orderNext_76 ml_X5_88 in_S_swap se_S_swap ok_S_swap ar_S_swap (by decide) rfl (by decide) (k_ok_kF G (1) mi_S_orderNext) (m_S_swap G)
    (sq_iload_n (pc := 79) dX5_orderNext_79 rfl
    (sq_iconst (pc := 80) dX5_orderNext_80 kc_i_1
    (sq_iadd (pc := 81) dX5_orderNext_81
    (sq_istore_n (pc := 82) dX5_orderNext_82 rfl
    (sq_aload_n (pc := 83) dX5_orderNext_83 rfl
    (sq_geti (pc := 84) dX5_orderNext_84 fl_X5_9 rfl
    (sq_iconst (pc := 87) dX5_orderNext_87 kc_i_1
    (sq_isub (pc := 88) dX5_orderNext_88
    (sq_istore (pc := 89) dX5_orderNext_89
    (s_S_orderNext_91 G k_fu))))))))))))))
set_option maxHeartbeats 10000000 in
set_option maxRecDepth 20000 in
theorem s_S_orderNext_47 (G : GG) (n : Nat) : Sq kE G (kF G (1) mi_S_orderNext) mi_S_orderNext 47 (b_S_orderNext_47 n) := by
  induction n with
  | zero => exact sq_none
  | succ n ih =>
    unfold b_S_orderNext_47
    exact (sq_iload_n (pc := 47) dX5_orderNext_47 rfl
    (sq_iload_n (pc := 48) dX5_orderNext_48 rfl
    (sq_cle (pc := 49) dX5_orderNext_49 (tgt := 73) rfl
    (s_S_orderNext_73 G)
    (sq_aload_n (pc := 52) dX5_orderNext_52 rfl
    (sq_getr (pc := 53) dX5_orderNext_53 fl_X5_34 rfl rfl (by decide)
    (sq_iload_n (pc := 56) dX5_orderNext_56 rfl
    (sq_iald (pc := 57) dX5_orderNext_57
    (sq_aload_n (pc := 58) dX5_orderNext_58 rfl
    (sq_getr (pc := 59) dX5_orderNext_59 fl_X5_34 rfl rfl (by decide)
    (sq_iload_n (pc := 62) dX5_orderNext_62 rfl
    (sq_iald (pc := 63) dX5_orderNext_63
    (sq_cge (pc := 64) dX5_orderNext_64 (tgt := 73) rfl
    (s_S_orderNext_73 G)
    (sq_iinc (pc := 67) dX5_orderNext_67 rfl
    (sq_goto (pc := 70) dX5_orderNext_70 (tgt := 47) rfl ih))))))))))))))
set_option maxHeartbeats 10000000 in
set_option maxRecDepth 20000 in
theorem s_S_orderNext_34 (G : GG) : Sq kE G (kF G (1) mi_S_orderNext) mi_S_orderNext 34 (b_S_orderNext_34) := by
  unfold b_S_orderNext_34
  exact (sq_iload_n (pc := 34) dX5_orderNext_34 rfl
    (sq_ifge (pc := 35) dX5_orderNext_35 (tgt := 40) rfl
    (sq_aload_n (pc := 40) dX5_orderNext_40 rfl
    (sq_geti (pc := 41) dX5_orderNext_41 fl_X5_9 rfl
    (sq_iconst (pc := 44) dX5_orderNext_44 kc_i_1
    (sq_isub (pc := 45) dX5_orderNext_45
    (sq_istore_n (pc := 46) dX5_orderNext_46 rfl
    (s_S_orderNext_47 G k_fu))))))
    (sq_iconst (pc := 38) dX5_orderNext_38 kc_i_0
    (sq_zret rfl (pc := 39) dX5_orderNext_39))))
set_option maxHeartbeats 10000000 in
set_option maxRecDepth 20000 in
theorem s_S_orderNext_7 (G : GG) (n : Nat) : Sq kE G (kF G (1) mi_S_orderNext) mi_S_orderNext 7 (b_S_orderNext_7 n) := by
  induction n with
  | zero => exact sq_none
  | succ n ih =>
    unfold b_S_orderNext_7
    exact (sq_iload_n (pc := 7) dX5_orderNext_7 rfl
    (sq_iflt (pc := 8) dX5_orderNext_8 (tgt := 34) rfl
    (s_S_orderNext_34 G)
    (sq_aload_n (pc := 11) dX5_orderNext_11 rfl
    (sq_getr (pc := 12) dX5_orderNext_12 fl_X5_34 rfl rfl (by decide)
    (sq_iload_n (pc := 15) dX5_orderNext_15 rfl
    (sq_iald (pc := 16) dX5_orderNext_16
    (sq_aload_n (pc := 17) dX5_orderNext_17 rfl
    (sq_getr (pc := 18) dX5_orderNext_18 fl_X5_34 rfl rfl (by decide)
    (sq_iload_n (pc := 21) dX5_orderNext_21 rfl
    (sq_iconst (pc := 22) dX5_orderNext_22 kc_i_1
    (sq_iadd (pc := 23) dX5_orderNext_23
    (sq_iald (pc := 24) dX5_orderNext_24
    (sq_cle (pc := 25) dX5_orderNext_25 (tgt := 34) rfl
    (s_S_orderNext_34 G)
    (sq_iinc (pc := 28) dX5_orderNext_28 rfl
    (sq_goto (pc := 31) dX5_orderNext_31 (tgt := 7) rfl ih)))))))))))))))
set_option maxHeartbeats 10000000 in
set_option maxRecDepth 20000 in
theorem s_S_orderNext_0 (G : GG) : Sq kE G (kF G (1) mi_S_orderNext) mi_S_orderNext 0 b_S_orderNext_0 := by
  unfold b_S_orderNext_0
  exact (sq_aload_n (pc := 0) dX5_orderNext_0 rfl
    (sq_geti (pc := 1) dX5_orderNext_1 fl_X5_9 rfl
    (sq_iconst (pc := 4) dX5_orderNext_4 kc_i_2
    (sq_isub (pc := 5) dX5_orderNext_5
    (sq_istore_n (pc := 6) dX5_orderNext_6 rfl
    (s_S_orderNext_7 G k_fu))))))
theorem m_S_orderNext (G : GG) : RS kE G 1 mi_S_orderNext r_S_orderNext := by
  intro as M v M' h
  unfold r_S_orderNext at h
  split at h
  · exact mc_of ok_S_orderNext (s_S_orderNext_0 G) (k_c1 _ rfl) (Nat.le_of_ble_eq_true rfl) rfl h
  · cases h
set_option maxHeartbeats 10000000 in
set_option maxRecDepth 20000 in
theorem s_F_bestOrder_105 (G : GG) : Sq kE G (kF G (5) mi_F_bestOrder) mi_F_bestOrder 105 (b_F_bestOrder_105) := by
  unfold b_F_bestOrder_105
  exact (sq_iload_n (pc := 105) dX2_bestOrder_105 rfl
    (sq_iret rfl (pc := 106) dX2_bestOrder_106))
set_option maxHeartbeats 10000000 in
set_option maxRecDepth 20000 in
theorem s_F_bestOrder_86 (G : GG) {k22 : Kt Mi} (h22 : Sq kE G (kF G (5) mi_F_bestOrder) mi_F_bestOrder 22 k22) : Sq kE G (kF G (5) mi_F_bestOrder) mi_F_bestOrder 86 (b_F_bestOrder_86 k22) := by
  unfold b_F_bestOrder_86
  exact (sq_aload_n (pc := 86) dX2_bestOrder_86 rfl
    (sq_getr (pc := 87) dX2_bestOrder_87 fl_X2_12 rfl rfl (by decide)
    (sq_callV (d := 5) (d' := 1) (mi' := mi_S_orderNext) (pc := 90) dX2_bestOrder_90 ml_X2_75 in_S_orderNext se_S_orderNext ok_S_orderNext ar_S_orderNext (by decide) rfl (by decide) (k_ok_kF G (5) mi_F_bestOrder) (m_S_orderNext G)
    (sq_ifne (pc := 93) dX2_bestOrder_93 (tgt := 99) rfl
    (sq_goto (pc := 96) dX2_bestOrder_96 (tgt := 105) rfl (s_F_bestOrder_105 G))
    (sq_iinc (pc := 99) dX2_bestOrder_99 rfl
    (sq_goto (pc := 102) dX2_bestOrder_102 (tgt := 22) rfl h22))))))
set_option maxHeartbeats 10000000 in
set_option maxRecDepth 20000 in
theorem s_F_bestOrder_22 (G : GG) (n : Nat) : Sq kE G (kF G (5) mi_F_bestOrder) mi_F_bestOrder 22 (b_F_bestOrder_22 n) := by
  induction n with
  | zero => exact sq_none
  | succ n ih =>
    unfold b_F_bestOrder_22
    exact (sq_iload (pc := 22) dX2_bestOrder_22
    (sq_sipush (pc := 24) dX2_bestOrder_24 kc_s_720
    (sq_cge (pc := 27) dX2_bestOrder_27 (tgt := 105) rfl
    (s_F_bestOrder_105 G)
    (sq_iload (pc := 30) dX2_bestOrder_30
    (sq_iflt (pc := 32) dX2_bestOrder_32 (tgt := 105) rfl
    (s_F_bestOrder_105 G)
    (sq_aload_n (pc := 35) dX2_bestOrder_35 rfl
    (sq_getr (pc := 36) dX2_bestOrder_36 fl_X2_12 rfl rfl (by decide)
    (sq_aload_n (pc := 39) dX2_bestOrder_39 rfl
    (sq_callV (d := 5) (d' := 1) (mi' := mi_S_goBackTo) (pc := 40) dX2_bestOrder_40 ml_X2_59 in_S_goBackTo se_S_goBackTo ok_S_goBackTo ar_S_goBackTo (by decide) rfl (by decide) (k_ok_kF G (5) mi_F_bestOrder) (m_S_goBackTo G)
    (sq_aload_n (pc := 43) dX2_bestOrder_43 rfl
    (sq_iload_n (pc := 44) dX2_bestOrder_44 rfl
    (sq_iload (pc := 45) dX2_bestOrder_45
    (sq_callV (d := 5) (d' := 4) (mi' := mi_F_soonest) (pc := 47) dX2_bestOrder_47 ml_X2_62 in_F_soonest se_F_soonest ok_F_soonest ar_F_soonest (by decide) rfl (by decide) (k_ok_kF G (5) mi_F_bestOrder) (m_F_soonest G)
    (sq_istore (pc := 50) dX2_bestOrder_50
    (sq_iload (pc := 52) dX2_bestOrder_52
    (sq_ldc (pc := 54) dX2_bestOrder_54 ct_X2_34
    (sq_ceq (pc := 56) dX2_bestOrder_56 (tgt := 86) rfl
    (s_F_bestOrder_86 G ih)
    (sq_iload (pc := 59) dX2_bestOrder_59
    (sq_istore_n (pc := 61) dX2_bestOrder_61 rfl
    (sq_iload (pc := 62) dX2_bestOrder_62
    (sq_iconst (pc := 64) dX2_bestOrder_64 kc_i_1
    (sq_isub (pc := 65) dX2_bestOrder_65
    (sq_istore (pc := 66) dX2_bestOrder_66
    (sq_aload_n (pc := 68) dX2_bestOrder_68 rfl
    (sq_getr (pc := 69) dX2_bestOrder_69 fl_X2_12 rfl rfl (by decide)
    (sq_getr (pc := 72) dX2_bestOrder_72 fl_X2_66 rfl rfl (by decide)
    (sq_iconst (pc := 75) dX2_bestOrder_75 kc_i_0
    (sq_aload_n (pc := 76) dX2_bestOrder_76 rfl
    (sq_getr (pc := 77) dX2_bestOrder_77 fl_X2_18 rfl rfl (by decide)
    (sq_iconst (pc := 80) dX2_bestOrder_80 kc_i_0
    (sq_bipush (pc := 81) dX2_bestOrder_81 kc_b_6
    (sq_copy (d := 5) (pc := 83) dX2_bestOrder_83 (List.mem_append_right _ (List.mem_append_right _ (List.mem_append_right _ (List.mem_append_left _ (List.mem_of_getElem? (i := 96) rfl))))) nat_cpy st_cpy ini_sys (by decide) (k_ok_kF G (5) mi_F_bestOrder)
    (s_F_bestOrder_86 G ih)))))))))))))))))))))))))))))))))
set_option maxHeartbeats 10000000 in
set_option maxRecDepth 20000 in
theorem s_F_bestOrder_0 (G : GG) : Sq kE G (kF G (5) mi_F_bestOrder) mi_F_bestOrder 0 b_F_bestOrder_0 := by
  unfold b_F_bestOrder_0
  exact (sq_ldc (pc := 0) dX2_bestOrder_0 ct_X2_34
    (sq_istore_n (pc := 2) dX2_bestOrder_2 rfl
    (sq_bipush (pc := 3) dX2_bestOrder_3 kc_b_99
    (sq_istore (pc := 5) dX2_bestOrder_5
    (sq_aload_n (pc := 7) dX2_bestOrder_7 rfl
    (sq_aload_n (pc := 8) dX2_bestOrder_8 rfl
    (sq_callV (d := 5) (d' := 3) (mi' := mi_F_begin) (pc := 9) dX2_bestOrder_9 ml_X2_53 in_F_begin se_F_begin ok_F_begin ar_F_begin (by decide) rfl (by decide) (k_ok_kF G (5) mi_F_bestOrder) (m_F_begin G)
    (sq_aload_n (pc := 12) dX2_bestOrder_12 rfl
    (sq_getr (pc := 13) dX2_bestOrder_13 fl_X2_12 rfl rfl (by decide)
    (sq_callV (d := 5) (d' := 0) (mi' := mi_S_lineUp) (pc := 16) dX2_bestOrder_16 ml_X2_56 in_S_lineUp se_S_lineUp ok_S_lineUp ar_S_lineUp (by decide) rfl (by decide) (k_ok_kF G (5) mi_F_bestOrder) (m_S_lineUp G)
    (sq_iconst (pc := 19) dX2_bestOrder_19 kc_i_0
    (sq_istore (pc := 20) dX2_bestOrder_20
    (s_F_bestOrder_22 G k_fu)))))))))))))
theorem m_F_bestOrder (G : GG) : RS kE G 5 mi_F_bestOrder r_F_bestOrder := by
  intro as M v M' h
  unfold r_F_bestOrder at h
  split at h
  · exact mc_of ok_F_bestOrder (s_F_bestOrder_0 G) (k_c1 _ rfl) (Nat.le_of_ble_eq_true rfl) rfl h
  · cases h
set_option maxHeartbeats 10000000 in
set_option maxRecDepth 20000 in
theorem s_S_keepOnly_50 (G : GG) {k7 : Kt Mi} (h7 : Sq kE G (kF G (0) mi_S_keepOnly) mi_S_keepOnly 7 k7) : Sq kE G (kF G (0) mi_S_keepOnly) mi_S_keepOnly 50 (b_S_keepOnly_50 k7) := by
  unfold b_S_keepOnly_50
  exact (sq_iinc (pc := 50) dX5_keepOnly_50 rfl
    (sq_goto (pc := 53) dX5_keepOnly_53 (tgt := 7) rfl h7))
set_option maxHeartbeats 10000000 in
set_option maxRecDepth 20000 in
theorem s_S_keepOnly_7 (G : GG) (n : Nat) : Sq kE G (kF G (0) mi_S_keepOnly) mi_S_keepOnly 7 (b_S_keepOnly_7 n) := by
  induction n with
  | zero => exact sq_none
  | succ n ih =>
    unfold b_S_keepOnly_7
    exact (sq_iload_n (pc := 7) dX5_keepOnly_7 rfl
    (sq_aload_n (pc := 8) dX5_keepOnly_8 rfl
    (sq_geti (pc := 9) dX5_keepOnly_9 fl_X5_9 rfl
    (sq_cge (pc := 12) dX5_keepOnly_12 (tgt := 56) rfl
    (sq_ret rfl (pc := 56) dX5_keepOnly_56)
    (sq_aload_n (pc := 15) dX5_keepOnly_15 rfl
    (sq_getr (pc := 16) dX5_keepOnly_16 fl_X5_34 rfl rfl (by decide)
    (sq_iload_n (pc := 19) dX5_keepOnly_19 rfl
    (sq_iald (pc := 20) dX5_keepOnly_20
    (sq_istore (pc := 21) dX5_keepOnly_21
    (sq_iload_n (pc := 23) dX5_keepOnly_23 rfl
    (sq_iload (pc := 24) dX5_keepOnly_24
    (sq_ishr (pc := 26) dX5_keepOnly_26
    (sq_iconst (pc := 27) dX5_keepOnly_27 kc_i_1
    (sq_iand (pc := 28) dX5_keepOnly_28
    (sq_ifeq (pc := 29) dX5_keepOnly_29 (tgt := 50) rfl
    (s_S_keepOnly_50 G ih)
    (sq_aload_n (pc := 32) dX5_keepOnly_32 rfl
    (sq_getr (pc := 33) dX5_keepOnly_33 fl_X5_34 rfl rfl (by decide)
    (sq_aload_n (pc := 36) dX5_keepOnly_36 rfl
    (sq_dup (pc := 37) dX5_keepOnly_37
    (sq_geti (pc := 38) dX5_keepOnly_38 fl_X5_9 rfl
    (sq_dup_x1 (pc := 41) dX5_keepOnly_41
    (sq_iconst (pc := 42) dX5_keepOnly_42 kc_i_1
    (sq_iadd (pc := 43) dX5_keepOnly_43
    (sq_puti (pc := 44) dX5_keepOnly_44 fl_X5_9 rfl rfl
    (sq_iload (pc := 47) dX5_keepOnly_47
    (sq_iast (pc := 49) dX5_keepOnly_49
    (s_S_keepOnly_50 G ih)))))))))))))))))))))))))))
set_option maxHeartbeats 10000000 in
set_option maxRecDepth 20000 in
theorem s_S_keepOnly_0 (G : GG) : Sq kE G (kF G (0) mi_S_keepOnly) mi_S_keepOnly 0 b_S_keepOnly_0 := by
  unfold b_S_keepOnly_0
  exact (sq_aload_n (pc := 0) dX5_keepOnly_0 rfl
    (sq_iconst (pc := 1) dX5_keepOnly_1 kc_i_0
    (sq_puti (pc := 2) dX5_keepOnly_2 fl_X5_9 rfl rfl
    (sq_iconst (pc := 5) dX5_keepOnly_5 kc_i_0
    (sq_istore_n (pc := 6) dX5_keepOnly_6 rfl
    (s_S_keepOnly_7 G k_fu))))))
theorem m_S_keepOnly (G : GG) : RS kE G 0 mi_S_keepOnly r_S_keepOnly := by
  intro as M v M' h
  unfold r_S_keepOnly at h
  split at h
  · exact mc_of ok_S_keepOnly (s_S_keepOnly_0 G) (k_c1 _ rfl) (Nat.le_of_ble_eq_true rfl) rfl h
  · cases h
set_option maxHeartbeats 10000000 in
set_option maxRecDepth 20000 in
theorem s_F_smallestFlock_83 (G : GG) {k16 : Kt Mi} (h16 : Sq kE G (kF G (5) mi_F_smallestFlock) mi_F_smallestFlock 16 k16) : Sq kE G (kF G (5) mi_F_smallestFlock) mi_F_smallestFlock 83 (b_F_smallestFlock_83 k16) := by
  unfold b_F_smallestFlock_83
  exact (sq_iinc (pc := 83) dX2_smallestFlock_83 rfl
    (sq_goto (pc := 86) dX2_smallestFlock_86 (tgt := 16) rfl h16))
set_option maxHeartbeats 10000000 in
set_option maxRecDepth 20000 in
theorem s_F_smallestFlock_16 (G : GG) (n : Nat) : Sq kE G (kF G (5) mi_F_smallestFlock) mi_F_smallestFlock 16 (b_F_smallestFlock_16 n) := by
  induction n with
  | zero => exact sq_none
  | succ n ih =>
    unfold b_F_smallestFlock_16
    exact (sq_iload (pc := 16) dX2_smallestFlock_16
    (sq_iconst (pc := 18) dX2_smallestFlock_18 kc_i_1
    (sq_aload_n (pc := 19) dX2_smallestFlock_19 rfl
    (sq_geti (pc := 20) dX2_smallestFlock_20 fl_X2_30 rfl
    (sq_ishl (pc := 23) dX2_smallestFlock_23
    (sq_cge (pc := 24) dX2_smallestFlock_24 (tgt := 89) rfl
    (sq_iload (pc := 89) dX2_smallestFlock_89
    (sq_iret rfl (pc := 91) dX2_smallestFlock_91))
    (sq_iload (pc := 27) dX2_smallestFlock_27
    (sq_callS (d := 5) (d' := 0) (mi' := mi_J_bitCount) (pc := 29) dX2_smallestFlock_29 ml_X2_47 st_J_bitCount ok_J_bitCount ar_J_bitCount (by decide) (k_ok_kF G (5) mi_F_smallestFlock) (m_J_bitCount G)
    (sq_iload (pc := 32) dX2_smallestFlock_32
    (sq_clt (pc := 34) dX2_smallestFlock_34 (tgt := 40) rfl
    (sq_aload_n (pc := 40) dX2_smallestFlock_40 rfl
    (sq_getr (pc := 41) dX2_smallestFlock_41 fl_X2_12 rfl rfl (by decide)
    (sq_aload_n (pc := 44) dX2_smallestFlock_44 rfl
    (sq_callV (d := 5) (d' := 1) (mi' := mi_S_goBackTo) (pc := 45) dX2_smallestFlock_45 ml_X2_59 in_S_goBackTo se_S_goBackTo ok_S_goBackTo ar_S_goBackTo (by decide) rfl (by decide) (k_ok_kF G (5) mi_F_smallestFlock) (m_S_goBackTo G)
    (sq_aload_n (pc := 48) dX2_smallestFlock_48 rfl
    (sq_getr (pc := 49) dX2_smallestFlock_49 fl_X2_12 rfl rfl (by decide)
    (sq_iload (pc := 52) dX2_smallestFlock_52
    (sq_aload_n (pc := 54) dX2_smallestFlock_54 rfl
    (sq_callV (d := 5) (d' := 0) (mi' := mi_S_keepOnly) (pc := 55) dX2_smallestFlock_55 ml_X2_79 in_S_keepOnly se_S_keepOnly ok_S_keepOnly ar_S_keepOnly (by decide) rfl (by decide) (k_ok_kF G (5) mi_F_smallestFlock) (m_S_keepOnly G)
    (sq_aload_n (pc := 58) dX2_smallestFlock_58 rfl
    (sq_iload_n (pc := 59) dX2_smallestFlock_59 rfl
    (sq_iload_n (pc := 60) dX2_smallestFlock_60 rfl
    (sq_callV (d := 5) (d' := 4) (mi' := mi_F_soonest) (pc := 61) dX2_smallestFlock_61 ml_X2_62 in_F_soonest se_F_soonest ok_F_soonest ar_F_soonest (by decide) rfl (by decide) (k_ok_kF G (5) mi_F_smallestFlock) (m_F_soonest G)
    (sq_ldc (pc := 64) dX2_smallestFlock_64 ct_X2_34
    (sq_cne (pc := 66) dX2_smallestFlock_66 (tgt := 72) rfl
    (sq_goto (pc := 69) dX2_smallestFlock_69 (tgt := 83) rfl (s_F_smallestFlock_83 G ih))
    (sq_iload (pc := 72) dX2_smallestFlock_72
    (sq_istore (pc := 74) dX2_smallestFlock_74
    (sq_iload (pc := 76) dX2_smallestFlock_76
    (sq_callS (d := 5) (d' := 0) (mi' := mi_J_bitCount) (pc := 78) dX2_smallestFlock_78 ml_X2_47 st_J_bitCount ok_J_bitCount ar_J_bitCount (by decide) (k_ok_kF G (5) mi_F_smallestFlock) (m_J_bitCount G)
    (sq_istore (pc := 81) dX2_smallestFlock_81
    (s_F_smallestFlock_83 G ih)))))))))))))))))))))
    (sq_goto (pc := 37) dX2_smallestFlock_37 (tgt := 83) rfl (s_F_smallestFlock_83 G ih))))))))))))
set_option maxHeartbeats 10000000 in
set_option maxRecDepth 20000 in
theorem s_F_smallestFlock_0 (G : GG) : Sq kE G (kF G (5) mi_F_smallestFlock) mi_F_smallestFlock 0 b_F_smallestFlock_0 := by
  unfold b_F_smallestFlock_0
  exact (sq_ldc (pc := 0) dX2_smallestFlock_0 ct_X2_34
    (sq_istore (pc := 2) dX2_smallestFlock_2
    (sq_bipush (pc := 4) dX2_smallestFlock_4 kc_b_7
    (sq_istore (pc := 6) dX2_smallestFlock_6
    (sq_aload_n (pc := 8) dX2_smallestFlock_8 rfl
    (sq_aload_n (pc := 9) dX2_smallestFlock_9 rfl
    (sq_callV (d := 5) (d' := 3) (mi' := mi_F_begin) (pc := 10) dX2_smallestFlock_10 ml_X2_53 in_F_begin se_F_begin ok_F_begin ar_F_begin (by decide) rfl (by decide) (k_ok_kF G (5) mi_F_smallestFlock) (m_F_begin G)
    (sq_iconst (pc := 13) dX2_smallestFlock_13 kc_i_1
    (sq_istore (pc := 14) dX2_smallestFlock_14
    (s_F_smallestFlock_16 G k_fu))))))))))
theorem m_F_smallestFlock (G : GG) : RS kE G 5 mi_F_smallestFlock r_F_smallestFlock := by
  intro as M v M' h
  unfold r_F_smallestFlock at h
  split at h
  · exact mc_of ok_F_smallestFlock (s_F_smallestFlock_0 G) (k_c1 _ rfl) (Nat.le_of_ble_eq_true rfl) rfl h
  · cases h
set_option maxHeartbeats 10000000 in
set_option maxRecDepth 20000 in
theorem s_F_goesSo_3 (G : GG) (n : Nat) : Sq kE G (kF G (4) mi_F_goesSo) mi_F_goesSo 3 (b_F_goesSo_3 n) := by
  induction n with
  | zero => exact sq_none
  | succ n ih =>
    unfold b_F_goesSo_3
    exact (sq_iload (pc := 3) dX2_goesSo_3
    (sq_iload_n (pc := 5) dX2_goesSo_5 rfl
    (sq_cge (pc := 6) dX2_goesSo_6 (tgt := 48) rfl
    (sq_iconst (pc := 48) dX2_goesSo_48 kc_i_1
    (sq_zret rfl (pc := 49) dX2_goesSo_49))
    (sq_aload_n (pc := 9) dX2_goesSo_9 rfl
    (sq_getr (pc := 10) dX2_goesSo_10 fl_X2_12 rfl rfl (by decide)
    (sq_bipush (pc := 13) dX2_goesSo_13 kc_b_31
    (sq_callV (d := 4) (d' := 3) (mi' := mi_S_goOn) (pc := 15) dX2_goesSo_15 ml_X2_26 in_S_goOn se_S_goOn ok_S_goOn ar_S_goOn (by decide) rfl (by decide) (k_ok_kF G (4) mi_F_goesSo) (m_S_goOn G)
    (sq_aload_n (pc := 18) dX2_goesSo_18 rfl
    (sq_getr (pc := 19) dX2_goesSo_19 fl_X2_12 rfl rfl (by decide)
    (sq_geti (pc := 22) dX2_goesSo_22 fl_X2_37 rfl
    (sq_callS (d := 4) (d' := 0) (mi' := mi_J_bitCount) (pc := 25) dX2_goesSo_25 ml_X2_47 st_J_bitCount ok_J_bitCount ar_J_bitCount (by decide) (k_ok_kF G (4) mi_F_goesSo) (m_J_bitCount G)
    (sq_aload_n (pc := 28) dX2_goesSo_28 rfl
    (sq_getr (pc := 29) dX2_goesSo_29 fl_X2_93 rfl rfl (by decide)
    (sq_iload_n (pc := 32) dX2_goesSo_32 rfl
    (sq_iload (pc := 33) dX2_goesSo_33
    (sq_iadd (pc := 35) dX2_goesSo_35
    (sq_iald (pc := 36) dX2_goesSo_36
    (sq_ceq (pc := 37) dX2_goesSo_37 (tgt := 42) rfl
    (sq_iinc (pc := 42) dX2_goesSo_42 rfl
    (sq_goto (pc := 45) dX2_goesSo_45 (tgt := 3) rfl ih))
    (sq_iconst (pc := 40) dX2_goesSo_40 kc_i_0
    (sq_zret rfl (pc := 41) dX2_goesSo_41))))))))))))))))))))
set_option maxHeartbeats 10000000 in
set_option maxRecDepth 20000 in
theorem s_F_goesSo_0 (G : GG) : Sq kE G (kF G (4) mi_F_goesSo) mi_F_goesSo 0 b_F_goesSo_0 := by
  unfold b_F_goesSo_0
  exact (sq_iconst (pc := 0) dX2_goesSo_0 kc_i_0
    (sq_istore (pc := 1) dX2_goesSo_1
    (s_F_goesSo_3 G k_fu)))
theorem m_F_goesSo (G : GG) : RS kE G 4 mi_F_goesSo r_F_goesSo := by
  intro as M v M' h
  unfold r_F_goesSo at h
  split at h
  · exact mc_of ok_F_goesSo (s_F_goesSo_0 G) (k_c1 _ rfl) (Nat.le_of_ble_eq_true rfl) rfl h
  · cases h
set_option maxHeartbeats 10000000 in
set_option maxRecDepth 20000 in
theorem s_F_strays_85 (G : GG) {k31 : Kt Mi} (h31 : Sq kE G (kF G (5) mi_F_strays) mi_F_strays 31 k31) : Sq kE G (kF G (5) mi_F_strays) mi_F_strays 85 (b_F_strays_85 k31) := by
  unfold b_F_strays_85
  exact (sq_iinc (pc := 85) dX2_strays_85 rfl
    (sq_goto (pc := 88) dX2_strays_88 (tgt := 31) rfl h31))
set_option maxHeartbeats 10000000 in
set_option maxRecDepth 20000 in
theorem s_F_strays_31 (G : GG) (n : Nat) : Sq kE G (kF G (5) mi_F_strays) mi_F_strays 31 (b_F_strays_31 n) := by
  induction n with
  | zero => exact sq_none
  | succ n ih =>
    unfold b_F_strays_31
    exact (sq_iload (pc := 31) dX2_strays_31
    (sq_aload_n (pc := 33) dX2_strays_33 rfl
    (sq_geti (pc := 34) dX2_strays_34 fl_X2_30 rfl
    (sq_cge (pc := 37) dX2_strays_37 (tgt := 91) rfl
    (sq_iload (pc := 91) dX2_strays_91
    (sq_iret rfl (pc := 93) dX2_strays_93))
    (sq_aload_n (pc := 40) dX2_strays_40 rfl
    (sq_getr (pc := 41) dX2_strays_41 fl_X2_12 rfl rfl (by decide)
    (sq_aload_n (pc := 44) dX2_strays_44 rfl
    (sq_callV (d := 5) (d' := 1) (mi' := mi_S_goBackTo) (pc := 45) dX2_strays_45 ml_X2_59 in_S_goBackTo se_S_goBackTo ok_S_goBackTo ar_S_goBackTo (by decide) rfl (by decide) (k_ok_kF G (5) mi_F_strays) (m_S_goBackTo G)
    (sq_aload_n (pc := 48) dX2_strays_48 rfl
    (sq_getr (pc := 49) dX2_strays_49 fl_X2_12 rfl rfl (by decide)
    (sq_iload (pc := 52) dX2_strays_52
    (sq_iconst (pc := 54) dX2_strays_54 kc_i_1
    (sq_iload (pc := 55) dX2_strays_55
    (sq_ishl (pc := 57) dX2_strays_57
    (sq_iconst (pc := 58) dX2_strays_58 kc_i_m1
    (sq_ixor (pc := 59) dX2_strays_59
    (sq_iand (pc := 60) dX2_strays_60
    (sq_aload_n (pc := 61) dX2_strays_61 rfl
    (sq_callV (d := 5) (d' := 0) (mi' := mi_S_keepOnly) (pc := 62) dX2_strays_62 ml_X2_79 in_S_keepOnly se_S_keepOnly ok_S_keepOnly ar_S_keepOnly (by decide) rfl (by decide) (k_ok_kF G (5) mi_F_strays) (m_S_keepOnly G)
    (sq_aload_n (pc := 65) dX2_strays_65 rfl
    (sq_aload_n (pc := 66) dX2_strays_66 rfl
    (sq_iload_n (pc := 67) dX2_strays_67 rfl
    (sq_iload (pc := 68) dX2_strays_68
    (sq_callV (d := 5) (d' := 4) (mi' := mi_F_goesSo) (pc := 70) dX2_strays_70 ml_X2_83 in_F_goesSo se_F_goesSo ok_F_goesSo ar_F_goesSo (by decide) rfl (by decide) (k_ok_kF G (5) mi_F_strays) (m_F_goesSo G)
    (sq_ifeq (pc := 73) dX2_strays_73 (tgt := 85) rfl
    (s_F_strays_85 G ih)
    (sq_iload (pc := 76) dX2_strays_76
    (sq_iconst (pc := 78) dX2_strays_78 kc_i_1
    (sq_iload (pc := 79) dX2_strays_79
    (sq_ishl (pc := 81) dX2_strays_81
    (sq_ior (pc := 82) dX2_strays_82
    (sq_istore (pc := 83) dX2_strays_83
    (s_F_strays_85 G ih))))))))))))))))))))))))))))))))
set_option maxHeartbeats 10000000 in
set_option maxRecDepth 20000 in
theorem s_F_strays_0 (G : GG) : Sq kE G (kF G (5) mi_F_strays) mi_F_strays 0 b_F_strays_0 := by
  unfold b_F_strays_0
  exact (sq_aload_n (pc := 0) dX2_strays_0 rfl
    (sq_geti (pc := 1) dX2_strays_1 fl_X2_30 rfl
    (sq_iconst (pc := 4) dX2_strays_4 kc_i_2
    (sq_cge (pc := 5) dX2_strays_5 (tgt := 10) rfl
    (sq_iconst (pc := 10) dX2_strays_10 kc_i_0
    (sq_istore (pc := 11) dX2_strays_11
    (sq_iconst (pc := 13) dX2_strays_13 kc_i_1
    (sq_aload_n (pc := 14) dX2_strays_14 rfl
    (sq_geti (pc := 15) dX2_strays_15 fl_X2_30 rfl
    (sq_ishl (pc := 18) dX2_strays_18
    (sq_iconst (pc := 19) dX2_strays_19 kc_i_1
    (sq_isub (pc := 20) dX2_strays_20
    (sq_istore (pc := 21) dX2_strays_21
    (sq_aload_n (pc := 23) dX2_strays_23 rfl
    (sq_aload_n (pc := 24) dX2_strays_24 rfl
    (sq_callV (d := 5) (d' := 3) (mi' := mi_F_begin) (pc := 25) dX2_strays_25 ml_X2_53 in_F_begin se_F_begin ok_F_begin ar_F_begin (by decide) rfl (by decide) (k_ok_kF G (5) mi_F_strays) (m_F_begin G)
    (sq_iconst (pc := 28) dX2_strays_28 kc_i_0
    (sq_istore (pc := 29) dX2_strays_29
    (s_F_strays_31 G k_fu)))))))))))))))
    (sq_iconst (pc := 8) dX2_strays_8 kc_i_0
    (sq_iret rfl (pc := 9) dX2_strays_9))))))
theorem m_F_strays (G : GG) : RS kE G 5 mi_F_strays r_F_strays := by
  intro as M v M' h
  unfold r_F_strays at h
  split at h
  · exact mc_of ok_F_strays (s_F_strays_0 G) (k_c1 _ rfl) (Nat.le_of_ble_eq_true rfl) rfl h
  · cases h
