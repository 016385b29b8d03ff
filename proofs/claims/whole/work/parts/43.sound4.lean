/-! ===== the machine does what the functions say ===== -/
set_option maxHeartbeats 10000000 in
set_option maxRecDepth 20000 in
theorem s_x_as_17 (G : GG) : Sq kE G (kF G (1) mi_x_as) mi_x_as 17 (b_x_as_17) := by
  unfold b_x_as_17
  exact (sq_ldc (pc := 17) dX6_as_17 ct_X6_65
    (sq_iret rfl (pc := 19) dX6_as_19))
set_option maxHeartbeats 10000000 in
set_option maxRecDepth 20000 in
theorem s_x_as_0 (G : GG) : Sq kE G (kF G (1) mi_x_as) mi_x_as 0 b_x_as_0 := by
  unfold b_x_as_0
  exact (sq_aload_n (pc := 0) dX6_as_0 rfl
    (sq_iload_n (pc := 1) dX6_as_1 rfl
    (sq_callV (d := 1) (d' := 0) (mi' := mi_x_noSleeper) (pc := 2) dX6_as_2 ml_X6_161 in_x_noSleeper se_x_noSleeper ok_x_noSleeper ar_x_noSleeper (by decide) rfl (by decide) (k_ok_kF G (1) mi_x_as) (m_x_noSleeper G)
    (sq_ifne (pc := 5) dX6_as_5 (tgt := 17) rfl
    (sq_iload_n (pc := 8) dX6_as_8 rfl
    (sq_iflt (pc := 9) dX6_as_9 (tgt := 17) rfl
    (s_x_as_17 G)
    (sq_iload_n (pc := 12) dX6_as_12 rfl
    (sq_iconst (pc := 13) dX6_as_13 kc_i_5
    (sq_cle (pc := 14) dX6_as_14 (tgt := 20) rfl
    (sq_aload_n (pc := 20) dX6_as_20 rfl
    (sq_getr (pc := 21) dX6_as_21 fl_X6_26 rfl rfl (by decide)
    (sq_getr (pc := 24) dX6_as_24 fl_X6_267 rfl rfl (by decide)
    (sq_iload_n (pc := 27) dX6_as_27 rfl
    (sq_iald (pc := 28) dX6_as_28
    (sq_iload_n (pc := 29) dX6_as_29 rfl
    (sq_callS (d := 1) (d' := 0) (mi' := mi_x_isOne) (pc := 30) dX6_as_30 ml_X6_270 st_x_isOne ok_x_isOne ar_x_isOne (by decide) (k_ok_kF G (1) mi_x_as) (m_x_isOne G)
    (sq_ifne (pc := 33) dX6_as_33 (tgt := 42) rfl
    (sq_aload_n (pc := 36) dX6_as_36 rfl
    (sq_iconst (pc := 37) dX6_as_37 kc_i_3
    (sq_callV (d := 1) (d' := 0) (mi' := mi_x_found) (pc := 38) dX6_as_38 ml_X6_66 in_x_found se_x_found ok_x_found ar_x_found (by decide) rfl (by decide) (k_ok_kF G (1) mi_x_as) (m_x_found G)
    (sq_iret rfl (pc := 41) dX6_as_41))))
    (sq_aload_n (pc := 42) dX6_as_42 rfl
    (sq_iload_n (pc := 43) dX6_as_43 rfl
    (sq_callV (d := 1) (d' := 0) (mi' := mi_x_fine) (pc := 44) dX6_as_44 ml_X6_74 in_x_fine se_x_fine ok_x_fine ar_x_fine (by decide) rfl (by decide) (k_ok_kF G (1) mi_x_as) (m_x_fine G)
    (sq_iret rfl (pc := 47) dX6_as_47))))))))))))
    (s_x_as_17 G))))))
    (s_x_as_17 G)))))
theorem m_x_as (G : GG) : RS kE G 1 mi_x_as r_x_as := by
  intro as M v M' h
  unfold r_x_as at h
  split at h
  · exact mc_of ok_x_as (s_x_as_0 G) (k_c1 _ rfl) (Nat.le_of_ble_eq_true rfl) rfl h
  · cases h
set_option maxHeartbeats 10000000 in
set_option maxRecDepth 20000 in
theorem s_x_trace_15 (G : GG) : Sq kE G (kF G (0) mi_x_trace) mi_x_trace 15 (b_x_trace_15) := by
  unfold b_x_trace_15
  exact (sq_ldc (pc := 15) dX6_trace_15 ct_X6_227
    (sq_iret rfl (pc := 17) dX6_trace_17))
set_option maxHeartbeats 10000000 in
set_option maxRecDepth 20000 in
theorem s_x_trace_0 (G : GG) : Sq kE G (kF G (0) mi_x_trace) mi_x_trace 0 b_x_trace_0 := by
  unfold b_x_trace_0
  exact (sq_iload_n (pc := 0) dX6_trace_0 rfl
    (sq_iflt (pc := 1) dX6_trace_1 (tgt := 15) rfl
    (s_x_trace_15 G)
    (sq_iload_n (pc := 4) dX6_trace_4 rfl
    (sq_aload_n (pc := 5) dX6_trace_5 rfl
    (sq_getr (pc := 6) dX6_trace_6 fl_X6_53 rfl rfl (by decide)
    (sq_geti (pc := 9) dX6_trace_9 fl_X6_276 rfl
    (sq_clt (pc := 12) dX6_trace_12 (tgt := 18) rfl
    (sq_aload_n (pc := 18) dX6_trace_18 rfl
    (sq_getr (pc := 19) dX6_trace_19 fl_X6_53 rfl rfl (by decide)
    (sq_getr (pc := 22) dX6_trace_22 fl_X6_279 rfl rfl (by decide)
    (sq_iload_n (pc := 25) dX6_trace_25 rfl
    (sq_iald (pc := 26) dX6_trace_26
    (sq_iret rfl (pc := 27) dX6_trace_27))))))
    (s_x_trace_15 G))))))))
theorem m_x_trace (G : GG) : RS kE G 0 mi_x_trace r_x_trace := by
  intro as M v M' h
  unfold r_x_trace at h
  split at h
  · exact mc_of ok_x_trace (s_x_trace_0 G) (k_c1 _ rfl) (Nat.le_of_ble_eq_true rfl) rfl h
  · cases h
set_option maxHeartbeats 10000000 in
set_option maxRecDepth 20000 in
theorem s_x_count_0 (G : GG) : Sq kE G (kF G (2) mi_x_count) mi_x_count 0 b_x_count_0 := by
  unfold b_x_count_0
  exact (sq_iload_n (pc := 0) dX6_count_0 rfl
    (sq_tsw (pc := 1) dX6_count_1 (td := 115) rfl (by decide +kernel)
    ((k_swT_cons 47 48 ki_0_0 (by decide +kernel) (by decide +kernel) (sq_aload_n (pc := 48) dX6_count_48 rfl
    (sq_getr (pc := 49) dX6_count_49 fl_X6_10 rfl rfl (by decide)
    (sq_callV (d := 2) (d' := 1) (mi' := mi_W_howMany) (pc := 52) dX6_count_52 ml_X6_282 in_W_howMany se_W_howMany ok_W_howMany ar_W_howMany (by decide) rfl (by decide) (k_ok_kF G (2) mi_x_count) (m_W_howMany G)
    (sq_iret rfl (pc := 55) dX6_count_55)))) 
    (k_swT_cons 55 56 ki_0_1 (by decide +kernel) (by decide +kernel) (sq_aload_n (pc := 56) dX6_count_56 rfl
    (sq_getr (pc := 57) dX6_count_57 fl_X6_26 rfl rfl (by decide)
    (sq_geti (pc := 60) dX6_count_60 fl_X6_148 rfl
    (sq_iret rfl (pc := 63) dX6_count_63)))) 
    (k_swT_cons 63 64 ki_0_2 (by decide +kernel) (by decide +kernel) (sq_aload_n (pc := 64) dX6_count_64 rfl
    (sq_getr (pc := 65) dX6_count_65 fl_X6_26 rfl rfl (by decide)
    (sq_geti (pc := 68) dX6_count_68 fl_X6_125 rfl
    (sq_iret rfl (pc := 71) dX6_count_71)))) 
    (k_swT_cons 71 72 ki_0_3 (by decide +kernel) (by decide +kernel) (sq_aload_n (pc := 72) dX6_count_72 rfl
    (sq_getr (pc := 73) dX6_count_73 fl_X6_26 rfl rfl (by decide)
    (sq_geti (pc := 76) dX6_count_76 fl_X6_136 rfl
    (sq_iret rfl (pc := 79) dX6_count_79)))) 
    (k_swT_cons 79 80 ki_0_4 (by decide +kernel) (by decide +kernel) (sq_aload_n (pc := 80) dX6_count_80 rfl
    (sq_getr (pc := 81) dX6_count_81 fl_X6_26 rfl rfl (by decide)
    (sq_geti (pc := 84) dX6_count_84 fl_X6_158 rfl
    (sq_iret rfl (pc := 87) dX6_count_87)))) 
    (k_swT_cons 87 88 ki_0_5 (by decide +kernel) (by decide +kernel) (sq_aload_n (pc := 88) dX6_count_88 rfl
    (sq_getr (pc := 89) dX6_count_89 fl_X6_26 rfl rfl (by decide)
    (sq_geti (pc := 92) dX6_count_92 fl_X6_145 rfl
    (sq_callS (d := 2) (d' := 0) (mi' := mi_J_bitCount) (pc := 95) dX6_count_95 ml_X6_235 st_J_bitCount ok_J_bitCount ar_J_bitCount (by decide) (k_ok_kF G (2) mi_x_count) (m_J_bitCount G)
    (sq_iret rfl (pc := 98) dX6_count_98))))) 
    (k_swT_cons 98 99 ki_0_6 (by decide +kernel) (by decide +kernel) (sq_aload_n (pc := 99) dX6_count_99 rfl
    (sq_getr (pc := 100) dX6_count_100 fl_X6_39 rfl rfl (by decide)
    (sq_geti (pc := 103) dX6_count_103 fl_X6_173 rfl
    (sq_iret rfl (pc := 106) dX6_count_106)))) 
    (k_swT_cons 106 107 ki_0_7 (by decide +kernel) (by decide +kernel) (sq_aload_n (pc := 107) dX6_count_107 rfl
    (sq_getr (pc := 108) dX6_count_108 fl_X6_19 rfl rfl (by decide)
    (sq_geti (pc := 111) dX6_count_111 fl_X6_99 rfl
    (sq_iret rfl (pc := 114) dX6_count_114)))) k_swT_nil)))))))))
    (sq_ldc (pc := 115) dX6_count_115 ct_X6_65
    (sq_iret rfl (pc := 117) dX6_count_117))))
theorem m_x_count (G : GG) : RS kE G 2 mi_x_count r_x_count := by
  intro as M v M' h
  unfold r_x_count at h
  split at h
  · exact mc_of ok_x_count (s_x_count_0 G) (k_c1 _ rfl) (Nat.le_of_ble_eq_true rfl) rfl h
  · cases h
set_option maxHeartbeats 10000000 in
set_option maxRecDepth 20000 in
theorem s_x_status_0 (G : GG) : Sq kE G (kF G (0) mi_x_status) mi_x_status 0 b_x_status_0 := by
  unfold b_x_status_0
  exact (sq_aload_n (pc := 0) dX6_status_0 rfl
    (sq_geti (pc := 1) dX6_status_1 fl_X6_57 rfl
    (sq_iret rfl (pc := 4) dX6_status_4)))
theorem m_x_status (G : GG) : RS kE G 0 mi_x_status r_x_status := by
  intro as M v M' h
  unfold r_x_status at h
  split at h
  · exact mc_of ok_x_status (s_x_status_0 G) (k_c1 _ rfl) (Nat.le_of_ble_eq_true rfl) rfl h
  · cases h
set_option maxHeartbeats 10000000 in
set_option maxRecDepth 20000 in
theorem s_m_init_127 (G : GG) (n : Nat) : Sq kId G (kF G (1) mi_m_init) mi_m_init 127 (b_m_init_127 n) := by
  induction n with
  | zero => exact sq_none
  | succ n ih =>
    unfold b_m_init_127
    exact (sq_iload_n (pc := 127) dX7_init_127 rfl
    (sq_bipush (pc := 128) dX7_init_128 kc_b_8
    (sq_cge (pc := 130) dX7_init_130 (tgt := 146) rfl
    (sq_ret rfl (pc := 146) dX7_init_146)
    (sq_aload_n (pc := 133) dX7_init_133 rfl
    (sq_cgetr (pc := 134) dX7_init_134 fl_X7_7 rfl
    (sq_iload_n (pc := 137) dX7_init_137 rfl
    (sq_iconst (pc := 138) dX7_init_138 kc_i_m1
    (sq_ciast (pc := 139) dX7_init_139
    (sq_iinc (pc := 140) dX7_init_140 rfl
    (sq_goto (pc := 143) dX7_init_143 (tgt := 127) rfl ih))))))))))
set_option maxHeartbeats 10000000 in
set_option maxRecDepth 20000 in
theorem s_m_init_0 (G : GG) : Sq kId G (kF G (1) mi_m_init) mi_m_init 0 b_m_init_0 := by
  unfold b_m_init_0
  exact (sq_aload_n (pc := 0) dX7_init_0 rfl
    (sq_cobj (d := 1) (pc := 1) dX7_init_1 (List.mem_append_right _ (List.mem_append_right _ (List.mem_append_right _ (List.mem_append_left _ (List.mem_of_getElem? (i := 237) rfl))))) in_obj co_obj (by decide) (k_ok_kF G (1) mi_m_init)
    (sq_aload_n (pc := 4) dX7_init_4 rfl
    (sq_bipush (pc := 5) dX7_init_5 kc_b_8
    (sq_cnewi (pc := 7) dX7_init_7 ac_int (k_ok_kF G (1) mi_m_init)
    (sq_cputr (pc := 9) dX7_init_9 fl_X7_7 rfl rfl rfl rfl (fun _ => rfl) (fun _ => rfl)
    (sq_aload_n (pc := 12) dX7_init_12 rfl
    (sq_bipush (pc := 13) dX7_init_13 kc_b_8
    (sq_cnewi (pc := 15) dX7_init_15 ac_int (k_ok_kF G (1) mi_m_init)
    (sq_cputr (pc := 17) dX7_init_17 fl_X7_13 rfl rfl rfl rfl (fun _ => rfl) (fun _ => rfl)
    (sq_aload_n (pc := 20) dX7_init_20 rfl
    (sq_sipush (pc := 21) dX7_init_21 kc_s_320
    (sq_cnewi (pc := 24) dX7_init_24 ac_int (k_ok_kF G (1) mi_m_init)
    (sq_cputr (pc := 26) dX7_init_26 fl_X7_16 rfl rfl rfl rfl (fun _ => rfl) (fun _ => rfl)
    (sq_aload_n (pc := 29) dX7_init_29 rfl
    (sq_bipush (pc := 30) dX7_init_30 kc_b_100
    (sq_cnewi (pc := 32) dX7_init_32 ac_int (k_ok_kF G (1) mi_m_init)
    (sq_cputr (pc := 34) dX7_init_34 fl_X7_19 rfl rfl rfl rfl (fun _ => rfl) (fun _ => rfl)
    (sq_aload_n (pc := 37) dX7_init_37 rfl
    (sq_bipush (pc := 38) dX7_init_38 kc_b_47
    (sq_cnewi (pc := 40) dX7_init_40 ac_int (k_ok_kF G (1) mi_m_init)
    (sq_cputr (pc := 42) dX7_init_42 fl_X7_22 rfl rfl rfl rfl (fun _ => rfl) (fun _ => rfl)
    (sq_aload_n (pc := 45) dX7_init_45 rfl
    (sq_bipush (pc := 46) dX7_init_46 kc_b_47
    (sq_cnewi (pc := 48) dX7_init_48 ac_int (k_ok_kF G (1) mi_m_init)
    (sq_cputr (pc := 50) dX7_init_50 fl_X7_25 rfl rfl rfl rfl (fun _ => rfl) (fun _ => rfl)
    (sq_aload_n (pc := 53) dX7_init_53 rfl
    (sq_bipush (pc := 54) dX7_init_54 kc_b_47
    (sq_cnewi (pc := 56) dX7_init_56 ac_int (k_ok_kF G (1) mi_m_init)
    (sq_cputr (pc := 58) dX7_init_58 fl_X7_28 rfl rfl rfl rfl (fun _ => rfl) (fun _ => rfl)
    (sq_aload_n (pc := 61) dX7_init_61 rfl
    (sq_bipush (pc := 62) dX7_init_62 kc_b_94
    (sq_cnewi (pc := 64) dX7_init_64 ac_int (k_ok_kF G (1) mi_m_init)
    (sq_cputr (pc := 66) dX7_init_66 fl_X7_31 rfl rfl rfl rfl (fun _ => rfl) (fun _ => rfl)
    (sq_aload_n (pc := 69) dX7_init_69 rfl
    (sq_iconst (pc := 70) dX7_init_70 kc_i_2
    (sq_cnewz (pc := 71) dX7_init_71 ac_bool (k_ok_kF G (1) mi_m_init)
    (sq_cputr (pc := 73) dX7_init_73 fl_X7_34 rfl rfl rfl rfl (fun _ => rfl) (fun _ => rfl)
    (sq_aload_n (pc := 76) dX7_init_76 rfl
    (sq_sipush (pc := 77) dX7_init_77 kc_s_1128
    (sq_cnewi (pc := 80) dX7_init_80 ac_int (k_ok_kF G (1) mi_m_init)
    (sq_cputr (pc := 82) dX7_init_82 fl_X7_38 rfl rfl rfl rfl (fun _ => rfl) (fun _ => rfl)
    (sq_aload_n (pc := 85) dX7_init_85 rfl
    (sq_bipush (pc := 86) dX7_init_86 kc_b_16
    (sq_cnewi (pc := 88) dX7_init_88 ac_int (k_ok_kF G (1) mi_m_init)
    (sq_cputr (pc := 90) dX7_init_90 fl_X7_41 rfl rfl rfl rfl (fun _ => rfl) (fun _ => rfl)
    (sq_aload_n (pc := 93) dX7_init_93 rfl
    (sq_bipush (pc := 94) dX7_init_94 kc_b_16
    (sq_cnewi (pc := 96) dX7_init_96 ac_int (k_ok_kF G (1) mi_m_init)
    (sq_cputr (pc := 98) dX7_init_98 fl_X7_44 rfl rfl rfl rfl (fun _ => rfl) (fun _ => rfl)
    (sq_aload_n (pc := 101) dX7_init_101 rfl
    (sq_bipush (pc := 102) dX7_init_102 kc_b_6
    (sq_cnewi (pc := 104) dX7_init_104 ac_int (k_ok_kF G (1) mi_m_init)
    (sq_cputr (pc := 106) dX7_init_106 fl_X7_47 rfl rfl rfl rfl (fun _ => rfl) (fun _ => rfl)
    (sq_aload_n (pc := 109) dX7_init_109 rfl
    (sq_bipush (pc := 110) dX7_init_110 kc_b_6
    (sq_cnewi (pc := 112) dX7_init_112 ac_int (k_ok_kF G (1) mi_m_init)
    (sq_cputr (pc := 114) dX7_init_114 fl_X7_50 rfl rfl rfl rfl (fun _ => rfl) (fun _ => rfl)
    (sq_aload_n (pc := 117) dX7_init_117 rfl
    (sq_bipush (pc := 118) dX7_init_118 kc_b_106
    (sq_cnewi (pc := 120) dX7_init_120 ac_int (k_ok_kF G (1) mi_m_init)
    (sq_cputr (pc := 122) dX7_init_122 fl_X7_53 rfl rfl rfl rfl (fun _ => rfl) (fun _ => rfl)
    (sq_iconst (pc := 125) dX7_init_125 kc_i_0
    (sq_istore_n (pc := 126) dX7_init_126 rfl
    (s_m_init_127 G k_fu)))))))))))))))))))))))))))))))))))))))))))))))))))))))))))))))))
theorem m_m_init (G : GG) : RS kId G 1 mi_m_init r_m_init := by
  intro as M v M' h
  unfold r_m_init at h
  split at h
  · exact mc_of ok_m_init (s_m_init_0 G) (k_c1 _ rfl) (Nat.le_of_ble_eq_true rfl) rfl h
  · cases h
set_option maxHeartbeats 10000000 in
set_option maxRecDepth 20000 in
theorem s_m_in_15 (G : GG) : Sq kE G (kF G (0) mi_m_in) mi_m_in 15 (b_m_in_15) := by
  unfold b_m_in_15
  exact (sq_zret rfl (pc := 15) dX7_in_15)
set_option maxHeartbeats 10000000 in
set_option maxRecDepth 20000 in
theorem s_m_in_14 (G : GG) : Sq kE G (kF G (0) mi_m_in) mi_m_in 14 (b_m_in_14) := by
  unfold b_m_in_14
  exact (sq_iconst (pc := 14) dX7_in_14 kc_i_0
    (s_m_in_15 G))
set_option maxHeartbeats 10000000 in
set_option maxRecDepth 20000 in
theorem s_m_in_0 (G : GG) : Sq kE G (kF G (0) mi_m_in) mi_m_in 0 b_m_in_0 := by
  unfold b_m_in_0
  exact (sq_iload_n (pc := 0) dX7_in_0 rfl
    (sq_iload_n (pc := 1) dX7_in_1 rfl
    (sq_clt (pc := 2) dX7_in_2 (tgt := 14) rfl
    (s_m_in_14 G)
    (sq_iload_n (pc := 5) dX7_in_5 rfl
    (sq_iload_n (pc := 6) dX7_in_6 rfl
    (sq_cgt (pc := 7) dX7_in_7 (tgt := 14) rfl
    (s_m_in_14 G)
    (sq_iconst (pc := 10) dX7_in_10 kc_i_1
    (sq_goto (pc := 11) dX7_in_11 (tgt := 15) rfl (s_m_in_15 G)))))))))
theorem m_m_in (G : GG) : RS kE G 0 mi_m_in r_m_in := by
  intro as M v M' h
  unfold r_m_in at h
  split at h
  · exact mc_of ok_m_in (s_m_in_0 G) (k_c1 _ rfl) (Nat.le_of_ble_eq_true rfl) rfl h
  · cases h
set_option maxHeartbeats 10000000 in
set_option maxRecDepth 20000 in
theorem s_m_has_14 (G : GG) : Sq kE G (kF G (0) mi_m_has) mi_m_has 14 (b_m_has_14) := by
  unfold b_m_has_14
  exact (sq_zret rfl (pc := 14) dX7_has_14)
set_option maxHeartbeats 10000000 in
set_option maxRecDepth 20000 in
theorem s_m_has_0 (G : GG) : Sq kE G (kF G (0) mi_m_has) mi_m_has 0 b_m_has_0 := by
  unfold b_m_has_0
  exact (sq_iload_n (pc := 0) dX7_has_0 rfl
    (sq_iload_n (pc := 1) dX7_has_1 rfl
    (sq_ishr (pc := 2) dX7_has_2
    (sq_iconst (pc := 3) dX7_has_3 kc_i_1
    (sq_iand (pc := 4) dX7_has_4
    (sq_iconst (pc := 5) dX7_has_5 kc_i_1
    (sq_cne (pc := 6) dX7_has_6 (tgt := 13) rfl
    (sq_iconst (pc := 9) dX7_has_9 kc_i_1
    (sq_goto (pc := 10) dX7_has_10 (tgt := 14) rfl (s_m_has_14 G)))
    (sq_iconst (pc := 13) dX7_has_13 kc_i_0
    (s_m_has_14 G)))))))))
theorem m_m_has (G : GG) : RS kE G 0 mi_m_has r_m_has := by
  intro as M v M' h
  unfold r_m_has at h
  split at h
  · exact mc_of ok_m_has (s_m_has_0 G) (k_c1 _ rfl) (Nat.le_of_ble_eq_true rfl) rfl h
  · cases h
set_option maxHeartbeats 10000000 in
set_option maxRecDepth 20000 in
theorem s_m_bits_4 (G : GG) (n : Nat) : Sq kE G (kF G (0) mi_m_bits) mi_m_bits 4 (b_m_bits_4 n) := by
  induction n with
  | zero => exact sq_none
  | succ n ih =>
    unfold b_m_bits_4
    exact (sq_iload_n (pc := 4) dX7_bits_4 rfl
    (sq_bipush (pc := 5) dX7_bits_5 kc_b_6
    (sq_cge (pc := 7) dX7_bits_7 (tgt := 24) rfl
    (sq_iload_n (pc := 24) dX7_bits_24 rfl
    (sq_iret rfl (pc := 25) dX7_bits_25))
    (sq_iload_n (pc := 10) dX7_bits_10 rfl
    (sq_iload_n (pc := 11) dX7_bits_11 rfl
    (sq_iload_n (pc := 12) dX7_bits_12 rfl
    (sq_ishr (pc := 13) dX7_bits_13
    (sq_iconst (pc := 14) dX7_bits_14 kc_i_1
    (sq_iand (pc := 15) dX7_bits_15
    (sq_iadd (pc := 16) dX7_bits_16
    (sq_istore_n (pc := 17) dX7_bits_17 rfl
    (sq_iinc (pc := 18) dX7_bits_18 rfl
    (sq_goto (pc := 21) dX7_bits_21 (tgt := 4) rfl ih)))))))))))))
set_option maxHeartbeats 10000000 in
set_option maxRecDepth 20000 in
theorem s_m_bits_0 (G : GG) : Sq kE G (kF G (0) mi_m_bits) mi_m_bits 0 b_m_bits_0 := by
  unfold b_m_bits_0
  exact (sq_iconst (pc := 0) dX7_bits_0 kc_i_0
    (sq_istore_n (pc := 1) dX7_bits_1 rfl
    (sq_iconst (pc := 2) dX7_bits_2 kc_i_0
    (sq_istore_n (pc := 3) dX7_bits_3 rfl
    (s_m_bits_4 G k_fu)))))
theorem m_m_bits (G : GG) : RS kE G 0 mi_m_bits r_m_bits := by
  intro as M v M' h
  unfold r_m_bits at h
  split at h
  · exact mc_of ok_m_bits (s_m_bits_0 G) (k_c1 _ rfl) (Nat.le_of_ble_eq_true rfl) rfl h
  · cases h
set_option maxHeartbeats 10000000 in
set_option maxRecDepth 20000 in
theorem s_m_lay_3 (G : GG) (n : Nat) : Sq kE G (kF G (0) mi_m_lay) mi_m_lay 3 (b_m_lay_3 n) := by
  induction n with
  | zero => exact sq_none
  | succ n ih =>
    unfold b_m_lay_3
    exact (sq_iload (pc := 3) dX7_lay_3
    (sq_bipush (pc := 5) dX7_lay_5 kc_b_47
    (sq_cge (pc := 7) dX7_lay_7 (tgt := 28) rfl
    (sq_ret rfl (pc := 28) dX7_lay_28)
    (sq_aload_n (pc := 10) dX7_lay_10 rfl
    (sq_iload_n (pc := 11) dX7_lay_11 rfl
    (sq_iload (pc := 12) dX7_lay_12
    (sq_iadd (pc := 14) dX7_lay_14
    (sq_aload_n (pc := 15) dX7_lay_15 rfl
    (sq_iload_n (pc := 16) dX7_lay_16 rfl
    (sq_iload (pc := 17) dX7_lay_17
    (sq_iadd (pc := 19) dX7_lay_19
    (sq_iald (pc := 20) dX7_lay_20
    (sq_iast (pc := 21) dX7_lay_21
    (sq_iinc (pc := 22) dX7_lay_22 rfl
    (sq_goto (pc := 25) dX7_lay_25 (tgt := 3) rfl ih)))))))))))))))
set_option maxHeartbeats 10000000 in
set_option maxRecDepth 20000 in
theorem s_m_lay_0 (G : GG) : Sq kE G (kF G (0) mi_m_lay) mi_m_lay 0 b_m_lay_0 := by
  unfold b_m_lay_0
  exact (sq_iconst (pc := 0) dX7_lay_0 kc_i_0
    (sq_istore (pc := 1) dX7_lay_1
    (s_m_lay_3 G k_fu)))
theorem m_m_lay (G : GG) : RS kE G 0 mi_m_lay r_m_lay := by
  intro as M v M' h
  unfold r_m_lay at h
  split at h
  · exact mc_of ok_m_lay (s_m_lay_0 G) (k_c1 _ rfl) (Nat.le_of_ble_eq_true rfl) rfl h
  · cases h
set_option maxHeartbeats 10000000 in
set_option maxRecDepth 20000 in
theorem s_m_isSquare_14 (G : GG) : Sq kE G (kF G (0) mi_m_isSquare) mi_m_isSquare 14 (b_m_isSquare_14) := by
  unfold b_m_isSquare_14
  exact (sq_zret rfl (pc := 14) dX7_isSquare_14)
set_option maxHeartbeats 10000000 in
set_option maxRecDepth 20000 in
theorem s_m_isSquare_0 (G : GG) : Sq kE G (kF G (0) mi_m_isSquare) mi_m_isSquare 0 b_m_isSquare_0 := by
  unfold b_m_isSquare_0
  exact (sq_aload_n (pc := 0) dX7_isSquare_0 rfl
    (sq_getr (pc := 1) dX7_isSquare_1 fl_X7_22 rfl rfl (by decide)
    (sq_iconst (pc := 4) dX7_isSquare_4 kc_i_2
    (sq_iald (pc := 5) dX7_isSquare_5
    (sq_ifle (pc := 6) dX7_isSquare_6 (tgt := 13) rfl
    (sq_iconst (pc := 13) dX7_isSquare_13 kc_i_0
    (s_m_isSquare_14 G))
    (sq_iconst (pc := 9) dX7_isSquare_9 kc_i_1
    (sq_goto (pc := 10) dX7_isSquare_10 (tgt := 14) rfl (s_m_isSquare_14 G))))))))
theorem m_m_isSquare (G : GG) : RS kE G 0 mi_m_isSquare r_m_isSquare := by
  intro as M v M' h
  unfold r_m_isSquare at h
  split at h
  · exact mc_of ok_m_isSquare (s_m_isSquare_0 G) (k_c1 _ rfl) (Nat.le_of_ble_eq_true rfl) rfl h
  · cases h
set_option maxHeartbeats 10000000 in
set_option maxRecDepth 20000 in
theorem s_m_isOne_0 (G : GG) : Sq kE G (kF G (1) mi_m_isOne) mi_m_isOne 0 b_m_isOne_0 := by
  unfold b_m_isOne_0
  exact (sq_iload_n (pc := 0) dX7_isOne_0 rfl
    (sq_iconst (pc := 1) dX7_isOne_1 kc_i_0
    (sq_aload_n (pc := 2) dX7_isOne_2 rfl
    (sq_getr (pc := 3) dX7_isOne_3 fl_X7_22 rfl rfl (by decide)
    (sq_iconst (pc := 6) dX7_isOne_6 kc_i_3
    (sq_iald (pc := 7) dX7_isOne_7
    (sq_iconst (pc := 8) dX7_isOne_8 kc_i_1
    (sq_isub (pc := 9) dX7_isOne_9
    (sq_callS (d := 1) (d' := 0) (mi' := mi_m_in) (pc := 10) dX7_isOne_10 ml_X7_56 st_m_in ok_m_in ar_m_in (by decide) (k_ok_kF G (1) mi_m_isOne) (m_m_in G)
    (sq_zret rfl (pc := 13) dX7_isOne_13))))))))))
theorem m_m_isOne (G : GG) : RS kE G 1 mi_m_isOne r_m_isOne := by
  intro as M v M' h
  unfold r_m_isOne at h
  split at h
  · exact mc_of ok_m_isOne (s_m_isOne_0 G) (k_c1 _ rfl) (Nat.le_of_ble_eq_true rfl) rfl h
  · cases h
set_option maxHeartbeats 10000000 in
set_option maxRecDepth 20000 in
theorem s_m_isSet_0 (G : GG) : Sq kE G (kF G (1) mi_m_isSet) mi_m_isSet 0 b_m_isSet_0 := by
  unfold b_m_isSet_0
  exact (sq_iload_n (pc := 0) dX7_isSet_0 rfl
    (sq_iconst (pc := 1) dX7_isSet_1 kc_i_0
    (sq_iconst (pc := 2) dX7_isSet_2 kc_i_1
    (sq_aload_n (pc := 3) dX7_isSet_3 rfl
    (sq_getr (pc := 4) dX7_isSet_4 fl_X7_22 rfl rfl (by decide)
    (sq_iconst (pc := 7) dX7_isSet_7 kc_i_3
    (sq_iald (pc := 8) dX7_isSet_8
    (sq_ishl (pc := 9) dX7_isSet_9
    (sq_iconst (pc := 10) dX7_isSet_10 kc_i_1
    (sq_isub (pc := 11) dX7_isSet_11
    (sq_callS (d := 1) (d' := 0) (mi' := mi_m_in) (pc := 12) dX7_isSet_12 ml_X7_56 st_m_in ok_m_in ar_m_in (by decide) (k_ok_kF G (1) mi_m_isSet) (m_m_in G)
    (sq_zret rfl (pc := 15) dX7_isSet_15))))))))))))
theorem m_m_isSet (G : GG) : RS kE G 1 mi_m_isSet r_m_isSet := by
  intro as M v M' h
  unfold r_m_isSet at h
  split at h
  · exact mc_of ok_m_isSet (s_m_isSet_0 G) (k_c1 _ rfl) (Nat.le_of_ble_eq_true rfl) rfl h
  · cases h
set_option maxHeartbeats 10000000 in
set_option maxRecDepth 20000 in
theorem s_m_finds_0 (G : GG) : Sq kE G (kF G (0) mi_m_finds) mi_m_finds 0 b_m_finds_0 := by
  unfold b_m_finds_0
  exact (sq_aload_n (pc := 0) dX7_finds_0 rfl
    (sq_iload_n (pc := 1) dX7_finds_1 rfl
    (sq_puti (pc := 2) dX7_finds_2 fl_X7_60 rfl rfl
    (sq_ldc (pc := 5) dX7_finds_5 ct_X7_64
    (sq_iload_n (pc := 7) dX7_finds_7 rfl
    (sq_isub (pc := 8) dX7_finds_8
    (sq_iret rfl (pc := 9) dX7_finds_9)))))))
theorem m_m_finds (G : GG) : RS kE G 0 mi_m_finds r_m_finds := by
  intro as M v M' h
  unfold r_m_finds at h
  split at h
  · exact mc_of ok_m_finds (s_m_finds_0 G) (k_c1 _ rfl) (Nat.le_of_ble_eq_true rfl) rfl h
  · cases h
set_option maxHeartbeats 10000000 in
set_option maxRecDepth 20000 in
theorem s_m_done_0 (G : GG) : Sq kE G (kF G (0) mi_m_done) mi_m_done 0 b_m_done_0 := by
  unfold b_m_done_0
  exact (sq_aload_n (pc := 0) dX7_done_0 rfl
    (sq_iconst (pc := 1) dX7_done_1 kc_i_0
    (sq_puti (pc := 2) dX7_done_2 fl_X7_60 rfl rfl
    (sq_iload_n (pc := 5) dX7_done_5 rfl
    (sq_iret rfl (pc := 6) dX7_done_6)))))
theorem m_m_done (G : GG) : RS kE G 0 mi_m_done r_m_done := by
  intro as M v M' h
  unfold r_m_done at h
  split at h
  · exact mc_of ok_m_done (s_m_done_0 G) (k_c1 _ rfl) (Nat.le_of_ble_eq_true rfl) rfl h
  · cases h
set_option maxHeartbeats 10000000 in
set_option maxRecDepth 20000 in
theorem s_m_isRow_0 (G : GG) : Sq kE G (kF G (1) mi_m_isRow) mi_m_isRow 0 b_m_isRow_0 := by
  unfold b_m_isRow_0
  exact (sq_iload_n (pc := 0) dX7_isRow_0 rfl
    (sq_iconst (pc := 1) dX7_isRow_1 kc_i_0
    (sq_bipush (pc := 2) dX7_isRow_2 kc_b_7
    (sq_callS (d := 1) (d' := 0) (mi' := mi_m_in) (pc := 4) dX7_isRow_4 ml_X7_56 st_m_in ok_m_in ar_m_in (by decide) (k_ok_kF G (1) mi_m_isRow) (m_m_in G)
    (sq_zret rfl (pc := 7) dX7_isRow_7)))))
theorem m_m_isRow (G : GG) : RS kE G 1 mi_m_isRow r_m_isRow := by
  intro as M v M' h
  unfold r_m_isRow at h
  split at h
  · exact mc_of ok_m_isRow (s_m_isRow_0 G) (k_c1 _ rfl) (Nat.le_of_ble_eq_true rfl) rfl h
  · cases h
set_option maxHeartbeats 10000000 in
set_option maxRecDepth 20000 in
theorem s_m_row_22 (G : GG) : Sq kE G (kF G (2) mi_m_row) mi_m_row 22 (b_m_row_22) := by
  unfold b_m_row_22
  exact (sq_ldc (pc := 22) dX7_row_22 ct_X7_69
    (sq_iret rfl (pc := 24) dX7_row_24))
set_option maxHeartbeats 10000000 in
set_option maxRecDepth 20000 in
theorem s_m_row_52 (G : GG) (n : Nat) : Sq kE G (kF G (2) mi_m_row) mi_m_row 52 (b_m_row_52 n) := by
  induction n with
  | zero => exact sq_none
  | succ n ih =>
    unfold b_m_row_52
    exact (sq_iload (pc := 52) dX7_row_52
    (sq_bipush (pc := 54) dX7_row_54 kc_b_40
    (sq_cge (pc := 56) dX7_row_56 (tgt := 78) rfl
    (sq_aload_n (pc := 78) dX7_row_78 rfl
    (sq_iload_n (pc := 79) dX7_row_79 rfl
    (sq_callV (d := 2) (d' := 0) (mi' := mi_m_done) (pc := 80) dX7_row_80 ml_X7_74 in_m_done se_m_done ok_m_done ar_m_done (by decide) rfl (by decide) (k_ok_kF G (2) mi_m_row) (m_m_done G)
    (sq_iret rfl (pc := 83) dX7_row_83))))
    (sq_aload_n (pc := 59) dX7_row_59 rfl
    (sq_getr (pc := 60) dX7_row_60 fl_X7_16 rfl rfl (by decide)
    (sq_bipush (pc := 63) dX7_row_63 kc_b_40
    (sq_iload_n (pc := 65) dX7_row_65 rfl
    (sq_imul (pc := 66) dX7_row_66
    (sq_iload (pc := 67) dX7_row_67
    (sq_iadd (pc := 69) dX7_row_69
    (sq_iconst (pc := 70) dX7_row_70 kc_i_0
    (sq_iast (pc := 71) dX7_row_71
    (sq_iinc (pc := 72) dX7_row_72 rfl
    (sq_goto (pc := 75) dX7_row_75 (tgt := 52) rfl ih))))))))))))))
set_option maxHeartbeats 10000000 in
set_option maxRecDepth 20000 in
theorem s_m_row_0 (G : GG) : Sq kE G (kF G (2) mi_m_row) mi_m_row 0 b_m_row_0 := by
  unfold b_m_row_0
  exact (sq_iload_n (pc := 0) dX7_row_0 rfl
    (sq_callS (d := 2) (d' := 1) (mi' := mi_m_isRow) (pc := 1) dX7_row_1 ml_X7_65 st_m_isRow ok_m_isRow ar_m_isRow (by decide) (k_ok_kF G (2) mi_m_row) (m_m_isRow G)
    (sq_ifeq (pc := 4) dX7_row_4 (tgt := 22) rfl
    (s_m_row_22 G)
    (sq_iload_n (pc := 7) dX7_row_7 rfl
    (sq_iconst (pc := 8) dX7_row_8 kc_i_0
    (sq_iconst (pc := 9) dX7_row_9 kc_i_2
    (sq_callS (d := 2) (d' := 0) (mi' := mi_m_in) (pc := 10) dX7_row_10 ml_X7_56 st_m_in ok_m_in ar_m_in (by decide) (k_ok_kF G (2) mi_m_row) (m_m_in G)
    (sq_ifeq (pc := 13) dX7_row_13 (tgt := 22) rfl
    (s_m_row_22 G)
    (sq_iload_n (pc := 16) dX7_row_16 rfl
    (sq_bipush (pc := 17) dX7_row_17 kc_b_40
    (sq_cle (pc := 19) dX7_row_19 (tgt := 25) rfl
    (sq_iload_n (pc := 25) dX7_row_25 rfl
    (sq_ifge (pc := 26) dX7_row_26 (tgt := 35) rfl
    (sq_aload_n (pc := 35) dX7_row_35 rfl
    (sq_getr (pc := 36) dX7_row_36 fl_X7_7 rfl rfl (by decide)
    (sq_iload_n (pc := 39) dX7_row_39 rfl
    (sq_iload_n (pc := 40) dX7_row_40 rfl
    (sq_iast (pc := 41) dX7_row_41
    (sq_aload_n (pc := 42) dX7_row_42 rfl
    (sq_getr (pc := 43) dX7_row_43 fl_X7_13 rfl rfl (by decide)
    (sq_iload_n (pc := 46) dX7_row_46 rfl
    (sq_iload_n (pc := 47) dX7_row_47 rfl
    (sq_iast (pc := 48) dX7_row_48
    (sq_iconst (pc := 49) dX7_row_49 kc_i_0
    (sq_istore (pc := 50) dX7_row_50
    (s_m_row_52 G k_fu)))))))))))))
    (sq_aload_n (pc := 29) dX7_row_29 rfl
    (sq_iconst (pc := 30) dX7_row_30 kc_i_4
    (sq_callV (d := 2) (d' := 0) (mi' := mi_m_finds) (pc := 31) dX7_row_31 ml_X7_70 in_m_finds se_m_finds ok_m_finds ar_m_finds (by decide) rfl (by decide) (k_ok_kF G (2) mi_m_row) (m_m_finds G)
    (sq_iret rfl (pc := 34) dX7_row_34))))))
    (s_m_row_22 G))))))))))))
theorem m_m_row (G : GG) : RS kE G 2 mi_m_row r_m_row := by
  intro as M v M' h
  unfold r_m_row at h
  split at h
  · exact mc_of ok_m_row (s_m_row_0 G) (k_c1 _ rfl) (Nat.le_of_ble_eq_true rfl) rfl h
  · cases h
set_option maxHeartbeats 10000000 in
set_option maxRecDepth 20000 in
theorem s_m_set_87 (G : GG) : Sq kE G (kF G (2) mi_m_set) mi_m_set 87 (b_m_set_87) := by
  unfold b_m_set_87
  exact (sq_iast (pc := 87) dX7_set_87
    (sq_aload_n (pc := 88) dX7_set_88 rfl
    (sq_aload_n (pc := 89) dX7_set_89 rfl
    (sq_getr (pc := 90) dX7_set_90 fl_X7_16 rfl rfl (by decide)
    (sq_bipush (pc := 93) dX7_set_93 kc_b_40
    (sq_iload_n (pc := 95) dX7_set_95 rfl
    (sq_imul (pc := 96) dX7_set_96
    (sq_iload_n (pc := 97) dX7_set_97 rfl
    (sq_iadd (pc := 98) dX7_set_98
    (sq_iald (pc := 99) dX7_set_99
    (sq_callV (d := 2) (d' := 0) (mi' := mi_m_done) (pc := 100) dX7_set_100 ml_X7_74 in_m_done se_m_done ok_m_done ar_m_done (by decide) rfl (by decide) (k_ok_kF G (2) mi_m_set) (m_m_done G)
    (sq_iret rfl (pc := 103) dX7_set_103))))))))))))
set_option maxHeartbeats 10000000 in
set_option maxRecDepth 20000 in
theorem s_m_set_0 (G : GG) : Sq kE G (kF G (2) mi_m_set) mi_m_set 0 b_m_set_0 := by
  unfold b_m_set_0
  exact (sq_iload_n (pc := 0) dX7_set_0 rfl
    (sq_callS (d := 2) (d' := 1) (mi' := mi_m_isRow) (pc := 1) dX7_set_1 ml_X7_65 st_m_isRow ok_m_isRow ar_m_isRow (by decide) (k_ok_kF G (2) mi_m_set) (m_m_isRow G)
    (sq_ifne (pc := 4) dX7_set_4 (tgt := 10) rfl
    (sq_ldc (pc := 7) dX7_set_7 ct_X7_69
    (sq_iret rfl (pc := 9) dX7_set_9))
    (sq_aload_n (pc := 10) dX7_set_10 rfl
    (sq_getr (pc := 11) dX7_set_11 fl_X7_7 rfl rfl (by decide)
    (sq_iload_n (pc := 14) dX7_set_14 rfl
    (sq_iald (pc := 15) dX7_set_15
    (sq_ifge (pc := 16) dX7_set_16 (tgt := 25) rfl
    (sq_iload_n (pc := 25) dX7_set_25 rfl
    (sq_iconst (pc := 26) dX7_set_26 kc_i_0
    (sq_aload_n (pc := 27) dX7_set_27 rfl
    (sq_getr (pc := 28) dX7_set_28 fl_X7_13 rfl rfl (by decide)
    (sq_iload_n (pc := 31) dX7_set_31 rfl
    (sq_iald (pc := 32) dX7_set_32
    (sq_iconst (pc := 33) dX7_set_33 kc_i_1
    (sq_isub (pc := 34) dX7_set_34
    (sq_callS (d := 2) (d' := 0) (mi' := mi_m_in) (pc := 35) dX7_set_35 ml_X7_56 st_m_in ok_m_in ar_m_in (by decide) (k_ok_kF G (2) mi_m_set) (m_m_in G)
    (sq_ifne (pc := 38) dX7_set_38 (tgt := 47) rfl
    (sq_aload_n (pc := 41) dX7_set_41 rfl
    (sq_iconst (pc := 42) dX7_set_42 kc_i_2
    (sq_callV (d := 2) (d' := 0) (mi' := mi_m_finds) (pc := 43) dX7_set_43 ml_X7_70 in_m_finds se_m_finds ok_m_finds ar_m_finds (by decide) rfl (by decide) (k_ok_kF G (2) mi_m_set) (m_m_finds G)
    (sq_iret rfl (pc := 46) dX7_set_46))))
    (sq_aload_n (pc := 47) dX7_set_47 rfl
    (sq_getr (pc := 48) dX7_set_48 fl_X7_16 rfl rfl (by decide)
    (sq_bipush (pc := 51) dX7_set_51 kc_b_40
    (sq_iload_n (pc := 53) dX7_set_53 rfl
    (sq_imul (pc := 54) dX7_set_54
    (sq_iload_n (pc := 55) dX7_set_55 rfl
    (sq_iadd (pc := 56) dX7_set_56
    (sq_aload_n (pc := 57) dX7_set_57 rfl
    (sq_getr (pc := 58) dX7_set_58 fl_X7_7 rfl rfl (by decide)
    (sq_iload_n (pc := 61) dX7_set_61 rfl
    (sq_iald (pc := 62) dX7_set_62
    (sq_ifne (pc := 63) dX7_set_63 (tgt := 71) rfl
    (sq_iload_n (pc := 66) dX7_set_66 rfl
    (sq_i2b (pc := 67) dX7_set_67
    (sq_goto (pc := 68) dX7_set_68 (tgt := 87) rfl (s_m_set_87 G))))
    (sq_aload_n (pc := 71) dX7_set_71 rfl
    (sq_getr (pc := 72) dX7_set_72 fl_X7_7 rfl rfl (by decide)
    (sq_iload_n (pc := 75) dX7_set_75 rfl
    (sq_iald (pc := 76) dX7_set_76
    (sq_iconst (pc := 77) dX7_set_77 kc_i_1
    (sq_cne (pc := 78) dX7_set_78 (tgt := 86) rfl
    (sq_iload_n (pc := 81) dX7_set_81 rfl
    (sq_i2s (pc := 82) dX7_set_82
    (sq_goto (pc := 83) dX7_set_83 (tgt := 87) rfl (s_m_set_87 G))))
    (sq_iload_n (pc := 86) dX7_set_86 rfl
    (s_m_set_87 G))))))))))))))))))))))))))))))
    (sq_aload_n (pc := 19) dX7_set_19 rfl
    (sq_iconst (pc := 20) dX7_set_20 kc_i_1
    (sq_callV (d := 2) (d' := 0) (mi' := mi_m_finds) (pc := 21) dX7_set_21 ml_X7_70 in_m_finds se_m_finds ok_m_finds ar_m_finds (by decide) rfl (by decide) (k_ok_kF G (2) mi_m_set) (m_m_finds G)
    (sq_iret rfl (pc := 24) dX7_set_24))))))))))))
theorem m_m_set (G : GG) : RS kE G 2 mi_m_set r_m_set := by
  intro as M v M' h
  unfold r_m_set at h
  split at h
  · exact mc_of ok_m_set (s_m_set_0 G) (k_c1 _ rfl) (Nat.le_of_ble_eq_true rfl) rfl h
  · cases h
set_option maxHeartbeats 10000000 in
set_option maxRecDepth 20000 in
theorem s_m_isPart_25 (G : GG) : Sq kE G (kF G (0) mi_m_isPart) mi_m_isPart 25 (b_m_isPart_25) := by
  unfold b_m_isPart_25
  exact (sq_zret rfl (pc := 25) dX7_isPart_25)
set_option maxHeartbeats 10000000 in
set_option maxRecDepth 20000 in
theorem s_m_isPart_24 (G : GG) : Sq kE G (kF G (0) mi_m_isPart) mi_m_isPart 24 (b_m_isPart_24) := by
  unfold b_m_isPart_24
  exact (sq_iconst (pc := 24) dX7_isPart_24 kc_i_0
    (s_m_isPart_25 G))
set_option maxHeartbeats 10000000 in
set_option maxRecDepth 20000 in
theorem s_m_isPart_0 (G : GG) : Sq kE G (kF G (0) mi_m_isPart) mi_m_isPart 0 b_m_isPart_0 := by
  unfold b_m_isPart_0
  exact (sq_iload_n (pc := 0) dX7_isPart_0 rfl
    (sq_iflt (pc := 1) dX7_isPart_1 (tgt := 24) rfl
    (s_m_isPart_24 G)
    (sq_iload_n (pc := 4) dX7_isPart_4 rfl
    (sq_iflt (pc := 5) dX7_isPart_5 (tgt := 24) rfl
    (s_m_isPart_24 G)
    (sq_iload_n (pc := 8) dX7_isPart_8 rfl
    (sq_iload_n (pc := 9) dX7_isPart_9 rfl
    (sq_cgt (pc := 10) dX7_isPart_10 (tgt := 24) rfl
    (s_m_isPart_24 G)
    (sq_iload_n (pc := 13) dX7_isPart_13 rfl
    (sq_iload_n (pc := 14) dX7_isPart_14 rfl
    (sq_iload_n (pc := 15) dX7_isPart_15 rfl
    (sq_isub (pc := 16) dX7_isPart_16
    (sq_cgt (pc := 17) dX7_isPart_17 (tgt := 24) rfl
    (s_m_isPart_24 G)
    (sq_iconst (pc := 20) dX7_isPart_20 kc_i_1
    (sq_goto (pc := 21) dX7_isPart_21 (tgt := 25) rfl (s_m_isPart_25 G)))))))))))))))
theorem m_m_isPart (G : GG) : RS kE G 0 mi_m_isPart r_m_isPart := by
  intro as M v M' h
  unfold r_m_isPart at h
  split at h
  · exact mc_of ok_m_isPart (s_m_isPart_0 G) (k_c1 _ rfl) (Nat.le_of_ble_eq_true rfl) rfl h
  · cases h
set_option maxHeartbeats 10000000 in
set_option maxRecDepth 20000 in
theorem s_m_copy_14 (G : GG) : Sq kE G (kF G (2) mi_m_copy) mi_m_copy 14 (b_m_copy_14) := by
  unfold b_m_copy_14
  exact (sq_ldc (pc := 14) dX7_copy_14 ct_X7_69
    (sq_iret rfl (pc := 16) dX7_copy_16))
set_option maxHeartbeats 10000000 in
set_option maxRecDepth 20000 in
theorem s_m_copy_35 (G : GG) : Sq kE G (kF G (2) mi_m_copy) mi_m_copy 35 (b_m_copy_35) := by
  unfold b_m_copy_35
  exact (sq_aload_n (pc := 35) dX7_copy_35 rfl
    (sq_iconst (pc := 36) dX7_copy_36 kc_i_1
    (sq_callV (d := 2) (d' := 0) (mi' := mi_m_finds) (pc := 37) dX7_copy_37 ml_X7_70 in_m_finds se_m_finds ok_m_finds ar_m_finds (by decide) rfl (by decide) (k_ok_kF G (2) mi_m_copy) (m_m_finds G)
    (sq_iret rfl (pc := 40) dX7_copy_40))))
set_option maxHeartbeats 10000000 in
set_option maxRecDepth 20000 in
theorem s_m_copy_93 (G : GG) : Sq kE G (kF G (2) mi_m_copy) mi_m_copy 93 (b_m_copy_93) := by
  unfold b_m_copy_93
  exact (sq_aload_n (pc := 93) dX7_copy_93 rfl
    (sq_iconst (pc := 94) dX7_copy_94 kc_i_2
    (sq_callV (d := 2) (d' := 0) (mi' := mi_m_finds) (pc := 95) dX7_copy_95 ml_X7_70 in_m_finds se_m_finds ok_m_finds ar_m_finds (by decide) rfl (by decide) (k_ok_kF G (2) mi_m_copy) (m_m_finds G)
    (sq_iret rfl (pc := 98) dX7_copy_98))))
set_option maxHeartbeats 10000000 in
set_option maxRecDepth 20000 in
theorem s_m_copy_144 (G : GG) {k120 : Kt Mi} (h120 : Sq kE G (kF G (2) mi_m_copy) mi_m_copy 120 k120) : Sq kE G (kF G (2) mi_m_copy) mi_m_copy 144 (b_m_copy_144 k120) := by
  unfold b_m_copy_144
  exact (sq_istore (pc := 144) dX7_copy_144
    (sq_aload_n (pc := 146) dX7_copy_146 rfl
    (sq_getr (pc := 147) dX7_copy_147 fl_X7_16 rfl rfl (by decide)
    (sq_bipush (pc := 150) dX7_copy_150 kc_b_40
    (sq_iload_n (pc := 152) dX7_copy_152 rfl
    (sq_imul (pc := 153) dX7_copy_153
    (sq_iload (pc := 154) dX7_copy_154
    (sq_iadd (pc := 156) dX7_copy_156
    (sq_iload (pc := 157) dX7_copy_157
    (sq_iadd (pc := 159) dX7_copy_159
    (sq_aload_n (pc := 160) dX7_copy_160 rfl
    (sq_getr (pc := 161) dX7_copy_161 fl_X7_16 rfl rfl (by decide)
    (sq_bipush (pc := 164) dX7_copy_164 kc_b_40
    (sq_iload_n (pc := 166) dX7_copy_166 rfl
    (sq_imul (pc := 167) dX7_copy_167
    (sq_iload_n (pc := 168) dX7_copy_168 rfl
    (sq_iadd (pc := 169) dX7_copy_169
    (sq_iload (pc := 170) dX7_copy_170
    (sq_iadd (pc := 172) dX7_copy_172
    (sq_iald (pc := 173) dX7_copy_173
    (sq_iast (pc := 174) dX7_copy_174
    (sq_iinc (pc := 175) dX7_copy_175 rfl
    (sq_goto (pc := 178) dX7_copy_178 (tgt := 120) rfl h120)))))))))))))))))))))))
set_option maxHeartbeats 10000000 in
set_option maxRecDepth 20000 in
theorem s_m_copy_120 (G : GG) (n : Nat) : Sq kE G (kF G (2) mi_m_copy) mi_m_copy 120 (b_m_copy_120 n) := by
  induction n with
  | zero => exact sq_none
  | succ n ih =>
    unfold b_m_copy_120
    exact (sq_iload (pc := 120) dX7_copy_120
    (sq_iload (pc := 122) dX7_copy_122
    (sq_cge (pc := 124) dX7_copy_124 (tgt := 181) rfl
    (sq_aload_n (pc := 181) dX7_copy_181 rfl
    (sq_iload (pc := 182) dX7_copy_182
    (sq_callV (d := 2) (d' := 0) (mi' := mi_m_done) (pc := 184) dX7_copy_184 ml_X7_74 in_m_done se_m_done ok_m_done ar_m_done (by decide) rfl (by decide) (k_ok_kF G (2) mi_m_copy) (m_m_done G)
    (sq_iret rfl (pc := 187) dX7_copy_187))))
    (sq_iload (pc := 127) dX7_copy_127
    (sq_ifeq (pc := 129) dX7_copy_129 (tgt := 142) rfl
    (sq_iload (pc := 142) dX7_copy_142
    (s_m_copy_144 G ih))
    (sq_iload (pc := 132) dX7_copy_132
    (sq_iconst (pc := 134) dX7_copy_134 kc_i_1
    (sq_isub (pc := 135) dX7_copy_135
    (sq_iload (pc := 136) dX7_copy_136
    (sq_isub (pc := 138) dX7_copy_138
    (sq_goto (pc := 139) dX7_copy_139 (tgt := 144) rfl (s_m_copy_144 G ih))))))))))))
set_option maxHeartbeats 10000000 in
set_option maxRecDepth 20000 in
theorem s_m_copy_115 (G : GG) : Sq kE G (kF G (2) mi_m_copy) mi_m_copy 115 (b_m_copy_115) := by
  unfold b_m_copy_115
  exact (sq_istore (pc := 115) dX7_copy_115
    (sq_iconst (pc := 117) dX7_copy_117 kc_i_0
    (sq_istore (pc := 118) dX7_copy_118
    (s_m_copy_120 G k_fu))))
set_option maxHeartbeats 10000000 in
set_option maxRecDepth 20000 in
theorem s_m_copy_114 (G : GG) : Sq kE G (kF G (2) mi_m_copy) mi_m_copy 114 (b_m_copy_114) := by
  unfold b_m_copy_114
  exact (sq_iconst (pc := 114) dX7_copy_114 kc_i_0
    (s_m_copy_115 G))
set_option maxHeartbeats 10000000 in
set_option maxRecDepth 20000 in
theorem s_m_copy_0 (G : GG) : Sq kE G (kF G (2) mi_m_copy) mi_m_copy 0 b_m_copy_0 := by
  unfold b_m_copy_0
  exact (sq_iload_n (pc := 0) dX7_copy_0 rfl
    (sq_callS (d := 2) (d' := 1) (mi' := mi_m_isRow) (pc := 1) dX7_copy_1 ml_X7_65 st_m_isRow ok_m_isRow ar_m_isRow (by decide) (k_ok_kF G (2) mi_m_copy) (m_m_isRow G)
    (sq_ifeq (pc := 4) dX7_copy_4 (tgt := 14) rfl
    (s_m_copy_14 G)
    (sq_iload_n (pc := 7) dX7_copy_7 rfl
    (sq_callS (d := 2) (d' := 1) (mi' := mi_m_isRow) (pc := 8) dX7_copy_8 ml_X7_65 st_m_isRow ok_m_isRow ar_m_isRow (by decide) (k_ok_kF G (2) mi_m_copy) (m_m_isRow G)
    (sq_ifne (pc := 11) dX7_copy_11 (tgt := 17) rfl
    (s_m_copy_14 G)
    (sq_aload_n (pc := 17) dX7_copy_17 rfl
    (sq_getr (pc := 18) dX7_copy_18 fl_X7_7 rfl rfl (by decide)
    (sq_iload_n (pc := 21) dX7_copy_21 rfl
    (sq_iald (pc := 22) dX7_copy_22
    (sq_iflt (pc := 23) dX7_copy_23 (tgt := 35) rfl
    (s_m_copy_35 G)
    (sq_aload_n (pc := 26) dX7_copy_26 rfl
    (sq_getr (pc := 27) dX7_copy_27 fl_X7_7 rfl rfl (by decide)
    (sq_iload_n (pc := 30) dX7_copy_30 rfl
    (sq_iald (pc := 31) dX7_copy_31
    (sq_ifge (pc := 32) dX7_copy_32 (tgt := 41) rfl
    (sq_aload_n (pc := 41) dX7_copy_41 rfl
    (sq_getr (pc := 42) dX7_copy_42 fl_X7_7 rfl rfl (by decide)
    (sq_iload_n (pc := 45) dX7_copy_45 rfl
    (sq_iald (pc := 46) dX7_copy_46
    (sq_aload_n (pc := 47) dX7_copy_47 rfl
    (sq_getr (pc := 48) dX7_copy_48 fl_X7_7 rfl rfl (by decide)
    (sq_iload_n (pc := 51) dX7_copy_51 rfl
    (sq_iald (pc := 52) dX7_copy_52
    (sq_ceq (pc := 53) dX7_copy_53 (tgt := 62) rfl
    (sq_iload_n (pc := 62) dX7_copy_62 rfl
    (sq_iload (pc := 63) dX7_copy_63
    (sq_aload_n (pc := 65) dX7_copy_65 rfl
    (sq_getr (pc := 66) dX7_copy_66 fl_X7_13 rfl rfl (by decide)
    (sq_iload_n (pc := 69) dX7_copy_69 rfl
    (sq_iald (pc := 70) dX7_copy_70
    (sq_callS (d := 2) (d' := 0) (mi' := mi_m_isPart) (pc := 71) dX7_copy_71 ml_X7_77 st_m_isPart ok_m_isPart ar_m_isPart (by decide) (k_ok_kF G (2) mi_m_copy) (m_m_isPart G)
    (sq_ifeq (pc := 74) dX7_copy_74 (tgt := 93) rfl
    (s_m_copy_93 G)
    (sq_iload (pc := 77) dX7_copy_77
    (sq_iload (pc := 79) dX7_copy_79
    (sq_aload_n (pc := 81) dX7_copy_81 rfl
    (sq_getr (pc := 82) dX7_copy_82 fl_X7_13 rfl rfl (by decide)
    (sq_iload_n (pc := 85) dX7_copy_85 rfl
    (sq_iald (pc := 86) dX7_copy_86
    (sq_callS (d := 2) (d' := 0) (mi' := mi_m_isPart) (pc := 87) dX7_copy_87 ml_X7_77 st_m_isPart ok_m_isPart ar_m_isPart (by decide) (k_ok_kF G (2) mi_m_copy) (m_m_isPart G)
    (sq_ifne (pc := 90) dX7_copy_90 (tgt := 99) rfl
    (s_m_copy_93 G)
    (sq_iload_n (pc := 99) dX7_copy_99 rfl
    (sq_iload_n (pc := 100) dX7_copy_100 rfl
    (sq_cne (pc := 101) dX7_copy_101 (tgt := 114) rfl
    (sq_iload (pc := 104) dX7_copy_104
    (sq_iload_n (pc := 106) dX7_copy_106 rfl
    (sq_cle (pc := 107) dX7_copy_107 (tgt := 114) rfl
    (s_m_copy_114 G)
    (sq_iconst (pc := 110) dX7_copy_110 kc_i_1
    (sq_goto (pc := 111) dX7_copy_111 (tgt := 115) rfl (s_m_copy_115 G))))))
    (s_m_copy_114 G))))))))))))))))))))
    (sq_aload_n (pc := 56) dX7_copy_56 rfl
    (sq_iconst (pc := 57) dX7_copy_57 kc_i_5
    (sq_callV (d := 2) (d' := 0) (mi' := mi_m_finds) (pc := 58) dX7_copy_58 ml_X7_70 in_m_finds se_m_finds ok_m_finds ar_m_finds (by decide) rfl (by decide) (k_ok_kF G (2) mi_m_copy) (m_m_finds G)
    (sq_iret rfl (pc := 61) dX7_copy_61)))))))))))))
    (s_m_copy_35 G)))))))))))))))))
theorem m_m_copy (G : GG) : RS kE G 2 mi_m_copy r_m_copy := by
  intro as M v M' h
  unfold r_m_copy at h
  split at h
  · exact mc_of ok_m_copy (s_m_copy_0 G) (k_c1 _ rfl) (Nat.le_of_ble_eq_true rfl) rfl h
  · cases h
set_option maxHeartbeats 10000000 in
set_option maxRecDepth 20000 in
theorem s_m_drop_0 (G : GG) : Sq kE G (kF G (2) mi_m_drop) mi_m_drop 0 b_m_drop_0 := by
  unfold b_m_drop_0
  exact (sq_iload_n (pc := 0) dX7_drop_0 rfl
    (sq_callS (d := 2) (d' := 1) (mi' := mi_m_isRow) (pc := 1) dX7_drop_1 ml_X7_65 st_m_isRow ok_m_isRow ar_m_isRow (by decide) (k_ok_kF G (2) mi_m_drop) (m_m_isRow G)
    (sq_ifne (pc := 4) dX7_drop_4 (tgt := 10) rfl
    (sq_ldc (pc := 7) dX7_drop_7 ct_X7_69
    (sq_iret rfl (pc := 9) dX7_drop_9))
    (sq_aload_n (pc := 10) dX7_drop_10 rfl
    (sq_getr (pc := 11) dX7_drop_11 fl_X7_7 rfl rfl (by decide)
    (sq_iload_n (pc := 14) dX7_drop_14 rfl
    (sq_iald (pc := 15) dX7_drop_15
    (sq_ifge (pc := 16) dX7_drop_16 (tgt := 25) rfl
    (sq_aload_n (pc := 25) dX7_drop_25 rfl
    (sq_getr (pc := 26) dX7_drop_26 fl_X7_7 rfl rfl (by decide)
    (sq_iload_n (pc := 29) dX7_drop_29 rfl
    (sq_iconst (pc := 30) dX7_drop_30 kc_i_m1
    (sq_iast (pc := 31) dX7_drop_31
    (sq_aload_n (pc := 32) dX7_drop_32 rfl
    (sq_aload_n (pc := 33) dX7_drop_33 rfl
    (sq_getr (pc := 34) dX7_drop_34 fl_X7_13 rfl rfl (by decide)
    (sq_iload_n (pc := 37) dX7_drop_37 rfl
    (sq_iald (pc := 38) dX7_drop_38
    (sq_callV (d := 2) (d' := 0) (mi' := mi_m_done) (pc := 39) dX7_drop_39 ml_X7_74 in_m_done se_m_done ok_m_done ar_m_done (by decide) rfl (by decide) (k_ok_kF G (2) mi_m_drop) (m_m_done G)
    (sq_iret rfl (pc := 42) dX7_drop_42))))))))))))
    (sq_aload_n (pc := 19) dX7_drop_19 rfl
    (sq_iconst (pc := 20) dX7_drop_20 kc_i_1
    (sq_callV (d := 2) (d' := 0) (mi' := mi_m_finds) (pc := 21) dX7_drop_21 ml_X7_70 in_m_finds se_m_finds ok_m_finds ar_m_finds (by decide) rfl (by decide) (k_ok_kF G (2) mi_m_drop) (m_m_finds G)
    (sq_iret rfl (pc := 24) dX7_drop_24))))))))))))
theorem m_m_drop (G : GG) : RS kE G 2 mi_m_drop r_m_drop := by
  intro as M v M' h
  unfold r_m_drop at h
  split at h
  · exact mc_of ok_m_drop (s_m_drop_0 G) (k_c1 _ rfl) (Nat.le_of_ble_eq_true rfl) rfl h
  · cases h
set_option maxHeartbeats 10000000 in
set_option maxRecDepth 20000 in
theorem s_m_feed_0 (G : GG) : Sq kE G (kF G (1) mi_m_feed) mi_m_feed 0 b_m_feed_0 := by
  unfold b_m_feed_0
  exact (sq_iload_n (pc := 0) dX7_feed_0 rfl
    (sq_iconst (pc := 1) dX7_feed_1 kc_i_0
    (sq_sipush (pc := 2) dX7_feed_2 kc_s_255
    (sq_callS (d := 1) (d' := 0) (mi' := mi_m_in) (pc := 5) dX7_feed_5 ml_X7_56 st_m_in ok_m_in ar_m_in (by decide) (k_ok_kF G (1) mi_m_feed) (m_m_in G)
    (sq_ifne (pc := 8) dX7_feed_8 (tgt := 14) rfl
    (sq_ldc (pc := 11) dX7_feed_11 ct_X7_69
    (sq_iret rfl (pc := 13) dX7_feed_13))
    (sq_aload_n (pc := 14) dX7_feed_14 rfl
    (sq_geti (pc := 15) dX7_feed_15 fl_X7_80 rfl
    (sq_bipush (pc := 18) dX7_feed_18 kc_b_100
    (sq_cne (pc := 20) dX7_feed_20 (tgt := 26) rfl
    (sq_ldc (pc := 23) dX7_feed_23 ct_X7_83
    (sq_iret rfl (pc := 25) dX7_feed_25))
    (sq_aload_n (pc := 26) dX7_feed_26 rfl
    (sq_getr (pc := 27) dX7_feed_27 fl_X7_19 rfl rfl (by decide)
    (sq_aload_n (pc := 30) dX7_feed_30 rfl
    (sq_geti (pc := 31) dX7_feed_31 fl_X7_80 rfl
    (sq_iload_n (pc := 34) dX7_feed_34 rfl
    (sq_iast (pc := 35) dX7_feed_35
    (sq_aload_n (pc := 36) dX7_feed_36 rfl
    (sq_dup (pc := 37) dX7_feed_37
    (sq_geti (pc := 38) dX7_feed_38 fl_X7_80 rfl
    (sq_iconst (pc := 41) dX7_feed_41 kc_i_1
    (sq_iadd (pc := 42) dX7_feed_42
    (sq_puti (pc := 43) dX7_feed_43 fl_X7_80 rfl rfl
    (sq_aload_n (pc := 46) dX7_feed_46 rfl
    (sq_geti (pc := 47) dX7_feed_47 fl_X7_80 rfl
    (sq_iret rfl (pc := 50) dX7_feed_50))))))))))))))))))))))))
theorem m_m_feed (G : GG) : RS kE G 1 mi_m_feed r_m_feed := by
  intro as M v M' h
  unfold r_m_feed at h
  split at h
  · exact mc_of ok_m_feed (s_m_feed_0 G) (k_c1 _ rfl) (Nat.le_of_ble_eq_true rfl) rfl h
  · cases h
set_option maxHeartbeats 10000000 in
set_option maxRecDepth 20000 in
theorem s_m_nextToken_193 (G : GG) : Sq kE G (kF G (1) mi_m_nextToken) mi_m_nextToken 193 (b_m_nextToken_193) := by
  unfold b_m_nextToken_193
  exact (sq_puti (pc := 193) dX7_nextToken_193 fl_X7_93 rfl rfl
    (sq_aload_n (pc := 196) dX7_nextToken_196 rfl
    (sq_dup (pc := 197) dX7_nextToken_197
    (sq_geti (pc := 198) dX7_nextToken_198 fl_X7_84 rfl
    (sq_iconst (pc := 201) dX7_nextToken_201 kc_i_1
    (sq_iadd (pc := 202) dX7_nextToken_202
    (sq_puti (pc := 203) dX7_nextToken_203 fl_X7_84 rfl rfl
    (sq_ret rfl (pc := 206) dX7_nextToken_206))))))))
set_option maxHeartbeats 10000000 in
set_option maxRecDepth 20000 in
theorem s_m_nextToken_187 (G : GG) : Sq kE G (kF G (1) mi_m_nextToken) mi_m_nextToken 187 (b_m_nextToken_187) := by
  unfold b_m_nextToken_187
  exact (sq_iload_n (pc := 187) dX7_nextToken_187 rfl
    (sq_goto (pc := 188) dX7_nextToken_188 (tgt := 193) rfl (s_m_nextToken_193 G)))
set_option maxHeartbeats 10000000 in
set_option maxRecDepth 20000 in
theorem s_m_nextToken_159 (G : GG) : Sq kE G (kF G (1) mi_m_nextToken) mi_m_nextToken 159 (b_m_nextToken_159) := by
  unfold b_m_nextToken_159
  exact (sq_puti (pc := 159) dX7_nextToken_159 fl_X7_93 rfl rfl
    (sq_ret rfl (pc := 162) dX7_nextToken_162))
set_option maxHeartbeats 10000000 in
set_option maxRecDepth 20000 in
theorem s_m_nextToken_139 (G : GG) : Sq kE G (kF G (1) mi_m_nextToken) mi_m_nextToken 139 (b_m_nextToken_139) := by
  unfold b_m_nextToken_139
  exact (sq_aload_n (pc := 139) dX7_nextToken_139 rfl
    (sq_aload_n (pc := 140) dX7_nextToken_140 rfl
    (sq_geti (pc := 141) dX7_nextToken_141 fl_X7_84 rfl
    (sq_aload_n (pc := 144) dX7_nextToken_144 rfl
    (sq_geti (pc := 145) dX7_nextToken_145 fl_X7_87 rfl
    (sq_isub (pc := 148) dX7_nextToken_148
    (sq_iconst (pc := 149) dX7_nextToken_149 kc_i_2
    (sq_cle (pc := 150) dX7_nextToken_150 (tgt := 158) rfl
    (sq_iconst (pc := 158) dX7_nextToken_158 kc_i_m1
    (s_m_nextToken_159 G))
    (sq_bipush (pc := 153) dX7_nextToken_153 kc_b_m3
    (sq_goto (pc := 155) dX7_nextToken_155 (tgt := 159) rfl (s_m_nextToken_159 G)))))))))))
set_option maxHeartbeats 10000000 in
set_option maxRecDepth 20000 in
theorem s_m_nextToken_123 (G : GG) {k52 : Kt Mi} (h52 : Sq kE G (kF G (1) mi_m_nextToken) mi_m_nextToken 52 k52) : Sq kE G (kF G (1) mi_m_nextToken) mi_m_nextToken 123 (b_m_nextToken_123 k52) := by
  unfold b_m_nextToken_123
  exact (sq_puti (pc := 123) dX7_nextToken_123 fl_X7_90 rfl rfl
    (sq_aload_n (pc := 126) dX7_nextToken_126 rfl
    (sq_dup (pc := 127) dX7_nextToken_127
    (sq_geti (pc := 128) dX7_nextToken_128 fl_X7_84 rfl
    (sq_iconst (pc := 131) dX7_nextToken_131 kc_i_1
    (sq_iadd (pc := 132) dX7_nextToken_132
    (sq_puti (pc := 133) dX7_nextToken_133 fl_X7_84 rfl rfl
    (sq_goto (pc := 136) dX7_nextToken_136 (tgt := 52) rfl h52))))))))
set_option maxHeartbeats 10000000 in
set_option maxRecDepth 20000 in
theorem s_m_nextToken_52 (G : GG) (n : Nat) : Sq kE G (kF G (1) mi_m_nextToken) mi_m_nextToken 52 (b_m_nextToken_52 n) := by
  induction n with
  | zero => exact sq_none
  | succ n ih =>
    unfold b_m_nextToken_52
    exact (sq_aload_n (pc := 52) dX7_nextToken_52 rfl
    (sq_geti (pc := 53) dX7_nextToken_53 fl_X7_84 rfl
    (sq_aload_n (pc := 56) dX7_nextToken_56 rfl
    (sq_geti (pc := 57) dX7_nextToken_57 fl_X7_80 rfl
    (sq_cge (pc := 60) dX7_nextToken_60 (tgt := 139) rfl
    (s_m_nextToken_139 G)
    (sq_aload_n (pc := 63) dX7_nextToken_63 rfl
    (sq_getr (pc := 64) dX7_nextToken_64 fl_X7_19 rfl rfl (by decide)
    (sq_aload_n (pc := 67) dX7_nextToken_67 rfl
    (sq_geti (pc := 68) dX7_nextToken_68 fl_X7_84 rfl
    (sq_iald (pc := 71) dX7_nextToken_71
    (sq_bipush (pc := 72) dX7_nextToken_72 kc_b_48
    (sq_bipush (pc := 74) dX7_nextToken_74 kc_b_57
    (sq_callS (d := 1) (d' := 0) (mi' := mi_m_in) (pc := 76) dX7_nextToken_76 ml_X7_56 st_m_in ok_m_in ar_m_in (by decide) (k_ok_kF G (1) mi_m_nextToken) (m_m_in G)
    (sq_ifeq (pc := 79) dX7_nextToken_79 (tgt := 139) rfl
    (s_m_nextToken_139 G)
    (sq_aload_n (pc := 82) dX7_nextToken_82 rfl
    (sq_aload_n (pc := 83) dX7_nextToken_83 rfl
    (sq_geti (pc := 84) dX7_nextToken_84 fl_X7_84 rfl
    (sq_aload_n (pc := 87) dX7_nextToken_87 rfl
    (sq_geti (pc := 88) dX7_nextToken_88 fl_X7_87 rfl
    (sq_isub (pc := 91) dX7_nextToken_91
    (sq_iconst (pc := 92) dX7_nextToken_92 kc_i_2
    (sq_cge (pc := 93) dX7_nextToken_93 (tgt := 119) rfl
    (sq_aload_n (pc := 119) dX7_nextToken_119 rfl
    (sq_geti (pc := 120) dX7_nextToken_120 fl_X7_90 rfl
    (s_m_nextToken_123 G ih)))
    (sq_bipush (pc := 96) dX7_nextToken_96 kc_b_10
    (sq_aload_n (pc := 98) dX7_nextToken_98 rfl
    (sq_geti (pc := 99) dX7_nextToken_99 fl_X7_90 rfl
    (sq_imul (pc := 102) dX7_nextToken_102
    (sq_aload_n (pc := 103) dX7_nextToken_103 rfl
    (sq_getr (pc := 104) dX7_nextToken_104 fl_X7_19 rfl rfl (by decide)
    (sq_aload_n (pc := 107) dX7_nextToken_107 rfl
    (sq_geti (pc := 108) dX7_nextToken_108 fl_X7_84 rfl
    (sq_iald (pc := 111) dX7_nextToken_111
    (sq_iadd (pc := 112) dX7_nextToken_112
    (sq_bipush (pc := 113) dX7_nextToken_113 kc_b_48
    (sq_isub (pc := 115) dX7_nextToken_115
    (sq_goto (pc := 116) dX7_nextToken_116 (tgt := 123) rfl (s_m_nextToken_123 G ih))))))))))))))))))))))))))))))))))))
set_option maxHeartbeats 10000000 in
set_option maxRecDepth 20000 in
theorem s_m_nextToken_0 (G : GG) : Sq kE G (kF G (1) mi_m_nextToken) mi_m_nextToken 0 b_m_nextToken_0 := by
  unfold b_m_nextToken_0
  exact (sq_aload_n (pc := 0) dX7_nextToken_0 rfl
    (sq_aload_n (pc := 1) dX7_nextToken_1 rfl
    (sq_geti (pc := 2) dX7_nextToken_2 fl_X7_84 rfl
    (sq_puti (pc := 5) dX7_nextToken_5 fl_X7_87 rfl rfl
    (sq_aload_n (pc := 8) dX7_nextToken_8 rfl
    (sq_iconst (pc := 9) dX7_nextToken_9 kc_i_0
    (sq_puti (pc := 10) dX7_nextToken_10 fl_X7_90 rfl rfl
    (sq_aload_n (pc := 13) dX7_nextToken_13 rfl
    (sq_geti (pc := 14) dX7_nextToken_14 fl_X7_84 rfl
    (sq_aload_n (pc := 17) dX7_nextToken_17 rfl
    (sq_geti (pc := 18) dX7_nextToken_18 fl_X7_80 rfl
    (sq_cne (pc := 21) dX7_nextToken_21 (tgt := 31) rfl
    (sq_aload_n (pc := 24) dX7_nextToken_24 rfl
    (sq_bipush (pc := 25) dX7_nextToken_25 kc_b_m2
    (sq_puti (pc := 27) dX7_nextToken_27 fl_X7_93 rfl rfl
    (sq_ret rfl (pc := 30) dX7_nextToken_30))))
    (sq_aload_n (pc := 31) dX7_nextToken_31 rfl
    (sq_getr (pc := 32) dX7_nextToken_32 fl_X7_19 rfl rfl (by decide)
    (sq_aload_n (pc := 35) dX7_nextToken_35 rfl
    (sq_geti (pc := 36) dX7_nextToken_36 fl_X7_84 rfl
    (sq_iald (pc := 39) dX7_nextToken_39
    (sq_istore_n (pc := 40) dX7_nextToken_40 rfl
    (sq_iload_n (pc := 41) dX7_nextToken_41 rfl
    (sq_bipush (pc := 42) dX7_nextToken_42 kc_b_48
    (sq_bipush (pc := 44) dX7_nextToken_44 kc_b_57
    (sq_callS (d := 1) (d' := 0) (mi' := mi_m_in) (pc := 46) dX7_nextToken_46 ml_X7_56 st_m_in ok_m_in ar_m_in (by decide) (k_ok_kF G (1) mi_m_nextToken) (m_m_in G)
    (sq_ifeq (pc := 49) dX7_nextToken_49 (tgt := 163) rfl
    (sq_aload_n (pc := 163) dX7_nextToken_163 rfl
    (sq_iload_n (pc := 164) dX7_nextToken_164 rfl
    (sq_bipush (pc := 165) dX7_nextToken_165 kc_b_97
    (sq_bipush (pc := 167) dX7_nextToken_167 kc_b_122
    (sq_callS (d := 1) (d' := 0) (mi' := mi_m_in) (pc := 169) dX7_nextToken_169 ml_X7_56 st_m_in ok_m_in ar_m_in (by decide) (k_ok_kF G (1) mi_m_nextToken) (m_m_in G)
    (sq_ifne (pc := 172) dX7_nextToken_172 (tgt := 187) rfl
    (sq_iload_n (pc := 175) dX7_nextToken_175 rfl
    (sq_bipush (pc := 176) dX7_nextToken_176 kc_b_44
    (sq_ceq (pc := 178) dX7_nextToken_178 (tgt := 187) rfl
    (s_m_nextToken_187 G)
    (sq_iload_n (pc := 181) dX7_nextToken_181 rfl
    (sq_bipush (pc := 182) dX7_nextToken_182 kc_b_59
    (sq_cne (pc := 184) dX7_nextToken_184 (tgt := 191) rfl
    (s_m_nextToken_187 G)
    (sq_bipush (pc := 191) dX7_nextToken_191 kc_b_m3
    (s_m_nextToken_193 G))))))))
    (s_m_nextToken_187 G)))))))
    (s_m_nextToken_52 G k_fu))))))))))))))))))))))))
theorem m_m_nextToken (G : GG) : RS kE G 1 mi_m_nextToken r_m_nextToken := by
  intro as M v M' h
  unfold r_m_nextToken at h
  split at h
  · exact mc_of ok_m_nextToken (s_m_nextToken_0 G) (k_c1 _ rfl) (Nat.le_of_ble_eq_true rfl) rfl h
  · cases h
set_option maxHeartbeats 10000000 in
set_option maxRecDepth 20000 in
theorem s_m_fails_0 (G : GG) : Sq kE G (kF G (0) mi_m_fails) mi_m_fails 0 b_m_fails_0 := by
  unfold b_m_fails_0
  exact (sq_aload_n (pc := 0) dX7_fails_0 rfl
    (sq_iload_n (pc := 1) dX7_fails_1 rfl
    (sq_puti (pc := 2) dX7_fails_2 fl_X7_96 rfl rfl
    (sq_iconst (pc := 5) dX7_fails_5 kc_i_0
    (sq_zret rfl (pc := 6) dX7_fails_6)))))
theorem m_m_fails (G : GG) : RS kE G 0 mi_m_fails r_m_fails := by
  intro as M v M' h
  unfold r_m_fails at h
  split at h
  · exact mc_of ok_m_fails (s_m_fails_0 G) (k_c1 _ rfl) (Nat.le_of_ble_eq_true rfl) rfl h
  · cases h
set_option maxHeartbeats 10000000 in
set_option maxRecDepth 20000 in
theorem s_m_isSign_25 (G : GG) : Sq kE G (kF G (2) mi_m_isSign) mi_m_isSign 25 (b_m_isSign_25) := by
  unfold b_m_isSign_25
  exact (sq_zret rfl (pc := 25) dX7_isSign_25)
set_option maxHeartbeats 10000000 in
set_option maxRecDepth 20000 in
theorem s_m_isSign_20 (G : GG) : Sq kE G (kF G (2) mi_m_isSign) mi_m_isSign 20 (b_m_isSign_20) := by
  unfold b_m_isSign_20
  exact (sq_iconst (pc := 20) dX7_isSign_20 kc_i_1
    (sq_goto (pc := 21) dX7_isSign_21 (tgt := 25) rfl (s_m_isSign_25 G)))
set_option maxHeartbeats 10000000 in
set_option maxRecDepth 20000 in
theorem s_m_isSign_0 (G : GG) : Sq kE G (kF G (2) mi_m_isSign) mi_m_isSign 0 b_m_isSign_0 := by
  unfold b_m_isSign_0
  exact (sq_aload_n (pc := 0) dX7_isSign_0 rfl
    (sq_callV (d := 2) (d' := 1) (mi' := mi_m_nextToken) (pc := 1) dX7_isSign_1 ml_X7_99 in_m_nextToken se_m_nextToken ok_m_nextToken ar_m_nextToken (by decide) rfl (by decide) (k_ok_kF G (2) mi_m_isSign) (m_m_nextToken G)
    (sq_aload_n (pc := 4) dX7_isSign_4 rfl
    (sq_geti (pc := 5) dX7_isSign_5 fl_X7_93 rfl
    (sq_iload_n (pc := 8) dX7_isSign_8 rfl
    (sq_ceq (pc := 9) dX7_isSign_9 (tgt := 20) rfl
    (s_m_isSign_20 G)
    (sq_aload_n (pc := 12) dX7_isSign_12 rfl
    (sq_iconst (pc := 13) dX7_isSign_13 kc_i_1
    (sq_callV (d := 2) (d' := 0) (mi' := mi_m_fails) (pc := 14) dX7_isSign_14 ml_X7_102 in_m_fails se_m_fails ok_m_fails ar_m_fails (by decide) rfl (by decide) (k_ok_kF G (2) mi_m_isSign) (m_m_fails G)
    (sq_ifeq (pc := 17) dX7_isSign_17 (tgt := 24) rfl
    (sq_iconst (pc := 24) dX7_isSign_24 kc_i_0
    (s_m_isSign_25 G))
    (s_m_isSign_20 G)))))))))))
theorem m_m_isSign (G : GG) : RS kE G 2 mi_m_isSign r_m_isSign := by
  intro as M v M' h
  unfold r_m_isSign at h
  split at h
  · exact mc_of ok_m_isSign (s_m_isSign_0 G) (k_c1 _ rfl) (Nat.le_of_ble_eq_true rfl) rfl h
  · cases h
set_option maxHeartbeats 10000000 in
set_option maxRecDepth 20000 in
theorem s_m_isNumber_43 (G : GG) : Sq kE G (kF G (2) mi_m_isNumber) mi_m_isNumber 43 (b_m_isNumber_43) := by
  unfold b_m_isNumber_43
  exact (sq_zret rfl (pc := 43) dX7_isNumber_43)
set_option maxHeartbeats 10000000 in
set_option maxRecDepth 20000 in
theorem s_m_isNumber_38 (G : GG) : Sq kE G (kF G (2) mi_m_isNumber) mi_m_isNumber 38 (b_m_isNumber_38) := by
  unfold b_m_isNumber_38
  exact (sq_iconst (pc := 38) dX7_isNumber_38 kc_i_1
    (sq_goto (pc := 39) dX7_isNumber_39 (tgt := 43) rfl (s_m_isNumber_43 G)))
set_option maxHeartbeats 10000000 in
set_option maxRecDepth 20000 in
theorem s_m_isNumber_0 (G : GG) : Sq kE G (kF G (2) mi_m_isNumber) mi_m_isNumber 0 b_m_isNumber_0 := by
  unfold b_m_isNumber_0
  exact (sq_aload_n (pc := 0) dX7_isNumber_0 rfl
    (sq_callV (d := 2) (d' := 1) (mi' := mi_m_nextToken) (pc := 1) dX7_isNumber_1 ml_X7_99 in_m_nextToken se_m_nextToken ok_m_nextToken ar_m_nextToken (by decide) rfl (by decide) (k_ok_kF G (2) mi_m_isNumber) (m_m_nextToken G)
    (sq_aload_n (pc := 4) dX7_isNumber_4 rfl
    (sq_geti (pc := 5) dX7_isNumber_5 fl_X7_93 rfl
    (sq_iconst (pc := 8) dX7_isNumber_8 kc_i_m1
    (sq_ceq (pc := 9) dX7_isNumber_9 (tgt := 18) rfl
    (sq_aload_n (pc := 18) dX7_isNumber_18 rfl
    (sq_geti (pc := 19) dX7_isNumber_19 fl_X7_90 rfl
    (sq_iload_n (pc := 22) dX7_isNumber_22 rfl
    (sq_iload_n (pc := 23) dX7_isNumber_23 rfl
    (sq_callS (d := 2) (d' := 0) (mi' := mi_m_in) (pc := 24) dX7_isNumber_24 ml_X7_56 st_m_in ok_m_in ar_m_in (by decide) (k_ok_kF G (2) mi_m_isNumber) (m_m_in G)
    (sq_ifne (pc := 27) dX7_isNumber_27 (tgt := 38) rfl
    (sq_aload_n (pc := 30) dX7_isNumber_30 rfl
    (sq_iconst (pc := 31) dX7_isNumber_31 kc_i_2
    (sq_callV (d := 2) (d' := 0) (mi' := mi_m_fails) (pc := 32) dX7_isNumber_32 ml_X7_102 in_m_fails se_m_fails ok_m_fails ar_m_fails (by decide) rfl (by decide) (k_ok_kF G (2) mi_m_isNumber) (m_m_fails G)
    (sq_ifeq (pc := 35) dX7_isNumber_35 (tgt := 42) rfl
    (sq_iconst (pc := 42) dX7_isNumber_42 kc_i_0
    (s_m_isNumber_43 G))
    (s_m_isNumber_38 G)))))
    (s_m_isNumber_38 G)))))))
    (sq_aload_n (pc := 12) dX7_isNumber_12 rfl
    (sq_iconst (pc := 13) dX7_isNumber_13 kc_i_1
    (sq_callV (d := 2) (d' := 0) (mi' := mi_m_fails) (pc := 14) dX7_isNumber_14 ml_X7_102 in_m_fails se_m_fails ok_m_fails ar_m_fails (by decide) rfl (by decide) (k_ok_kF G (2) mi_m_isNumber) (m_m_fails G)
    (sq_zret rfl (pc := 17) dX7_isNumber_17))))))))))
theorem m_m_isNumber (G : GG) : RS kE G 2 mi_m_isNumber r_m_isNumber := by
  intro as M v M' h
  unfold r_m_isNumber at h
  split at h
  · exact mc_of ok_m_isNumber (s_m_isNumber_0 G) (k_c1 _ rfl) (Nat.le_of_ble_eq_true rfl) rfl h
  · cases h
set_option maxHeartbeats 10000000 in
set_option maxRecDepth 20000 in
theorem s_m_isPair_40 (G : GG) : Sq kE G (kF G (3) mi_m_isPair) mi_m_isPair 40 (b_m_isPair_40) := by
  unfold b_m_isPair_40
  exact (sq_iconst (pc := 40) dX7_isPair_40 kc_i_0
    (sq_zret rfl (pc := 41) dX7_isPair_41))
set_option maxHeartbeats 10000000 in
set_option maxRecDepth 20000 in
theorem s_m_isPair_0 (G : GG) : Sq kE G (kF G (3) mi_m_isPair) mi_m_isPair 0 b_m_isPair_0 := by
  unfold b_m_isPair_0
  exact (sq_aload_n (pc := 0) dX7_isPair_0 rfl
    (sq_iload_n (pc := 1) dX7_isPair_1 rfl
    (sq_iload_n (pc := 2) dX7_isPair_2 rfl
    (sq_callV (d := 3) (d' := 2) (mi' := mi_m_isNumber) (pc := 3) dX7_isPair_3 ml_X7_105 in_m_isNumber se_m_isNumber ok_m_isNumber ar_m_isNumber (by decide) rfl (by decide) (k_ok_kF G (3) mi_m_isPair) (m_m_isNumber G)
    (sq_ifne (pc := 6) dX7_isPair_6 (tgt := 11) rfl
    (sq_iconst (pc := 9) dX7_isPair_9 kc_i_0
    (sq_zret rfl (pc := 10) dX7_isPair_10))
    (sq_aload_n (pc := 11) dX7_isPair_11 rfl
    (sq_getr (pc := 12) dX7_isPair_12 fl_X7_25 rfl rfl (by decide)
    (sq_iload_n (pc := 15) dX7_isPair_15 rfl
    (sq_aload_n (pc := 16) dX7_isPair_16 rfl
    (sq_geti (pc := 17) dX7_isPair_17 fl_X7_90 rfl
    (sq_iast (pc := 20) dX7_isPair_20
    (sq_aload_n (pc := 21) dX7_isPair_21 rfl
    (sq_bipush (pc := 22) dX7_isPair_22 kc_b_44
    (sq_callV (d := 3) (d' := 2) (mi' := mi_m_isSign) (pc := 24) dX7_isPair_24 ml_X7_109 in_m_isSign se_m_isSign ok_m_isSign ar_m_isSign (by decide) rfl (by decide) (k_ok_kF G (3) mi_m_isPair) (m_m_isSign G)
    (sq_ifeq (pc := 27) dX7_isPair_27 (tgt := 40) rfl
    (s_m_isPair_40 G)
    (sq_aload_n (pc := 30) dX7_isPair_30 rfl
    (sq_iconst (pc := 31) dX7_isPair_31 kc_i_0
    (sq_iload (pc := 32) dX7_isPair_32
    (sq_callV (d := 3) (d' := 2) (mi' := mi_m_isNumber) (pc := 34) dX7_isPair_34 ml_X7_105 in_m_isNumber se_m_isNumber ok_m_isNumber ar_m_isNumber (by decide) rfl (by decide) (k_ok_kF G (3) mi_m_isPair) (m_m_isNumber G)
    (sq_ifne (pc := 37) dX7_isPair_37 (tgt := 42) rfl
    (s_m_isPair_40 G)
    (sq_aload_n (pc := 42) dX7_isPair_42 rfl
    (sq_getr (pc := 43) dX7_isPair_43 fl_X7_25 rfl rfl (by decide)
    (sq_iload (pc := 46) dX7_isPair_46
    (sq_aload_n (pc := 48) dX7_isPair_48 rfl
    (sq_geti (pc := 49) dX7_isPair_49 fl_X7_90 rfl
    (sq_iast (pc := 52) dX7_isPair_52
    (sq_aload_n (pc := 53) dX7_isPair_53 rfl
    (sq_bipush (pc := 54) dX7_isPair_54 kc_b_59
    (sq_callV (d := 3) (d' := 2) (mi' := mi_m_isSign) (pc := 56) dX7_isPair_56 ml_X7_109 in_m_isSign se_m_isSign ok_m_isSign ar_m_isSign (by decide) rfl (by decide) (k_ok_kF G (3) mi_m_isPair) (m_m_isSign G)
    (sq_zret rfl (pc := 59) dX7_isPair_59))))))))))))))))))))))))))))))
theorem m_m_isPair (G : GG) : RS kE G 3 mi_m_isPair r_m_isPair := by
  intro as M v M' h
  unfold r_m_isPair at h
  split at h
  · exact mc_of ok_m_isPair (s_m_isPair_0 G) (k_c1 _ rfl) (Nat.le_of_ble_eq_true rfl) rfl h
  · cases h
set_option maxHeartbeats 10000000 in
set_option maxRecDepth 20000 in
theorem s_m_sortBy_51 (G : GG) : Sq kE G (kF G (0) mi_m_sortBy) mi_m_sortBy 51 (b_m_sortBy_51) := by
  unfold b_m_sortBy_51
  exact (sq_iret rfl (pc := 51) dX7_sortBy_51)
set_option maxHeartbeats 10000000 in
set_option maxRecDepth 20000 in
theorem s_m_sortBy_0 (G : GG) : Sq kE G (kF G (0) mi_m_sortBy) mi_m_sortBy 0 b_m_sortBy_0 := by
  unfold b_m_sortBy_0
  exact (sq_iload_n (pc := 0) dX7_sortBy_0 rfl
    (sq_bipush (pc := 1) dX7_sortBy_1 kc_b_112
    (sq_cne (pc := 3) dX7_sortBy_3 (tgt := 10) rfl
    (sq_iconst (pc := 6) dX7_sortBy_6 kc_i_1
    (sq_goto (pc := 7) dX7_sortBy_7 (tgt := 51) rfl (s_m_sortBy_51 G)))
    (sq_iload_n (pc := 10) dX7_sortBy_10 rfl
    (sq_bipush (pc := 11) dX7_sortBy_11 kc_b_100
    (sq_cne (pc := 13) dX7_sortBy_13 (tgt := 20) rfl
    (sq_iconst (pc := 16) dX7_sortBy_16 kc_i_2
    (sq_goto (pc := 17) dX7_sortBy_17 (tgt := 51) rfl (s_m_sortBy_51 G)))
    (sq_iload_n (pc := 20) dX7_sortBy_20 rfl
    (sq_bipush (pc := 21) dX7_sortBy_21 kc_b_116
    (sq_cne (pc := 23) dX7_sortBy_23 (tgt := 30) rfl
    (sq_iconst (pc := 26) dX7_sortBy_26 kc_i_3
    (sq_goto (pc := 27) dX7_sortBy_27 (tgt := 51) rfl (s_m_sortBy_51 G)))
    (sq_iload_n (pc := 30) dX7_sortBy_30 rfl
    (sq_bipush (pc := 31) dX7_sortBy_31 kc_b_110
    (sq_cne (pc := 33) dX7_sortBy_33 (tgt := 40) rfl
    (sq_iconst (pc := 36) dX7_sortBy_36 kc_i_4
    (sq_goto (pc := 37) dX7_sortBy_37 (tgt := 51) rfl (s_m_sortBy_51 G)))
    (sq_iload_n (pc := 40) dX7_sortBy_40 rfl
    (sq_bipush (pc := 41) dX7_sortBy_41 kc_b_108
    (sq_cne (pc := 43) dX7_sortBy_43 (tgt := 50) rfl
    (sq_iconst (pc := 46) dX7_sortBy_46 kc_i_5
    (sq_goto (pc := 47) dX7_sortBy_47 (tgt := 51) rfl (s_m_sortBy_51 G)))
    (sq_iconst (pc := 50) dX7_sortBy_50 kc_i_0
    (s_m_sortBy_51 G)))))))))))))))))
theorem m_m_sortBy (G : GG) : RS kE G 0 mi_m_sortBy r_m_sortBy := by
  intro as M v M' h
  unfold r_m_sortBy at h
  split at h
  · exact mc_of ok_m_sortBy (s_m_sortBy_0 G) (k_c1 _ rfl) (Nat.le_of_ble_eq_true rfl) rfl h
  · cases h
set_option maxHeartbeats 10000000 in
set_option maxRecDepth 20000 in
theorem s_m_isItem_111 (G : GG) : Sq kE G (kF G (4) mi_m_isItem) mi_m_isItem 111 (b_m_isItem_111) := by
  unfold b_m_isItem_111
  exact (sq_aload_n (pc := 111) dX7_isItem_111 rfl
    (sq_iconst (pc := 112) dX7_isItem_112 kc_i_1
    (sq_callV (d := 4) (d' := 0) (mi' := mi_m_fails) (pc := 113) dX7_isItem_113 ml_X7_102 in_m_fails se_m_fails ok_m_fails ar_m_fails (by decide) rfl (by decide) (k_ok_kF G (4) mi_m_isItem) (m_m_fails G)
    (sq_zret rfl (pc := 116) dX7_isItem_116))))
set_option maxHeartbeats 10000000 in
set_option maxRecDepth 20000 in
theorem s_m_isItem_97 (G : GG) : Sq kE G (kF G (4) mi_m_isItem) mi_m_isItem 97 (b_m_isItem_97) := by
  unfold b_m_isItem_97
  exact (sq_istore_n (pc := 97) dX7_isItem_97 rfl
    (sq_iload_n (pc := 98) dX7_isItem_98 rfl
    (sq_ifeq (pc := 99) dX7_isItem_99 (tgt := 111) rfl
    (s_m_isItem_111 G)
    (sq_aload_n (pc := 102) dX7_isItem_102 rfl
    (sq_getr (pc := 103) dX7_isItem_103 fl_X7_25 rfl rfl (by decide)
    (sq_iconst (pc := 106) dX7_isItem_106 kc_i_2
    (sq_iald (pc := 107) dX7_isItem_107
    (sq_ifne (pc := 108) dX7_isItem_108 (tgt := 117) rfl
    (s_m_isItem_111 G)
    (sq_aload_n (pc := 117) dX7_isItem_117 rfl
    (sq_getr (pc := 118) dX7_isItem_118 fl_X7_25 rfl rfl (by decide)
    (sq_iconst (pc := 121) dX7_isItem_121 kc_i_3
    (sq_iald (pc := 122) dX7_isItem_122
    (sq_istore_n (pc := 123) dX7_isItem_123 rfl
    (sq_iload_n (pc := 124) dX7_isItem_124 rfl
    (sq_iconst (pc := 125) dX7_isItem_125 kc_i_5
    (sq_cne (pc := 126) dX7_isItem_126 (tgt := 135) rfl
    (sq_aload_n (pc := 129) dX7_isItem_129 rfl
    (sq_iconst (pc := 130) dX7_isItem_130 kc_i_3
    (sq_callV (d := 4) (d' := 0) (mi' := mi_m_fails) (pc := 131) dX7_isItem_131 ml_X7_102 in_m_fails se_m_fails ok_m_fails ar_m_fails (by decide) rfl (by decide) (k_ok_kF G (4) mi_m_isItem) (m_m_fails G)
    (sq_zret rfl (pc := 134) dX7_isItem_134))))
    (sq_aload_n (pc := 135) dX7_isItem_135 rfl
    (sq_getr (pc := 136) dX7_isItem_136 fl_X7_25 rfl rfl (by decide)
    (sq_bipush (pc := 139) dX7_isItem_139 kc_b_22
    (sq_iload_n (pc := 141) dX7_isItem_141 rfl
    (sq_iadd (pc := 142) dX7_isItem_142
    (sq_iload_n (pc := 143) dX7_isItem_143 rfl
    (sq_iast (pc := 144) dX7_isItem_144
    (sq_aload_n (pc := 145) dX7_isItem_145 rfl
    (sq_bipush (pc := 146) dX7_isItem_146 kc_b_27
    (sq_iload_n (pc := 148) dX7_isItem_148 rfl
    (sq_iadd (pc := 149) dX7_isItem_149
    (sq_iconst (pc := 150) dX7_isItem_150 kc_i_1
    (sq_bipush (pc := 151) dX7_isItem_151 kc_b_60
    (sq_bipush (pc := 153) dX7_isItem_153 kc_b_32
    (sq_iload_n (pc := 155) dX7_isItem_155 rfl
    (sq_iadd (pc := 156) dX7_isItem_156
    (sq_iconst (pc := 157) dX7_isItem_157 kc_i_1
    (sq_callV (d := 4) (d' := 3) (mi' := mi_m_isPair) (pc := 158) dX7_isItem_158 ml_X7_112 in_m_isPair se_m_isPair ok_m_isPair ar_m_isPair (by decide) rfl (by decide) (k_ok_kF G (4) mi_m_isItem) (m_m_isPair G)
    (sq_ifne (pc := 161) dX7_isItem_161 (tgt := 166) rfl
    (sq_iconst (pc := 164) dX7_isItem_164 kc_i_0
    (sq_zret rfl (pc := 165) dX7_isItem_165))
    (sq_aload_n (pc := 166) dX7_isItem_166 rfl
    (sq_getr (pc := 167) dX7_isItem_167 fl_X7_25 rfl rfl (by decide)
    (sq_iconst (pc := 170) dX7_isItem_170 kc_i_3
    (sq_dup2 (pc := 171) dX7_isItem_171
    (sq_iald (pc := 172) dX7_isItem_172
    (sq_iconst (pc := 173) dX7_isItem_173 kc_i_1
    (sq_iadd (pc := 174) dX7_isItem_174
    (sq_iast (pc := 175) dX7_isItem_175
    (sq_iconst (pc := 176) dX7_isItem_176 kc_i_1
    (sq_zret rfl (pc := 177) dX7_isItem_177)))))))))))))))))))))))))))))))))))))))))))))
set_option maxHeartbeats 10000000 in
set_option maxRecDepth 20000 in
theorem s_m_isItem_79 (G : GG) : Sq kE G (kF G (4) mi_m_isItem) mi_m_isItem 79 (b_m_isItem_79) := by
  unfold b_m_isItem_79
  exact (sq_aload_n (pc := 79) dX7_isItem_79 rfl
    (sq_geti (pc := 80) dX7_isItem_80 fl_X7_93 rfl
    (sq_ifle (pc := 83) dX7_isItem_83 (tgt := 96) rfl
    (sq_iconst (pc := 96) dX7_isItem_96 kc_i_0
    (s_m_isItem_97 G))
    (sq_aload_n (pc := 86) dX7_isItem_86 rfl
    (sq_geti (pc := 87) dX7_isItem_87 fl_X7_93 rfl
    (sq_callS (d := 4) (d' := 0) (mi' := mi_m_sortBy) (pc := 90) dX7_isItem_90 ml_X7_116 st_m_sortBy ok_m_sortBy ar_m_sortBy (by decide) (k_ok_kF G (4) mi_m_isItem) (m_m_sortBy G)
    (sq_goto (pc := 93) dX7_isItem_93 (tgt := 97) rfl (s_m_isItem_97 G))))))))
set_option maxHeartbeats 10000000 in
set_option maxRecDepth 20000 in
theorem s_m_isItem_0 (G : GG) : Sq kE G (kF G (4) mi_m_isItem) mi_m_isItem 0 b_m_isItem_0 := by
  unfold b_m_isItem_0
  exact (sq_aload_n (pc := 0) dX7_isItem_0 rfl
    (sq_geti (pc := 1) dX7_isItem_1 fl_X7_93 rfl
    (sq_bipush (pc := 4) dX7_isItem_4 kc_b_102
    (sq_cne (pc := 6) dX7_isItem_6 (tgt := 79) rfl
    (sq_aload_n (pc := 9) dX7_isItem_9 rfl
    (sq_getr (pc := 10) dX7_isItem_10 fl_X7_25 rfl rfl (by decide)
    (sq_iconst (pc := 13) dX7_isItem_13 kc_i_3
    (sq_iald (pc := 14) dX7_isItem_14
    (sq_ifne (pc := 15) dX7_isItem_15 (tgt := 79) rfl
    (sq_aload_n (pc := 18) dX7_isItem_18 rfl
    (sq_getr (pc := 19) dX7_isItem_19 fl_X7_25 rfl rfl (by decide)
    (sq_iconst (pc := 22) dX7_isItem_22 kc_i_2
    (sq_iald (pc := 23) dX7_isItem_23
    (sq_istore_n (pc := 24) dX7_isItem_24 rfl
    (sq_iload_n (pc := 25) dX7_isItem_25 rfl
    (sq_bipush (pc := 26) dX7_isItem_26 kc_b_6
    (sq_cne (pc := 28) dX7_isItem_28 (tgt := 37) rfl
    (sq_aload_n (pc := 31) dX7_isItem_31 rfl
    (sq_iconst (pc := 32) dX7_isItem_32 kc_i_3
    (sq_callV (d := 4) (d' := 0) (mi' := mi_m_fails) (pc := 33) dX7_isItem_33 ml_X7_102 in_m_fails se_m_fails ok_m_fails ar_m_fails (by decide) rfl (by decide) (k_ok_kF G (4) mi_m_isItem) (m_m_fails G)
    (sq_zret rfl (pc := 36) dX7_isItem_36))))
    (sq_aload_n (pc := 37) dX7_isItem_37 rfl
    (sq_getr (pc := 38) dX7_isItem_38 fl_X7_25 rfl rfl (by decide)
    (sq_iconst (pc := 41) dX7_isItem_41 kc_i_4
    (sq_iload_n (pc := 42) dX7_isItem_42 rfl
    (sq_iadd (pc := 43) dX7_isItem_43
    (sq_iload_n (pc := 44) dX7_isItem_44 rfl
    (sq_iast (pc := 45) dX7_isItem_45
    (sq_aload_n (pc := 46) dX7_isItem_46 rfl
    (sq_bipush (pc := 47) dX7_isItem_47 kc_b_10
    (sq_iload_n (pc := 49) dX7_isItem_49 rfl
    (sq_iadd (pc := 50) dX7_isItem_50
    (sq_iconst (pc := 51) dX7_isItem_51 kc_i_0
    (sq_bipush (pc := 52) dX7_isItem_52 kc_b_9
    (sq_bipush (pc := 54) dX7_isItem_54 kc_b_16
    (sq_iload_n (pc := 56) dX7_isItem_56 rfl
    (sq_iadd (pc := 57) dX7_isItem_57
    (sq_iconst (pc := 58) dX7_isItem_58 kc_i_3
    (sq_callV (d := 4) (d' := 3) (mi' := mi_m_isPair) (pc := 59) dX7_isItem_59 ml_X7_112 in_m_isPair se_m_isPair ok_m_isPair ar_m_isPair (by decide) rfl (by decide) (k_ok_kF G (4) mi_m_isItem) (m_m_isPair G)
    (sq_ifne (pc := 62) dX7_isItem_62 (tgt := 67) rfl
    (sq_iconst (pc := 65) dX7_isItem_65 kc_i_0
    (sq_zret rfl (pc := 66) dX7_isItem_66))
    (sq_aload_n (pc := 67) dX7_isItem_67 rfl
    (sq_getr (pc := 68) dX7_isItem_68 fl_X7_25 rfl rfl (by decide)
    (sq_iconst (pc := 71) dX7_isItem_71 kc_i_2
    (sq_dup2 (pc := 72) dX7_isItem_72
    (sq_iald (pc := 73) dX7_isItem_73
    (sq_iconst (pc := 74) dX7_isItem_74 kc_i_1
    (sq_iadd (pc := 75) dX7_isItem_75
    (sq_iast (pc := 76) dX7_isItem_76
    (sq_iconst (pc := 77) dX7_isItem_77 kc_i_1
    (sq_zret rfl (pc := 78) dX7_isItem_78)))))))))))))))))))))))))))))))))))))
    (s_m_isItem_79 G))))))
    (s_m_isItem_79 G)))))
theorem m_m_isItem (G : GG) : RS kE G 4 mi_m_isItem r_m_isItem := by
  intro as M v M' h
  unfold r_m_isItem at h
  split at h
  · exact mc_of ok_m_isItem (s_m_isItem_0 G) (k_c1 _ rfl) (Nat.le_of_ble_eq_true rfl) rfl h
  · cases h
set_option maxHeartbeats 10000000 in
set_option maxRecDepth 20000 in
theorem s_m_isRead_45 (G : GG) : Sq kE G (kF G (5) mi_m_isRead) mi_m_isRead 45 (b_m_isRead_45) := by
  unfold b_m_isRead_45
  exact (sq_iconst (pc := 45) dX7_isRead_45 kc_i_0
    (sq_zret rfl (pc := 46) dX7_isRead_46))
set_option maxHeartbeats 10000000 in
set_option maxRecDepth 20000 in
theorem s_m_isRead_90 (G : GG) {k72 : Kt Mi} (h72 : Sq kE G (kF G (5) mi_m_isRead) mi_m_isRead 72 k72) : Sq kE G (kF G (5) mi_m_isRead) mi_m_isRead 90 (b_m_isRead_90 k72) := by
  unfold b_m_isRead_90
  exact (sq_aload_n (pc := 90) dX7_isRead_90 rfl
    (sq_callV (d := 5) (d' := 4) (mi' := mi_m_isItem) (pc := 91) dX7_isRead_91 ml_X7_119 in_m_isItem se_m_isItem ok_m_isItem ar_m_isItem (by decide) rfl (by decide) (k_ok_kF G (5) mi_m_isRead) (m_m_isItem G)
    (sq_ifne (pc := 94) dX7_isRead_94 (tgt := 99) rfl
    (sq_iconst (pc := 97) dX7_isRead_97 kc_i_0
    (sq_zret rfl (pc := 98) dX7_isRead_98))
    (sq_aload_n (pc := 99) dX7_isRead_99 rfl
    (sq_callV (d := 5) (d' := 1) (mi' := mi_m_nextToken) (pc := 100) dX7_isRead_100 ml_X7_99 in_m_nextToken se_m_nextToken ok_m_nextToken ar_m_nextToken (by decide) rfl (by decide) (k_ok_kF G (5) mi_m_isRead) (m_m_nextToken G)
    (sq_goto (pc := 103) dX7_isRead_103 (tgt := 72) rfl h72))))))
set_option maxHeartbeats 10000000 in
set_option maxRecDepth 20000 in
theorem s_m_isRead_72 (G : GG) (n : Nat) : Sq kE G (kF G (5) mi_m_isRead) mi_m_isRead 72 (b_m_isRead_72 n) := by
  induction n with
  | zero => exact sq_none
  | succ n ih =>
    unfold b_m_isRead_72
    exact (sq_aload_n (pc := 72) dX7_isRead_72 rfl
    (sq_geti (pc := 73) dX7_isRead_73 fl_X7_93 rfl
    (sq_bipush (pc := 76) dX7_isRead_76 kc_b_m2
    (sq_cne (pc := 78) dX7_isRead_78 (tgt := 90) rfl
    (sq_aload_n (pc := 81) dX7_isRead_81 rfl
    (sq_getr (pc := 82) dX7_isRead_82 fl_X7_25 rfl rfl (by decide)
    (sq_iconst (pc := 85) dX7_isRead_85 kc_i_2
    (sq_iald (pc := 86) dX7_isRead_86
    (sq_ifne (pc := 87) dX7_isRead_87 (tgt := 106) rfl
    (s_m_isRead_90 G ih)
    (sq_iconst (pc := 106) dX7_isRead_106 kc_i_1
    (sq_zret rfl (pc := 107) dX7_isRead_107)))))))
    (s_m_isRead_90 G ih)))))
set_option maxHeartbeats 10000000 in
set_option maxRecDepth 20000 in
theorem s_m_isRead_2 (G : GG) (n : Nat) : Sq kE G (kF G (5) mi_m_isRead) mi_m_isRead 2 (b_m_isRead_2 n) := by
  induction n with
  | zero => exact sq_none
  | succ n ih =>
    unfold b_m_isRead_2
    exact (sq_iload_n (pc := 2) dX7_isRead_2 rfl
    (sq_bipush (pc := 3) dX7_isRead_3 kc_b_47
    (sq_cge (pc := 5) dX7_isRead_5 (tgt := 21) rfl
    (sq_aload_n (pc := 21) dX7_isRead_21 rfl
    (sq_iconst (pc := 22) dX7_isRead_22 kc_i_0
    (sq_puti (pc := 23) dX7_isRead_23 fl_X7_84 rfl rfl
    (sq_aload_n (pc := 26) dX7_isRead_26 rfl
    (sq_bipush (pc := 27) dX7_isRead_27 kc_b_113
    (sq_callV (d := 5) (d' := 2) (mi' := mi_m_isSign) (pc := 29) dX7_isRead_29 ml_X7_109 in_m_isSign se_m_isSign ok_m_isSign ar_m_isSign (by decide) rfl (by decide) (k_ok_kF G (5) mi_m_isRead) (m_m_isSign G)
    (sq_ifeq (pc := 32) dX7_isRead_32 (tgt := 45) rfl
    (s_m_isRead_45 G)
    (sq_aload_n (pc := 35) dX7_isRead_35 rfl
    (sq_iconst (pc := 36) dX7_isRead_36 kc_i_0
    (sq_bipush (pc := 37) dX7_isRead_37 kc_b_9
    (sq_callV (d := 5) (d' := 2) (mi' := mi_m_isNumber) (pc := 39) dX7_isRead_39 ml_X7_105 in_m_isNumber se_m_isNumber ok_m_isNumber ar_m_isNumber (by decide) rfl (by decide) (k_ok_kF G (5) mi_m_isRead) (m_m_isNumber G)
    (sq_ifne (pc := 42) dX7_isRead_42 (tgt := 47) rfl
    (s_m_isRead_45 G)
    (sq_aload_n (pc := 47) dX7_isRead_47 rfl
    (sq_getr (pc := 48) dX7_isRead_48 fl_X7_25 rfl rfl (by decide)
    (sq_iconst (pc := 51) dX7_isRead_51 kc_i_1
    (sq_aload_n (pc := 52) dX7_isRead_52 rfl
    (sq_geti (pc := 53) dX7_isRead_53 fl_X7_90 rfl
    (sq_iast (pc := 56) dX7_isRead_56
    (sq_aload_n (pc := 57) dX7_isRead_57 rfl
    (sq_bipush (pc := 58) dX7_isRead_58 kc_b_59
    (sq_callV (d := 5) (d' := 2) (mi' := mi_m_isSign) (pc := 60) dX7_isRead_60 ml_X7_109 in_m_isSign se_m_isSign ok_m_isSign ar_m_isSign (by decide) rfl (by decide) (k_ok_kF G (5) mi_m_isRead) (m_m_isSign G)
    (sq_ifne (pc := 63) dX7_isRead_63 (tgt := 68) rfl
    (sq_iconst (pc := 66) dX7_isRead_66 kc_i_0
    (sq_zret rfl (pc := 67) dX7_isRead_67))
    (sq_aload_n (pc := 68) dX7_isRead_68 rfl
    (sq_callV (d := 5) (d' := 1) (mi' := mi_m_nextToken) (pc := 69) dX7_isRead_69 ml_X7_99 in_m_nextToken se_m_nextToken ok_m_nextToken ar_m_nextToken (by decide) rfl (by decide) (k_ok_kF G (5) mi_m_isRead) (m_m_nextToken G)
    (s_m_isRead_72 G k_fu)))))))))))))))))))))))))
    (sq_aload_n (pc := 8) dX7_isRead_8 rfl
    (sq_getr (pc := 9) dX7_isRead_9 fl_X7_25 rfl rfl (by decide)
    (sq_iload_n (pc := 12) dX7_isRead_12 rfl
    (sq_iconst (pc := 13) dX7_isRead_13 kc_i_0
    (sq_iast (pc := 14) dX7_isRead_14
    (sq_iinc (pc := 15) dX7_isRead_15 rfl
    (sq_goto (pc := 18) dX7_isRead_18 (tgt := 2) rfl ih))))))))))
set_option maxHeartbeats 10000000 in
set_option maxRecDepth 20000 in
theorem s_m_isRead_0 (G : GG) : Sq kE G (kF G (5) mi_m_isRead) mi_m_isRead 0 b_m_isRead_0 := by
  unfold b_m_isRead_0
  exact (sq_iconst (pc := 0) dX7_isRead_0 kc_i_0
    (sq_istore_n (pc := 1) dX7_isRead_1 rfl
    (s_m_isRead_2 G k_fu)))
theorem m_m_isRead (G : GG) : RS kE G 5 mi_m_isRead r_m_isRead := by
  intro as M v M' h
  unfold r_m_isRead at h
  split at h
  · exact mc_of ok_m_isRead (s_m_isRead_0 G) (k_c1 _ rfl) (Nat.le_of_ble_eq_true rfl) rfl h
  · cases h
set_option maxHeartbeats 10000000 in
set_option maxRecDepth 20000 in
theorem s_m_square_0 (G : GG) : Sq kE G (kF G (6) mi_m_square) mi_m_square 0 b_m_square_0 := by
  unfold b_m_square_0
  exact (sq_aload_n (pc := 0) dX7_square_0 rfl
    (sq_callV (d := 6) (d' := 5) (mi' := mi_m_isRead) (pc := 1) dX7_square_1 ml_X7_123 in_m_isRead se_m_isRead ok_m_isRead ar_m_isRead (by decide) rfl (by decide) (k_ok_kF G (6) mi_m_square) (m_m_isRead G)
    (sq_istore_n (pc := 4) dX7_square_4 rfl
    (sq_aload_n (pc := 5) dX7_square_5 rfl
    (sq_iconst (pc := 6) dX7_square_6 kc_i_0
    (sq_puti (pc := 7) dX7_square_7 fl_X7_80 rfl rfl
    (sq_iload_n (pc := 10) dX7_square_10 rfl
    (sq_ifne (pc := 11) dX7_square_11 (tgt := 30) rfl
    (sq_aload_n (pc := 14) dX7_square_14 rfl
    (sq_aload_n (pc := 15) dX7_square_15 rfl
    (sq_geti (pc := 16) dX7_square_16 fl_X7_96 rfl
    (sq_puti (pc := 19) dX7_square_19 fl_X7_126 rfl rfl
    (sq_ldc (pc := 22) dX7_square_22 ct_X7_129
    (sq_aload_n (pc := 24) dX7_square_24 rfl
    (sq_geti (pc := 25) dX7_square_25 fl_X7_87 rfl
    (sq_isub (pc := 28) dX7_square_28
    (sq_iret rfl (pc := 29) dX7_square_29)))))))))
    (sq_aload_n (pc := 30) dX7_square_30 rfl
    (sq_getr (pc := 31) dX7_square_31 fl_X7_25 rfl rfl (by decide)
    (sq_iconst (pc := 34) dX7_square_34 kc_i_0
    (sq_aload_n (pc := 35) dX7_square_35 rfl
    (sq_getr (pc := 36) dX7_square_36 fl_X7_22 rfl rfl (by decide)
    (sq_iconst (pc := 39) dX7_square_39 kc_i_0
    (sq_callS (d := 6) (d' := 0) (mi' := mi_m_lay) (pc := 40) dX7_square_40 ml_X7_130 st_m_lay ok_m_lay ar_m_lay (by decide) (k_ok_kF G (6) mi_m_square) (m_m_lay G)
    (sq_aload_n (pc := 43) dX7_square_43 rfl
    (sq_iconst (pc := 44) dX7_square_44 kc_i_0
    (sq_puti (pc := 45) dX7_square_45 fl_X7_134 rfl rfl
    (sq_aload_n (pc := 48) dX7_square_48 rfl
    (sq_getr (pc := 49) dX7_square_49 fl_X7_22 rfl rfl (by decide)
    (sq_iconst (pc := 52) dX7_square_52 kc_i_3
    (sq_iald (pc := 53) dX7_square_53
    (sq_iret rfl (pc := 54) dX7_square_54)))))))))))))))))))))))
theorem m_m_square (G : GG) : RS kE G 6 mi_m_square r_m_square := by
  intro as M v M' h
  unfold r_m_square at h
  split at h
  · exact mc_of ok_m_square (s_m_square_0 G) (k_c1 _ rfl) (Nat.le_of_ble_eq_true rfl) rfl h
  · cases h
set_option maxHeartbeats 10000000 in
set_option maxRecDepth 20000 in
theorem s_m_fault_0 (G : GG) : Sq kE G (kF G (0) mi_m_fault) mi_m_fault 0 b_m_fault_0 := by
  unfold b_m_fault_0
  exact (sq_aload_n (pc := 0) dX7_fault_0 rfl
    (sq_geti (pc := 1) dX7_fault_1 fl_X7_126 rfl
    (sq_iret rfl (pc := 4) dX7_fault_4)))
theorem m_m_fault (G : GG) : RS kE G 0 mi_m_fault r_m_fault := by
  intro as M v M' h
  unfold r_m_fault at h
  split at h
  · exact mc_of ok_m_fault (s_m_fault_0 G) (k_c1 _ rfl) (Nat.le_of_ble_eq_true rfl) rfl h
  · cases h
set_option maxHeartbeats 10000000 in
set_option maxRecDepth 20000 in
theorem s_m_note_49 (G : GG) : Sq kE G (kF G (1) mi_m_note) mi_m_note 49 (b_m_note_49) := by
  unfold b_m_note_49
  exact (sq_aload_n (pc := 49) dX7_note_49 rfl
    (sq_getr (pc := 50) dX7_note_50 fl_X7_22 rfl rfl (by decide)
    (sq_iconst (pc := 53) dX7_note_53 kc_i_0
    (sq_aload_n (pc := 54) dX7_note_54 rfl
    (sq_getr (pc := 55) dX7_note_55 fl_X7_38 rfl rfl (by decide)
    (sq_bipush (pc := 58) dX7_note_58 kc_b_47
    (sq_aload_n (pc := 60) dX7_note_60 rfl
    (sq_geti (pc := 61) dX7_note_61 fl_X7_134 rfl
    (sq_imul (pc := 64) dX7_note_64
    (sq_callS (d := 1) (d' := 0) (mi' := mi_m_lay) (pc := 65) dX7_note_65 ml_X7_130 st_m_lay ok_m_lay ar_m_lay (by decide) (k_ok_kF G (1) mi_m_note) (m_m_lay G)
    (sq_aload_n (pc := 68) dX7_note_68 rfl
    (sq_dup (pc := 69) dX7_note_69
    (sq_geti (pc := 70) dX7_note_70 fl_X7_134 rfl
    (sq_iconst (pc := 73) dX7_note_73 kc_i_1
    (sq_iadd (pc := 74) dX7_note_74
    (sq_puti (pc := 75) dX7_note_75 fl_X7_134 rfl rfl
    (sq_ret rfl (pc := 78) dX7_note_78)))))))))))))))))
set_option maxHeartbeats 10000000 in
set_option maxRecDepth 20000 in
theorem s_m_note_11 (G : GG) (n : Nat) : Sq kE G (kF G (1) mi_m_note) mi_m_note 11 (b_m_note_11 n) := by
  induction n with
  | zero => exact sq_none
  | succ n ih =>
    unfold b_m_note_11
    exact (sq_iload_n (pc := 11) dX7_note_11 rfl
    (sq_sipush (pc := 12) dX7_note_12 kc_s_1081
    (sq_cge (pc := 15) dX7_note_15 (tgt := 39) rfl
    (sq_aload_n (pc := 39) dX7_note_39 rfl
    (sq_dup (pc := 40) dX7_note_40
    (sq_geti (pc := 41) dX7_note_41 fl_X7_134 rfl
    (sq_iconst (pc := 44) dX7_note_44 kc_i_1
    (sq_isub (pc := 45) dX7_note_45
    (sq_puti (pc := 46) dX7_note_46 fl_X7_134 rfl rfl
    (s_m_note_49 G)))))))
    (sq_aload_n (pc := 18) dX7_note_18 rfl
    (sq_getr (pc := 19) dX7_note_19 fl_X7_38 rfl rfl (by decide)
    (sq_iload_n (pc := 22) dX7_note_22 rfl
    (sq_aload_n (pc := 23) dX7_note_23 rfl
    (sq_getr (pc := 24) dX7_note_24 fl_X7_38 rfl rfl (by decide)
    (sq_iload_n (pc := 27) dX7_note_27 rfl
    (sq_bipush (pc := 28) dX7_note_28 kc_b_47
    (sq_iadd (pc := 30) dX7_note_30
    (sq_iald (pc := 31) dX7_note_31
    (sq_iast (pc := 32) dX7_note_32
    (sq_iinc (pc := 33) dX7_note_33 rfl
    (sq_goto (pc := 36) dX7_note_36 (tgt := 11) rfl ih)))))))))))))))
set_option maxHeartbeats 10000000 in
set_option maxRecDepth 20000 in
theorem s_m_note_0 (G : GG) : Sq kE G (kF G (1) mi_m_note) mi_m_note 0 b_m_note_0 := by
  unfold b_m_note_0
  exact (sq_aload_n (pc := 0) dX7_note_0 rfl
    (sq_geti (pc := 1) dX7_note_1 fl_X7_134 rfl
    (sq_bipush (pc := 4) dX7_note_4 kc_b_24
    (sq_cne (pc := 6) dX7_note_6 (tgt := 49) rfl
    (sq_iconst (pc := 9) dX7_note_9 kc_i_0
    (sq_istore_n (pc := 10) dX7_note_10 rfl
    (s_m_note_11 G k_fu)))
    (s_m_note_49 G)))))
theorem m_m_note (G : GG) : RS kE G 1 mi_m_note r_m_note := by
  intro as M v M' h
  unfold r_m_note at h
  split at h
  · exact mc_of ok_m_note (s_m_note_0 G) (k_c1 _ rfl) (Nat.le_of_ble_eq_true rfl) rfl h
  · cases h
set_option maxHeartbeats 10000000 in
set_option maxRecDepth 20000 in
theorem s_m_hears_26 (G : GG) : Sq kE G (kF G (0) mi_m_hears) mi_m_hears 26 (b_m_hears_26) := by
  unfold b_m_hears_26
  exact (sq_zret rfl (pc := 26) dX7_hears_26)
set_option maxHeartbeats 10000000 in
set_option maxRecDepth 20000 in
theorem s_m_hears_21 (G : GG) : Sq kE G (kF G (0) mi_m_hears) mi_m_hears 21 (b_m_hears_21) := by
  unfold b_m_hears_21
  exact (sq_iconst (pc := 21) dX7_hears_21 kc_i_1
    (sq_goto (pc := 22) dX7_hears_22 (tgt := 26) rfl (s_m_hears_26 G)))
set_option maxHeartbeats 10000000 in
set_option maxRecDepth 20000 in
theorem s_m_hears_0 (G : GG) : Sq kE G (kF G (0) mi_m_hears) mi_m_hears 0 b_m_hears_0 := by
  unfold b_m_hears_0
  exact (sq_aload_n (pc := 0) dX7_hears_0 rfl
    (sq_bipush (pc := 1) dX7_hears_1 kc_b_32
    (sq_iload_n (pc := 3) dX7_hears_3 rfl
    (sq_iadd (pc := 4) dX7_hears_4
    (sq_iald (pc := 5) dX7_hears_5
    (sq_ifeq (pc := 6) dX7_hears_6 (tgt := 21) rfl
    (s_m_hears_21 G)
    (sq_aload_n (pc := 9) dX7_hears_9 rfl
    (sq_bipush (pc := 10) dX7_hears_10 kc_b_10
    (sq_iload_n (pc := 12) dX7_hears_12 rfl
    (sq_iadd (pc := 13) dX7_hears_13
    (sq_iald (pc := 14) dX7_hears_14
    (sq_aload_n (pc := 15) dX7_hears_15 rfl
    (sq_iconst (pc := 16) dX7_hears_16 kc_i_1
    (sq_iald (pc := 17) dX7_hears_17
    (sq_cle (pc := 18) dX7_hears_18 (tgt := 25) rfl
    (sq_iconst (pc := 25) dX7_hears_25 kc_i_0
    (s_m_hears_26 G))
    (s_m_hears_21 G))))))))))))))))
theorem m_m_hears (G : GG) : RS kE G 0 mi_m_hears r_m_hears := by
  intro as M v M' h
  unfold r_m_hears at h
  split at h
  · exact mc_of ok_m_hears (s_m_hears_0 G) (k_c1 _ rfl) (Nat.le_of_ble_eq_true rfl) rfl h
  · cases h
