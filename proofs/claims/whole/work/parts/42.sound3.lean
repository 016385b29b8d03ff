/-! ===== the machine does what the functions say ===== -/
set_option maxHeartbeats 10000000 in
set_option maxRecDepth 20000 in
theorem s_x_copy_16 (G : GG) : Sq kE G (kF G (2) mi_x_copy) mi_x_copy 16 (b_x_copy_16) := by
  unfold b_x_copy_16
  exact (sq_ldc (pc := 16) dX6_copy_16 ct_X6_65
    (sq_iret rfl (pc := 18) dX6_copy_18))
set_option maxHeartbeats 10000000 in
set_option maxRecDepth 20000 in
theorem s_x_copy_41 (G : GG) : Sq kE G (kF G (2) mi_x_copy) mi_x_copy 41 (b_x_copy_41) := by
  unfold b_x_copy_41
  exact (sq_aload_n (pc := 41) dX6_copy_41 rfl
    (sq_iconst (pc := 42) dX6_copy_42 kc_i_1
    (sq_callV (d := 2) (d' := 0) (mi' := mi_x_found) (pc := 43) dX6_copy_43 ml_X6_66 in_x_found se_x_found ok_x_found ar_x_found (by decide) rfl (by decide) (k_ok_kF G (2) mi_x_copy) (m_x_found G)
    (sq_iret rfl (pc := 46) dX6_copy_46))))
set_option maxHeartbeats 10000000 in
set_option maxRecDepth 20000 in
theorem s_x_copy_103 (G : GG) : Sq kE G (kF G (2) mi_x_copy) mi_x_copy 103 (b_x_copy_103) := by
  unfold b_x_copy_103
  exact (sq_aload_n (pc := 103) dX6_copy_103 rfl
    (sq_iconst (pc := 104) dX6_copy_104 kc_i_2
    (sq_callV (d := 2) (d' := 0) (mi' := mi_x_found) (pc := 105) dX6_copy_105 ml_X6_66 in_x_found se_x_found ok_x_found ar_x_found (by decide) rfl (by decide) (k_ok_kF G (2) mi_x_copy) (m_x_found G)
    (sq_iret rfl (pc := 108) dX6_copy_108))))
set_option maxHeartbeats 10000000 in
set_option maxRecDepth 20000 in
theorem s_x_copy_0 (G : GG) : Sq kE G (kF G (2) mi_x_copy) mi_x_copy 0 b_x_copy_0 := by
  unfold b_x_copy_0
  exact (sq_aload_n (pc := 0) dX6_copy_0 rfl
    (sq_iload_n (pc := 1) dX6_copy_1 rfl
    (sq_callV (d := 2) (d' := 0) (mi' := mi_x_noRow) (pc := 2) dX6_copy_2 ml_X6_61 in_x_noRow se_x_noRow ok_x_noRow ar_x_noRow (by decide) rfl (by decide) (k_ok_kF G (2) mi_x_copy) (m_x_noRow G)
    (sq_ifne (pc := 5) dX6_copy_5 (tgt := 16) rfl
    (sq_aload_n (pc := 8) dX6_copy_8 rfl
    (sq_iload_n (pc := 9) dX6_copy_9 rfl
    (sq_callV (d := 2) (d' := 0) (mi' := mi_x_noRow) (pc := 10) dX6_copy_10 ml_X6_61 in_x_noRow se_x_noRow ok_x_noRow ar_x_noRow (by decide) rfl (by decide) (k_ok_kF G (2) mi_x_copy) (m_x_noRow G)
    (sq_ifeq (pc := 13) dX6_copy_13 (tgt := 19) rfl
    (sq_aload_n (pc := 19) dX6_copy_19 rfl
    (sq_getr (pc := 20) dX6_copy_20 fl_X6_10 rfl rfl (by decide)
    (sq_iload_n (pc := 23) dX6_copy_23 rfl
    (sq_callV (d := 2) (d' := 0) (mi' := mi_W_isGone) (pc := 24) dX6_copy_24 ml_X6_77 in_W_isGone se_W_isGone ok_W_isGone ar_W_isGone (by decide) rfl (by decide) (k_ok_kF G (2) mi_x_copy) (m_W_isGone G)
    (sq_ifne (pc := 27) dX6_copy_27 (tgt := 41) rfl
    (sq_aload_n (pc := 30) dX6_copy_30 rfl
    (sq_getr (pc := 31) dX6_copy_31 fl_X6_10 rfl rfl (by decide)
    (sq_iload_n (pc := 34) dX6_copy_34 rfl
    (sq_callV (d := 2) (d' := 0) (mi' := mi_W_isGone) (pc := 35) dX6_copy_35 ml_X6_77 in_W_isGone se_W_isGone ok_W_isGone ar_W_isGone (by decide) rfl (by decide) (k_ok_kF G (2) mi_x_copy) (m_W_isGone G)
    (sq_ifeq (pc := 38) dX6_copy_38 (tgt := 47) rfl
    (sq_aload_n (pc := 47) dX6_copy_47 rfl
    (sq_getr (pc := 48) dX6_copy_48 fl_X6_10 rfl rfl (by decide)
    (sq_getr (pc := 51) dX6_copy_51 fl_X6_88 rfl rfl (by decide)
    (sq_iload_n (pc := 54) dX6_copy_54 rfl
    (sq_iald (pc := 55) dX6_copy_55
    (sq_aload_n (pc := 56) dX6_copy_56 rfl
    (sq_getr (pc := 57) dX6_copy_57 fl_X6_10 rfl rfl (by decide)
    (sq_getr (pc := 60) dX6_copy_60 fl_X6_88 rfl rfl (by decide)
    (sq_iload_n (pc := 63) dX6_copy_63 rfl
    (sq_iald (pc := 64) dX6_copy_64
    (sq_ceq (pc := 65) dX6_copy_65 (tgt := 74) rfl
    (sq_aload_n (pc := 74) dX6_copy_74 rfl
    (sq_getr (pc := 75) dX6_copy_75 fl_X6_10 rfl rfl (by decide)
    (sq_iload_n (pc := 78) dX6_copy_78 rfl
    (sq_iload_n (pc := 79) dX6_copy_79 rfl
    (sq_iload (pc := 80) dX6_copy_80
    (sq_callV (d := 2) (d' := 0) (mi' := mi_W_lacks) (pc := 82) dX6_copy_82 ml_X6_80 in_W_lacks se_W_lacks ok_W_lacks ar_W_lacks (by decide) rfl (by decide) (k_ok_kF G (2) mi_x_copy) (m_W_lacks G)
    (sq_ifne (pc := 85) dX6_copy_85 (tgt := 103) rfl
    (sq_aload_n (pc := 88) dX6_copy_88 rfl
    (sq_getr (pc := 89) dX6_copy_89 fl_X6_10 rfl rfl (by decide)
    (sq_iload_n (pc := 92) dX6_copy_92 rfl
    (sq_iload (pc := 93) dX6_copy_93
    (sq_iload (pc := 95) dX6_copy_95
    (sq_callV (d := 2) (d' := 0) (mi' := mi_W_lacks) (pc := 97) dX6_copy_97 ml_X6_80 in_W_lacks se_W_lacks ok_W_lacks ar_W_lacks (by decide) rfl (by decide) (k_ok_kF G (2) mi_x_copy) (m_W_lacks G)
    (sq_ifeq (pc := 100) dX6_copy_100 (tgt := 109) rfl
    (sq_aload_n (pc := 109) dX6_copy_109 rfl
    (sq_getr (pc := 110) dX6_copy_110 fl_X6_10 rfl rfl (by decide)
    (sq_iload_n (pc := 113) dX6_copy_113 rfl
    (sq_iload_n (pc := 114) dX6_copy_114 rfl
    (sq_iload_n (pc := 115) dX6_copy_115 rfl
    (sq_iload (pc := 116) dX6_copy_116
    (sq_iload (pc := 118) dX6_copy_118
    (sq_callV (d := 2) (d' := 1) (mi' := mi_W_move) (pc := 120) dX6_copy_120 ml_X6_92 in_W_move se_W_move ok_W_move ar_W_move (by decide) rfl (by decide) (k_ok_kF G (2) mi_x_copy) (m_W_move G)
    (sq_aload_n (pc := 123) dX6_copy_123 rfl
    (sq_iload (pc := 124) dX6_copy_124
    (sq_callV (d := 2) (d' := 0) (mi' := mi_x_fine) (pc := 126) dX6_copy_126 ml_X6_74 in_x_fine se_x_fine ok_x_fine ar_x_fine (by decide) rfl (by decide) (k_ok_kF G (2) mi_x_copy) (m_x_fine G)
    (sq_iret rfl (pc := 129) dX6_copy_129))))))))))))
    (s_x_copy_103 G))))))))
    (s_x_copy_103 G))))))))
    (sq_aload_n (pc := 68) dX6_copy_68 rfl
    (sq_iconst (pc := 69) dX6_copy_69 kc_i_5
    (sq_callV (d := 2) (d' := 0) (mi' := mi_x_found) (pc := 70) dX6_copy_70 ml_X6_66 in_x_found se_x_found ok_x_found ar_x_found (by decide) rfl (by decide) (k_ok_kF G (2) mi_x_copy) (m_x_found G)
    (sq_iret rfl (pc := 73) dX6_copy_73)))))))))))))))
    (s_x_copy_41 G))))))
    (s_x_copy_41 G))))))
    (s_x_copy_16 G)))))
    (s_x_copy_16 G)))))
theorem m_x_copy (G : GG) : RS kE G 2 mi_x_copy r_x_copy := by
  intro as M v M' h
  unfold r_x_copy at h
  split at h
  · exact mc_of ok_x_copy (s_x_copy_0 G) (k_c1 _ rfl) (Nat.le_of_ble_eq_true rfl) rfl h
  · cases h
set_option maxHeartbeats 10000000 in
set_option maxRecDepth 20000 in
theorem s_x_drop_0 (G : GG) : Sq kE G (kF G (1) mi_x_drop) mi_x_drop 0 b_x_drop_0 := by
  unfold b_x_drop_0
  exact (sq_aload_n (pc := 0) dX6_drop_0 rfl
    (sq_iload_n (pc := 1) dX6_drop_1 rfl
    (sq_callV (d := 1) (d' := 0) (mi' := mi_x_noRow) (pc := 2) dX6_drop_2 ml_X6_61 in_x_noRow se_x_noRow ok_x_noRow ar_x_noRow (by decide) rfl (by decide) (k_ok_kF G (1) mi_x_drop) (m_x_noRow G)
    (sq_ifeq (pc := 5) dX6_drop_5 (tgt := 11) rfl
    (sq_aload_n (pc := 11) dX6_drop_11 rfl
    (sq_getr (pc := 12) dX6_drop_12 fl_X6_10 rfl rfl (by decide)
    (sq_iload_n (pc := 15) dX6_drop_15 rfl
    (sq_callV (d := 1) (d' := 0) (mi' := mi_W_isGone) (pc := 16) dX6_drop_16 ml_X6_77 in_W_isGone se_W_isGone ok_W_isGone ar_W_isGone (by decide) rfl (by decide) (k_ok_kF G (1) mi_x_drop) (m_W_isGone G)
    (sq_ifeq (pc := 19) dX6_drop_19 (tgt := 28) rfl
    (sq_aload_n (pc := 28) dX6_drop_28 rfl
    (sq_aload_n (pc := 29) dX6_drop_29 rfl
    (sq_getr (pc := 30) dX6_drop_30 fl_X6_10 rfl rfl (by decide)
    (sq_iload_n (pc := 33) dX6_drop_33 rfl
    (sq_callV (d := 1) (d' := 0) (mi' := mi_W_lose) (pc := 34) dX6_drop_34 ml_X6_96 in_W_lose se_W_lose ok_W_lose ar_W_lose (by decide) rfl (by decide) (k_ok_kF G (1) mi_x_drop) (m_W_lose G)
    (sq_callV (d := 1) (d' := 0) (mi' := mi_x_fine) (pc := 37) dX6_drop_37 ml_X6_74 in_x_fine se_x_fine ok_x_fine ar_x_fine (by decide) rfl (by decide) (k_ok_kF G (1) mi_x_drop) (m_x_fine G)
    (sq_iret rfl (pc := 40) dX6_drop_40)))))))
    (sq_aload_n (pc := 22) dX6_drop_22 rfl
    (sq_iconst (pc := 23) dX6_drop_23 kc_i_1
    (sq_callV (d := 1) (d' := 0) (mi' := mi_x_found) (pc := 24) dX6_drop_24 ml_X6_66 in_x_found se_x_found ok_x_found ar_x_found (by decide) rfl (by decide) (k_ok_kF G (1) mi_x_drop) (m_x_found G)
    (sq_iret rfl (pc := 27) dX6_drop_27)))))))))
    (sq_ldc (pc := 8) dX6_drop_8 ct_X6_65
    (sq_iret rfl (pc := 10) dX6_drop_10))))))
theorem m_x_drop (G : GG) : RS kE G 1 mi_x_drop r_x_drop := by
  intro as M v M' h
  unfold r_x_drop at h
  split at h
  · exact mc_of ok_x_drop (s_x_drop_0 G) (k_c1 _ rfl) (Nat.le_of_ble_eq_true rfl) rfl h
  · cases h
set_option maxHeartbeats 10000000 in
set_option maxRecDepth 20000 in
theorem s_x_feed_11 (G : GG) : Sq kE G (kF G (1) mi_x_feed) mi_x_feed 11 (b_x_feed_11) := by
  unfold b_x_feed_11
  exact (sq_ldc (pc := 11) dX6_feed_11 ct_X6_65
    (sq_iret rfl (pc := 13) dX6_feed_13))
set_option maxHeartbeats 10000000 in
set_option maxRecDepth 20000 in
theorem s_x_feed_0 (G : GG) : Sq kE G (kF G (1) mi_x_feed) mi_x_feed 0 b_x_feed_0 := by
  unfold b_x_feed_0
  exact (sq_iload_n (pc := 0) dX6_feed_0 rfl
    (sq_iflt (pc := 1) dX6_feed_1 (tgt := 11) rfl
    (s_x_feed_11 G)
    (sq_iload_n (pc := 4) dX6_feed_4 rfl
    (sq_sipush (pc := 5) dX6_feed_5 kc_s_255
    (sq_cle (pc := 8) dX6_feed_8 (tgt := 14) rfl
    (sq_aload_n (pc := 14) dX6_feed_14 rfl
    (sq_getr (pc := 15) dX6_feed_15 fl_X6_19 rfl rfl (by decide)
    (sq_geti (pc := 18) dX6_feed_18 fl_X6_99 rfl
    (sq_bipush (pc := 21) dX6_feed_21 kc_b_100
    (sq_clt (pc := 23) dX6_feed_23 (tgt := 29) rfl
    (sq_aload_n (pc := 29) dX6_feed_29 rfl
    (sq_getr (pc := 30) dX6_feed_30 fl_X6_19 rfl rfl (by decide)
    (sq_iload_n (pc := 33) dX6_feed_33 rfl
    (sq_callV (d := 1) (d' := 0) (mi' := mi_D_append) (pc := 34) dX6_feed_34 ml_X6_103 in_D_append se_D_append ok_D_append ar_D_append (by decide) rfl (by decide) (k_ok_kF G (1) mi_x_feed) (m_D_append G)
    (sq_aload_n (pc := 37) dX6_feed_37 rfl
    (sq_getr (pc := 38) dX6_feed_38 fl_X6_19 rfl rfl (by decide)
    (sq_geti (pc := 41) dX6_feed_41 fl_X6_99 rfl
    (sq_iret rfl (pc := 44) dX6_feed_44))))))))
    (sq_ldc (pc := 26) dX6_feed_26 ct_X6_102
    (sq_iret rfl (pc := 28) dX6_feed_28)))))))
    (s_x_feed_11 G))))))
theorem m_x_feed (G : GG) : RS kE G 1 mi_x_feed r_x_feed := by
  intro as M v M' h
  unfold r_x_feed at h
  split at h
  · exact mc_of ok_x_feed (s_x_feed_0 G) (k_c1 _ rfl) (Nat.le_of_ble_eq_true rfl) rfl h
  · cases h
set_option maxHeartbeats 10000000 in
set_option maxRecDepth 20000 in
theorem s_x_square_0 (G : GG) : Sq kE G (kF G (7) mi_x_square) mi_x_square 0 b_x_square_0 := by
  unfold b_x_square_0
  exact (sq_aload_n (pc := 0) dX6_square_0 rfl
    (sq_getr (pc := 1) dX6_square_1 fl_X6_46 rfl rfl (by decide)
    (sq_getr (pc := 4) dX6_square_4 fl_X6_107 rfl rfl (by decide)
    (sq_astore_n (pc := 7) dX6_square_7 rfl
    (sq_aload_n (pc := 8) dX6_square_8 rfl
    (sq_getr (pc := 9) dX6_square_9 fl_X6_19 rfl rfl (by decide)
    (sq_aload_n (pc := 12) dX6_square_12 rfl
    (sq_callV (d := 7) (d' := 6) (mi' := mi_D_reads) (pc := 13) dX6_square_13 ml_X6_110 in_D_reads se_D_reads ok_D_reads ar_D_reads (by decide) rfl (by decide) (k_ok_kF G (7) mi_x_square) (m_D_reads G)
    (sq_ifne (pc := 16) dX6_square_16 (tgt := 30) rfl
    (sq_ldc (pc := 19) dX6_square_19 ct_X6_114
    (sq_aload_n (pc := 21) dX6_square_21 rfl
    (sq_getr (pc := 22) dX6_square_22 fl_X6_19 rfl rfl (by decide)
    (sq_geti (pc := 25) dX6_square_25 fl_X6_115 rfl
    (sq_isub (pc := 28) dX6_square_28
    (sq_iret rfl (pc := 29) dX6_square_29))))))
    (sq_aload_n (pc := 30) dX6_square_30 rfl
    (sq_getr (pc := 31) dX6_square_31 fl_X6_26 rfl rfl (by decide)
    (sq_aload_n (pc := 34) dX6_square_34 rfl
    (sq_callV (d := 7) (d' := 2) (mi' := mi_S_become) (pc := 35) dX6_square_35 ml_X6_118 in_S_become se_S_become ok_S_become ar_S_become (by decide) rfl (by decide) (k_ok_kF G (7) mi_x_square) (m_S_become G)
    (sq_aload_n (pc := 38) dX6_square_38 rfl
    (sq_getr (pc := 39) dX6_square_39 fl_X6_39 rfl rfl (by decide)
    (sq_callV (d := 7) (d' := 0) (mi' := mi_A_forget) (pc := 42) dX6_square_42 ml_X6_122 in_A_forget se_A_forget ok_A_forget ar_A_forget (by decide) rfl (by decide) (k_ok_kF G (7) mi_x_square) (m_A_forget G)
    (sq_aload_n (pc := 45) dX6_square_45 rfl
    (sq_getr (pc := 46) dX6_square_46 fl_X6_26 rfl rfl (by decide)
    (sq_geti (pc := 49) dX6_square_49 fl_X6_125 rfl
    (sq_iret rfl (pc := 52) dX6_square_52))))))))))))))))))))
theorem m_x_square (G : GG) : RS kE G 7 mi_x_square r_x_square := by
  intro as M v M' h
  unfold r_x_square at h
  split at h
  · exact mc_of ok_x_square (s_x_square_0 G) (k_c1 _ rfl) (Nat.le_of_ble_eq_true rfl) rfl h
  · cases h
set_option maxHeartbeats 10000000 in
set_option maxRecDepth 20000 in
theorem s_x_fault_0 (G : GG) : Sq kE G (kF G (0) mi_x_fault) mi_x_fault 0 b_x_fault_0 := by
  unfold b_x_fault_0
  exact (sq_aload_n (pc := 0) dX6_fault_0 rfl
    (sq_getr (pc := 1) dX6_fault_1 fl_X6_19 rfl rfl (by decide)
    (sq_geti (pc := 4) dX6_fault_4 fl_X6_128 rfl
    (sq_iret rfl (pc := 7) dX6_fault_7))))
theorem m_x_fault (G : GG) : RS kE G 0 mi_x_fault r_x_fault := by
  intro as M v M' h
  unfold r_x_fault at h
  split at h
  · exact mc_of ok_x_fault (s_x_fault_0 G) (k_c1 _ rfl) (Nat.le_of_ble_eq_true rfl) rfl h
  · cases h
set_option maxHeartbeats 10000000 in
set_option maxRecDepth 20000 in
theorem s_x_noSquare_15 (G : GG) : Sq kE G (kF G (0) mi_x_noSquare) mi_x_noSquare 15 (b_x_noSquare_15) := by
  unfold b_x_noSquare_15
  exact (sq_zret rfl (pc := 15) dX6_noSquare_15)
set_option maxHeartbeats 10000000 in
set_option maxRecDepth 20000 in
theorem s_x_noSquare_0 (G : GG) : Sq kE G (kF G (0) mi_x_noSquare) mi_x_noSquare 0 b_x_noSquare_0 := by
  unfold b_x_noSquare_0
  exact (sq_aload_n (pc := 0) dX6_noSquare_0 rfl
    (sq_getr (pc := 1) dX6_noSquare_1 fl_X6_26 rfl rfl (by decide)
    (sq_geti (pc := 4) dX6_noSquare_4 fl_X6_148 rfl
    (sq_ifne (pc := 7) dX6_noSquare_7 (tgt := 14) rfl
    (sq_iconst (pc := 10) dX6_noSquare_10 kc_i_1
    (sq_goto (pc := 11) dX6_noSquare_11 (tgt := 15) rfl (s_x_noSquare_15 G)))
    (sq_iconst (pc := 14) dX6_noSquare_14 kc_i_0
    (s_x_noSquare_15 G))))))
theorem m_x_noSquare (G : GG) : RS kE G 0 mi_x_noSquare r_x_noSquare := by
  intro as M v M' h
  unfold r_x_noSquare at h
  split at h
  · exact mc_of ok_x_noSquare (s_x_noSquare_0 G) (k_c1 _ rfl) (Nat.le_of_ble_eq_true rfl) rfl h
  · cases h
set_option maxHeartbeats 10000000 in
set_option maxRecDepth 20000 in
theorem s_x_steps_21 (G : GG) : Sq kE G (kF G (4) mi_x_steps) mi_x_steps 21 (b_x_steps_21) := by
  unfold b_x_steps_21
  exact (sq_ldc (pc := 21) dX6_steps_21 ct_X6_65
    (sq_iret rfl (pc := 23) dX6_steps_23))
set_option maxHeartbeats 10000000 in
set_option maxRecDepth 20000 in
theorem s_x_steps_44 (G : GG) (n : Nat) : Sq kE G (kF G (4) mi_x_steps) mi_x_steps 44 (b_x_steps_44 n) := by
  induction n with
  | zero => exact sq_none
  | succ n ih =>
    unfold b_x_steps_44
    exact (sq_iload_n (pc := 44) dX6_steps_44 rfl
    (sq_iload_n (pc := 45) dX6_steps_45 rfl
    (sq_cge (pc := 46) dX6_steps_46 (tgt := 75) rfl
    (sq_aload_n (pc := 75) dX6_steps_75 rfl
    (sq_getr (pc := 76) dX6_steps_76 fl_X6_26 rfl rfl (by decide)
    (sq_geti (pc := 79) dX6_steps_79 fl_X6_145 rfl
    (sq_iret rfl (pc := 82) dX6_steps_82))))
    (sq_aload_n (pc := 49) dX6_steps_49 rfl
    (sq_getr (pc := 50) dX6_steps_50 fl_X6_39 rfl rfl (by decide)
    (sq_aload_n (pc := 53) dX6_steps_53 rfl
    (sq_getr (pc := 54) dX6_steps_54 fl_X6_26 rfl rfl (by decide)
    (sq_callV (d := 4) (d' := 1) (mi' := mi_A_keep) (pc := 57) dX6_steps_57 ml_X6_139 in_A_keep se_A_keep ok_A_keep ar_A_keep (by decide) rfl (by decide) (k_ok_kF G (4) mi_x_steps) (m_A_keep G)
    (sq_aload_n (pc := 60) dX6_steps_60 rfl
    (sq_getr (pc := 61) dX6_steps_61 fl_X6_26 rfl rfl (by decide)
    (sq_bipush (pc := 64) dX6_steps_64 kc_b_31
    (sq_callV (d := 4) (d' := 3) (mi' := mi_S_goOn) (pc := 66) dX6_steps_66 ml_X6_142 in_S_goOn se_S_goOn ok_S_goOn ar_S_goOn (by decide) rfl (by decide) (k_ok_kF G (4) mi_x_steps) (m_S_goOn G)
    (sq_iinc (pc := 69) dX6_steps_69 rfl
    (sq_goto (pc := 72) dX6_steps_72 (tgt := 44) rfl ih))))))))))))))
set_option maxHeartbeats 10000000 in
set_option maxRecDepth 20000 in
theorem s_x_steps_0 (G : GG) : Sq kE G (kF G (4) mi_x_steps) mi_x_steps 0 b_x_steps_0 := by
  unfold b_x_steps_0
  exact (sq_aload_n (pc := 0) dX6_steps_0 rfl
    (sq_callV (d := 4) (d' := 0) (mi' := mi_x_noSquare) (pc := 1) dX6_steps_1 ml_X6_131 in_x_noSquare se_x_noSquare ok_x_noSquare ar_x_noSquare (by decide) rfl (by decide) (k_ok_kF G (4) mi_x_steps) (m_x_noSquare G)
    (sq_ifeq (pc := 4) dX6_steps_4 (tgt := 10) rfl
    (sq_iload_n (pc := 10) dX6_steps_10 rfl
    (sq_iconst (pc := 11) dX6_steps_11 kc_i_1
    (sq_clt (pc := 12) dX6_steps_12 (tgt := 21) rfl
    (s_x_steps_21 G)
    (sq_iload_n (pc := 15) dX6_steps_15 rfl
    (sq_bipush (pc := 16) dX6_steps_16 kc_b_24
    (sq_cle (pc := 18) dX6_steps_18 (tgt := 24) rfl
    (sq_aload_n (pc := 24) dX6_steps_24 rfl
    (sq_getr (pc := 25) dX6_steps_25 fl_X6_26 rfl rfl (by decide)
    (sq_geti (pc := 28) dX6_steps_28 fl_X6_136 rfl
    (sq_sipush (pc := 31) dX6_steps_31 kc_s_9999
    (sq_iload_n (pc := 34) dX6_steps_34 rfl
    (sq_isub (pc := 35) dX6_steps_35
    (sq_cle (pc := 36) dX6_steps_36 (tgt := 42) rfl
    (sq_iconst (pc := 42) dX6_steps_42 kc_i_0
    (sq_istore_n (pc := 43) dX6_steps_43 rfl
    (s_x_steps_44 G k_fu)))
    (sq_ldc (pc := 39) dX6_steps_39 ct_X6_102
    (sq_iret rfl (pc := 41) dX6_steps_41)))))))))
    (s_x_steps_21 G)))))))
    (sq_ldc (pc := 7) dX6_steps_7 ct_X6_135
    (sq_iret rfl (pc := 9) dX6_steps_9)))))
theorem m_x_steps (G : GG) : RS kE G 4 mi_x_steps r_x_steps := by
  intro as M v M' h
  unfold r_x_steps at h
  split at h
  · exact mc_of ok_x_steps (s_x_steps_0 G) (k_c1 _ rfl) (Nat.le_of_ble_eq_true rfl) rfl h
  · cases h
set_option maxHeartbeats 10000000 in
set_option maxRecDepth 20000 in
theorem s_x_change_15 (G : GG) : Sq kE G (kF G (2) mi_x_change) mi_x_change 15 (b_x_change_15) := by
  unfold b_x_change_15
  exact (sq_ldc (pc := 15) dX6_change_15 ct_X6_65
    (sq_iret rfl (pc := 17) dX6_change_17))
set_option maxHeartbeats 10000000 in
set_option maxRecDepth 20000 in
theorem s_x_change_0 (G : GG) : Sq kE G (kF G (2) mi_x_change) mi_x_change 0 b_x_change_0 := by
  unfold b_x_change_0
  exact (sq_iload_n (pc := 0) dX6_change_0 rfl
    (sq_iflt (pc := 1) dX6_change_1 (tgt := 15) rfl
    (s_x_change_15 G)
    (sq_iload_n (pc := 4) dX6_change_4 rfl
    (sq_aload_n (pc := 5) dX6_change_5 rfl
    (sq_getr (pc := 6) dX6_change_6 fl_X6_26 rfl rfl (by decide)
    (sq_geti (pc := 9) dX6_change_9 fl_X6_148 rfl
    (sq_clt (pc := 12) dX6_change_12 (tgt := 18) rfl
    (sq_iload_n (pc := 18) dX6_change_18 rfl
    (sq_aload_n (pc := 19) dX6_change_19 rfl
    (sq_getr (pc := 20) dX6_change_20 fl_X6_26 rfl rfl (by decide)
    (sq_geti (pc := 23) dX6_change_23 fl_X6_148 rfl
    (sq_iconst (pc := 26) dX6_change_26 kc_i_1
    (sq_isub (pc := 27) dX6_change_27
    (sq_cne (pc := 28) dX6_change_28 (tgt := 34) rfl
    (sq_ldc (pc := 31) dX6_change_31 ct_X6_135
    (sq_iret rfl (pc := 33) dX6_change_33))
    (sq_aload_n (pc := 34) dX6_change_34 rfl
    (sq_getr (pc := 35) dX6_change_35 fl_X6_39 rfl rfl (by decide)
    (sq_aload_n (pc := 38) dX6_change_38 rfl
    (sq_getr (pc := 39) dX6_change_39 fl_X6_26 rfl rfl (by decide)
    (sq_callV (d := 2) (d' := 1) (mi' := mi_A_keep) (pc := 42) dX6_change_42 ml_X6_139 in_A_keep se_A_keep ok_A_keep ar_A_keep (by decide) rfl (by decide) (k_ok_kF G (2) mi_x_change) (m_A_keep G)
    (sq_aload_n (pc := 45) dX6_change_45 rfl
    (sq_getr (pc := 46) dX6_change_46 fl_X6_26 rfl rfl (by decide)
    (sq_iload_n (pc := 49) dX6_change_49 rfl
    (sq_iload_n (pc := 50) dX6_change_50 rfl
    (sq_iconst (pc := 51) dX6_change_51 kc_i_1
    (sq_iadd (pc := 52) dX6_change_52
    (sq_callV (d := 2) (d' := 0) (mi' := mi_S_swap) (pc := 53) dX6_change_53 ml_X6_151 in_S_swap se_S_swap ok_S_swap ar_S_swap (by decide) rfl (by decide) (k_ok_kF G (2) mi_x_change) (m_S_swap G)
    (sq_aload_n (pc := 56) dX6_change_56 rfl
    (sq_getr (pc := 57) dX6_change_57 fl_X6_26 rfl rfl (by decide)
    (sq_getr (pc := 60) dX6_change_60 fl_X6_155 rfl rfl (by decide)
    (sq_iload_n (pc := 63) dX6_change_63 rfl
    (sq_iald (pc := 64) dX6_change_64
    (sq_iret rfl (pc := 65) dX6_change_65)))))))))))))))))))))))))
    (s_x_change_15 G))))))))
theorem m_x_change (G : GG) : RS kE G 2 mi_x_change r_x_change := by
  intro as M v M' h
  unfold r_x_change at h
  split at h
  · exact mc_of ok_x_change (s_x_change_0 G) (k_c1 _ rfl) (Nat.le_of_ble_eq_true rfl) rfl h
  · cases h
set_option maxHeartbeats 10000000 in
set_option maxRecDepth 20000 in
theorem s_x_wind_20 (G : GG) : Sq kE G (kF G (2) mi_x_wind) mi_x_wind 20 (b_x_wind_20) := by
  unfold b_x_wind_20
  exact (sq_ldc (pc := 20) dX6_wind_20 ct_X6_65
    (sq_iret rfl (pc := 22) dX6_wind_22))
set_option maxHeartbeats 10000000 in
set_option maxRecDepth 20000 in
theorem s_x_wind_0 (G : GG) : Sq kE G (kF G (2) mi_x_wind) mi_x_wind 0 b_x_wind_0 := by
  unfold b_x_wind_0
  exact (sq_aload_n (pc := 0) dX6_wind_0 rfl
    (sq_callV (d := 2) (d' := 0) (mi' := mi_x_noSquare) (pc := 1) dX6_wind_1 ml_X6_131 in_x_noSquare se_x_noSquare ok_x_noSquare ar_x_noSquare (by decide) rfl (by decide) (k_ok_kF G (2) mi_x_wind) (m_x_noSquare G)
    (sq_ifeq (pc := 4) dX6_wind_4 (tgt := 10) rfl
    (sq_iload_n (pc := 10) dX6_wind_10 rfl
    (sq_iflt (pc := 11) dX6_wind_11 (tgt := 20) rfl
    (s_x_wind_20 G)
    (sq_iload_n (pc := 14) dX6_wind_14 rfl
    (sq_bipush (pc := 15) dX6_wind_15 kc_b_10
    (sq_clt (pc := 17) dX6_wind_17 (tgt := 23) rfl
    (sq_aload_n (pc := 23) dX6_wind_23 rfl
    (sq_getr (pc := 24) dX6_wind_24 fl_X6_39 rfl rfl (by decide)
    (sq_aload_n (pc := 27) dX6_wind_27 rfl
    (sq_getr (pc := 28) dX6_wind_28 fl_X6_26 rfl rfl (by decide)
    (sq_callV (d := 2) (d' := 1) (mi' := mi_A_keep) (pc := 31) dX6_wind_31 ml_X6_139 in_A_keep se_A_keep ok_A_keep ar_A_keep (by decide) rfl (by decide) (k_ok_kF G (2) mi_x_wind) (m_A_keep G)
    (sq_aload_n (pc := 34) dX6_wind_34 rfl
    (sq_getr (pc := 35) dX6_wind_35 fl_X6_26 rfl rfl (by decide)
    (sq_geti (pc := 38) dX6_wind_38 fl_X6_158 rfl
    (sq_istore_n (pc := 41) dX6_wind_41 rfl
    (sq_aload_n (pc := 42) dX6_wind_42 rfl
    (sq_getr (pc := 43) dX6_wind_43 fl_X6_26 rfl rfl (by decide)
    (sq_iload_n (pc := 46) dX6_wind_46 rfl
    (sq_puti (pc := 47) dX6_wind_47 fl_X6_158 rfl rfl
    (sq_iload_n (pc := 50) dX6_wind_50 rfl
    (sq_iret rfl (pc := 51) dX6_wind_51)))))))))))))))
    (s_x_wind_20 G))))))
    (sq_ldc (pc := 7) dX6_wind_7 ct_X6_135
    (sq_iret rfl (pc := 9) dX6_wind_9)))))
theorem m_x_wind (G : GG) : RS kE G 2 mi_x_wind r_x_wind := by
  intro as M v M' h
  unfold r_x_wind at h
  split at h
  · exact mc_of ok_x_wind (s_x_wind_0 G) (k_c1 _ rfl) (Nat.le_of_ble_eq_true rfl) rfl h
  · cases h
set_option maxHeartbeats 10000000 in
set_option maxRecDepth 20000 in
theorem s_x_noSleeper_20 (G : GG) : Sq kE G (kF G (0) mi_x_noSleeper) mi_x_noSleeper 20 (b_x_noSleeper_20) := by
  unfold b_x_noSleeper_20
  exact (sq_zret rfl (pc := 20) dX6_noSleeper_20)
set_option maxHeartbeats 10000000 in
set_option maxRecDepth 20000 in
theorem s_x_noSleeper_15 (G : GG) : Sq kE G (kF G (0) mi_x_noSleeper) mi_x_noSleeper 15 (b_x_noSleeper_15) := by
  unfold b_x_noSleeper_15
  exact (sq_iconst (pc := 15) dX6_noSleeper_15 kc_i_1
    (sq_goto (pc := 16) dX6_noSleeper_16 (tgt := 20) rfl (s_x_noSleeper_20 G)))
set_option maxHeartbeats 10000000 in
set_option maxRecDepth 20000 in
theorem s_x_noSleeper_0 (G : GG) : Sq kE G (kF G (0) mi_x_noSleeper) mi_x_noSleeper 0 b_x_noSleeper_0 := by
  unfold b_x_noSleeper_0
  exact (sq_iload_n (pc := 0) dX6_noSleeper_0 rfl
    (sq_iflt (pc := 1) dX6_noSleeper_1 (tgt := 15) rfl
    (s_x_noSleeper_15 G)
    (sq_iload_n (pc := 4) dX6_noSleeper_4 rfl
    (sq_aload_n (pc := 5) dX6_noSleeper_5 rfl
    (sq_getr (pc := 6) dX6_noSleeper_6 fl_X6_26 rfl rfl (by decide)
    (sq_geti (pc := 9) dX6_noSleeper_9 fl_X6_125 rfl
    (sq_clt (pc := 12) dX6_noSleeper_12 (tgt := 19) rfl
    (sq_iconst (pc := 19) dX6_noSleeper_19 kc_i_0
    (s_x_noSleeper_20 G))
    (s_x_noSleeper_15 G))))))))
theorem m_x_noSleeper (G : GG) : RS kE G 0 mi_x_noSleeper r_x_noSleeper := by
  intro as M v M' h
  unfold r_x_noSleeper at h
  split at h
  · exact mc_of ok_x_noSleeper (s_x_noSleeper_0 G) (k_c1 _ rfl) (Nat.le_of_ble_eq_true rfl) rfl h
  · cases h
set_option maxHeartbeats 10000000 in
set_option maxRecDepth 20000 in
theorem s_x_cough_0 (G : GG) : Sq kE G (kF G (2) mi_x_cough) mi_x_cough 0 b_x_cough_0 := by
  unfold b_x_cough_0
  exact (sq_aload_n (pc := 0) dX6_cough_0 rfl
    (sq_iload_n (pc := 1) dX6_cough_1 rfl
    (sq_callV (d := 2) (d' := 0) (mi' := mi_x_noSleeper) (pc := 2) dX6_cough_2 ml_X6_161 in_x_noSleeper se_x_noSleeper ok_x_noSleeper ar_x_noSleeper (by decide) rfl (by decide) (k_ok_kF G (2) mi_x_cough) (m_x_noSleeper G)
    (sq_ifeq (pc := 5) dX6_cough_5 (tgt := 11) rfl
    (sq_aload_n (pc := 11) dX6_cough_11 rfl
    (sq_getr (pc := 12) dX6_cough_12 fl_X6_39 rfl rfl (by decide)
    (sq_aload_n (pc := 15) dX6_cough_15 rfl
    (sq_getr (pc := 16) dX6_cough_16 fl_X6_26 rfl rfl (by decide)
    (sq_callV (d := 2) (d' := 1) (mi' := mi_A_keep) (pc := 19) dX6_cough_19 ml_X6_139 in_A_keep se_A_keep ok_A_keep ar_A_keep (by decide) rfl (by decide) (k_ok_kF G (2) mi_x_cough) (m_A_keep G)
    (sq_aload_n (pc := 22) dX6_cough_22 rfl
    (sq_getr (pc := 23) dX6_cough_23 fl_X6_26 rfl rfl (by decide)
    (sq_getr (pc := 26) dX6_cough_26 fl_X6_164 rfl rfl (by decide)
    (sq_iload_n (pc := 29) dX6_cough_29 rfl
    (sq_iald (pc := 30) dX6_cough_30
    (sq_istore_n (pc := 31) dX6_cough_31 rfl
    (sq_aload_n (pc := 32) dX6_cough_32 rfl
    (sq_getr (pc := 33) dX6_cough_33 fl_X6_26 rfl rfl (by decide)
    (sq_iload_n (pc := 36) dX6_cough_36 rfl
    (sq_callV (d := 2) (d' := 0) (mi' := mi_S_startAnew) (pc := 37) dX6_cough_37 ml_X6_167 in_S_startAnew se_S_startAnew ok_S_startAnew ar_S_startAnew (by decide) rfl (by decide) (k_ok_kF G (2) mi_x_cough) (m_S_startAnew G)
    (sq_aload_n (pc := 40) dX6_cough_40 rfl
    (sq_getr (pc := 41) dX6_cough_41 fl_X6_26 rfl rfl (by decide)
    (sq_iload_n (pc := 44) dX6_cough_44 rfl
    (sq_callV (d := 2) (d' := 0) (mi' := mi_S_wake) (pc := 45) dX6_cough_45 ml_X6_170 in_S_wake se_S_wake ok_S_wake ar_S_wake (by decide) rfl (by decide) (k_ok_kF G (2) mi_x_cough) (m_S_wake G)
    (sq_iload_n (pc := 48) dX6_cough_48 rfl
    (sq_iret rfl (pc := 49) dX6_cough_49)))))))))))))))))))))
    (sq_ldc (pc := 8) dX6_cough_8 ct_X6_65
    (sq_iret rfl (pc := 10) dX6_cough_10))))))
theorem m_x_cough (G : GG) : RS kE G 2 mi_x_cough r_x_cough := by
  intro as M v M' h
  unfold r_x_cough at h
  split at h
  · exact mc_of ok_x_cough (s_x_cough_0 G) (k_c1 _ rfl) (Nat.le_of_ble_eq_true rfl) rfl h
  · cases h
set_option maxHeartbeats 10000000 in
set_option maxRecDepth 20000 in
theorem s_x_undo_0 (G : GG) : Sq kE G (kF G (2) mi_x_undo) mi_x_undo 0 b_x_undo_0 := by
  unfold b_x_undo_0
  exact (sq_aload_n (pc := 0) dX6_undo_0 rfl
    (sq_getr (pc := 1) dX6_undo_1 fl_X6_39 rfl rfl (by decide)
    (sq_geti (pc := 4) dX6_undo_4 fl_X6_173 rfl
    (sq_ifne (pc := 7) dX6_undo_7 (tgt := 13) rfl
    (sq_ldc (pc := 10) dX6_undo_10 ct_X6_135
    (sq_iret rfl (pc := 12) dX6_undo_12))
    (sq_aload_n (pc := 13) dX6_undo_13 rfl
    (sq_getr (pc := 14) dX6_undo_14 fl_X6_39 rfl rfl (by decide)
    (sq_aload_n (pc := 17) dX6_undo_17 rfl
    (sq_getr (pc := 18) dX6_undo_18 fl_X6_26 rfl rfl (by decide)
    (sq_callV (d := 2) (d' := 1) (mi' := mi_A_takeBack) (pc := 21) dX6_undo_21 ml_X6_176 in_A_takeBack se_A_takeBack ok_A_takeBack ar_A_takeBack (by decide) rfl (by decide) (k_ok_kF G (2) mi_x_undo) (m_A_takeBack G)
    (sq_aload_n (pc := 24) dX6_undo_24 rfl
    (sq_getr (pc := 25) dX6_undo_25 fl_X6_39 rfl rfl (by decide)
    (sq_geti (pc := 28) dX6_undo_28 fl_X6_173 rfl
    (sq_iret rfl (pc := 31) dX6_undo_31)))))))))))))
theorem m_x_undo (G : GG) : RS kE G 2 mi_x_undo r_x_undo := by
  intro as M v M' h
  unfold r_x_undo at h
  split at h
  · exact mc_of ok_x_undo (s_x_undo_0 G) (k_c1 _ rfl) (Nat.le_of_ble_eq_true rfl) rfl h
  · cases h
set_option maxHeartbeats 10000000 in
set_option maxRecDepth 20000 in
theorem s_x_sleeper_94 (G : GG) : Sq kE G (kF G (2) mi_x_sleeper) mi_x_sleeper 94 (b_x_sleeper_94) := by
  unfold b_x_sleeper_94
  exact (sq_iret rfl (pc := 94) dX6_sleeper_94)
set_option maxHeartbeats 10000000 in
set_option maxRecDepth 20000 in
theorem s_x_sleeper_0 (G : GG) : Sq kE G (kF G (2) mi_x_sleeper) mi_x_sleeper 0 b_x_sleeper_0 := by
  unfold b_x_sleeper_0
  exact (sq_aload_n (pc := 0) dX6_sleeper_0 rfl
    (sq_iload_n (pc := 1) dX6_sleeper_1 rfl
    (sq_callV (d := 2) (d' := 0) (mi' := mi_x_noSleeper) (pc := 2) dX6_sleeper_2 ml_X6_161 in_x_noSleeper se_x_noSleeper ok_x_noSleeper ar_x_noSleeper (by decide) rfl (by decide) (k_ok_kF G (2) mi_x_sleeper) (m_x_noSleeper G)
    (sq_ifeq (pc := 5) dX6_sleeper_5 (tgt := 11) rfl
    (sq_iload_n (pc := 11) dX6_sleeper_11 rfl
    (sq_tsw (pc := 12) dX6_sleeper_12 (td := 104) rfl (by decide +kernel)
    ((k_swT_cons 36 48 ki_0_0 (by decide +kernel) (by decide +kernel) (sq_aload_n (pc := 48) dX6_sleeper_48 rfl
    (sq_getr (pc := 49) dX6_sleeper_49 fl_X6_26 rfl rfl (by decide)
    (sq_getr (pc := 52) dX6_sleeper_52 fl_X6_179 rfl rfl (by decide)
    (sq_iload_n (pc := 55) dX6_sleeper_55 rfl
    (sq_iald (pc := 56) dX6_sleeper_56
    (sq_iret rfl (pc := 57) dX6_sleeper_57)))))) 
    (k_swT_cons 46 58 ki_0_1 (by decide +kernel) (by decide +kernel) (sq_aload_n (pc := 58) dX6_sleeper_58 rfl
    (sq_getr (pc := 59) dX6_sleeper_59 fl_X6_26 rfl rfl (by decide)
    (sq_getr (pc := 62) dX6_sleeper_62 fl_X6_182 rfl rfl (by decide)
    (sq_iload_n (pc := 65) dX6_sleeper_65 rfl
    (sq_iald (pc := 66) dX6_sleeper_66
    (sq_iret rfl (pc := 67) dX6_sleeper_67)))))) 
    (k_swT_cons 56 68 ki_0_2 (by decide +kernel) (by decide +kernel) (sq_aload_n (pc := 68) dX6_sleeper_68 rfl
    (sq_getr (pc := 69) dX6_sleeper_69 fl_X6_26 rfl rfl (by decide)
    (sq_getr (pc := 72) dX6_sleeper_72 fl_X6_164 rfl rfl (by decide)
    (sq_iload_n (pc := 75) dX6_sleeper_75 rfl
    (sq_iald (pc := 76) dX6_sleeper_76
    (sq_iret rfl (pc := 77) dX6_sleeper_77)))))) 
    (k_swT_cons 66 78 ki_0_3 (by decide +kernel) (by decide +kernel) (sq_aload_n (pc := 78) dX6_sleeper_78 rfl
    (sq_getr (pc := 79) dX6_sleeper_79 fl_X6_26 rfl rfl (by decide)
    (sq_iload_n (pc := 82) dX6_sleeper_82 rfl
    (sq_callV (d := 2) (d' := 0) (mi' := mi_S_isOff) (pc := 83) dX6_sleeper_83 ml_X6_185 in_S_isOff se_S_isOff ok_S_isOff ar_S_isOff (by decide) rfl (by decide) (k_ok_kF G (2) mi_x_sleeper) (m_S_isOff G)
    (sq_ifeq (pc := 86) dX6_sleeper_86 (tgt := 93) rfl
    (sq_iconst (pc := 93) dX6_sleeper_93 kc_i_0
    (s_x_sleeper_94 G))
    (sq_iconst (pc := 89) dX6_sleeper_89 kc_i_1
    (sq_goto (pc := 90) dX6_sleeper_90 (tgt := 94) rfl (s_x_sleeper_94 G)))))))) 
    (k_swT_cons 83 95 ki_0_4 (by decide +kernel) (by decide +kernel) (sq_aload_n (pc := 95) dX6_sleeper_95 rfl
    (sq_getr (pc := 96) dX6_sleeper_96 fl_X6_26 rfl rfl (by decide)
    (sq_iload_n (pc := 99) dX6_sleeper_99 rfl
    (sq_callV (d := 2) (d' := 1) (mi' := mi_S_heardBy) (pc := 100) dX6_sleeper_100 ml_X6_188 in_S_heardBy se_S_heardBy ok_S_heardBy ar_S_heardBy (by decide) rfl (by decide) (k_ok_kF G (2) mi_x_sleeper) (m_S_heardBy G)
    (sq_iret rfl (pc := 103) dX6_sleeper_103))))) k_swT_nil))))))
    (sq_ldc (pc := 104) dX6_sleeper_104 ct_X6_65
    (sq_iret rfl (pc := 106) dX6_sleeper_106))))
    (sq_ldc (pc := 8) dX6_sleeper_8 ct_X6_65
    (sq_iret rfl (pc := 10) dX6_sleeper_10))))))
theorem m_x_sleeper (G : GG) : RS kE G 2 mi_x_sleeper r_x_sleeper := by
  intro as M v M' h
  unfold r_x_sleeper at h
  split at h
  · exact mc_of ok_x_sleeper (s_x_sleeper_0 G) (k_c1 _ rfl) (Nat.le_of_ble_eq_true rfl) rfl h
  · cases h
set_option maxHeartbeats 10000000 in
set_option maxRecDepth 20000 in
theorem s_x_sheep_15 (G : GG) : Sq kE G (kF G (1) mi_x_sheep) mi_x_sheep 15 (b_x_sheep_15) := by
  unfold b_x_sheep_15
  exact (sq_ldc (pc := 15) dX6_sheep_15 ct_X6_65
    (sq_iret rfl (pc := 17) dX6_sheep_17))
set_option maxHeartbeats 10000000 in
set_option maxRecDepth 20000 in
theorem s_x_sheep_0 (G : GG) : Sq kE G (kF G (1) mi_x_sheep) mi_x_sheep 0 b_x_sheep_0 := by
  unfold b_x_sheep_0
  exact (sq_iload_n (pc := 0) dX6_sheep_0 rfl
    (sq_iflt (pc := 1) dX6_sheep_1 (tgt := 15) rfl
    (s_x_sheep_15 G)
    (sq_iload_n (pc := 4) dX6_sheep_4 rfl
    (sq_aload_n (pc := 5) dX6_sheep_5 rfl
    (sq_getr (pc := 6) dX6_sheep_6 fl_X6_26 rfl rfl (by decide)
    (sq_geti (pc := 9) dX6_sheep_9 fl_X6_148 rfl
    (sq_clt (pc := 12) dX6_sheep_12 (tgt := 18) rfl
    (sq_iload_n (pc := 18) dX6_sheep_18 rfl
    (sq_tsw (pc := 19) dX6_sheep_19 (td := 73) rfl (by decide +kernel)
    ((k_swT_cons 25 44 ki_0_0 (by decide +kernel) (by decide +kernel) (sq_aload_n (pc := 44) dX6_sheep_44 rfl
    (sq_getr (pc := 45) dX6_sheep_45 fl_X6_26 rfl rfl (by decide)
    (sq_getr (pc := 48) dX6_sheep_48 fl_X6_191 rfl rfl (by decide)
    (sq_iload_n (pc := 51) dX6_sheep_51 rfl
    (sq_iald (pc := 52) dX6_sheep_52
    (sq_iret rfl (pc := 53) dX6_sheep_53)))))) 
    (k_swT_cons 35 54 ki_0_1 (by decide +kernel) (by decide +kernel) (sq_aload_n (pc := 54) dX6_sheep_54 rfl
    (sq_getr (pc := 55) dX6_sheep_55 fl_X6_26 rfl rfl (by decide)
    (sq_getr (pc := 58) dX6_sheep_58 fl_X6_194 rfl rfl (by decide)
    (sq_iload_n (pc := 61) dX6_sheep_61 rfl
    (sq_iald (pc := 62) dX6_sheep_62
    (sq_iret rfl (pc := 63) dX6_sheep_63)))))) 
    (k_swT_cons 45 64 ki_0_2 (by decide +kernel) (by decide +kernel) (sq_aload_n (pc := 64) dX6_sheep_64 rfl
    (sq_getr (pc := 65) dX6_sheep_65 fl_X6_26 rfl rfl (by decide)
    (sq_iload_n (pc := 68) dX6_sheep_68 rfl
    (sq_callV (d := 1) (d' := 0) (mi' := mi_S_placeOf) (pc := 69) dX6_sheep_69 ml_X6_197 in_S_placeOf se_S_placeOf ok_S_placeOf ar_S_placeOf (by decide) rfl (by decide) (k_ok_kF G (1) mi_x_sheep) (m_S_placeOf G)
    (sq_iret rfl (pc := 72) dX6_sheep_72))))) k_swT_nil))))
    (sq_ldc (pc := 73) dX6_sheep_73 ct_X6_65
    (sq_iret rfl (pc := 75) dX6_sheep_75))))
    (s_x_sheep_15 G))))))))
theorem m_x_sheep (G : GG) : RS kE G 1 mi_x_sheep r_x_sheep := by
  intro as M v M' h
  unfold r_x_sheep at h
  split at h
  · exact mc_of ok_x_sheep (s_x_sheep_0 G) (k_c1 _ rfl) (Nat.le_of_ble_eq_true rfl) rfl h
  · cases h
set_option maxHeartbeats 10000000 in
set_option maxRecDepth 20000 in
theorem s_x_tooFar_15 (G : GG) : Sq kE G (kF G (0) mi_x_tooFar) mi_x_tooFar 15 (b_x_tooFar_15) := by
  unfold b_x_tooFar_15
  exact (sq_zret rfl (pc := 15) dX6_tooFar_15)
set_option maxHeartbeats 10000000 in
set_option maxRecDepth 20000 in
theorem s_x_tooFar_10 (G : GG) : Sq kE G (kF G (0) mi_x_tooFar) mi_x_tooFar 10 (b_x_tooFar_10) := by
  unfold b_x_tooFar_10
  exact (sq_iconst (pc := 10) dX6_tooFar_10 kc_i_1
    (sq_goto (pc := 11) dX6_tooFar_11 (tgt := 15) rfl (s_x_tooFar_15 G)))
set_option maxHeartbeats 10000000 in
set_option maxRecDepth 20000 in
theorem s_x_tooFar_0 (G : GG) : Sq kE G (kF G (0) mi_x_tooFar) mi_x_tooFar 0 b_x_tooFar_0 := by
  unfold b_x_tooFar_0
  exact (sq_iload_n (pc := 0) dX6_tooFar_0 rfl
    (sq_iflt (pc := 1) dX6_tooFar_1 (tgt := 10) rfl
    (s_x_tooFar_10 G)
    (sq_iload_n (pc := 4) dX6_tooFar_4 rfl
    (sq_bipush (pc := 5) dX6_tooFar_5 kc_b_99
    (sq_cle (pc := 7) dX6_tooFar_7 (tgt := 14) rfl
    (sq_iconst (pc := 14) dX6_tooFar_14 kc_i_0
    (s_x_tooFar_15 G))
    (s_x_tooFar_10 G))))))
theorem m_x_tooFar (G : GG) : RS kE G 0 mi_x_tooFar r_x_tooFar := by
  intro as M v M' h
  unfold r_x_tooFar at h
  split at h
  · exact mc_of ok_x_tooFar (s_x_tooFar_0 G) (k_c1 _ rfl) (Nat.le_of_ble_eq_true rfl) rfl h
  · cases h
set_option maxHeartbeats 10000000 in
set_option maxRecDepth 20000 in
theorem s_x_off_0 (G : GG) : Sq kE G (kF G (5) mi_x_off) mi_x_off 0 b_x_off_0 := by
  unfold b_x_off_0
  exact (sq_aload_n (pc := 0) dX6_off_0 rfl
    (sq_callV (d := 5) (d' := 0) (mi' := mi_x_noSquare) (pc := 1) dX6_off_1 ml_X6_131 in_x_noSquare se_x_noSquare ok_x_noSquare ar_x_noSquare (by decide) rfl (by decide) (k_ok_kF G (5) mi_x_off) (m_x_noSquare G)
    (sq_ifeq (pc := 4) dX6_off_4 (tgt := 10) rfl
    (sq_aload_n (pc := 10) dX6_off_10 rfl
    (sq_iload_n (pc := 11) dX6_off_11 rfl
    (sq_callV (d := 5) (d' := 0) (mi' := mi_x_tooFar) (pc := 12) dX6_off_12 ml_X6_200 in_x_tooFar se_x_tooFar ok_x_tooFar ar_x_tooFar (by decide) rfl (by decide) (k_ok_kF G (5) mi_x_off) (m_x_tooFar G)
    (sq_ifeq (pc := 15) dX6_off_15 (tgt := 21) rfl
    (sq_aload_n (pc := 21) dX6_off_21 rfl
    (sq_getr (pc := 22) dX6_off_22 fl_X6_46 rfl rfl (by decide)
    (sq_aload_n (pc := 25) dX6_off_25 rfl
    (sq_getr (pc := 26) dX6_off_26 fl_X6_26 rfl rfl (by decide)
    (sq_callV (d := 5) (d' := 3) (mi' := mi_F_begin) (pc := 29) dX6_off_29 ml_X6_203 in_F_begin se_F_begin ok_F_begin ar_F_begin (by decide) rfl (by decide) (k_ok_kF G (5) mi_x_off) (m_F_begin G)
    (sq_aload_n (pc := 32) dX6_off_32 rfl
    (sq_getr (pc := 33) dX6_off_33 fl_X6_46 rfl rfl (by decide)
    (sq_iload_n (pc := 36) dX6_off_36 rfl
    (sq_bipush (pc := 37) dX6_off_37 kc_b_31
    (sq_callV (d := 5) (d' := 4) (mi' := mi_F_goFar) (pc := 39) dX6_off_39 ml_X6_206 in_F_goFar se_F_goFar ok_F_goFar ar_F_goFar (by decide) rfl (by decide) (k_ok_kF G (5) mi_x_off) (m_F_goFar G)
    (sq_aload_n (pc := 42) dX6_off_42 rfl
    (sq_getr (pc := 43) dX6_off_43 fl_X6_46 rfl rfl (by decide)
    (sq_getr (pc := 46) dX6_off_46 fl_X6_107 rfl rfl (by decide)
    (sq_geti (pc := 49) dX6_off_49 fl_X6_145 rfl
    (sq_iret rfl (pc := 52) dX6_off_52)))))))))))))))
    (sq_ldc (pc := 18) dX6_off_18 ct_X6_65
    (sq_iret rfl (pc := 20) dX6_off_20))))))
    (sq_ldc (pc := 7) dX6_off_7 ct_X6_135
    (sq_iret rfl (pc := 9) dX6_off_9)))))
theorem m_x_off (G : GG) : RS kE G 5 mi_x_off r_x_off := by
  intro as M v M' h
  unfold r_x_off at h
  split at h
  · exact mc_of ok_x_off (s_x_off_0 G) (k_c1 _ rfl) (Nat.le_of_ble_eq_true rfl) rfl h
  · cases h
set_option maxHeartbeats 10000000 in
set_option maxRecDepth 20000 in
theorem s_x_counted_16 (G : GG) : Sq kE G (kF G (5) mi_x_counted) mi_x_counted 16 (b_x_counted_16) := by
  unfold b_x_counted_16
  exact (sq_ldc (pc := 16) dX6_counted_16 ct_X6_65
    (sq_iret rfl (pc := 18) dX6_counted_18))
set_option maxHeartbeats 10000000 in
set_option maxRecDepth 20000 in
theorem s_x_counted_0 (G : GG) : Sq kE G (kF G (5) mi_x_counted) mi_x_counted 0 b_x_counted_0 := by
  unfold b_x_counted_0
  exact (sq_aload_n (pc := 0) dX6_counted_0 rfl
    (sq_iload_n (pc := 1) dX6_counted_1 rfl
    (sq_callV (d := 5) (d' := 0) (mi' := mi_x_noSleeper) (pc := 2) dX6_counted_2 ml_X6_161 in_x_noSleeper se_x_noSleeper ok_x_noSleeper ar_x_noSleeper (by decide) rfl (by decide) (k_ok_kF G (5) mi_x_counted) (m_x_noSleeper G)
    (sq_ifne (pc := 5) dX6_counted_5 (tgt := 16) rfl
    (sq_aload_n (pc := 8) dX6_counted_8 rfl
    (sq_iload_n (pc := 9) dX6_counted_9 rfl
    (sq_callV (d := 5) (d' := 0) (mi' := mi_x_tooFar) (pc := 10) dX6_counted_10 ml_X6_200 in_x_tooFar se_x_tooFar ok_x_tooFar ar_x_tooFar (by decide) rfl (by decide) (k_ok_kF G (5) mi_x_counted) (m_x_tooFar G)
    (sq_ifeq (pc := 13) dX6_counted_13 (tgt := 19) rfl
    (sq_aload_n (pc := 19) dX6_counted_19 rfl
    (sq_getr (pc := 20) dX6_counted_20 fl_X6_46 rfl rfl (by decide)
    (sq_aload_n (pc := 23) dX6_counted_23 rfl
    (sq_getr (pc := 24) dX6_counted_24 fl_X6_26 rfl rfl (by decide)
    (sq_callV (d := 5) (d' := 3) (mi' := mi_F_begin) (pc := 27) dX6_counted_27 ml_X6_203 in_F_begin se_F_begin ok_F_begin ar_F_begin (by decide) rfl (by decide) (k_ok_kF G (5) mi_x_counted) (m_F_begin G)
    (sq_aload_n (pc := 30) dX6_counted_30 rfl
    (sq_getr (pc := 31) dX6_counted_31 fl_X6_46 rfl rfl (by decide)
    (sq_iload_n (pc := 34) dX6_counted_34 rfl
    (sq_iconst (pc := 35) dX6_counted_35 kc_i_1
    (sq_iload_n (pc := 36) dX6_counted_36 rfl
    (sq_ishl (pc := 37) dX6_counted_37
    (sq_callV (d := 5) (d' := 4) (mi' := mi_F_goFar) (pc := 38) dX6_counted_38 ml_X6_206 in_F_goFar se_F_goFar ok_F_goFar ar_F_goFar (by decide) rfl (by decide) (k_ok_kF G (5) mi_x_counted) (m_F_goFar G)
    (sq_aload_n (pc := 41) dX6_counted_41 rfl
    (sq_getr (pc := 42) dX6_counted_42 fl_X6_46 rfl rfl (by decide)
    (sq_getr (pc := 45) dX6_counted_45 fl_X6_107 rfl rfl (by decide)
    (sq_getr (pc := 48) dX6_counted_48 fl_X6_164 rfl rfl (by decide)
    (sq_iload_n (pc := 51) dX6_counted_51 rfl
    (sq_iald (pc := 52) dX6_counted_52
    (sq_iret rfl (pc := 53) dX6_counted_53)))))))))))))))))))
    (s_x_counted_16 G)))))
    (s_x_counted_16 G)))))
theorem m_x_counted (G : GG) : RS kE G 5 mi_x_counted r_x_counted := by
  intro as M v M' h
  unfold r_x_counted at h
  split at h
  · exact mc_of ok_x_counted (s_x_counted_0 G) (k_c1 _ rfl) (Nat.le_of_ble_eq_true rfl) rfl h
  · cases h
set_option maxHeartbeats 10000000 in
set_option maxRecDepth 20000 in
theorem s_x_when_0 (G : GG) : Sq kE G (kF G (5) mi_x_when) mi_x_when 0 b_x_when_0 := by
  unfold b_x_when_0
  exact (sq_aload_n (pc := 0) dX6_when_0 rfl
    (sq_iload_n (pc := 1) dX6_when_1 rfl
    (sq_callV (d := 5) (d' := 0) (mi' := mi_x_noSleeper) (pc := 2) dX6_when_2 ml_X6_161 in_x_noSleeper se_x_noSleeper ok_x_noSleeper ar_x_noSleeper (by decide) rfl (by decide) (k_ok_kF G (5) mi_x_when) (m_x_noSleeper G)
    (sq_ifeq (pc := 5) dX6_when_5 (tgt := 11) rfl
    (sq_aload_n (pc := 11) dX6_when_11 rfl
    (sq_getr (pc := 12) dX6_when_12 fl_X6_46 rfl rfl (by decide)
    (sq_aload_n (pc := 15) dX6_when_15 rfl
    (sq_getr (pc := 16) dX6_when_16 fl_X6_26 rfl rfl (by decide)
    (sq_callV (d := 5) (d' := 3) (mi' := mi_F_begin) (pc := 19) dX6_when_19 ml_X6_203 in_F_begin se_F_begin ok_F_begin ar_F_begin (by decide) rfl (by decide) (k_ok_kF G (5) mi_x_when) (m_F_begin G)
    (sq_aload_n (pc := 22) dX6_when_22 rfl
    (sq_getr (pc := 23) dX6_when_23 fl_X6_46 rfl rfl (by decide)
    (sq_iconst (pc := 26) dX6_when_26 kc_i_1
    (sq_iload_n (pc := 27) dX6_when_27 rfl
    (sq_ishl (pc := 28) dX6_when_28
    (sq_bipush (pc := 29) dX6_when_29 kc_b_99
    (sq_callV (d := 5) (d' := 4) (mi' := mi_F_soonest) (pc := 31) dX6_when_31 ml_X6_209 in_F_soonest se_F_soonest ok_F_soonest ar_F_soonest (by decide) rfl (by decide) (k_ok_kF G (5) mi_x_when) (m_F_soonest G)
    (sq_iret rfl (pc := 34) dX6_when_34)))))))))))))
    (sq_ldc (pc := 8) dX6_when_8 ct_X6_65
    (sq_iret rfl (pc := 10) dX6_when_10))))))
theorem m_x_when (G : GG) : RS kE G 5 mi_x_when r_x_when := by
  intro as M v M' h
  unfold r_x_when at h
  split at h
  · exact mc_of ok_x_when (s_x_when_0 G) (k_c1 _ rfl) (Nat.le_of_ble_eq_true rfl) rfl h
  · cases h
set_option maxHeartbeats 10000000 in
set_option maxRecDepth 20000 in
theorem s_x_noSleepers_22 (G : GG) : Sq kE G (kF G (0) mi_x_noSleepers) mi_x_noSleepers 22 (b_x_noSleepers_22) := by
  unfold b_x_noSleepers_22
  exact (sq_zret rfl (pc := 22) dX6_noSleepers_22)
set_option maxHeartbeats 10000000 in
set_option maxRecDepth 20000 in
theorem s_x_noSleepers_17 (G : GG) : Sq kE G (kF G (0) mi_x_noSleepers) mi_x_noSleepers 17 (b_x_noSleepers_17) := by
  unfold b_x_noSleepers_17
  exact (sq_iconst (pc := 17) dX6_noSleepers_17 kc_i_1
    (sq_goto (pc := 18) dX6_noSleepers_18 (tgt := 22) rfl (s_x_noSleepers_22 G)))
set_option maxHeartbeats 10000000 in
set_option maxRecDepth 20000 in
theorem s_x_noSleepers_0 (G : GG) : Sq kE G (kF G (0) mi_x_noSleepers) mi_x_noSleepers 0 b_x_noSleepers_0 := by
  unfold b_x_noSleepers_0
  exact (sq_iload_n (pc := 0) dX6_noSleepers_0 rfl
    (sq_iflt (pc := 1) dX6_noSleepers_1 (tgt := 17) rfl
    (s_x_noSleepers_17 G)
    (sq_iload_n (pc := 4) dX6_noSleepers_4 rfl
    (sq_iconst (pc := 5) dX6_noSleepers_5 kc_i_1
    (sq_aload_n (pc := 6) dX6_noSleepers_6 rfl
    (sq_getr (pc := 7) dX6_noSleepers_7 fl_X6_26 rfl rfl (by decide)
    (sq_geti (pc := 10) dX6_noSleepers_10 fl_X6_125 rfl
    (sq_ishl (pc := 13) dX6_noSleepers_13
    (sq_clt (pc := 14) dX6_noSleepers_14 (tgt := 21) rfl
    (sq_iconst (pc := 21) dX6_noSleepers_21 kc_i_0
    (s_x_noSleepers_22 G))
    (s_x_noSleepers_17 G))))))))))
theorem m_x_noSleepers (G : GG) : RS kE G 0 mi_x_noSleepers r_x_noSleepers := by
  intro as M v M' h
  unfold r_x_noSleepers at h
  split at h
  · exact mc_of ok_x_noSleepers (s_x_noSleepers_0 G) (k_c1 _ rfl) (Nat.le_of_ble_eq_true rfl) rfl h
  · cases h
set_option maxHeartbeats 10000000 in
set_option maxRecDepth 20000 in
theorem s_x_all_0 (G : GG) : Sq kE G (kF G (5) mi_x_all) mi_x_all 0 b_x_all_0 := by
  unfold b_x_all_0
  exact (sq_aload_n (pc := 0) dX6_all_0 rfl
    (sq_callV (d := 5) (d' := 0) (mi' := mi_x_noSquare) (pc := 1) dX6_all_1 ml_X6_131 in_x_noSquare se_x_noSquare ok_x_noSquare ar_x_noSquare (by decide) rfl (by decide) (k_ok_kF G (5) mi_x_all) (m_x_noSquare G)
    (sq_ifeq (pc := 4) dX6_all_4 (tgt := 10) rfl
    (sq_aload_n (pc := 10) dX6_all_10 rfl
    (sq_iload_n (pc := 11) dX6_all_11 rfl
    (sq_callV (d := 5) (d' := 0) (mi' := mi_x_noSleepers) (pc := 12) dX6_all_12 ml_X6_213 in_x_noSleepers se_x_noSleepers ok_x_noSleepers ar_x_noSleepers (by decide) rfl (by decide) (k_ok_kF G (5) mi_x_all) (m_x_noSleepers G)
    (sq_ifeq (pc := 15) dX6_all_15 (tgt := 21) rfl
    (sq_aload_n (pc := 21) dX6_all_21 rfl
    (sq_getr (pc := 22) dX6_all_22 fl_X6_46 rfl rfl (by decide)
    (sq_aload_n (pc := 25) dX6_all_25 rfl
    (sq_getr (pc := 26) dX6_all_26 fl_X6_26 rfl rfl (by decide)
    (sq_callV (d := 5) (d' := 3) (mi' := mi_F_begin) (pc := 29) dX6_all_29 ml_X6_203 in_F_begin se_F_begin ok_F_begin ar_F_begin (by decide) rfl (by decide) (k_ok_kF G (5) mi_x_all) (m_F_begin G)
    (sq_aload_n (pc := 32) dX6_all_32 rfl
    (sq_getr (pc := 33) dX6_all_33 fl_X6_46 rfl rfl (by decide)
    (sq_iload_n (pc := 36) dX6_all_36 rfl
    (sq_bipush (pc := 37) dX6_all_37 kc_b_99
    (sq_callV (d := 5) (d' := 4) (mi' := mi_F_soonest) (pc := 39) dX6_all_39 ml_X6_209 in_F_soonest se_F_soonest ok_F_soonest ar_F_soonest (by decide) rfl (by decide) (k_ok_kF G (5) mi_x_all) (m_F_soonest G)
    (sq_iret rfl (pc := 42) dX6_all_42)))))))))))
    (sq_ldc (pc := 18) dX6_all_18 ct_X6_65
    (sq_iret rfl (pc := 20) dX6_all_20))))))
    (sq_ldc (pc := 7) dX6_all_7 ct_X6_135
    (sq_iret rfl (pc := 9) dX6_all_9)))))
theorem m_x_all (G : GG) : RS kE G 5 mi_x_all r_x_all := by
  intro as M v M' h
  unfold r_x_all at h
  split at h
  · exact mc_of ok_x_all (s_x_all_0 G) (k_c1 _ rfl) (Nat.le_of_ble_eq_true rfl) rfl h
  · cases h
set_option maxHeartbeats 10000000 in
set_option maxRecDepth 20000 in
theorem s_x_never_0 (G : GG) : Sq kE G (kF G (5) mi_x_never) mi_x_never 0 b_x_never_0 := by
  unfold b_x_never_0
  exact (sq_aload_n (pc := 0) dX6_never_0 rfl
    (sq_callV (d := 5) (d' := 0) (mi' := mi_x_noSquare) (pc := 1) dX6_never_1 ml_X6_131 in_x_noSquare se_x_noSquare ok_x_noSquare ar_x_noSquare (by decide) rfl (by decide) (k_ok_kF G (5) mi_x_never) (m_x_noSquare G)
    (sq_ifeq (pc := 4) dX6_never_4 (tgt := 10) rfl
    (sq_aload_n (pc := 10) dX6_never_10 rfl
    (sq_getr (pc := 11) dX6_never_11 fl_X6_46 rfl rfl (by decide)
    (sq_aload_n (pc := 14) dX6_never_14 rfl
    (sq_getr (pc := 15) dX6_never_15 fl_X6_26 rfl rfl (by decide)
    (sq_callV (d := 5) (d' := 3) (mi' := mi_F_begin) (pc := 18) dX6_never_18 ml_X6_203 in_F_begin se_F_begin ok_F_begin ar_F_begin (by decide) rfl (by decide) (k_ok_kF G (5) mi_x_never) (m_F_begin G)
    (sq_aload_n (pc := 21) dX6_never_21 rfl
    (sq_getr (pc := 22) dX6_never_22 fl_X6_46 rfl rfl (by decide)
    (sq_callV (d := 5) (d' := 4) (mi' := mi_F_sleepless) (pc := 25) dX6_never_25 ml_X6_216 in_F_sleepless se_F_sleepless ok_F_sleepless ar_F_sleepless (by decide) rfl (by decide) (k_ok_kF G (5) mi_x_never) (m_F_sleepless G)
    (sq_iret rfl (pc := 28) dX6_never_28)))))))))
    (sq_ldc (pc := 7) dX6_never_7 ct_X6_135
    (sq_iret rfl (pc := 9) dX6_never_9)))))
theorem m_x_never (G : GG) : RS kE G 5 mi_x_never r_x_never := by
  intro as M v M' h
  unfold r_x_never at h
  split at h
  · exact mc_of ok_x_never (s_x_never_0 G) (k_c1 _ rfl) (Nat.le_of_ble_eq_true rfl) rfl h
  · cases h
set_option maxHeartbeats 10000000 in
set_option maxRecDepth 20000 in
theorem s_x_quiet_19 (G : GG) : Sq kE G (kF G (5) mi_x_quiet) mi_x_quiet 19 (b_x_quiet_19) := by
  unfold b_x_quiet_19
  exact (sq_ldc (pc := 19) dX6_quiet_19 ct_X6_65
    (sq_iret rfl (pc := 21) dX6_quiet_21))
set_option maxHeartbeats 10000000 in
set_option maxRecDepth 20000 in
theorem s_x_quiet_0 (G : GG) : Sq kE G (kF G (5) mi_x_quiet) mi_x_quiet 0 b_x_quiet_0 := by
  unfold b_x_quiet_0
  exact (sq_aload_n (pc := 0) dX6_quiet_0 rfl
    (sq_callV (d := 5) (d' := 0) (mi' := mi_x_noSquare) (pc := 1) dX6_quiet_1 ml_X6_131 in_x_noSquare se_x_noSquare ok_x_noSquare ar_x_noSquare (by decide) rfl (by decide) (k_ok_kF G (5) mi_x_quiet) (m_x_noSquare G)
    (sq_ifeq (pc := 4) dX6_quiet_4 (tgt := 10) rfl
    (sq_iload_n (pc := 10) dX6_quiet_10 rfl
    (sq_iflt (pc := 11) dX6_quiet_11 (tgt := 19) rfl
    (s_x_quiet_19 G)
    (sq_iload_n (pc := 14) dX6_quiet_14 rfl
    (sq_iconst (pc := 15) dX6_quiet_15 kc_i_5
    (sq_cle (pc := 16) dX6_quiet_16 (tgt := 22) rfl
    (sq_aload_n (pc := 22) dX6_quiet_22 rfl
    (sq_getr (pc := 23) dX6_quiet_23 fl_X6_46 rfl rfl (by decide)
    (sq_aload_n (pc := 26) dX6_quiet_26 rfl
    (sq_getr (pc := 27) dX6_quiet_27 fl_X6_26 rfl rfl (by decide)
    (sq_callV (d := 5) (d' := 3) (mi' := mi_F_begin) (pc := 30) dX6_quiet_30 ml_X6_203 in_F_begin se_F_begin ok_F_begin ar_F_begin (by decide) rfl (by decide) (k_ok_kF G (5) mi_x_quiet) (m_F_begin G)
    (sq_aload_n (pc := 33) dX6_quiet_33 rfl
    (sq_getr (pc := 34) dX6_quiet_34 fl_X6_46 rfl rfl (by decide)
    (sq_iload_n (pc := 37) dX6_quiet_37 rfl
    (sq_callV (d := 5) (d' := 4) (mi' := mi_F_calm) (pc := 38) dX6_quiet_38 ml_X6_220 in_F_calm se_F_calm ok_F_calm ar_F_calm (by decide) rfl (by decide) (k_ok_kF G (5) mi_x_quiet) (m_F_calm G)
    (sq_iret rfl (pc := 41) dX6_quiet_41))))))))))
    (s_x_quiet_19 G))))))
    (sq_ldc (pc := 7) dX6_quiet_7 ct_X6_135
    (sq_iret rfl (pc := 9) dX6_quiet_9)))))
theorem m_x_quiet (G : GG) : RS kE G 5 mi_x_quiet r_x_quiet := by
  intro as M v M' h
  unfold r_x_quiet at h
  split at h
  · exact mc_of ok_x_quiet (s_x_quiet_0 G) (k_c1 _ rfl) (Nat.le_of_ble_eq_true rfl) rfl h
  · cases h
set_option maxHeartbeats 10000000 in
set_option maxRecDepth 20000 in
theorem s_x_order_29 (G : GG) : Sq kE G (kF G (6) mi_x_order) mi_x_order 29 (b_x_order_29) := by
  unfold b_x_order_29
  exact (sq_ldc (pc := 29) dX6_order_29 ct_X6_65
    (sq_iret rfl (pc := 31) dX6_order_31))
set_option maxHeartbeats 10000000 in
set_option maxRecDepth 20000 in
theorem s_x_order_56 (G : GG) : Sq kE G (kF G (6) mi_x_order) mi_x_order 56 (b_x_order_56) := by
  unfold b_x_order_56
  exact (sq_iload_n (pc := 56) dX6_order_56 rfl
    (sq_iret rfl (pc := 57) dX6_order_57))
set_option maxHeartbeats 10000000 in
set_option maxRecDepth 20000 in
theorem s_x_order_83 (G : GG) : Sq kE G (kF G (6) mi_x_order) mi_x_order 83 (b_x_order_83) := by
  unfold b_x_order_83
  exact (sq_iret rfl (pc := 83) dX6_order_83)
set_option maxHeartbeats 10000000 in
set_option maxRecDepth 20000 in
theorem s_x_order_0 (G : GG) : Sq kE G (kF G (6) mi_x_order) mi_x_order 0 b_x_order_0 := by
  unfold b_x_order_0
  exact (sq_aload_n (pc := 0) dX6_order_0 rfl
    (sq_callV (d := 6) (d' := 0) (mi' := mi_x_noSquare) (pc := 1) dX6_order_1 ml_X6_131 in_x_noSquare se_x_noSquare ok_x_noSquare ar_x_noSquare (by decide) rfl (by decide) (k_ok_kF G (6) mi_x_order) (m_x_noSquare G)
    (sq_ifeq (pc := 4) dX6_order_4 (tgt := 10) rfl
    (sq_aload_n (pc := 10) dX6_order_10 rfl
    (sq_iload_n (pc := 11) dX6_order_11 rfl
    (sq_callV (d := 6) (d' := 0) (mi' := mi_x_noSleepers) (pc := 12) dX6_order_12 ml_X6_213 in_x_noSleepers se_x_noSleepers ok_x_noSleepers ar_x_noSleepers (by decide) rfl (by decide) (k_ok_kF G (6) mi_x_order) (m_x_noSleepers G)
    (sq_ifne (pc := 15) dX6_order_15 (tgt := 29) rfl
    (sq_iload_n (pc := 18) dX6_order_18 rfl
    (sq_iconst (pc := 19) dX6_order_19 kc_i_m1
    (sq_clt (pc := 20) dX6_order_20 (tgt := 29) rfl
    (s_x_order_29 G)
    (sq_iload_n (pc := 23) dX6_order_23 rfl
    (sq_bipush (pc := 24) dX6_order_24 kc_b_6
    (sq_clt (pc := 26) dX6_order_26 (tgt := 32) rfl
    (sq_aload_n (pc := 32) dX6_order_32 rfl
    (sq_getr (pc := 33) dX6_order_33 fl_X6_46 rfl rfl (by decide)
    (sq_aload_n (pc := 36) dX6_order_36 rfl
    (sq_getr (pc := 37) dX6_order_37 fl_X6_26 rfl rfl (by decide)
    (sq_iload_n (pc := 40) dX6_order_40 rfl
    (sq_callV (d := 6) (d' := 5) (mi' := mi_F_bestOrder) (pc := 41) dX6_order_41 ml_X6_223 in_F_bestOrder se_F_bestOrder ok_F_bestOrder ar_F_bestOrder (by decide) rfl (by decide) (k_ok_kF G (6) mi_x_order) (m_F_bestOrder G)
    (sq_istore_n (pc := 44) dX6_order_44 rfl
    (sq_iload_n (pc := 45) dX6_order_45 rfl
    (sq_ldc (pc := 46) dX6_order_46 ct_X6_227
    (sq_ceq (pc := 48) dX6_order_48 (tgt := 56) rfl
    (s_x_order_56 G)
    (sq_iload_n (pc := 51) dX6_order_51 rfl
    (sq_iconst (pc := 52) dX6_order_52 kc_i_m1
    (sq_cne (pc := 53) dX6_order_53 (tgt := 58) rfl
    (s_x_order_56 G)
    (sq_iload_n (pc := 58) dX6_order_58 rfl
    (sq_aload_n (pc := 59) dX6_order_59 rfl
    (sq_getr (pc := 60) dX6_order_60 fl_X6_26 rfl rfl (by decide)
    (sq_geti (pc := 63) dX6_order_63 fl_X6_148 rfl
    (sq_cge (pc := 66) dX6_order_66 (tgt := 81) rfl
    (sq_ldc (pc := 81) dX6_order_81 ct_X6_227
    (s_x_order_83 G))
    (sq_aload_n (pc := 69) dX6_order_69 rfl
    (sq_getr (pc := 70) dX6_order_70 fl_X6_46 rfl rfl (by decide)
    (sq_getr (pc := 73) dX6_order_73 fl_X6_228 rfl rfl (by decide)
    (sq_iload_n (pc := 76) dX6_order_76 rfl
    (sq_iald (pc := 77) dX6_order_77
    (sq_goto (pc := 78) dX6_order_78 (tgt := 83) rfl (s_x_order_83 G)))))))))))))))))))))))))
    (s_x_order_29 G)))))))
    (s_x_order_29 G)))))
    (sq_ldc (pc := 7) dX6_order_7 ct_X6_135
    (sq_iret rfl (pc := 9) dX6_order_9)))))
theorem m_x_order (G : GG) : RS kE G 6 mi_x_order r_x_order := by
  intro as M v M' h
  unfold r_x_order at h
  split at h
  · exact mc_of ok_x_order (s_x_order_0 G) (k_c1 _ rfl) (Nat.le_of_ble_eq_true rfl) rfl h
  · cases h
set_option maxHeartbeats 10000000 in
set_option maxRecDepth 20000 in
theorem s_x_fewest_35 (G : GG) : Sq kE G (kF G (6) mi_x_fewest) mi_x_fewest 35 (b_x_fewest_35) := by
  unfold b_x_fewest_35
  exact (sq_ldc (pc := 35) dX6_fewest_35 ct_X6_65
    (sq_iret rfl (pc := 37) dX6_fewest_37))
set_option maxHeartbeats 10000000 in
set_option maxRecDepth 20000 in
theorem s_x_fewest_65 (G : GG) : Sq kE G (kF G (6) mi_x_fewest) mi_x_fewest 65 (b_x_fewest_65) := by
  unfold b_x_fewest_65
  exact (sq_iload (pc := 65) dX6_fewest_65
    (sq_iret rfl (pc := 67) dX6_fewest_67))
set_option maxHeartbeats 10000000 in
set_option maxRecDepth 20000 in
theorem s_x_fewest_0 (G : GG) : Sq kE G (kF G (6) mi_x_fewest) mi_x_fewest 0 b_x_fewest_0 := by
  unfold b_x_fewest_0
  exact (sq_aload_n (pc := 0) dX6_fewest_0 rfl
    (sq_callV (d := 6) (d' := 0) (mi' := mi_x_noSquare) (pc := 1) dX6_fewest_1 ml_X6_131 in_x_noSquare se_x_noSquare ok_x_noSquare ar_x_noSquare (by decide) rfl (by decide) (k_ok_kF G (6) mi_x_fewest) (m_x_noSquare G)
    (sq_ifeq (pc := 4) dX6_fewest_4 (tgt := 10) rfl
    (sq_aload_n (pc := 10) dX6_fewest_10 rfl
    (sq_iload_n (pc := 11) dX6_fewest_11 rfl
    (sq_callV (d := 6) (d' := 0) (mi' := mi_x_noSleepers) (pc := 12) dX6_fewest_12 ml_X6_213 in_x_noSleepers se_x_noSleepers ok_x_noSleepers ar_x_noSleepers (by decide) rfl (by decide) (k_ok_kF G (6) mi_x_fewest) (m_x_noSleepers G)
    (sq_ifne (pc := 15) dX6_fewest_15 (tgt := 35) rfl
    (sq_aload_n (pc := 18) dX6_fewest_18 rfl
    (sq_iload_n (pc := 19) dX6_fewest_19 rfl
    (sq_callV (d := 6) (d' := 0) (mi' := mi_x_tooFar) (pc := 20) dX6_fewest_20 ml_X6_200 in_x_tooFar se_x_tooFar ok_x_tooFar ar_x_tooFar (by decide) rfl (by decide) (k_ok_kF G (6) mi_x_fewest) (m_x_tooFar G)
    (sq_ifne (pc := 23) dX6_fewest_23 (tgt := 35) rfl
    (sq_iload_n (pc := 26) dX6_fewest_26 rfl
    (sq_iflt (pc := 27) dX6_fewest_27 (tgt := 35) rfl
    (s_x_fewest_35 G)
    (sq_iload_n (pc := 30) dX6_fewest_30 rfl
    (sq_iconst (pc := 31) dX6_fewest_31 kc_i_1
    (sq_cle (pc := 32) dX6_fewest_32 (tgt := 38) rfl
    (sq_aload_n (pc := 38) dX6_fewest_38 rfl
    (sq_getr (pc := 39) dX6_fewest_39 fl_X6_46 rfl rfl (by decide)
    (sq_aload_n (pc := 42) dX6_fewest_42 rfl
    (sq_getr (pc := 43) dX6_fewest_43 fl_X6_26 rfl rfl (by decide)
    (sq_iload_n (pc := 46) dX6_fewest_46 rfl
    (sq_iload_n (pc := 47) dX6_fewest_47 rfl
    (sq_callV (d := 6) (d' := 5) (mi' := mi_F_smallestFlock) (pc := 48) dX6_fewest_48 ml_X6_231 in_F_smallestFlock se_F_smallestFlock ok_F_smallestFlock ar_F_smallestFlock (by decide) rfl (by decide) (k_ok_kF G (6) mi_x_fewest) (m_F_smallestFlock G)
    (sq_istore (pc := 51) dX6_fewest_51
    (sq_iload (pc := 53) dX6_fewest_53
    (sq_ldc (pc := 55) dX6_fewest_55 ct_X6_227
    (sq_ceq (pc := 57) dX6_fewest_57 (tgt := 65) rfl
    (s_x_fewest_65 G)
    (sq_iload_n (pc := 60) dX6_fewest_60 rfl
    (sq_iconst (pc := 61) dX6_fewest_61 kc_i_1
    (sq_cne (pc := 62) dX6_fewest_62 (tgt := 68) rfl
    (s_x_fewest_65 G)
    (sq_iload (pc := 68) dX6_fewest_68
    (sq_callS (d := 6) (d' := 0) (mi' := mi_J_bitCount) (pc := 70) dX6_fewest_70 ml_X6_235 st_J_bitCount ok_J_bitCount ar_J_bitCount (by decide) (k_ok_kF G (6) mi_x_fewest) (m_J_bitCount G)
    (sq_iret rfl (pc := 73) dX6_fewest_73)))))))))))))))))
    (s_x_fewest_35 G))))))
    (s_x_fewest_35 G)))))
    (s_x_fewest_35 G)))))
    (sq_ldc (pc := 7) dX6_fewest_7 ct_X6_135
    (sq_iret rfl (pc := 9) dX6_fewest_9)))))
theorem m_x_fewest (G : GG) : RS kE G 6 mi_x_fewest r_x_fewest := by
  intro as M v M' h
  unfold r_x_fewest at h
  split at h
  · exact mc_of ok_x_fewest (s_x_fewest_0 G) (k_c1 _ rfl) (Nat.le_of_ble_eq_true rfl) rfl h
  · cases h
set_option maxHeartbeats 10000000 in
set_option maxRecDepth 20000 in
theorem s_x_unreadable_31 (G : GG) : Sq kE G (kF G (1) mi_x_unreadable) mi_x_unreadable 31 (b_x_unreadable_31) := by
  unfold b_x_unreadable_31
  exact (sq_iret rfl (pc := 31) dX6_unreadable_31)
set_option maxHeartbeats 10000000 in
set_option maxRecDepth 20000 in
theorem s_x_unreadable_0 (G : GG) : Sq kE G (kF G (1) mi_x_unreadable) mi_x_unreadable 0 b_x_unreadable_0 := by
  unfold b_x_unreadable_0
  exact (sq_aload_n (pc := 0) dX6_unreadable_0 rfl
    (sq_getr (pc := 1) dX6_unreadable_1 fl_X6_10 rfl rfl (by decide)
    (sq_iload_n (pc := 4) dX6_unreadable_4 rfl
    (sq_callV (d := 1) (d' := 0) (mi' := mi_W_isGone) (pc := 5) dX6_unreadable_5 ml_X6_77 in_W_isGone se_W_isGone ok_W_isGone ar_W_isGone (by decide) rfl (by decide) (k_ok_kF G (1) mi_x_unreadable) (m_W_isGone G)
    (sq_ifeq (pc := 8) dX6_unreadable_8 (tgt := 13) rfl
    (sq_aload_n (pc := 13) dX6_unreadable_13 rfl
    (sq_getr (pc := 14) dX6_unreadable_14 fl_X6_10 rfl rfl (by decide)
    (sq_iload_n (pc := 17) dX6_unreadable_17 rfl
    (sq_iload_n (pc := 18) dX6_unreadable_18 rfl
    (sq_iload_n (pc := 19) dX6_unreadable_19 rfl
    (sq_callV (d := 1) (d' := 0) (mi' := mi_W_lacks) (pc := 20) dX6_unreadable_20 ml_X6_80 in_W_lacks se_W_lacks ok_W_lacks ar_W_lacks (by decide) rfl (by decide) (k_ok_kF G (1) mi_x_unreadable) (m_W_lacks G)
    (sq_ifeq (pc := 23) dX6_unreadable_23 (tgt := 30) rfl
    (sq_iconst (pc := 30) dX6_unreadable_30 kc_i_0
    (s_x_unreadable_31 G))
    (sq_iconst (pc := 26) dX6_unreadable_26 kc_i_2
    (sq_goto (pc := 27) dX6_unreadable_27 (tgt := 31) rfl (s_x_unreadable_31 G))))))))))
    (sq_iconst (pc := 11) dX6_unreadable_11 kc_i_1
    (sq_iret rfl (pc := 12) dX6_unreadable_12)))))))
theorem m_x_unreadable (G : GG) : RS kE G 1 mi_x_unreadable r_x_unreadable := by
  intro as M v M' h
  unfold r_x_unreadable at h
  split at h
  · exact mc_of ok_x_unreadable (s_x_unreadable_0 G) (k_c1 _ rfl) (Nat.le_of_ble_eq_true rfl) rfl h
  · cases h
set_option maxHeartbeats 10000000 in
set_option maxRecDepth 20000 in
theorem s_x_missing_29 (G : GG) : Sq kE G (kF G (6) mi_x_missing) mi_x_missing 29 (b_x_missing_29) := by
  unfold b_x_missing_29
  exact (sq_ldc (pc := 29) dX6_missing_29 ct_X6_65
    (sq_iret rfl (pc := 31) dX6_missing_31))
set_option maxHeartbeats 10000000 in
set_option maxRecDepth 20000 in
theorem s_x_missing_0 (G : GG) : Sq kE G (kF G (6) mi_x_missing) mi_x_missing 0 b_x_missing_0 := by
  unfold b_x_missing_0
  exact (sq_aload_n (pc := 0) dX6_missing_0 rfl
    (sq_callV (d := 6) (d' := 0) (mi' := mi_x_noSquare) (pc := 1) dX6_missing_1 ml_X6_131 in_x_noSquare se_x_noSquare ok_x_noSquare ar_x_noSquare (by decide) rfl (by decide) (k_ok_kF G (6) mi_x_missing) (m_x_noSquare G)
    (sq_ifeq (pc := 4) dX6_missing_4 (tgt := 10) rfl
    (sq_aload_n (pc := 10) dX6_missing_10 rfl
    (sq_iload_n (pc := 11) dX6_missing_11 rfl
    (sq_callV (d := 6) (d' := 0) (mi' := mi_x_noRow) (pc := 12) dX6_missing_12 ml_X6_61 in_x_noRow se_x_noRow ok_x_noRow ar_x_noRow (by decide) rfl (by decide) (k_ok_kF G (6) mi_x_missing) (m_x_noRow G)
    (sq_ifne (pc := 15) dX6_missing_15 (tgt := 29) rfl
    (sq_iload_n (pc := 18) dX6_missing_18 rfl
    (sq_iconst (pc := 19) dX6_missing_19 kc_i_1
    (sq_clt (pc := 20) dX6_missing_20 (tgt := 29) rfl
    (s_x_missing_29 G)
    (sq_iload_n (pc := 23) dX6_missing_23 rfl
    (sq_bipush (pc := 24) dX6_missing_24 kc_b_16
    (sq_cle (pc := 26) dX6_missing_26 (tgt := 32) rfl
    (sq_aload_n (pc := 32) dX6_missing_32 rfl
    (sq_iload_n (pc := 33) dX6_missing_33 rfl
    (sq_iload_n (pc := 34) dX6_missing_34 rfl
    (sq_iload_n (pc := 35) dX6_missing_35 rfl
    (sq_callV (d := 6) (d' := 1) (mi' := mi_x_unreadable) (pc := 36) dX6_missing_36 ml_X6_240 in_x_unreadable se_x_unreadable ok_x_unreadable ar_x_unreadable (by decide) rfl (by decide) (k_ok_kF G (6) mi_x_missing) (m_x_unreadable G)
    (sq_istore (pc := 39) dX6_missing_39
    (sq_iload (pc := 41) dX6_missing_41
    (sq_ifeq (pc := 43) dX6_missing_43 (tgt := 53) rfl
    (sq_aload_n (pc := 53) dX6_missing_53 rfl
    (sq_aload_n (pc := 54) dX6_missing_54 rfl
    (sq_getr (pc := 55) dX6_missing_55 fl_X6_46 rfl rfl (by decide)
    (sq_aload_n (pc := 58) dX6_missing_58 rfl
    (sq_getr (pc := 59) dX6_missing_59 fl_X6_26 rfl rfl (by decide)
    (sq_aload_n (pc := 62) dX6_missing_62 rfl
    (sq_getr (pc := 63) dX6_missing_63 fl_X6_10 rfl rfl (by decide)
    (sq_aload_n (pc := 66) dX6_missing_66 rfl
    (sq_getr (pc := 67) dX6_missing_67 fl_X6_10 rfl rfl (by decide)
    (sq_iload_n (pc := 70) dX6_missing_70 rfl
    (sq_iload_n (pc := 71) dX6_missing_71 rfl
    (sq_callV (d := 6) (d' := 0) (mi' := mi_W_placeOf) (pc := 72) dX6_missing_72 ml_X6_243 in_W_placeOf se_W_placeOf ok_W_placeOf ar_W_placeOf (by decide) rfl (by decide) (k_ok_kF G (6) mi_x_missing) (m_W_placeOf G)
    (sq_iload_n (pc := 75) dX6_missing_75 rfl
    (sq_callV (d := 6) (d' := 5) (mi' := mi_F_strays) (pc := 76) dX6_missing_76 ml_X6_245 in_F_strays se_F_strays ok_F_strays ar_F_strays (by decide) rfl (by decide) (k_ok_kF G (6) mi_x_missing) (m_F_strays G)
    (sq_callV (d := 6) (d' := 0) (mi' := mi_x_fine) (pc := 79) dX6_missing_79 ml_X6_74 in_x_fine se_x_fine ok_x_fine ar_x_fine (by decide) rfl (by decide) (k_ok_kF G (6) mi_x_missing) (m_x_fine G)
    (sq_iret rfl (pc := 82) dX6_missing_82))))))))))))))))
    (sq_aload_n (pc := 46) dX6_missing_46 rfl
    (sq_iload (pc := 47) dX6_missing_47
    (sq_callV (d := 6) (d' := 0) (mi' := mi_x_found) (pc := 49) dX6_missing_49 ml_X6_66 in_x_found se_x_found ok_x_found ar_x_found (by decide) rfl (by decide) (k_ok_kF G (6) mi_x_missing) (m_x_found G)
    (sq_iret rfl (pc := 52) dX6_missing_52))))))))))))
    (s_x_missing_29 G)))))))
    (s_x_missing_29 G)))))
    (sq_ldc (pc := 7) dX6_missing_7 ct_X6_135
    (sq_iret rfl (pc := 9) dX6_missing_9)))))
theorem m_x_missing (G : GG) : RS kE G 6 mi_x_missing r_x_missing := by
  intro as M v M' h
  unfold r_x_missing at h
  split at h
  · exact mc_of ok_x_missing (s_x_missing_0 G) (k_c1 _ rfl) (Nat.le_of_ble_eq_true rfl) rfl h
  · cases h
set_option maxHeartbeats 10000000 in
set_option maxRecDepth 20000 in
theorem s_x_windy_29 (G : GG) : Sq kE G (kF G (6) mi_x_windy) mi_x_windy 29 (b_x_windy_29) := by
  unfold b_x_windy_29
  exact (sq_ldc (pc := 29) dX6_windy_29 ct_X6_65
    (sq_iret rfl (pc := 31) dX6_windy_31))
set_option maxHeartbeats 10000000 in
set_option maxRecDepth 20000 in
theorem s_x_windy_0 (G : GG) : Sq kE G (kF G (6) mi_x_windy) mi_x_windy 0 b_x_windy_0 := by
  unfold b_x_windy_0
  exact (sq_aload_n (pc := 0) dX6_windy_0 rfl
    (sq_callV (d := 6) (d' := 0) (mi' := mi_x_noSquare) (pc := 1) dX6_windy_1 ml_X6_131 in_x_noSquare se_x_noSquare ok_x_noSquare ar_x_noSquare (by decide) rfl (by decide) (k_ok_kF G (6) mi_x_windy) (m_x_noSquare G)
    (sq_ifeq (pc := 4) dX6_windy_4 (tgt := 10) rfl
    (sq_aload_n (pc := 10) dX6_windy_10 rfl
    (sq_iload_n (pc := 11) dX6_windy_11 rfl
    (sq_callV (d := 6) (d' := 0) (mi' := mi_x_noRow) (pc := 12) dX6_windy_12 ml_X6_61 in_x_noRow se_x_noRow ok_x_noRow ar_x_noRow (by decide) rfl (by decide) (k_ok_kF G (6) mi_x_windy) (m_x_noRow G)
    (sq_ifne (pc := 15) dX6_windy_15 (tgt := 29) rfl
    (sq_iload_n (pc := 18) dX6_windy_18 rfl
    (sq_iconst (pc := 19) dX6_windy_19 kc_i_1
    (sq_clt (pc := 20) dX6_windy_20 (tgt := 29) rfl
    (s_x_windy_29 G)
    (sq_iload_n (pc := 23) dX6_windy_23 rfl
    (sq_bipush (pc := 24) dX6_windy_24 kc_b_16
    (sq_cle (pc := 26) dX6_windy_26 (tgt := 32) rfl
    (sq_aload_n (pc := 32) dX6_windy_32 rfl
    (sq_iload_n (pc := 33) dX6_windy_33 rfl
    (sq_iload_n (pc := 34) dX6_windy_34 rfl
    (sq_iload_n (pc := 35) dX6_windy_35 rfl
    (sq_callV (d := 6) (d' := 1) (mi' := mi_x_unreadable) (pc := 36) dX6_windy_36 ml_X6_240 in_x_unreadable se_x_unreadable ok_x_unreadable ar_x_unreadable (by decide) rfl (by decide) (k_ok_kF G (6) mi_x_windy) (m_x_unreadable G)
    (sq_istore (pc := 39) dX6_windy_39
    (sq_iload (pc := 41) dX6_windy_41
    (sq_ifeq (pc := 43) dX6_windy_43 (tgt := 53) rfl
    (sq_aload_n (pc := 53) dX6_windy_53 rfl
    (sq_aload_n (pc := 54) dX6_windy_54 rfl
    (sq_getr (pc := 55) dX6_windy_55 fl_X6_46 rfl rfl (by decide)
    (sq_aload_n (pc := 58) dX6_windy_58 rfl
    (sq_getr (pc := 59) dX6_windy_59 fl_X6_26 rfl rfl (by decide)
    (sq_aload_n (pc := 62) dX6_windy_62 rfl
    (sq_getr (pc := 63) dX6_windy_63 fl_X6_10 rfl rfl (by decide)
    (sq_aload_n (pc := 66) dX6_windy_66 rfl
    (sq_getr (pc := 67) dX6_windy_67 fl_X6_10 rfl rfl (by decide)
    (sq_iload_n (pc := 70) dX6_windy_70 rfl
    (sq_iload_n (pc := 71) dX6_windy_71 rfl
    (sq_callV (d := 6) (d' := 0) (mi' := mi_W_placeOf) (pc := 72) dX6_windy_72 ml_X6_243 in_W_placeOf se_W_placeOf ok_W_placeOf ar_W_placeOf (by decide) rfl (by decide) (k_ok_kF G (6) mi_x_windy) (m_W_placeOf G)
    (sq_iload_n (pc := 75) dX6_windy_75 rfl
    (sq_callV (d := 6) (d' := 5) (mi' := mi_F_winds) (pc := 76) dX6_windy_76 ml_X6_249 in_F_winds se_F_winds ok_F_winds ar_F_winds (by decide) rfl (by decide) (k_ok_kF G (6) mi_x_windy) (m_F_winds G)
    (sq_callV (d := 6) (d' := 0) (mi' := mi_x_fine) (pc := 79) dX6_windy_79 ml_X6_74 in_x_fine se_x_fine ok_x_fine ar_x_fine (by decide) rfl (by decide) (k_ok_kF G (6) mi_x_windy) (m_x_fine G)
    (sq_iret rfl (pc := 82) dX6_windy_82))))))))))))))))
    (sq_aload_n (pc := 46) dX6_windy_46 rfl
    (sq_iload (pc := 47) dX6_windy_47
    (sq_callV (d := 6) (d' := 0) (mi' := mi_x_found) (pc := 49) dX6_windy_49 ml_X6_66 in_x_found se_x_found ok_x_found ar_x_found (by decide) rfl (by decide) (k_ok_kF G (6) mi_x_windy) (m_x_found G)
    (sq_iret rfl (pc := 52) dX6_windy_52))))))))))))
    (s_x_windy_29 G)))))))
    (s_x_windy_29 G)))))
    (sq_ldc (pc := 7) dX6_windy_7 ct_X6_135
    (sq_iret rfl (pc := 9) dX6_windy_9)))))
theorem m_x_windy (G : GG) : RS kE G 6 mi_x_windy r_x_windy := by
  intro as M v M' h
  unfold r_x_windy at h
  split at h
  · exact mc_of ok_x_windy (s_x_windy_0 G) (k_c1 _ rfl) (Nat.le_of_ble_eq_true rfl) rfl h
  · cases h
set_option maxHeartbeats 10000000 in
set_option maxRecDepth 20000 in
theorem s_x_sorts_29 (G : GG) : Sq kE G (kF G (6) mi_x_sorts) mi_x_sorts 29 (b_x_sorts_29) := by
  unfold b_x_sorts_29
  exact (sq_ldc (pc := 29) dX6_sorts_29 ct_X6_65
    (sq_iret rfl (pc := 31) dX6_sorts_31))
set_option maxHeartbeats 10000000 in
set_option maxRecDepth 20000 in
theorem s_x_sorts_0 (G : GG) : Sq kE G (kF G (6) mi_x_sorts) mi_x_sorts 0 b_x_sorts_0 := by
  unfold b_x_sorts_0
  exact (sq_aload_n (pc := 0) dX6_sorts_0 rfl
    (sq_iload_n (pc := 1) dX6_sorts_1 rfl
    (sq_callV (d := 6) (d' := 0) (mi' := mi_x_noSleeper) (pc := 2) dX6_sorts_2 ml_X6_161 in_x_noSleeper se_x_noSleeper ok_x_noSleeper ar_x_noSleeper (by decide) rfl (by decide) (k_ok_kF G (6) mi_x_sorts) (m_x_noSleeper G)
    (sq_ifne (pc := 5) dX6_sorts_5 (tgt := 29) rfl
    (sq_aload_n (pc := 8) dX6_sorts_8 rfl
    (sq_iload_n (pc := 9) dX6_sorts_9 rfl
    (sq_callV (d := 6) (d' := 0) (mi' := mi_x_noRow) (pc := 10) dX6_sorts_10 ml_X6_61 in_x_noRow se_x_noRow ok_x_noRow ar_x_noRow (by decide) rfl (by decide) (k_ok_kF G (6) mi_x_sorts) (m_x_noRow G)
    (sq_ifne (pc := 13) dX6_sorts_13 (tgt := 29) rfl
    (sq_iload (pc := 16) dX6_sorts_16
    (sq_iconst (pc := 18) dX6_sorts_18 kc_i_1
    (sq_clt (pc := 19) dX6_sorts_19 (tgt := 29) rfl
    (s_x_sorts_29 G)
    (sq_iload (pc := 22) dX6_sorts_22
    (sq_bipush (pc := 24) dX6_sorts_24 kc_b_16
    (sq_cle (pc := 26) dX6_sorts_26 (tgt := 32) rfl
    (sq_aload_n (pc := 32) dX6_sorts_32 rfl
    (sq_iload_n (pc := 33) dX6_sorts_33 rfl
    (sq_iload_n (pc := 34) dX6_sorts_34 rfl
    (sq_iload (pc := 35) dX6_sorts_35
    (sq_callV (d := 6) (d' := 1) (mi' := mi_x_unreadable) (pc := 37) dX6_sorts_37 ml_X6_240 in_x_unreadable se_x_unreadable ok_x_unreadable ar_x_unreadable (by decide) rfl (by decide) (k_ok_kF G (6) mi_x_sorts) (m_x_unreadable G)
    (sq_istore (pc := 40) dX6_sorts_40
    (sq_iload (pc := 42) dX6_sorts_42
    (sq_ifeq (pc := 44) dX6_sorts_44 (tgt := 54) rfl
    (sq_aload_n (pc := 54) dX6_sorts_54 rfl
    (sq_aload_n (pc := 55) dX6_sorts_55 rfl
    (sq_getr (pc := 56) dX6_sorts_56 fl_X6_46 rfl rfl (by decide)
    (sq_aload_n (pc := 59) dX6_sorts_59 rfl
    (sq_getr (pc := 60) dX6_sorts_60 fl_X6_26 rfl rfl (by decide)
    (sq_iload_n (pc := 63) dX6_sorts_63 rfl
    (sq_aload_n (pc := 64) dX6_sorts_64 rfl
    (sq_getr (pc := 65) dX6_sorts_65 fl_X6_10 rfl rfl (by decide)
    (sq_aload_n (pc := 68) dX6_sorts_68 rfl
    (sq_getr (pc := 69) dX6_sorts_69 fl_X6_10 rfl rfl (by decide)
    (sq_iload_n (pc := 72) dX6_sorts_72 rfl
    (sq_iload_n (pc := 73) dX6_sorts_73 rfl
    (sq_callV (d := 6) (d' := 0) (mi' := mi_W_placeOf) (pc := 74) dX6_sorts_74 ml_X6_243 in_W_placeOf se_W_placeOf ok_W_placeOf ar_W_placeOf (by decide) rfl (by decide) (k_ok_kF G (6) mi_x_sorts) (m_W_placeOf G)
    (sq_iload (pc := 77) dX6_sorts_77
    (sq_callV (d := 6) (d' := 5) (mi' := mi_F_kinds) (pc := 79) dX6_sorts_79 ml_X6_252 in_F_kinds se_F_kinds ok_F_kinds ar_F_kinds (by decide) rfl (by decide) (k_ok_kF G (6) mi_x_sorts) (m_F_kinds G)
    (sq_callV (d := 6) (d' := 0) (mi' := mi_x_fine) (pc := 82) dX6_sorts_82 ml_X6_74 in_x_fine se_x_fine ok_x_fine ar_x_fine (by decide) rfl (by decide) (k_ok_kF G (6) mi_x_sorts) (m_x_fine G)
    (sq_iret rfl (pc := 85) dX6_sorts_85)))))))))))))))))
    (sq_aload_n (pc := 47) dX6_sorts_47 rfl
    (sq_iload (pc := 48) dX6_sorts_48
    (sq_callV (d := 6) (d' := 0) (mi' := mi_x_found) (pc := 50) dX6_sorts_50 ml_X6_66 in_x_found se_x_found ok_x_found ar_x_found (by decide) rfl (by decide) (k_ok_kF G (6) mi_x_sorts) (m_x_found G)
    (sq_iret rfl (pc := 53) dX6_sorts_53))))))))))))
    (s_x_sorts_29 G)))))))
    (s_x_sorts_29 G)))))
    (s_x_sorts_29 G)))))
theorem m_x_sorts (G : GG) : RS kE G 6 mi_x_sorts r_x_sorts := by
  intro as M v M' h
  unfold r_x_sorts at h
  split at h
  · exact mc_of ok_x_sorts (s_x_sorts_0 G) (k_c1 _ rfl) (Nat.le_of_ble_eq_true rfl) rfl h
  · cases h
set_option maxHeartbeats 10000000 in
set_option maxRecDepth 20000 in
theorem s_x_greatestShared_34 (G : GG) : Sq kE G (kF G (0) mi_x_greatestShared) mi_x_greatestShared 34 (b_x_greatestShared_34) := by
  unfold b_x_greatestShared_34
  exact (sq_iload_n (pc := 34) dX6_greatestShared_34 rfl
    (sq_iret rfl (pc := 35) dX6_greatestShared_35))
set_option maxHeartbeats 10000000 in
set_option maxRecDepth 20000 in
theorem s_x_greatestShared_7 (G : GG) (n : Nat) : Sq kE G (kF G (0) mi_x_greatestShared) mi_x_greatestShared 7 (b_x_greatestShared_7 n) := by
  induction n with
  | zero => exact sq_none
  | succ n ih =>
    unfold b_x_greatestShared_7
    exact (sq_iload (pc := 7) dX6_greatestShared_7
    (sq_bipush (pc := 9) dX6_greatestShared_9 kc_b_64
    (sq_cge (pc := 11) dX6_greatestShared_11 (tgt := 34) rfl
    (s_x_greatestShared_34 G)
    (sq_iload_n (pc := 14) dX6_greatestShared_14 rfl
    (sq_ifle (pc := 15) dX6_greatestShared_15 (tgt := 34) rfl
    (s_x_greatestShared_34 G)
    (sq_iload_n (pc := 18) dX6_greatestShared_18 rfl
    (sq_iload_n (pc := 19) dX6_greatestShared_19 rfl
    (sq_irem (pc := 20) dX6_greatestShared_20
    (sq_istore (pc := 21) dX6_greatestShared_21
    (sq_iload_n (pc := 23) dX6_greatestShared_23 rfl
    (sq_istore_n (pc := 24) dX6_greatestShared_24 rfl
    (sq_iload (pc := 25) dX6_greatestShared_25
    (sq_istore_n (pc := 27) dX6_greatestShared_27 rfl
    (sq_iinc (pc := 28) dX6_greatestShared_28 rfl
    (sq_goto (pc := 31) dX6_greatestShared_31 (tgt := 7) rfl ih)))))))))))))))
set_option maxHeartbeats 10000000 in
set_option maxRecDepth 20000 in
theorem s_x_greatestShared_0 (G : GG) : Sq kE G (kF G (0) mi_x_greatestShared) mi_x_greatestShared 0 b_x_greatestShared_0 := by
  unfold b_x_greatestShared_0
  exact (sq_iload_n (pc := 0) dX6_greatestShared_0 rfl
    (sq_istore_n (pc := 1) dX6_greatestShared_1 rfl
    (sq_iload_n (pc := 2) dX6_greatestShared_2 rfl
    (sq_istore_n (pc := 3) dX6_greatestShared_3 rfl
    (sq_iconst (pc := 4) dX6_greatestShared_4 kc_i_0
    (sq_istore (pc := 5) dX6_greatestShared_5
    (s_x_greatestShared_7 G k_fu)))))))
theorem m_x_greatestShared (G : GG) : RS kE G 0 mi_x_greatestShared r_x_greatestShared := by
  intro as M v M' h
  unfold r_x_greatestShared at h
  split at h
  · exact mc_of ok_x_greatestShared (s_x_greatestShared_0 G) (k_c1 _ rfl) (Nat.le_of_ble_eq_true rfl) rfl h
  · cases h
set_option maxHeartbeats 10000000 in
set_option maxRecDepth 20000 in
theorem s_x_stay_37 (G : GG) : Sq kE G (kF G (6) mi_x_stay) mi_x_stay 37 (b_x_stay_37) := by
  unfold b_x_stay_37
  exact (sq_ldc (pc := 37) dX6_stay_37 ct_X6_65
    (sq_iret rfl (pc := 39) dX6_stay_39))
set_option maxHeartbeats 10000000 in
set_option maxRecDepth 20000 in
theorem s_x_stay_117 (G : GG) : Sq kE G (kF G (6) mi_x_stay) mi_x_stay 117 (b_x_stay_117) := by
  unfold b_x_stay_117
  exact (sq_iload (pc := 117) dX6_stay_117
    (sq_idiv (pc := 119) dX6_stay_119
    (sq_iret rfl (pc := 120) dX6_stay_120)))
set_option maxHeartbeats 10000000 in
set_option maxRecDepth 20000 in
theorem s_x_stay_62 (G : GG) (n : Nat) : Sq kE G (kF G (6) mi_x_stay) mi_x_stay 62 (b_x_stay_62 n) := by
  induction n with
  | zero => exact sq_none
  | succ n ih =>
    unfold b_x_stay_62
    exact (sq_iload (pc := 62) dX6_stay_62
    (sq_aload_n (pc := 64) dX6_stay_64 rfl
    (sq_getr (pc := 65) dX6_stay_65 fl_X6_26 rfl rfl (by decide)
    (sq_geti (pc := 68) dX6_stay_68 fl_X6_148 rfl
    (sq_cge (pc := 71) dX6_stay_71 (tgt := 87) rfl
    (sq_iload (pc := 87) dX6_stay_87
    (sq_iload (pc := 89) dX6_stay_89
    (sq_callS (d := 6) (d' := 0) (mi' := mi_x_greatestShared) (pc := 91) dX6_stay_91 ml_X6_260 st_x_greatestShared ok_x_greatestShared ar_x_greatestShared (by decide) (k_ok_kF G (6) mi_x_stay) (m_x_greatestShared G)
    (sq_istore (pc := 94) dX6_stay_94
    (sq_iload (pc := 96) dX6_stay_96
    (sq_iconst (pc := 98) dX6_stay_98 kc_i_1
    (sq_cge (pc := 99) dX6_stay_99 (tgt := 105) rfl
    (sq_iload (pc := 105) dX6_stay_105
    (sq_ifne (pc := 107) dX6_stay_107 (tgt := 115) rfl
    (sq_iload (pc := 110) dX6_stay_110
    (sq_goto (pc := 112) dX6_stay_112 (tgt := 117) rfl (s_x_stay_117 G)))
    (sq_iload (pc := 115) dX6_stay_115
    (s_x_stay_117 G))))
    (sq_ldc (pc := 102) dX6_stay_102 ct_X6_65
    (sq_iret rfl (pc := 104) dX6_stay_104)))))))))
    (sq_iload (pc := 74) dX6_stay_74
    (sq_bipush (pc := 76) dX6_stay_76 kc_b_10
    (sq_imul (pc := 78) dX6_stay_78
    (sq_istore (pc := 79) dX6_stay_79
    (sq_iinc (pc := 81) dX6_stay_81 rfl
    (sq_goto (pc := 84) dX6_stay_84 (tgt := 62) rfl ih)))))))))))
set_option maxHeartbeats 10000000 in
set_option maxRecDepth 20000 in
theorem s_x_stay_0 (G : GG) : Sq kE G (kF G (6) mi_x_stay) mi_x_stay 0 b_x_stay_0 := by
  unfold b_x_stay_0
  exact (sq_aload_n (pc := 0) dX6_stay_0 rfl
    (sq_iload_n (pc := 1) dX6_stay_1 rfl
    (sq_callV (d := 6) (d' := 0) (mi' := mi_x_noSleeper) (pc := 2) dX6_stay_2 ml_X6_161 in_x_noSleeper se_x_noSleeper ok_x_noSleeper ar_x_noSleeper (by decide) rfl (by decide) (k_ok_kF G (6) mi_x_stay) (m_x_noSleeper G)
    (sq_ifne (pc := 5) dX6_stay_5 (tgt := 37) rfl
    (sq_aload_n (pc := 8) dX6_stay_8 rfl
    (sq_iload_n (pc := 9) dX6_stay_9 rfl
    (sq_callV (d := 6) (d' := 0) (mi' := mi_x_tooFar) (pc := 10) dX6_stay_10 ml_X6_200 in_x_tooFar se_x_tooFar ok_x_tooFar ar_x_tooFar (by decide) rfl (by decide) (k_ok_kF G (6) mi_x_stay) (m_x_tooFar G)
    (sq_ifne (pc := 13) dX6_stay_13 (tgt := 37) rfl
    (sq_iload_n (pc := 16) dX6_stay_16 rfl
    (sq_iflt (pc := 17) dX6_stay_17 (tgt := 37) rfl
    (s_x_stay_37 G)
    (sq_iload_n (pc := 20) dX6_stay_20 rfl
    (sq_bipush (pc := 21) dX6_stay_21 kc_b_10
    (sq_cgt (pc := 23) dX6_stay_23 (tgt := 37) rfl
    (s_x_stay_37 G)
    (sq_iload (pc := 26) dX6_stay_26
    (sq_iflt (pc := 28) dX6_stay_28 (tgt := 37) rfl
    (s_x_stay_37 G)
    (sq_iload (pc := 31) dX6_stay_31
    (sq_iconst (pc := 33) dX6_stay_33 kc_i_1
    (sq_cle (pc := 34) dX6_stay_34 (tgt := 40) rfl
    (sq_aload_n (pc := 40) dX6_stay_40 rfl
    (sq_getr (pc := 41) dX6_stay_41 fl_X6_46 rfl rfl (by decide)
    (sq_aload_n (pc := 44) dX6_stay_44 rfl
    (sq_getr (pc := 45) dX6_stay_45 fl_X6_26 rfl rfl (by decide)
    (sq_iload_n (pc := 48) dX6_stay_48 rfl
    (sq_iload_n (pc := 49) dX6_stay_49 rfl
    (sq_iload_n (pc := 50) dX6_stay_50 rfl
    (sq_callV (d := 6) (d' := 5) (mi' := mi_F_chance) (pc := 51) dX6_stay_51 ml_X6_256 in_F_chance se_F_chance ok_F_chance ar_F_chance (by decide) rfl (by decide) (k_ok_kF G (6) mi_x_stay) (m_F_chance G)
    (sq_istore (pc := 54) dX6_stay_54
    (sq_iconst (pc := 56) dX6_stay_56 kc_i_1
    (sq_istore (pc := 57) dX6_stay_57
    (sq_iconst (pc := 59) dX6_stay_59 kc_i_1
    (sq_istore (pc := 60) dX6_stay_60
    (s_x_stay_62 G k_fu))))))))))))))
    (s_x_stay_37 G)))))))))))
    (s_x_stay_37 G)))))
    (s_x_stay_37 G)))))
theorem m_x_stay (G : GG) : RS kE G 6 mi_x_stay r_x_stay := by
  intro as M v M' h
  unfold r_x_stay at h
  split at h
  · exact mc_of ok_x_stay (s_x_stay_0 G) (k_c1 _ rfl) (Nat.le_of_ble_eq_true rfl) rfl h
  · cases h
set_option maxHeartbeats 10000000 in
set_option maxRecDepth 20000 in
theorem s_x_imageOf_15 (G : GG) : Sq kE G (kF G (0) mi_x_imageOf) mi_x_imageOf 15 (b_x_imageOf_15) := by
  unfold b_x_imageOf_15
  exact (sq_aret rfl (pc := 15) dX6_imageOf_15)
set_option maxHeartbeats 10000000 in
set_option maxRecDepth 20000 in
theorem s_x_imageOf_0 (G : GG) : Sq kE G (kF G (0) mi_x_imageOf) mi_x_imageOf 0 b_x_imageOf_0 := by
  unfold b_x_imageOf_0
  exact (sq_iload_n (pc := 0) dX6_imageOf_0 rfl
    (sq_ifne (pc := 1) dX6_imageOf_1 (tgt := 11) rfl
    (sq_aload_n (pc := 4) dX6_imageOf_4 rfl
    (sq_getr (pc := 5) dX6_imageOf_5 fl_X6_30 rfl rfl (by decide)
    (sq_goto (pc := 8) dX6_imageOf_8 (tgt := 15) rfl (s_x_imageOf_15 G))))
    (sq_aload_n (pc := 11) dX6_imageOf_11 rfl
    (sq_getr (pc := 12) dX6_imageOf_12 fl_X6_33 rfl rfl (by decide)
    (s_x_imageOf_15 G)))))
theorem m_x_imageOf (G : GG) : RS kE G 0 mi_x_imageOf r_x_imageOf := by
  intro as M v M' h
  unfold r_x_imageOf at h
  split at h
  · exact mc_of ok_x_imageOf (s_x_imageOf_0 G) (k_c1 _ rfl) (Nat.le_of_ble_eq_true rfl) rfl h
  · cases h
set_option maxHeartbeats 10000000 in
set_option maxRecDepth 20000 in
theorem s_x_image_9 (G : GG) : Sq kE G (kF G (3) mi_x_image) mi_x_image 9 (b_x_image_9) := by
  unfold b_x_image_9
  exact (sq_ldc (pc := 9) dX6_image_9 ct_X6_65
    (sq_iret rfl (pc := 11) dX6_image_11))
set_option maxHeartbeats 10000000 in
set_option maxRecDepth 20000 in
theorem s_x_image_0 (G : GG) : Sq kE G (kF G (3) mi_x_image) mi_x_image 0 b_x_image_0 := by
  unfold b_x_image_0
  exact (sq_iload_n (pc := 0) dX6_image_0 rfl
    (sq_iflt (pc := 1) dX6_image_1 (tgt := 9) rfl
    (s_x_image_9 G)
    (sq_iload_n (pc := 4) dX6_image_4 rfl
    (sq_iconst (pc := 5) dX6_image_5 kc_i_2
    (sq_clt (pc := 6) dX6_image_6 (tgt := 12) rfl
    (sq_aload_n (pc := 12) dX6_image_12 rfl
    (sq_callV (d := 3) (d' := 0) (mi' := mi_x_noSquare) (pc := 13) dX6_image_13 ml_X6_131 in_x_noSquare se_x_noSquare ok_x_noSquare ar_x_noSquare (by decide) rfl (by decide) (k_ok_kF G (3) mi_x_image) (m_x_noSquare G)
    (sq_ifeq (pc := 16) dX6_image_16 (tgt := 22) rfl
    (sq_aload_n (pc := 22) dX6_image_22 rfl
    (sq_iload_n (pc := 23) dX6_image_23 rfl
    (sq_callV (d := 3) (d' := 0) (mi' := mi_x_imageOf) (pc := 24) dX6_image_24 ml_X6_263 in_x_imageOf se_x_imageOf ok_x_imageOf ar_x_imageOf (by decide) rfl (by decide) (k_ok_kF G (3) mi_x_image) (m_x_imageOf G)
    (sq_aload_n (pc := 27) dX6_image_27 rfl
    (sq_getr (pc := 28) dX6_image_28 fl_X6_26 rfl rfl (by decide)
    (sq_callV (d := 3) (d' := 2) (mi' := mi_S_become) (pc := 31) dX6_image_31 ml_X6_118 in_S_become se_S_become ok_S_become ar_S_become (by decide) rfl (by decide) (k_ok_kF G (3) mi_x_image) (m_S_become G)
    (sq_iconst (pc := 34) dX6_image_34 kc_i_1
    (sq_iret rfl (pc := 35) dX6_image_35))))))))
    (sq_ldc (pc := 19) dX6_image_19 ct_X6_135
    (sq_iret rfl (pc := 21) dX6_image_21)))))
    (s_x_image_9 G))))))
theorem m_x_image (G : GG) : RS kE G 3 mi_x_image r_x_image := by
  intro as M v M' h
  unfold r_x_image at h
  split at h
  · exact mc_of ok_x_image (s_x_image_0 G) (k_c1 _ rfl) (Nat.le_of_ble_eq_true rfl) rfl h
  · cases h
set_option maxHeartbeats 10000000 in
set_option maxRecDepth 20000 in
theorem s_x_restore_9 (G : GG) : Sq kE G (kF G (3) mi_x_restore) mi_x_restore 9 (b_x_restore_9) := by
  unfold b_x_restore_9
  exact (sq_ldc (pc := 9) dX6_restore_9 ct_X6_65
    (sq_iret rfl (pc := 11) dX6_restore_11))
set_option maxHeartbeats 10000000 in
set_option maxRecDepth 20000 in
theorem s_x_restore_0 (G : GG) : Sq kE G (kF G (3) mi_x_restore) mi_x_restore 0 b_x_restore_0 := by
  unfold b_x_restore_0
  exact (sq_iload_n (pc := 0) dX6_restore_0 rfl
    (sq_iflt (pc := 1) dX6_restore_1 (tgt := 9) rfl
    (s_x_restore_9 G)
    (sq_iload_n (pc := 4) dX6_restore_4 rfl
    (sq_iconst (pc := 5) dX6_restore_5 kc_i_2
    (sq_clt (pc := 6) dX6_restore_6 (tgt := 12) rfl
    (sq_aload_n (pc := 12) dX6_restore_12 rfl
    (sq_iload_n (pc := 13) dX6_restore_13 rfl
    (sq_callV (d := 3) (d' := 0) (mi' := mi_x_imageOf) (pc := 14) dX6_restore_14 ml_X6_263 in_x_imageOf se_x_imageOf ok_x_imageOf ar_x_imageOf (by decide) rfl (by decide) (k_ok_kF G (3) mi_x_restore) (m_x_imageOf G)
    (sq_geti (pc := 17) dX6_restore_17 fl_X6_148 rfl
    (sq_ifne (pc := 20) dX6_restore_20 (tgt := 26) rfl
    (sq_ldc (pc := 23) dX6_restore_23 ct_X6_135
    (sq_iret rfl (pc := 25) dX6_restore_25))
    (sq_aload_n (pc := 26) dX6_restore_26 rfl
    (sq_getr (pc := 27) dX6_restore_27 fl_X6_26 rfl rfl (by decide)
    (sq_aload_n (pc := 30) dX6_restore_30 rfl
    (sq_iload_n (pc := 31) dX6_restore_31 rfl
    (sq_callV (d := 3) (d' := 0) (mi' := mi_x_imageOf) (pc := 32) dX6_restore_32 ml_X6_263 in_x_imageOf se_x_imageOf ok_x_imageOf ar_x_imageOf (by decide) rfl (by decide) (k_ok_kF G (3) mi_x_restore) (m_x_imageOf G)
    (sq_callV (d := 3) (d' := 2) (mi' := mi_S_become) (pc := 35) dX6_restore_35 ml_X6_118 in_S_become se_S_become ok_S_become ar_S_become (by decide) rfl (by decide) (k_ok_kF G (3) mi_x_restore) (m_S_become G)
    (sq_aload_n (pc := 38) dX6_restore_38 rfl
    (sq_getr (pc := 39) dX6_restore_39 fl_X6_39 rfl rfl (by decide)
    (sq_callV (d := 3) (d' := 0) (mi' := mi_A_forget) (pc := 42) dX6_restore_42 ml_X6_122 in_A_forget se_A_forget ok_A_forget ar_A_forget (by decide) rfl (by decide) (k_ok_kF G (3) mi_x_restore) (m_A_forget G)
    (sq_iconst (pc := 45) dX6_restore_45 kc_i_1
    (sq_iret rfl (pc := 46) dX6_restore_46))))))))))))))))
    (s_x_restore_9 G))))))
theorem m_x_restore (G : GG) : RS kE G 3 mi_x_restore r_x_restore := by
  intro as M v M' h
  unfold r_x_restore at h
  split at h
  · exact mc_of ok_x_restore (s_x_restore_0 G) (k_c1 _ rfl) (Nat.le_of_ble_eq_true rfl) rfl h
  · cases h
set_option maxHeartbeats 10000000 in
set_option maxRecDepth 20000 in
theorem s_x_kind_0 (G : GG) : Sq kE G (kF G (1) mi_x_kind) mi_x_kind 0 b_x_kind_0 := by
  unfold b_x_kind_0
  exact (sq_aload_n (pc := 0) dX6_kind_0 rfl
    (sq_iload_n (pc := 1) dX6_kind_1 rfl
    (sq_callV (d := 1) (d' := 0) (mi' := mi_x_noSleeper) (pc := 2) dX6_kind_2 ml_X6_161 in_x_noSleeper se_x_noSleeper ok_x_noSleeper ar_x_noSleeper (by decide) rfl (by decide) (k_ok_kF G (1) mi_x_kind) (m_x_noSleeper G)
    (sq_ifeq (pc := 5) dX6_kind_5 (tgt := 11) rfl
    (sq_aload_n (pc := 11) dX6_kind_11 rfl
    (sq_getr (pc := 12) dX6_kind_12 fl_X6_26 rfl rfl (by decide)
    (sq_getr (pc := 15) dX6_kind_15 fl_X6_267 rfl rfl (by decide)
    (sq_iload_n (pc := 18) dX6_kind_18 rfl
    (sq_iald (pc := 19) dX6_kind_19
    (sq_iret rfl (pc := 20) dX6_kind_20))))))
    (sq_ldc (pc := 8) dX6_kind_8 ct_X6_65
    (sq_iret rfl (pc := 10) dX6_kind_10))))))
theorem m_x_kind (G : GG) : RS kE G 1 mi_x_kind r_x_kind := by
  intro as M v M' h
  unfold r_x_kind at h
  split at h
  · exact mc_of ok_x_kind (s_x_kind_0 G) (k_c1 _ rfl) (Nat.le_of_ble_eq_true rfl) rfl h
  · cases h
set_option maxHeartbeats 10000000 in
set_option maxRecDepth 20000 in
theorem s_x_isOne_44 (G : GG) : Sq kE G (kF G (0) mi_x_isOne) mi_x_isOne 44 (b_x_isOne_44) := by
  unfold b_x_isOne_44
  exact (sq_zret rfl (pc := 44) dX6_isOne_44)
set_option maxHeartbeats 10000000 in
set_option maxRecDepth 20000 in
theorem s_x_isOne_35 (G : GG) : Sq kE G (kF G (0) mi_x_isOne) mi_x_isOne 35 (b_x_isOne_35) := by
  unfold b_x_isOne_35
  exact (sq_iload_n (pc := 35) dX6_isOne_35 rfl
    (sq_ifne (pc := 36) dX6_isOne_36 (tgt := 43) rfl
    (sq_iconst (pc := 39) dX6_isOne_39 kc_i_1
    (sq_goto (pc := 40) dX6_isOne_40 (tgt := 44) rfl (s_x_isOne_44 G)))
    (sq_iconst (pc := 43) dX6_isOne_43 kc_i_0
    (s_x_isOne_44 G))))
set_option maxHeartbeats 10000000 in
set_option maxRecDepth 20000 in
theorem s_x_isOne_4 (G : GG) (n : Nat) : Sq kE G (kF G (0) mi_x_isOne) mi_x_isOne 4 (b_x_isOne_4 n) := by
  induction n with
  | zero => exact sq_none
  | succ n ih =>
    unfold b_x_isOne_4
    exact (sq_iload_n (pc := 4) dX6_isOne_4 rfl
    (sq_gets0 (pc := 5) dX6_isOne_5 (List.mem_append_right _ (List.mem_append_right _ (List.mem_append_right _ (List.mem_append_left _ (List.mem_of_getElem? (i := 188) rfl)))))
    (sq_salen (pc := 8) dX6_isOne_8
    (sq_cge (pc := 9) dX6_isOne_9 (tgt := 35) rfl
    (s_x_isOne_35 G)
    (sq_iload_n (pc := 12) dX6_isOne_12 rfl
    (sq_ifeq (pc := 13) dX6_isOne_13 (tgt := 35) rfl
    (s_x_isOne_35 G)
    (sq_iload_n (pc := 16) dX6_isOne_16 rfl
    (sq_iload_n (pc := 17) dX6_isOne_17 rfl
    (sq_cne (pc := 18) dX6_isOne_18 (tgt := 23) rfl
    (sq_iconst (pc := 21) dX6_isOne_21 kc_i_1
    (sq_zret rfl (pc := 22) dX6_isOne_22))
    (sq_gets0 (pc := 23) dX6_isOne_23 (List.mem_append_right _ (List.mem_append_right _ (List.mem_append_right _ (List.mem_append_left _ (List.mem_of_getElem? (i := 188) rfl)))))
    (sq_iload_n (pc := 26) dX6_isOne_26 rfl
    (sq_sald (pc := 27) dX6_isOne_27
    (sq_istore_n (pc := 28) dX6_isOne_28 rfl
    (sq_iinc (pc := 29) dX6_isOne_29 rfl
    (sq_goto (pc := 32) dX6_isOne_32 (tgt := 4) rfl ih)))))))))))))))
set_option maxHeartbeats 10000000 in
set_option maxRecDepth 20000 in
theorem s_x_isOne_0 (G : GG) : Sq kE G (kF G (0) mi_x_isOne) mi_x_isOne 0 b_x_isOne_0 := by
  unfold b_x_isOne_0
  exact (sq_iload_n (pc := 0) dX6_isOne_0 rfl
    (sq_istore_n (pc := 1) dX6_isOne_1 rfl
    (sq_iconst (pc := 2) dX6_isOne_2 kc_i_0
    (sq_istore_n (pc := 3) dX6_isOne_3 rfl
    (s_x_isOne_4 G k_fu)))))
theorem m_x_isOne (G : GG) : RS kE G 0 mi_x_isOne r_x_isOne := by
  intro as M v M' h
  unfold r_x_isOne at h
  split at h
  · exact mc_of ok_x_isOne (s_x_isOne_0 G) (k_c1 _ rfl) (Nat.le_of_ble_eq_true rfl) rfl h
  · cases h
