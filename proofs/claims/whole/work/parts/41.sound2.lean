/-! ===== the machine does what the functions say ===== -/
set_option maxHeartbeats 10000000 in
set_option maxRecDepth 20000 in
theorem s_F_winds_55 (G : GG) {k11 : Kt Mi} (h11 : Sq kE G (kF G (5) mi_F_winds) mi_F_winds 11 k11) : Sq kE G (kF G (5) mi_F_winds) mi_F_winds 55 (b_F_winds_55 k11) := by
  unfold b_F_winds_55
  exact (sq_iinc (pc := 55) dX2_winds_55 rfl
    (sq_goto (pc := 58) dX2_winds_58 (tgt := 11) rfl h11))
set_option maxHeartbeats 10000000 in
set_option maxRecDepth 20000 in
theorem s_F_winds_11 (G : GG) (n : Nat) : Sq kE G (kF G (5) mi_F_winds) mi_F_winds 11 (b_F_winds_11 n) := by
  induction n with
  | zero => exact sq_none
  | succ n ih =>
    unfold b_F_winds_11
    exact (sq_iload (pc := 11) dX2_winds_11
    (sq_bipush (pc := 13) dX2_winds_13 kc_b_10
    (sq_cge (pc := 15) dX2_winds_15 (tgt := 61) rfl
    (sq_iload (pc := 61) dX2_winds_61
    (sq_iret rfl (pc := 63) dX2_winds_63))
    (sq_aload_n (pc := 18) dX2_winds_18 rfl
    (sq_getr (pc := 19) dX2_winds_19 fl_X2_12 rfl rfl (by decide)
    (sq_aload_n (pc := 22) dX2_winds_22 rfl
    (sq_callV (d := 5) (d' := 1) (mi' := mi_S_goBackTo) (pc := 23) dX2_winds_23 ml_X2_59 in_S_goBackTo se_S_goBackTo ok_S_goBackTo ar_S_goBackTo (by decide) rfl (by decide) (k_ok_kF G (5) mi_F_winds) (m_S_goBackTo G)
    (sq_aload_n (pc := 26) dX2_winds_26 rfl
    (sq_getr (pc := 27) dX2_winds_27 fl_X2_12 rfl rfl (by decide)
    (sq_iload (pc := 30) dX2_winds_30
    (sq_puti (pc := 32) dX2_winds_32 fl_X2_87 rfl rfl
    (sq_aload_n (pc := 35) dX2_winds_35 rfl
    (sq_aload_n (pc := 36) dX2_winds_36 rfl
    (sq_iload_n (pc := 37) dX2_winds_37 rfl
    (sq_iload (pc := 38) dX2_winds_38
    (sq_callV (d := 5) (d' := 4) (mi' := mi_F_goesSo) (pc := 40) dX2_winds_40 ml_X2_83 in_F_goesSo se_F_goesSo ok_F_goesSo ar_F_goesSo (by decide) rfl (by decide) (k_ok_kF G (5) mi_F_winds) (m_F_goesSo G)
    (sq_ifeq (pc := 43) dX2_winds_43 (tgt := 55) rfl
    (s_F_winds_55 G ih)
    (sq_iload (pc := 46) dX2_winds_46
    (sq_iconst (pc := 48) dX2_winds_48 kc_i_1
    (sq_iload (pc := 49) dX2_winds_49
    (sq_ishl (pc := 51) dX2_winds_51
    (sq_ior (pc := 52) dX2_winds_52
    (sq_istore (pc := 53) dX2_winds_53
    (s_F_winds_55 G ih))))))))))))))))))))))))
set_option maxHeartbeats 10000000 in
set_option maxRecDepth 20000 in
theorem s_F_winds_0 (G : GG) : Sq kE G (kF G (5) mi_F_winds) mi_F_winds 0 b_F_winds_0 := by
  unfold b_F_winds_0
  exact (sq_iconst (pc := 0) dX2_winds_0 kc_i_0
    (sq_istore (pc := 1) dX2_winds_1
    (sq_aload_n (pc := 3) dX2_winds_3 rfl
    (sq_aload_n (pc := 4) dX2_winds_4 rfl
    (sq_callV (d := 5) (d' := 3) (mi' := mi_F_begin) (pc := 5) dX2_winds_5 ml_X2_53 in_F_begin se_F_begin ok_F_begin ar_F_begin (by decide) rfl (by decide) (k_ok_kF G (5) mi_F_winds) (m_F_begin G)
    (sq_iconst (pc := 8) dX2_winds_8 kc_i_0
    (sq_istore (pc := 9) dX2_winds_9
    (s_F_winds_11 G k_fu))))))))
theorem m_F_winds (G : GG) : RS kE G 5 mi_F_winds r_F_winds := by
  intro as M v M' h
  unfold r_F_winds at h
  split at h
  · exact mc_of ok_F_winds (s_F_winds_0 G) (k_c1 _ rfl) (Nat.le_of_ble_eq_true rfl) rfl h
  · cases h
set_option maxHeartbeats 10000000 in
set_option maxRecDepth 20000 in
theorem s_F_kinds_57 (G : GG) {k11 : Kt Mi} (h11 : Sq kE G (kF G (5) mi_F_kinds) mi_F_kinds 11 k11) : Sq kE G (kF G (5) mi_F_kinds) mi_F_kinds 57 (b_F_kinds_57 k11) := by
  unfold b_F_kinds_57
  exact (sq_iinc (pc := 57) dX2_kinds_57 rfl
    (sq_goto (pc := 60) dX2_kinds_60 (tgt := 11) rfl h11))
set_option maxHeartbeats 10000000 in
set_option maxRecDepth 20000 in
theorem s_F_kinds_11 (G : GG) (n : Nat) : Sq kE G (kF G (5) mi_F_kinds) mi_F_kinds 11 (b_F_kinds_11 n) := by
  induction n with
  | zero => exact sq_none
  | succ n ih =>
    unfold b_F_kinds_11
    exact (sq_iload (pc := 11) dX2_kinds_11
    (sq_iconst (pc := 13) dX2_kinds_13 kc_i_5
    (sq_cgt (pc := 14) dX2_kinds_14 (tgt := 63) rfl
    (sq_iload (pc := 63) dX2_kinds_63
    (sq_iret rfl (pc := 65) dX2_kinds_65))
    (sq_aload_n (pc := 17) dX2_kinds_17 rfl
    (sq_getr (pc := 18) dX2_kinds_18 fl_X2_12 rfl rfl (by decide)
    (sq_aload_n (pc := 21) dX2_kinds_21 rfl
    (sq_callV (d := 5) (d' := 1) (mi' := mi_S_goBackTo) (pc := 22) dX2_kinds_22 ml_X2_59 in_S_goBackTo se_S_goBackTo ok_S_goBackTo ar_S_goBackTo (by decide) rfl (by decide) (k_ok_kF G (5) mi_F_kinds) (m_S_goBackTo G)
    (sq_aload_n (pc := 25) dX2_kinds_25 rfl
    (sq_getr (pc := 26) dX2_kinds_26 fl_X2_12 rfl rfl (by decide)
    (sq_getr (pc := 29) dX2_kinds_29 fl_X2_90 rfl rfl (by decide)
    (sq_iload_n (pc := 32) dX2_kinds_32 rfl
    (sq_iload (pc := 33) dX2_kinds_33
    (sq_iast (pc := 35) dX2_kinds_35
    (sq_aload_n (pc := 36) dX2_kinds_36 rfl
    (sq_aload_n (pc := 37) dX2_kinds_37 rfl
    (sq_iload (pc := 38) dX2_kinds_38
    (sq_iload (pc := 40) dX2_kinds_40
    (sq_callV (d := 5) (d' := 4) (mi' := mi_F_goesSo) (pc := 42) dX2_kinds_42 ml_X2_83 in_F_goesSo se_F_goesSo ok_F_goesSo ar_F_goesSo (by decide) rfl (by decide) (k_ok_kF G (5) mi_F_kinds) (m_F_goesSo G)
    (sq_ifeq (pc := 45) dX2_kinds_45 (tgt := 57) rfl
    (s_F_kinds_57 G ih)
    (sq_iload (pc := 48) dX2_kinds_48
    (sq_iconst (pc := 50) dX2_kinds_50 kc_i_1
    (sq_iload (pc := 51) dX2_kinds_51
    (sq_ishl (pc := 53) dX2_kinds_53
    (sq_ior (pc := 54) dX2_kinds_54
    (sq_istore (pc := 55) dX2_kinds_55
    (s_F_kinds_57 G ih))))))))))))))))))))))))))
set_option maxHeartbeats 10000000 in
set_option maxRecDepth 20000 in
theorem s_F_kinds_0 (G : GG) : Sq kE G (kF G (5) mi_F_kinds) mi_F_kinds 0 b_F_kinds_0 := by
  unfold b_F_kinds_0
  exact (sq_iconst (pc := 0) dX2_kinds_0 kc_i_0
    (sq_istore (pc := 1) dX2_kinds_1
    (sq_aload_n (pc := 3) dX2_kinds_3 rfl
    (sq_aload_n (pc := 4) dX2_kinds_4 rfl
    (sq_callV (d := 5) (d' := 3) (mi' := mi_F_begin) (pc := 5) dX2_kinds_5 ml_X2_53 in_F_begin se_F_begin ok_F_begin ar_F_begin (by decide) rfl (by decide) (k_ok_kF G (5) mi_F_kinds) (m_F_begin G)
    (sq_iconst (pc := 8) dX2_kinds_8 kc_i_1
    (sq_istore (pc := 9) dX2_kinds_9
    (s_F_kinds_11 G k_fu))))))))
theorem m_F_kinds (G : GG) : RS kE G 5 mi_F_kinds r_F_kinds := by
  intro as M v M' h
  unfold r_F_kinds at h
  split at h
  · exact mc_of ok_F_kinds (s_F_kinds_0 G) (k_c1 _ rfl) (Nat.le_of_ble_eq_true rfl) rfl h
  · cases h
set_option maxHeartbeats 10000000 in
set_option maxRecDepth 20000 in
theorem s_F_weight_40 (G : GG) {k6 : Kt Mi} (h6 : Sq kE G (kF G (0) mi_F_weight) mi_F_weight 6 k6) : Sq kE G (kF G (0) mi_F_weight) mi_F_weight 40 (b_F_weight_40 k6) := by
  unfold b_F_weight_40
  exact (sq_iinc (pc := 40) dX2_weight_40 rfl
    (sq_goto (pc := 43) dX2_weight_43 (tgt := 6) rfl h6))
set_option maxHeartbeats 10000000 in
set_option maxRecDepth 20000 in
theorem s_F_weight_37 (G : GG) {k6 : Kt Mi} (h6 : Sq kE G (kF G (0) mi_F_weight) mi_F_weight 6 k6) : Sq kE G (kF G (0) mi_F_weight) mi_F_weight 37 (b_F_weight_37 k6) := by
  unfold b_F_weight_37
  exact (sq_imul (pc := 37) dX2_weight_37
    (sq_istore (pc := 38) dX2_weight_38
    (s_F_weight_40 G h6)))
set_option maxHeartbeats 10000000 in
set_option maxRecDepth 20000 in
theorem s_F_weight_6 (G : GG) (n : Nat) : Sq kE G (kF G (0) mi_F_weight) mi_F_weight 6 (b_F_weight_6 n) := by
  induction n with
  | zero => exact sq_none
  | succ n ih =>
    unfold b_F_weight_6
    exact (sq_iload (pc := 6) dX2_weight_6
    (sq_iload_n (pc := 8) dX2_weight_8 rfl
    (sq_cge (pc := 9) dX2_weight_9 (tgt := 46) rfl
    (sq_iload (pc := 46) dX2_weight_46
    (sq_iret rfl (pc := 48) dX2_weight_48))
    (sq_iload (pc := 12) dX2_weight_12
    (sq_iload_n (pc := 14) dX2_weight_14 rfl
    (sq_ceq (pc := 15) dX2_weight_15 (tgt := 40) rfl
    (s_F_weight_40 G ih)
    (sq_iload (pc := 18) dX2_weight_18
    (sq_iload_n (pc := 20) dX2_weight_20 rfl
    (sq_iload (pc := 21) dX2_weight_21
    (sq_ishr (pc := 23) dX2_weight_23
    (sq_iconst (pc := 24) dX2_weight_24 kc_i_1
    (sq_iand (pc := 25) dX2_weight_25
    (sq_ifne (pc := 26) dX2_weight_26 (tgt := 33) rfl
    (sq_iload_n (pc := 29) dX2_weight_29 rfl
    (sq_goto (pc := 30) dX2_weight_30 (tgt := 37) rfl (s_F_weight_37 G ih)))
    (sq_bipush (pc := 33) dX2_weight_33 kc_b_10
    (sq_iload_n (pc := 35) dX2_weight_35 rfl
    (sq_isub (pc := 36) dX2_weight_36
    (s_F_weight_37 G ih)))))))))))))))))
set_option maxHeartbeats 10000000 in
set_option maxRecDepth 20000 in
theorem s_F_weight_0 (G : GG) : Sq kE G (kF G (0) mi_F_weight) mi_F_weight 0 b_F_weight_0 := by
  unfold b_F_weight_0
  exact (sq_iconst (pc := 0) dX2_weight_0 kc_i_1
    (sq_istore (pc := 1) dX2_weight_1
    (sq_iconst (pc := 3) dX2_weight_3 kc_i_0
    (sq_istore (pc := 4) dX2_weight_4
    (s_F_weight_6 G k_fu)))))
theorem m_F_weight (G : GG) : RS kE G 0 mi_F_weight r_F_weight := by
  intro as M v M' h
  unfold r_F_weight at h
  split at h
  · exact mc_of ok_F_weight (s_F_weight_0 G) (k_c1 _ rfl) (Nat.le_of_ble_eq_true rfl) rfl h
  · cases h
set_option maxHeartbeats 10000000 in
set_option maxRecDepth 20000 in
theorem s_F_chance_98 (G : GG) {k19 : Kt Mi} (h19 : Sq kE G (kF G (5) mi_F_chance) mi_F_chance 19 k19) : Sq kE G (kF G (5) mi_F_chance) mi_F_chance 98 (b_F_chance_98 k19) := by
  unfold b_F_chance_98
  exact (sq_iinc (pc := 98) dX2_chance_98 rfl
    (sq_goto (pc := 101) dX2_chance_101 (tgt := 19) rfl h19))
set_option maxHeartbeats 10000000 in
set_option maxRecDepth 20000 in
theorem s_F_chance_19 (G : GG) (n : Nat) : Sq kE G (kF G (5) mi_F_chance) mi_F_chance 19 (b_F_chance_19 n) := by
  induction n with
  | zero => exact sq_none
  | succ n ih =>
    unfold b_F_chance_19
    exact (sq_iload (pc := 19) dX2_chance_19
    (sq_iconst (pc := 21) dX2_chance_21 kc_i_1
    (sq_aload_n (pc := 22) dX2_chance_22 rfl
    (sq_geti (pc := 23) dX2_chance_23 fl_X2_30 rfl
    (sq_ishl (pc := 26) dX2_chance_26
    (sq_cge (pc := 27) dX2_chance_27 (tgt := 104) rfl
    (sq_iload (pc := 104) dX2_chance_104
    (sq_iret rfl (pc := 106) dX2_chance_106))
    (sq_iload (pc := 30) dX2_chance_30
    (sq_iload (pc := 32) dX2_chance_32
    (sq_ishr (pc := 34) dX2_chance_34
    (sq_iconst (pc := 35) dX2_chance_35 kc_i_1
    (sq_iand (pc := 36) dX2_chance_36
    (sq_ifne (pc := 37) dX2_chance_37 (tgt := 43) rfl
    (sq_goto (pc := 40) dX2_chance_40 (tgt := 98) rfl (s_F_chance_98 G ih))
    (sq_aload_n (pc := 43) dX2_chance_43 rfl
    (sq_getr (pc := 44) dX2_chance_44 fl_X2_12 rfl rfl (by decide)
    (sq_aload_n (pc := 47) dX2_chance_47 rfl
    (sq_callV (d := 5) (d' := 1) (mi' := mi_S_goBackTo) (pc := 48) dX2_chance_48 ml_X2_59 in_S_goBackTo se_S_goBackTo ok_S_goBackTo ar_S_goBackTo (by decide) rfl (by decide) (k_ok_kF G (5) mi_F_chance) (m_S_goBackTo G)
    (sq_aload_n (pc := 51) dX2_chance_51 rfl
    (sq_getr (pc := 52) dX2_chance_52 fl_X2_12 rfl rfl (by decide)
    (sq_iload (pc := 55) dX2_chance_55
    (sq_aload_n (pc := 57) dX2_chance_57 rfl
    (sq_callV (d := 5) (d' := 0) (mi' := mi_S_keepOnly) (pc := 58) dX2_chance_58 ml_X2_79 in_S_keepOnly se_S_keepOnly ok_S_keepOnly ar_S_keepOnly (by decide) rfl (by decide) (k_ok_kF G (5) mi_F_chance) (m_S_keepOnly G)
    (sq_aload_n (pc := 61) dX2_chance_61 rfl
    (sq_iload_n (pc := 62) dX2_chance_62 rfl
    (sq_iconst (pc := 63) dX2_chance_63 kc_i_1
    (sq_iload_n (pc := 64) dX2_chance_64 rfl
    (sq_ishl (pc := 65) dX2_chance_65
    (sq_callV (d := 5) (d' := 4) (mi' := mi_F_goFar) (pc := 66) dX2_chance_66 ml_X2_98 in_F_goFar se_F_goFar ok_F_goFar ar_F_goFar (by decide) rfl (by decide) (k_ok_kF G (5) mi_F_chance) (m_F_goFar G)
    (sq_aload_n (pc := 69) dX2_chance_69 rfl
    (sq_getr (pc := 70) dX2_chance_70 fl_X2_12 rfl rfl (by decide)
    (sq_iload_n (pc := 73) dX2_chance_73 rfl
    (sq_callV (d := 5) (d' := 0) (mi' := mi_S_isOff) (pc := 74) dX2_chance_74 ml_X2_102 in_S_isOff se_S_isOff ok_S_isOff ar_S_isOff (by decide) rfl (by decide) (k_ok_kF G (5) mi_F_chance) (m_S_isOff G)
    (sq_ifeq (pc := 77) dX2_chance_77 (tgt := 98) rfl
    (s_F_chance_98 G ih)
    (sq_iload (pc := 80) dX2_chance_80
    (sq_iload (pc := 82) dX2_chance_82
    (sq_aload_n (pc := 84) dX2_chance_84 rfl
    (sq_geti (pc := 85) dX2_chance_85 fl_X2_30 rfl
    (sq_iload (pc := 88) dX2_chance_88
    (sq_iload (pc := 90) dX2_chance_90
    (sq_callS (d := 5) (d' := 0) (mi' := mi_F_weight) (pc := 92) dX2_chance_92 ml_X2_106 st_F_weight ok_F_weight ar_F_weight (by decide) (k_ok_kF G (5) mi_F_chance) (m_F_weight G)
    (sq_iadd (pc := 95) dX2_chance_95
    (sq_istore (pc := 96) dX2_chance_96
    (s_F_chance_98 G ih))))))))))))))))))))))))))))))))))))))))))
set_option maxHeartbeats 10000000 in
set_option maxRecDepth 20000 in
theorem s_F_chance_0 (G : GG) : Sq kE G (kF G (5) mi_F_chance) mi_F_chance 0 b_F_chance_0 := by
  unfold b_F_chance_0
  exact (sq_aload_n (pc := 0) dX2_chance_0 rfl
    (sq_getr (pc := 1) dX2_chance_1 fl_X2_66 rfl rfl (by decide)
    (sq_iconst (pc := 4) dX2_chance_4 kc_i_0
    (sq_iald (pc := 5) dX2_chance_5
    (sq_istore (pc := 6) dX2_chance_6
    (sq_iconst (pc := 8) dX2_chance_8 kc_i_0
    (sq_istore (pc := 9) dX2_chance_9
    (sq_aload_n (pc := 11) dX2_chance_11 rfl
    (sq_aload_n (pc := 12) dX2_chance_12 rfl
    (sq_callV (d := 5) (d' := 3) (mi' := mi_F_begin) (pc := 13) dX2_chance_13 ml_X2_53 in_F_begin se_F_begin ok_F_begin ar_F_begin (by decide) rfl (by decide) (k_ok_kF G (5) mi_F_chance) (m_F_begin G)
    (sq_iconst (pc := 16) dX2_chance_16 kc_i_1
    (sq_istore (pc := 17) dX2_chance_17
    (s_F_chance_19 G k_fu)))))))))))))
theorem m_F_chance (G : GG) : RS kE G 5 mi_F_chance r_F_chance := by
  intro as M v M' h
  unfold r_F_chance at h
  split at h
  · exact mc_of ok_F_chance (s_F_chance_0 G) (k_c1 _ rfl) (Nat.le_of_ble_eq_true rfl) rfl h
  · cases h
set_option maxHeartbeats 10000000 in
set_option maxRecDepth 20000 in
theorem s_D_init_0 (G : GG) : Sq kId G (kF G (1) mi_D_init) mi_D_init 0 b_D_init_0 := by
  unfold b_D_init_0
  exact (sq_aload_n (pc := 0) dX3_init_0 rfl
    (sq_cobj (d := 1) (pc := 1) dX3_init_1 (List.mem_append_right _ (List.mem_append_left _ (List.mem_of_getElem? (i := 44) rfl))) in_obj co_obj (by decide) (k_ok_kF G (1) mi_D_init)
    (sq_aload_n (pc := 4) dX3_init_4 rfl
    (sq_bipush (pc := 5) dX3_init_5 kc_b_100
    (sq_cnewi (pc := 7) dX3_init_7 ac_int (k_ok_kF G (1) mi_D_init)
    (sq_cputr (pc := 9) dX3_init_9 fl_X3_11 rfl rfl rfl rfl (fun _ => rfl) (fun _ => rfl)
    (sq_aload_n (pc := 12) dX3_init_12 rfl
    (sq_iconst (pc := 13) dX3_init_13 kc_i_0
    (sq_cputi (pc := 14) dX3_init_14 fl_X3_15 rfl rfl
    (sq_aload_n (pc := 17) dX3_init_17 rfl
    (sq_iconst (pc := 18) dX3_init_18 kc_i_0
    (sq_cputi (pc := 19) dX3_init_19 fl_X3_19 rfl rfl
    (sq_aload_n (pc := 22) dX3_init_22 rfl
    (sq_iconst (pc := 23) dX3_init_23 kc_i_0
    (sq_cputi (pc := 24) dX3_init_24 fl_X3_22 rfl rfl
    (sq_aload_n (pc := 27) dX3_init_27 rfl
    (sq_iconst (pc := 28) dX3_init_28 kc_i_0
    (sq_cputz (pc := 29) dX3_init_29 fl_X3_25 rfl rfl
    (sq_aload_n (pc := 32) dX3_init_32 rfl
    (sq_iconst (pc := 33) dX3_init_33 kc_i_0
    (sq_cputi (pc := 34) dX3_init_34 fl_X3_29 rfl rfl
    (sq_aload_n (pc := 37) dX3_init_37 rfl
    (sq_iconst (pc := 38) dX3_init_38 kc_i_0
    (sq_cputi (pc := 39) dX3_init_39 fl_X3_32 rfl rfl
    (sq_aload_n (pc := 42) dX3_init_42 rfl
    (sq_iconst (pc := 43) dX3_init_43 kc_i_m1
    (sq_cputi (pc := 44) dX3_init_44 fl_X3_35 rfl rfl
    (sq_aload_n (pc := 47) dX3_init_47 rfl
    (sq_iconst (pc := 48) dX3_init_48 kc_i_0
    (sq_cputi (pc := 49) dX3_init_49 fl_X3_38 rfl rfl
    (sq_ret rfl (pc := 52) dX3_init_52)))))))))))))))))))))))))))))))
theorem m_D_init (G : GG) : RS kId G 1 mi_D_init r_D_init := by
  intro as M v M' h
  unfold r_D_init at h
  split at h
  · exact mc_of ok_D_init (s_D_init_0 G) (k_c1 _ rfl) (Nat.le_of_ble_eq_true rfl) rfl h
  · cases h
set_option maxHeartbeats 10000000 in
set_option maxRecDepth 20000 in
theorem s_D_append_26 (G : GG) : Sq kE G (kF G (0) mi_D_append) mi_D_append 26 (b_D_append_26) := by
  unfold b_D_append_26
  exact (sq_ret rfl (pc := 26) dX3_append_26)
set_option maxHeartbeats 10000000 in
set_option maxRecDepth 20000 in
theorem s_D_append_0 (G : GG) : Sq kE G (kF G (0) mi_D_append) mi_D_append 0 b_D_append_0 := by
  unfold b_D_append_0
  exact (sq_aload_n (pc := 0) dX3_append_0 rfl
    (sq_geti (pc := 1) dX3_append_1 fl_X3_15 rfl
    (sq_bipush (pc := 4) dX3_append_4 kc_b_100
    (sq_cge (pc := 6) dX3_append_6 (tgt := 26) rfl
    (s_D_append_26 G)
    (sq_aload_n (pc := 9) dX3_append_9 rfl
    (sq_getr (pc := 10) dX3_append_10 fl_X3_11 rfl rfl (by decide)
    (sq_aload_n (pc := 13) dX3_append_13 rfl
    (sq_dup (pc := 14) dX3_append_14
    (sq_geti (pc := 15) dX3_append_15 fl_X3_15 rfl
    (sq_dup_x1 (pc := 18) dX3_append_18
    (sq_iconst (pc := 19) dX3_append_19 kc_i_1
    (sq_iadd (pc := 20) dX3_append_20
    (sq_puti (pc := 21) dX3_append_21 fl_X3_15 rfl rfl
    (sq_iload_n (pc := 24) dX3_append_24 rfl
    (sq_iast (pc := 25) dX3_append_25
    (s_D_append_26 G))))))))))))))))
theorem m_D_append (G : GG) : RS kE G 0 mi_D_append r_D_append := by
  intro as M v M' h
  unfold r_D_append at h
  split at h
  · exact mc_of ok_D_append (s_D_append_0 G) (k_c1 _ rfl) (Nat.le_of_ble_eq_true rfl) rfl h
  · cases h
set_option maxHeartbeats 10000000 in
set_option maxRecDepth 20000 in
theorem s_D_blame_0 (G : GG) : Sq kE G (kF G (0) mi_D_blame) mi_D_blame 0 b_D_blame_0 := by
  unfold b_D_blame_0
  exact (sq_aload_n (pc := 0) dX3_blame_0 rfl
    (sq_geti (pc := 1) dX3_blame_1 fl_X3_25 rfl
    (sq_ifeq (pc := 4) dX3_blame_4 (tgt := 8) rfl
    (sq_aload_n (pc := 8) dX3_blame_8 rfl
    (sq_iconst (pc := 9) dX3_blame_9 kc_i_1
    (sq_putz (pc := 10) dX3_blame_10 fl_X3_25 rfl rfl
    (sq_aload_n (pc := 13) dX3_blame_13 rfl
    (sq_iload_n (pc := 14) dX3_blame_14 rfl
    (sq_puti (pc := 15) dX3_blame_15 fl_X3_19 rfl rfl
    (sq_aload_n (pc := 18) dX3_blame_18 rfl
    (sq_aload_n (pc := 19) dX3_blame_19 rfl
    (sq_geti (pc := 20) dX3_blame_20 fl_X3_32 rfl
    (sq_puti (pc := 23) dX3_blame_23 fl_X3_22 rfl rfl
    (sq_ret rfl (pc := 26) dX3_blame_26)))))))))))
    (sq_ret rfl (pc := 7) dX3_blame_7))))
theorem m_D_blame (G : GG) : RS kE G 0 mi_D_blame r_D_blame := by
  intro as M v M' h
  unfold r_D_blame at h
  split at h
  · exact mc_of ok_D_blame (s_D_blame_0 G) (k_c1 _ rfl) (Nat.le_of_ble_eq_true rfl) rfl h
  · cases h
set_option maxHeartbeats 10000000 in
set_option maxRecDepth 20000 in
theorem s_D_isFigure_17 (G : GG) : Sq kE G (kF G (0) mi_D_isFigure) mi_D_isFigure 17 (b_D_isFigure_17) := by
  unfold b_D_isFigure_17
  exact (sq_zret rfl (pc := 17) dX3_isFigure_17)
set_option maxHeartbeats 10000000 in
set_option maxRecDepth 20000 in
theorem s_D_isFigure_16 (G : GG) : Sq kE G (kF G (0) mi_D_isFigure) mi_D_isFigure 16 (b_D_isFigure_16) := by
  unfold b_D_isFigure_16
  exact (sq_iconst (pc := 16) dX3_isFigure_16 kc_i_0
    (s_D_isFigure_17 G))
set_option maxHeartbeats 10000000 in
set_option maxRecDepth 20000 in
theorem s_D_isFigure_0 (G : GG) : Sq kE G (kF G (0) mi_D_isFigure) mi_D_isFigure 0 b_D_isFigure_0 := by
  unfold b_D_isFigure_0
  exact (sq_iload_n (pc := 0) dX3_isFigure_0 rfl
    (sq_bipush (pc := 1) dX3_isFigure_1 kc_b_48
    (sq_clt (pc := 3) dX3_isFigure_3 (tgt := 16) rfl
    (s_D_isFigure_16 G)
    (sq_iload_n (pc := 6) dX3_isFigure_6 rfl
    (sq_bipush (pc := 7) dX3_isFigure_7 kc_b_57
    (sq_cgt (pc := 9) dX3_isFigure_9 (tgt := 16) rfl
    (s_D_isFigure_16 G)
    (sq_iconst (pc := 12) dX3_isFigure_12 kc_i_1
    (sq_goto (pc := 13) dX3_isFigure_13 (tgt := 17) rfl (s_D_isFigure_17 G)))))))))
theorem m_D_isFigure (G : GG) : RS kE G 0 mi_D_isFigure r_D_isFigure := by
  intro as M v M' h
  unfold r_D_isFigure at h
  split at h
  · exact mc_of ok_D_isFigure (s_D_isFigure_0 G) (k_c1 _ rfl) (Nat.le_of_ble_eq_true rfl) rfl h
  · cases h
set_option maxHeartbeats 10000000 in
set_option maxRecDepth 20000 in
theorem s_D_lookAtNumber_105 (G : GG) : Sq kE G (kF G (1) mi_D_lookAtNumber) mi_D_lookAtNumber 105 (b_D_lookAtNumber_105) := by
  unfold b_D_lookAtNumber_105
  exact (sq_puti (pc := 105) dX3_lookAtNumber_105 fl_X3_35 rfl rfl
    (sq_ret rfl (pc := 108) dX3_lookAtNumber_108))
set_option maxHeartbeats 10000000 in
set_option maxRecDepth 20000 in
theorem s_D_lookAtNumber_84 (G : GG) : Sq kE G (kF G (1) mi_D_lookAtNumber) mi_D_lookAtNumber 84 (b_D_lookAtNumber_84) := by
  unfold b_D_lookAtNumber_84
  exact (sq_aload_n (pc := 84) dX3_lookAtNumber_84 rfl
    (sq_aload_n (pc := 85) dX3_lookAtNumber_85 rfl
    (sq_geti (pc := 86) dX3_lookAtNumber_86 fl_X3_29 rfl
    (sq_aload_n (pc := 89) dX3_lookAtNumber_89 rfl
    (sq_geti (pc := 90) dX3_lookAtNumber_90 fl_X3_32 rfl
    (sq_isub (pc := 93) dX3_lookAtNumber_93
    (sq_iconst (pc := 94) dX3_lookAtNumber_94 kc_i_2
    (sq_cle (pc := 95) dX3_lookAtNumber_95 (tgt := 103) rfl
    (sq_bipush (pc := 103) dX3_lookAtNumber_103 kc_b_m2
    (s_D_lookAtNumber_105 G))
    (sq_bipush (pc := 98) dX3_lookAtNumber_98 kc_b_m3
    (sq_goto (pc := 100) dX3_lookAtNumber_100 (tgt := 105) rfl (s_D_lookAtNumber_105 G)))))))))))
set_option maxHeartbeats 10000000 in
set_option maxRecDepth 20000 in
theorem s_D_lookAtNumber_68 (G : GG) {k7 : Kt Mi} (h7 : Sq kE G (kF G (1) mi_D_lookAtNumber) mi_D_lookAtNumber 7 k7) : Sq kE G (kF G (1) mi_D_lookAtNumber) mi_D_lookAtNumber 68 (b_D_lookAtNumber_68 k7) := by
  unfold b_D_lookAtNumber_68
  exact (sq_aload_n (pc := 68) dX3_lookAtNumber_68 rfl
    (sq_dup (pc := 69) dX3_lookAtNumber_69
    (sq_geti (pc := 70) dX3_lookAtNumber_70 fl_X3_29 rfl
    (sq_iconst (pc := 73) dX3_lookAtNumber_73 kc_i_1
    (sq_iadd (pc := 74) dX3_lookAtNumber_74
    (sq_puti (pc := 75) dX3_lookAtNumber_75 fl_X3_29 rfl rfl
    (sq_iinc (pc := 78) dX3_lookAtNumber_78 rfl
    (sq_goto (pc := 81) dX3_lookAtNumber_81 (tgt := 7) rfl h7))))))))
set_option maxHeartbeats 10000000 in
set_option maxRecDepth 20000 in
theorem s_D_lookAtNumber_7 (G : GG) (n : Nat) : Sq kE G (kF G (1) mi_D_lookAtNumber) mi_D_lookAtNumber 7 (b_D_lookAtNumber_7 n) := by
  induction n with
  | zero => exact sq_none
  | succ n ih =>
    unfold b_D_lookAtNumber_7
    exact (sq_iload_n (pc := 7) dX3_lookAtNumber_7 rfl
    (sq_bipush (pc := 8) dX3_lookAtNumber_8 kc_b_100
    (sq_cge (pc := 10) dX3_lookAtNumber_10 (tgt := 84) rfl
    (s_D_lookAtNumber_84 G)
    (sq_aload_n (pc := 13) dX3_lookAtNumber_13 rfl
    (sq_geti (pc := 14) dX3_lookAtNumber_14 fl_X3_29 rfl
    (sq_aload_n (pc := 17) dX3_lookAtNumber_17 rfl
    (sq_geti (pc := 18) dX3_lookAtNumber_18 fl_X3_15 rfl
    (sq_cge (pc := 21) dX3_lookAtNumber_21 (tgt := 84) rfl
    (s_D_lookAtNumber_84 G)
    (sq_aload_n (pc := 24) dX3_lookAtNumber_24 rfl
    (sq_getr (pc := 25) dX3_lookAtNumber_25 fl_X3_11 rfl rfl (by decide)
    (sq_aload_n (pc := 28) dX3_lookAtNumber_28 rfl
    (sq_geti (pc := 29) dX3_lookAtNumber_29 fl_X3_29 rfl
    (sq_iald (pc := 32) dX3_lookAtNumber_32
    (sq_callS (d := 1) (d' := 0) (mi' := mi_D_isFigure) (pc := 33) dX3_lookAtNumber_33 ml_X3_108 st_D_isFigure ok_D_isFigure ar_D_isFigure (by decide) (k_ok_kF G (1) mi_D_lookAtNumber) (m_D_isFigure G)
    (sq_ifeq (pc := 36) dX3_lookAtNumber_36 (tgt := 84) rfl
    (s_D_lookAtNumber_84 G)
    (sq_iload_n (pc := 39) dX3_lookAtNumber_39 rfl
    (sq_iconst (pc := 40) dX3_lookAtNumber_40 kc_i_2
    (sq_cge (pc := 41) dX3_lookAtNumber_41 (tgt := 68) rfl
    (s_D_lookAtNumber_68 G ih)
    (sq_aload_n (pc := 44) dX3_lookAtNumber_44 rfl
    (sq_aload_n (pc := 45) dX3_lookAtNumber_45 rfl
    (sq_geti (pc := 46) dX3_lookAtNumber_46 fl_X3_38 rfl
    (sq_bipush (pc := 49) dX3_lookAtNumber_49 kc_b_10
    (sq_imul (pc := 51) dX3_lookAtNumber_51
    (sq_aload_n (pc := 52) dX3_lookAtNumber_52 rfl
    (sq_getr (pc := 53) dX3_lookAtNumber_53 fl_X3_11 rfl rfl (by decide)
    (sq_aload_n (pc := 56) dX3_lookAtNumber_56 rfl
    (sq_geti (pc := 57) dX3_lookAtNumber_57 fl_X3_29 rfl
    (sq_iald (pc := 60) dX3_lookAtNumber_60
    (sq_iadd (pc := 61) dX3_lookAtNumber_61
    (sq_bipush (pc := 62) dX3_lookAtNumber_62 kc_b_48
    (sq_isub (pc := 64) dX3_lookAtNumber_64
    (sq_puti (pc := 65) dX3_lookAtNumber_65 fl_X3_38 rfl rfl
    (s_D_lookAtNumber_68 G ih)))))))))))))))))))))))))))))))))
set_option maxHeartbeats 10000000 in
set_option maxRecDepth 20000 in
theorem s_D_lookAtNumber_0 (G : GG) : Sq kE G (kF G (1) mi_D_lookAtNumber) mi_D_lookAtNumber 0 b_D_lookAtNumber_0 := by
  unfold b_D_lookAtNumber_0
  exact (sq_aload_n (pc := 0) dX3_lookAtNumber_0 rfl
    (sq_iconst (pc := 1) dX3_lookAtNumber_1 kc_i_0
    (sq_puti (pc := 2) dX3_lookAtNumber_2 fl_X3_38 rfl rfl
    (sq_iconst (pc := 5) dX3_lookAtNumber_5 kc_i_0
    (sq_istore_n (pc := 6) dX3_lookAtNumber_6 rfl
    (s_D_lookAtNumber_7 G k_fu))))))
theorem m_D_lookAtNumber (G : GG) : RS kE G 1 mi_D_lookAtNumber r_D_lookAtNumber := by
  intro as M v M' h
  unfold r_D_lookAtNumber at h
  split at h
  · exact mc_of ok_D_lookAtNumber (s_D_lookAtNumber_0 G) (k_c1 _ rfl) (Nat.le_of_ble_eq_true rfl) rfl h
  · cases h
set_option maxHeartbeats 10000000 in
set_option maxRecDepth 20000 in
theorem s_D_look_69 (G : GG) : Sq kE G (kF G (2) mi_D_look) mi_D_look 69 (b_D_look_69) := by
  unfold b_D_look_69
  exact (sq_ret rfl (pc := 69) dX3_look_69)
set_option maxHeartbeats 10000000 in
set_option maxRecDepth 20000 in
theorem s_D_look_0 (G : GG) : Sq kE G (kF G (2) mi_D_look) mi_D_look 0 b_D_look_0 := by
  unfold b_D_look_0
  exact (sq_aload_n (pc := 0) dX3_look_0 rfl
    (sq_aload_n (pc := 1) dX3_look_1 rfl
    (sq_geti (pc := 2) dX3_look_2 fl_X3_29 rfl
    (sq_puti (pc := 5) dX3_look_5 fl_X3_32 rfl rfl
    (sq_aload_n (pc := 8) dX3_look_8 rfl
    (sq_geti (pc := 9) dX3_look_9 fl_X3_29 rfl
    (sq_aload_n (pc := 12) dX3_look_12 rfl
    (sq_geti (pc := 13) dX3_look_13 fl_X3_15 rfl
    (sq_clt (pc := 16) dX3_look_16 (tgt := 27) rfl
    (sq_aload_n (pc := 27) dX3_look_27 rfl
    (sq_getr (pc := 28) dX3_look_28 fl_X3_11 rfl rfl (by decide)
    (sq_aload_n (pc := 31) dX3_look_31 rfl
    (sq_geti (pc := 32) dX3_look_32 fl_X3_29 rfl
    (sq_iald (pc := 35) dX3_look_35
    (sq_callS (d := 2) (d' := 0) (mi' := mi_D_isFigure) (pc := 36) dX3_look_36 ml_X3_108 st_D_isFigure ok_D_isFigure ar_D_isFigure (by decide) (k_ok_kF G (2) mi_D_look) (m_D_isFigure G)
    (sq_ifeq (pc := 39) dX3_look_39 (tgt := 49) rfl
    (sq_aload_n (pc := 49) dX3_look_49 rfl
    (sq_aload_n (pc := 50) dX3_look_50 rfl
    (sq_getr (pc := 51) dX3_look_51 fl_X3_11 rfl rfl (by decide)
    (sq_aload_n (pc := 54) dX3_look_54 rfl
    (sq_dup (pc := 55) dX3_look_55
    (sq_geti (pc := 56) dX3_look_56 fl_X3_29 rfl
    (sq_dup_x1 (pc := 59) dX3_look_59
    (sq_iconst (pc := 60) dX3_look_60 kc_i_1
    (sq_iadd (pc := 61) dX3_look_61
    (sq_puti (pc := 62) dX3_look_62 fl_X3_29 rfl rfl
    (sq_iald (pc := 65) dX3_look_65
    (sq_puti (pc := 66) dX3_look_66 fl_X3_35 rfl rfl
    (s_D_look_69 G)))))))))))))
    (sq_aload_n (pc := 42) dX3_look_42 rfl
    (sq_callV (d := 2) (d' := 1) (mi' := mi_D_lookAtNumber) (pc := 43) dX3_look_43 ml_X3_112 in_D_lookAtNumber se_D_lookAtNumber ok_D_lookAtNumber ar_D_lookAtNumber (by decide) rfl (by decide) (k_ok_kF G (2) mi_D_look) (m_D_lookAtNumber G)
    (sq_goto (pc := 46) dX3_look_46 (tgt := 69) rfl (s_D_look_69 G)))))))))))
    (sq_aload_n (pc := 19) dX3_look_19 rfl
    (sq_iconst (pc := 20) dX3_look_20 kc_i_m1
    (sq_puti (pc := 21) dX3_look_21 fl_X3_35 rfl rfl
    (sq_goto (pc := 24) dX3_look_24 (tgt := 69) rfl (s_D_look_69 G))))))))))))))
theorem m_D_look (G : GG) : RS kE G 2 mi_D_look r_D_look := by
  intro as M v M' h
  unfold r_D_look at h
  split at h
  · exact mc_of ok_D_look (s_D_look_0 G) (k_c1 _ rfl) (Nat.le_of_ble_eq_true rfl) rfl h
  · cases h
set_option maxHeartbeats 10000000 in
set_option maxRecDepth 20000 in
theorem s_D_take_24 (G : GG) : Sq kE G (kF G (3) mi_D_take) mi_D_take 24 (b_D_take_24) := by
  unfold b_D_take_24
  exact (sq_ret rfl (pc := 24) dX3_take_24)
set_option maxHeartbeats 10000000 in
set_option maxRecDepth 20000 in
theorem s_D_take_13 (G : GG) : Sq kE G (kF G (3) mi_D_take) mi_D_take 13 (b_D_take_13) := by
  unfold b_D_take_13
  exact (sq_aload_n (pc := 13) dX3_take_13 rfl
    (sq_geti (pc := 14) dX3_take_14 fl_X3_25 rfl
    (sq_ifne (pc := 17) dX3_take_17 (tgt := 24) rfl
    (sq_aload_n (pc := 20) dX3_take_20 rfl
    (sq_callV (d := 3) (d' := 2) (mi' := mi_D_look) (pc := 21) dX3_take_21 ml_X3_46 in_D_look se_D_look ok_D_look ar_D_look (by decide) rfl (by decide) (k_ok_kF G (3) mi_D_take) (m_D_look G)
    (s_D_take_24 G)))
    (s_D_take_24 G))))
set_option maxHeartbeats 10000000 in
set_option maxRecDepth 20000 in
theorem s_D_take_0 (G : GG) : Sq kE G (kF G (3) mi_D_take) mi_D_take 0 b_D_take_0 := by
  unfold b_D_take_0
  exact (sq_aload_n (pc := 0) dX3_take_0 rfl
    (sq_geti (pc := 1) dX3_take_1 fl_X3_35 rfl
    (sq_iload_n (pc := 4) dX3_take_4 rfl
    (sq_ceq (pc := 5) dX3_take_5 (tgt := 13) rfl
    (s_D_take_13 G)
    (sq_aload_n (pc := 8) dX3_take_8 rfl
    (sq_iconst (pc := 9) dX3_take_9 kc_i_1
    (sq_callV (d := 3) (d' := 0) (mi' := mi_D_blame) (pc := 10) dX3_take_10 ml_X3_59 in_D_blame se_D_blame ok_D_blame ar_D_blame (by decide) rfl (by decide) (k_ok_kF G (3) mi_D_take) (m_D_blame G)
    (s_D_take_13 G))))))))
theorem m_D_take (G : GG) : RS kE G 3 mi_D_take r_D_take := by
  intro as M v M' h
  unfold r_D_take at h
  split at h
  · exact mc_of ok_D_take (s_D_take_0 G) (k_c1 _ rfl) (Nat.le_of_ble_eq_true rfl) rfl h
  · cases h
set_option maxHeartbeats 10000000 in
set_option maxRecDepth 20000 in
theorem s_D_takeNumber_54 (G : GG) : Sq kE G (kF G (3) mi_D_takeNumber) mi_D_takeNumber 54 (b_D_takeNumber_54) := by
  unfold b_D_takeNumber_54
  exact (sq_iload_n (pc := 54) dX3_takeNumber_54 rfl
    (sq_iret rfl (pc := 55) dX3_takeNumber_55))
set_option maxHeartbeats 10000000 in
set_option maxRecDepth 20000 in
theorem s_D_takeNumber_38 (G : GG) : Sq kE G (kF G (3) mi_D_takeNumber) mi_D_takeNumber 38 (b_D_takeNumber_38) := by
  unfold b_D_takeNumber_38
  exact (sq_aload_n (pc := 38) dX3_takeNumber_38 rfl
    (sq_geti (pc := 39) dX3_takeNumber_39 fl_X3_38 rfl
    (sq_istore_n (pc := 42) dX3_takeNumber_42 rfl
    (sq_aload_n (pc := 43) dX3_takeNumber_43 rfl
    (sq_geti (pc := 44) dX3_takeNumber_44 fl_X3_25 rfl
    (sq_ifne (pc := 47) dX3_takeNumber_47 (tgt := 54) rfl
    (sq_aload_n (pc := 50) dX3_takeNumber_50 rfl
    (sq_callV (d := 3) (d' := 2) (mi' := mi_D_look) (pc := 51) dX3_takeNumber_51 ml_X3_46 in_D_look se_D_look ok_D_look ar_D_look (by decide) rfl (by decide) (k_ok_kF G (3) mi_D_takeNumber) (m_D_look G)
    (s_D_takeNumber_54 G)))
    (s_D_takeNumber_54 G)))))))
set_option maxHeartbeats 10000000 in
set_option maxRecDepth 20000 in
theorem s_D_takeNumber_33 (G : GG) : Sq kE G (kF G (3) mi_D_takeNumber) mi_D_takeNumber 33 (b_D_takeNumber_33) := by
  unfold b_D_takeNumber_33
  exact (sq_aload_n (pc := 33) dX3_takeNumber_33 rfl
    (sq_iconst (pc := 34) dX3_takeNumber_34 kc_i_2
    (sq_callV (d := 3) (d' := 0) (mi' := mi_D_blame) (pc := 35) dX3_takeNumber_35 ml_X3_59 in_D_blame se_D_blame ok_D_blame ar_D_blame (by decide) rfl (by decide) (k_ok_kF G (3) mi_D_takeNumber) (m_D_blame G)
    (s_D_takeNumber_38 G))))
set_option maxHeartbeats 10000000 in
set_option maxRecDepth 20000 in
theorem s_D_takeNumber_0 (G : GG) : Sq kE G (kF G (3) mi_D_takeNumber) mi_D_takeNumber 0 b_D_takeNumber_0 := by
  unfold b_D_takeNumber_0
  exact (sq_aload_n (pc := 0) dX3_takeNumber_0 rfl
    (sq_geti (pc := 1) dX3_takeNumber_1 fl_X3_35 rfl
    (sq_bipush (pc := 4) dX3_takeNumber_4 kc_b_m2
    (sq_ceq (pc := 6) dX3_takeNumber_6 (tgt := 17) rfl
    (sq_aload_n (pc := 17) dX3_takeNumber_17 rfl
    (sq_geti (pc := 18) dX3_takeNumber_18 fl_X3_38 rfl
    (sq_iload_n (pc := 21) dX3_takeNumber_21 rfl
    (sq_clt (pc := 22) dX3_takeNumber_22 (tgt := 33) rfl
    (s_D_takeNumber_33 G)
    (sq_aload_n (pc := 25) dX3_takeNumber_25 rfl
    (sq_geti (pc := 26) dX3_takeNumber_26 fl_X3_38 rfl
    (sq_iload_n (pc := 29) dX3_takeNumber_29 rfl
    (sq_cle (pc := 30) dX3_takeNumber_30 (tgt := 38) rfl
    (s_D_takeNumber_38 G)
    (s_D_takeNumber_33 G)))))))))
    (sq_aload_n (pc := 9) dX3_takeNumber_9 rfl
    (sq_iconst (pc := 10) dX3_takeNumber_10 kc_i_1
    (sq_callV (d := 3) (d' := 0) (mi' := mi_D_blame) (pc := 11) dX3_takeNumber_11 ml_X3_59 in_D_blame se_D_blame ok_D_blame ar_D_blame (by decide) rfl (by decide) (k_ok_kF G (3) mi_D_takeNumber) (m_D_blame G)
    (sq_goto (pc := 14) dX3_takeNumber_14 (tgt := 38) rfl (s_D_takeNumber_38 G)))))))))
theorem m_D_takeNumber (G : GG) : RS kE G 3 mi_D_takeNumber r_D_takeNumber := by
  intro as M v M' h
  unfold r_D_takeNumber at h
  split at h
  · exact mc_of ok_D_takeNumber (s_D_takeNumber_0 G) (k_c1 _ rfl) (Nat.le_of_ble_eq_true rfl) rfl h
  · cases h
set_option maxHeartbeats 10000000 in
set_option maxRecDepth 20000 in
theorem s_D_readSheep_0 (G : GG) : Sq kE G (kF G (4) mi_D_readSheep) mi_D_readSheep 0 b_D_readSheep_0 := by
  unfold b_D_readSheep_0
  exact (sq_aload_n (pc := 0) dX3_readSheep_0 rfl
    (sq_bipush (pc := 1) dX3_readSheep_1 kc_b_102
    (sq_callV (d := 4) (d' := 3) (mi' := mi_D_take) (pc := 3) dX3_readSheep_3 ml_X3_63 in_D_take se_D_take ok_D_take ar_D_take (by decide) rfl (by decide) (k_ok_kF G (4) mi_D_readSheep) (m_D_take G)
    (sq_aload_n (pc := 6) dX3_readSheep_6 rfl
    (sq_getr (pc := 7) dX3_readSheep_7 fl_X3_80 rfl rfl (by decide)
    (sq_iload_n (pc := 10) dX3_readSheep_10 rfl
    (sq_aload_n (pc := 11) dX3_readSheep_11 rfl
    (sq_iconst (pc := 12) dX3_readSheep_12 kc_i_0
    (sq_bipush (pc := 13) dX3_readSheep_13 kc_b_9
    (sq_callV (d := 4) (d' := 3) (mi' := mi_D_takeNumber) (pc := 15) dX3_readSheep_15 ml_X3_66 in_D_takeNumber se_D_takeNumber ok_D_takeNumber ar_D_takeNumber (by decide) rfl (by decide) (k_ok_kF G (4) mi_D_readSheep) (m_D_takeNumber G)
    (sq_iast (pc := 18) dX3_readSheep_18
    (sq_aload_n (pc := 19) dX3_readSheep_19 rfl
    (sq_bipush (pc := 20) dX3_readSheep_20 kc_b_44
    (sq_callV (d := 4) (d' := 3) (mi' := mi_D_take) (pc := 22) dX3_readSheep_22 ml_X3_63 in_D_take se_D_take ok_D_take ar_D_take (by decide) rfl (by decide) (k_ok_kF G (4) mi_D_readSheep) (m_D_take G)
    (sq_aload_n (pc := 25) dX3_readSheep_25 rfl
    (sq_getr (pc := 26) dX3_readSheep_26 fl_X3_83 rfl rfl (by decide)
    (sq_iload_n (pc := 29) dX3_readSheep_29 rfl
    (sq_aload_n (pc := 30) dX3_readSheep_30 rfl
    (sq_iconst (pc := 31) dX3_readSheep_31 kc_i_0
    (sq_iconst (pc := 32) dX3_readSheep_32 kc_i_3
    (sq_callV (d := 4) (d' := 3) (mi' := mi_D_takeNumber) (pc := 33) dX3_readSheep_33 ml_X3_66 in_D_takeNumber se_D_takeNumber ok_D_takeNumber ar_D_takeNumber (by decide) rfl (by decide) (k_ok_kF G (4) mi_D_readSheep) (m_D_takeNumber G)
    (sq_iast (pc := 36) dX3_readSheep_36
    (sq_aload_n (pc := 37) dX3_readSheep_37 rfl
    (sq_bipush (pc := 38) dX3_readSheep_38 kc_b_59
    (sq_callV (d := 4) (d' := 3) (mi' := mi_D_take) (pc := 40) dX3_readSheep_40 ml_X3_63 in_D_take se_D_take ok_D_take ar_D_take (by decide) rfl (by decide) (k_ok_kF G (4) mi_D_readSheep) (m_D_take G)
    (sq_aload_n (pc := 43) dX3_readSheep_43 rfl
    (sq_getr (pc := 44) dX3_readSheep_44 fl_X3_86 rfl rfl (by decide)
    (sq_iload_n (pc := 47) dX3_readSheep_47 rfl
    (sq_iload_n (pc := 48) dX3_readSheep_48 rfl
    (sq_iast (pc := 49) dX3_readSheep_49
    (sq_aload_n (pc := 50) dX3_readSheep_50 rfl
    (sq_dup (pc := 51) dX3_readSheep_51
    (sq_geti (pc := 52) dX3_readSheep_52 fl_X3_73 rfl
    (sq_iconst (pc := 55) dX3_readSheep_55 kc_i_1
    (sq_iadd (pc := 56) dX3_readSheep_56
    (sq_puti (pc := 57) dX3_readSheep_57 fl_X3_73 rfl rfl
    (sq_ret rfl (pc := 60) dX3_readSheep_60)))))))))))))))))))))))))))))))))))))
theorem m_D_readSheep (G : GG) : RS kE G 4 mi_D_readSheep r_D_readSheep := by
  intro as M v M' h
  unfold r_D_readSheep at h
  split at h
  · exact mc_of ok_D_readSheep (s_D_readSheep_0 G) (k_c1 _ rfl) (Nat.le_of_ble_eq_true rfl) rfl h
  · cases h
set_option maxHeartbeats 10000000 in
set_option maxRecDepth 20000 in
theorem s_D_readFlock_70 (G : GG) : Sq kE G (kF G (5) mi_D_readFlock) mi_D_readFlock 70 (b_D_readFlock_70) := by
  unfold b_D_readFlock_70
  exact (sq_ret rfl (pc := 70) dX3_readFlock_70)
set_option maxHeartbeats 10000000 in
set_option maxRecDepth 20000 in
theorem s_D_readFlock_64 (G : GG) {k16 : Kt Mi} (h16 : Sq kE G (kF G (5) mi_D_readFlock) mi_D_readFlock 16 k16) : Sq kE G (kF G (5) mi_D_readFlock) mi_D_readFlock 64 (b_D_readFlock_64 k16) := by
  unfold b_D_readFlock_64
  exact (sq_iinc (pc := 64) dX3_readFlock_64 rfl
    (sq_goto (pc := 67) dX3_readFlock_67 (tgt := 16) rfl h16))
set_option maxHeartbeats 10000000 in
set_option maxRecDepth 20000 in
theorem s_D_readFlock_16 (G : GG) (n : Nat) : Sq kE G (kF G (5) mi_D_readFlock) mi_D_readFlock 16 (b_D_readFlock_16 n) := by
  induction n with
  | zero => exact sq_none
  | succ n ih =>
    unfold b_D_readFlock_16
    exact (sq_iload_n (pc := 16) dX3_readFlock_16 rfl
    (sq_bipush (pc := 17) dX3_readFlock_17 kc_b_6
    (sq_cgt (pc := 19) dX3_readFlock_19 (tgt := 70) rfl
    (s_D_readFlock_70 G)
    (sq_aload_n (pc := 22) dX3_readFlock_22 rfl
    (sq_geti (pc := 23) dX3_readFlock_23 fl_X3_25 rfl
    (sq_ifne (pc := 26) dX3_readFlock_26 (tgt := 70) rfl
    (sq_aload_n (pc := 29) dX3_readFlock_29 rfl
    (sq_geti (pc := 30) dX3_readFlock_30 fl_X3_35 rfl
    (sq_bipush (pc := 33) dX3_readFlock_33 kc_b_102
    (sq_cne (pc := 35) dX3_readFlock_35 (tgt := 70) rfl
    (sq_aload_n (pc := 38) dX3_readFlock_38 rfl
    (sq_geti (pc := 39) dX3_readFlock_39 fl_X3_73 rfl
    (sq_bipush (pc := 42) dX3_readFlock_42 kc_b_6
    (sq_cne (pc := 44) dX3_readFlock_44 (tgt := 55) rfl
    (sq_aload_n (pc := 47) dX3_readFlock_47 rfl
    (sq_iconst (pc := 48) dX3_readFlock_48 kc_i_3
    (sq_callV (d := 5) (d' := 0) (mi' := mi_D_blame) (pc := 49) dX3_readFlock_49 ml_X3_59 in_D_blame se_D_blame ok_D_blame ar_D_blame (by decide) rfl (by decide) (k_ok_kF G (5) mi_D_readFlock) (m_D_blame G)
    (sq_goto (pc := 52) dX3_readFlock_52 (tgt := 64) rfl (s_D_readFlock_64 G ih)))))
    (sq_aload_n (pc := 55) dX3_readFlock_55 rfl
    (sq_aload_n (pc := 56) dX3_readFlock_56 rfl
    (sq_aload_n (pc := 57) dX3_readFlock_57 rfl
    (sq_geti (pc := 58) dX3_readFlock_58 fl_X3_73 rfl
    (sq_callV (d := 5) (d' := 4) (mi' := mi_D_readSheep) (pc := 61) dX3_readFlock_61 ml_X3_76 in_D_readSheep se_D_readSheep ok_D_readSheep ar_D_readSheep (by decide) rfl (by decide) (k_ok_kF G (5) mi_D_readFlock) (m_D_readSheep G)
    (s_D_readFlock_64 G ih))))))))))
    (s_D_readFlock_70 G)))))
    (s_D_readFlock_70 G)))))))
set_option maxHeartbeats 10000000 in
set_option maxRecDepth 20000 in
theorem s_D_readFlock_14 (G : GG) : Sq kE G (kF G (5) mi_D_readFlock) mi_D_readFlock 14 (b_D_readFlock_14) := by
  unfold b_D_readFlock_14
  exact (sq_iconst (pc := 14) dX3_readFlock_14 kc_i_0
    (sq_istore_n (pc := 15) dX3_readFlock_15 rfl
    (s_D_readFlock_16 G k_fu)))
set_option maxHeartbeats 10000000 in
set_option maxRecDepth 20000 in
theorem s_D_readFlock_0 (G : GG) : Sq kE G (kF G (5) mi_D_readFlock) mi_D_readFlock 0 b_D_readFlock_0 := by
  unfold b_D_readFlock_0
  exact (sq_aload_n (pc := 0) dX3_readFlock_0 rfl
    (sq_geti (pc := 1) dX3_readFlock_1 fl_X3_35 rfl
    (sq_bipush (pc := 4) dX3_readFlock_4 kc_b_102
    (sq_ceq (pc := 6) dX3_readFlock_6 (tgt := 14) rfl
    (s_D_readFlock_14 G)
    (sq_aload_n (pc := 9) dX3_readFlock_9 rfl
    (sq_iconst (pc := 10) dX3_readFlock_10 kc_i_1
    (sq_callV (d := 5) (d' := 0) (mi' := mi_D_blame) (pc := 11) dX3_readFlock_11 ml_X3_59 in_D_blame se_D_blame ok_D_blame ar_D_blame (by decide) rfl (by decide) (k_ok_kF G (5) mi_D_readFlock) (m_D_blame G)
    (s_D_readFlock_14 G))))))))
theorem m_D_readFlock (G : GG) : RS kE G 5 mi_D_readFlock r_D_readFlock := by
  intro as M v M' h
  unfold r_D_readFlock at h
  split at h
  · exact mc_of ok_D_readFlock (s_D_readFlock_0 G) (k_c1 _ rfl) (Nat.le_of_ble_eq_true rfl) rfl h
  · cases h
set_option maxHeartbeats 10000000 in
set_option maxRecDepth 20000 in
theorem s_D_readLaw_0 (G : GG) : Sq kE G (kF G (4) mi_D_readLaw) mi_D_readLaw 0 b_D_readLaw_0 := by
  unfold b_D_readLaw_0
  exact (sq_aload_n (pc := 0) dX3_readLaw_0 rfl
    (sq_bipush (pc := 1) dX3_readLaw_1 kc_b_113
    (sq_callV (d := 4) (d' := 3) (mi' := mi_D_take) (pc := 3) dX3_readLaw_3 ml_X3_63 in_D_take se_D_take ok_D_take ar_D_take (by decide) rfl (by decide) (k_ok_kF G (4) mi_D_readLaw) (m_D_take G)
    (sq_aload_n (pc := 6) dX3_readLaw_6 rfl
    (sq_aload_n (pc := 7) dX3_readLaw_7 rfl
    (sq_iconst (pc := 8) dX3_readLaw_8 kc_i_0
    (sq_bipush (pc := 9) dX3_readLaw_9 kc_b_9
    (sq_callV (d := 4) (d' := 3) (mi' := mi_D_takeNumber) (pc := 11) dX3_readLaw_11 ml_X3_66 in_D_takeNumber se_D_takeNumber ok_D_takeNumber ar_D_takeNumber (by decide) rfl (by decide) (k_ok_kF G (4) mi_D_readLaw) (m_D_takeNumber G)
    (sq_puti (pc := 14) dX3_readLaw_14 fl_X3_70 rfl rfl
    (sq_aload_n (pc := 17) dX3_readLaw_17 rfl
    (sq_bipush (pc := 18) dX3_readLaw_18 kc_b_59
    (sq_callV (d := 4) (d' := 3) (mi' := mi_D_take) (pc := 20) dX3_readLaw_20 ml_X3_63 in_D_take se_D_take ok_D_take ar_D_take (by decide) rfl (by decide) (k_ok_kF G (4) mi_D_readLaw) (m_D_take G)
    (sq_ret rfl (pc := 23) dX3_readLaw_23)))))))))))))
theorem m_D_readLaw (G : GG) : RS kE G 4 mi_D_readLaw r_D_readLaw := by
  intro as M v M' h
  unfold r_D_readLaw at h
  split at h
  · exact mc_of ok_D_readLaw (s_D_readLaw_0 G) (k_c1 _ rfl) (Nat.le_of_ble_eq_true rfl) rfl h
  · cases h
set_option maxHeartbeats 10000000 in
set_option maxRecDepth 20000 in
theorem s_D_kindOf_0 (G : GG) : Sq kE G (kF G (0) mi_D_kindOf) mi_D_kindOf 0 b_D_kindOf_0 := by
  unfold b_D_kindOf_0
  exact (sq_iload_n (pc := 0) dX3_kindOf_0 rfl
    (sq_lsw (pc := 1) dX3_kindOf_1 (td := 62) (by decide +kernel) (by decide +kernel)
    (⟨⟨by decide +kernel, 54, by decide +kernel, (sq_iconst (pc := 54) dX3_kindOf_54 kc_i_2
    (sq_iret rfl (pc := 55) dX3_kindOf_55))⟩, 
    ⟨⟨by decide +kernel, 60, by decide +kernel, (sq_iconst (pc := 60) dX3_kindOf_60 kc_i_5
    (sq_iret rfl (pc := 61) dX3_kindOf_61))⟩, 
    ⟨⟨by decide +kernel, 58, by decide +kernel, (sq_iconst (pc := 58) dX3_kindOf_58 kc_i_4
    (sq_iret rfl (pc := 59) dX3_kindOf_59))⟩, 
    ⟨⟨by decide +kernel, 52, by decide +kernel, (sq_iconst (pc := 52) dX3_kindOf_52 kc_i_1
    (sq_iret rfl (pc := 53) dX3_kindOf_53))⟩, 
    ⟨⟨by decide +kernel, 56, by decide +kernel, (sq_iconst (pc := 56) dX3_kindOf_56 kc_i_3
    (sq_iret rfl (pc := 57) dX3_kindOf_57))⟩, trivial⟩⟩⟩⟩⟩)
    (sq_iconst (pc := 62) dX3_kindOf_62 kc_i_0
    (sq_iret rfl (pc := 63) dX3_kindOf_63))))
theorem m_D_kindOf (G : GG) : RS kE G 0 mi_D_kindOf r_D_kindOf := by
  intro as M v M' h
  unfold r_D_kindOf at h
  split at h
  · exact mc_of ok_D_kindOf (s_D_kindOf_0 G) (k_c1 _ rfl) (Nat.le_of_ble_eq_true rfl) rfl h
  · cases h
set_option maxHeartbeats 10000000 in
set_option maxRecDepth 20000 in
theorem s_D_readSleeper_0 (G : GG) : Sq kE G (kF G (4) mi_D_readSleeper) mi_D_readSleeper 0 b_D_readSleeper_0 := by
  unfold b_D_readSleeper_0
  exact (sq_aload_n (pc := 0) dX3_readSleeper_0 rfl
    (sq_getr (pc := 1) dX3_readSleeper_1 fl_X3_99 rfl rfl (by decide)
    (sq_iload_n (pc := 4) dX3_readSleeper_4 rfl
    (sq_aload_n (pc := 5) dX3_readSleeper_5 rfl
    (sq_geti (pc := 6) dX3_readSleeper_6 fl_X3_35 rfl
    (sq_callS (d := 4) (d' := 0) (mi' := mi_D_kindOf) (pc := 9) dX3_readSleeper_9 ml_X3_89 st_D_kindOf ok_D_kindOf ar_D_kindOf (by decide) (k_ok_kF G (4) mi_D_readSleeper) (m_D_kindOf G)
    (sq_iast (pc := 12) dX3_readSleeper_12
    (sq_aload_n (pc := 13) dX3_readSleeper_13 rfl
    (sq_callV (d := 4) (d' := 2) (mi' := mi_D_look) (pc := 14) dX3_readSleeper_14 ml_X3_46 in_D_look se_D_look ok_D_look ar_D_look (by decide) rfl (by decide) (k_ok_kF G (4) mi_D_readSleeper) (m_D_look G)
    (sq_aload_n (pc := 17) dX3_readSleeper_17 rfl
    (sq_getr (pc := 18) dX3_readSleeper_18 fl_X3_102 rfl rfl (by decide)
    (sq_iload_n (pc := 21) dX3_readSleeper_21 rfl
    (sq_aload_n (pc := 22) dX3_readSleeper_22 rfl
    (sq_iconst (pc := 23) dX3_readSleeper_23 kc_i_1
    (sq_bipush (pc := 24) dX3_readSleeper_24 kc_b_60
    (sq_callV (d := 4) (d' := 3) (mi' := mi_D_takeNumber) (pc := 26) dX3_readSleeper_26 ml_X3_66 in_D_takeNumber se_D_takeNumber ok_D_takeNumber ar_D_takeNumber (by decide) rfl (by decide) (k_ok_kF G (4) mi_D_readSleeper) (m_D_takeNumber G)
    (sq_iast (pc := 29) dX3_readSleeper_29
    (sq_aload_n (pc := 30) dX3_readSleeper_30 rfl
    (sq_bipush (pc := 31) dX3_readSleeper_31 kc_b_44
    (sq_callV (d := 4) (d' := 3) (mi' := mi_D_take) (pc := 33) dX3_readSleeper_33 ml_X3_63 in_D_take se_D_take ok_D_take ar_D_take (by decide) rfl (by decide) (k_ok_kF G (4) mi_D_readSleeper) (m_D_take G)
    (sq_aload_n (pc := 36) dX3_readSleeper_36 rfl
    (sq_getr (pc := 37) dX3_readSleeper_37 fl_X3_105 rfl rfl (by decide)
    (sq_iload_n (pc := 40) dX3_readSleeper_40 rfl
    (sq_aload_n (pc := 41) dX3_readSleeper_41 rfl
    (sq_iconst (pc := 42) dX3_readSleeper_42 kc_i_0
    (sq_iconst (pc := 43) dX3_readSleeper_43 kc_i_1
    (sq_callV (d := 4) (d' := 3) (mi' := mi_D_takeNumber) (pc := 44) dX3_readSleeper_44 ml_X3_66 in_D_takeNumber se_D_takeNumber ok_D_takeNumber ar_D_takeNumber (by decide) rfl (by decide) (k_ok_kF G (4) mi_D_readSleeper) (m_D_takeNumber G)
    (sq_iast (pc := 47) dX3_readSleeper_47
    (sq_aload_n (pc := 48) dX3_readSleeper_48 rfl
    (sq_bipush (pc := 49) dX3_readSleeper_49 kc_b_59
    (sq_callV (d := 4) (d' := 3) (mi' := mi_D_take) (pc := 51) dX3_readSleeper_51 ml_X3_63 in_D_take se_D_take ok_D_take ar_D_take (by decide) rfl (by decide) (k_ok_kF G (4) mi_D_readSleeper) (m_D_take G)
    (sq_aload_n (pc := 54) dX3_readSleeper_54 rfl
    (sq_dup (pc := 55) dX3_readSleeper_55
    (sq_geti (pc := 56) dX3_readSleeper_56 fl_X3_93 rfl
    (sq_iconst (pc := 59) dX3_readSleeper_59 kc_i_1
    (sq_iadd (pc := 60) dX3_readSleeper_60
    (sq_puti (pc := 61) dX3_readSleeper_61 fl_X3_93 rfl rfl
    (sq_ret rfl (pc := 64) dX3_readSleeper_64))))))))))))))))))))))))))))))))))))))
theorem m_D_readSleeper (G : GG) : RS kE G 4 mi_D_readSleeper r_D_readSleeper := by
  intro as M v M' h
  unfold r_D_readSleeper at h
  split at h
  · exact mc_of ok_D_readSleeper (s_D_readSleeper_0 G) (k_c1 _ rfl) (Nat.le_of_ble_eq_true rfl) rfl h
  · cases h
set_option maxHeartbeats 10000000 in
set_option maxRecDepth 20000 in
theorem s_D_readSleepers_55 (G : GG) : Sq kE G (kF G (5) mi_D_readSleepers) mi_D_readSleepers 55 (b_D_readSleepers_55) := by
  unfold b_D_readSleepers_55
  exact (sq_ret rfl (pc := 55) dX3_readSleepers_55)
set_option maxHeartbeats 10000000 in
set_option maxRecDepth 20000 in
theorem s_D_readSleepers_49 (G : GG) {k2 : Kt Mi} (h2 : Sq kE G (kF G (5) mi_D_readSleepers) mi_D_readSleepers 2 k2) : Sq kE G (kF G (5) mi_D_readSleepers) mi_D_readSleepers 49 (b_D_readSleepers_49 k2) := by
  unfold b_D_readSleepers_49
  exact (sq_iinc (pc := 49) dX3_readSleepers_49 rfl
    (sq_goto (pc := 52) dX3_readSleepers_52 (tgt := 2) rfl h2))
set_option maxHeartbeats 10000000 in
set_option maxRecDepth 20000 in
theorem s_D_readSleepers_2 (G : GG) (n : Nat) : Sq kE G (kF G (5) mi_D_readSleepers) mi_D_readSleepers 2 (b_D_readSleepers_2 n) := by
  induction n with
  | zero => exact sq_none
  | succ n ih =>
    unfold b_D_readSleepers_2
    exact (sq_iload_n (pc := 2) dX3_readSleepers_2 rfl
    (sq_iconst (pc := 3) dX3_readSleepers_3 kc_i_5
    (sq_cgt (pc := 4) dX3_readSleepers_4 (tgt := 55) rfl
    (s_D_readSleepers_55 G)
    (sq_aload_n (pc := 7) dX3_readSleepers_7 rfl
    (sq_geti (pc := 8) dX3_readSleepers_8 fl_X3_25 rfl
    (sq_ifne (pc := 11) dX3_readSleepers_11 (tgt := 55) rfl
    (sq_aload_n (pc := 14) dX3_readSleepers_14 rfl
    (sq_geti (pc := 15) dX3_readSleepers_15 fl_X3_35 rfl
    (sq_callS (d := 5) (d' := 0) (mi' := mi_D_kindOf) (pc := 18) dX3_readSleepers_18 ml_X3_89 st_D_kindOf ok_D_kindOf ar_D_kindOf (by decide) (k_ok_kF G (5) mi_D_readSleepers) (m_D_kindOf G)
    (sq_ifeq (pc := 21) dX3_readSleepers_21 (tgt := 55) rfl
    (s_D_readSleepers_55 G)
    (sq_aload_n (pc := 24) dX3_readSleepers_24 rfl
    (sq_geti (pc := 25) dX3_readSleepers_25 fl_X3_93 rfl
    (sq_iconst (pc := 28) dX3_readSleepers_28 kc_i_5
    (sq_cne (pc := 29) dX3_readSleepers_29 (tgt := 40) rfl
    (sq_aload_n (pc := 32) dX3_readSleepers_32 rfl
    (sq_iconst (pc := 33) dX3_readSleepers_33 kc_i_3
    (sq_callV (d := 5) (d' := 0) (mi' := mi_D_blame) (pc := 34) dX3_readSleepers_34 ml_X3_59 in_D_blame se_D_blame ok_D_blame ar_D_blame (by decide) rfl (by decide) (k_ok_kF G (5) mi_D_readSleepers) (m_D_blame G)
    (sq_goto (pc := 37) dX3_readSleepers_37 (tgt := 49) rfl (s_D_readSleepers_49 G ih)))))
    (sq_aload_n (pc := 40) dX3_readSleepers_40 rfl
    (sq_aload_n (pc := 41) dX3_readSleepers_41 rfl
    (sq_aload_n (pc := 42) dX3_readSleepers_42 rfl
    (sq_geti (pc := 43) dX3_readSleepers_43 fl_X3_93 rfl
    (sq_callV (d := 5) (d' := 4) (mi' := mi_D_readSleeper) (pc := 46) dX3_readSleepers_46 ml_X3_96 in_D_readSleeper se_D_readSleeper ok_D_readSleeper ar_D_readSleeper (by decide) rfl (by decide) (k_ok_kF G (5) mi_D_readSleepers) (m_D_readSleeper G)
    (s_D_readSleepers_49 G ih))))))))))))))
    (s_D_readSleepers_55 G)))))))
set_option maxHeartbeats 10000000 in
set_option maxRecDepth 20000 in
theorem s_D_readSleepers_0 (G : GG) : Sq kE G (kF G (5) mi_D_readSleepers) mi_D_readSleepers 0 b_D_readSleepers_0 := by
  unfold b_D_readSleepers_0
  exact (sq_iconst (pc := 0) dX3_readSleepers_0 kc_i_0
    (sq_istore_n (pc := 1) dX3_readSleepers_1 rfl
    (s_D_readSleepers_2 G k_fu)))
theorem m_D_readSleepers (G : GG) : RS kE G 5 mi_D_readSleepers r_D_readSleepers := by
  intro as M v M' h
  unfold r_D_readSleepers at h
  split at h
  · exact mc_of ok_D_readSleepers (s_D_readSleepers_0 G) (k_c1 _ rfl) (Nat.le_of_ble_eq_true rfl) rfl h
  · cases h
set_option maxHeartbeats 10000000 in
set_option maxRecDepth 20000 in
theorem s_S_clear_27 (G : GG) (n : Nat) : Sq kE G (kF G (0) mi_S_clear) mi_S_clear 27 (b_S_clear_27 n) := by
  induction n with
  | zero => exact sq_none
  | succ n ih =>
    unfold b_S_clear_27
    exact (sq_iload_n (pc := 27) dX5_clear_27 rfl
    (sq_iconst (pc := 28) dX5_clear_28 kc_i_5
    (sq_cge (pc := 29) dX5_clear_29 (tgt := 45) rfl
    (sq_ret rfl (pc := 45) dX5_clear_45)
    (sq_aload_n (pc := 32) dX5_clear_32 rfl
    (sq_getr (pc := 33) dX5_clear_33 fl_X5_46 rfl rfl (by decide)
    (sq_iload_n (pc := 36) dX5_clear_36 rfl
    (sq_iconst (pc := 37) dX5_clear_37 kc_i_0
    (sq_iast (pc := 38) dX5_clear_38
    (sq_iinc (pc := 39) dX5_clear_39 rfl
    (sq_goto (pc := 42) dX5_clear_42 (tgt := 27) rfl ih))))))))))
set_option maxHeartbeats 10000000 in
set_option maxRecDepth 20000 in
theorem s_S_clear_0 (G : GG) : Sq kE G (kF G (0) mi_S_clear) mi_S_clear 0 b_S_clear_0 := by
  unfold b_S_clear_0
  exact (sq_aload_n (pc := 0) dX5_clear_0 rfl
    (sq_iconst (pc := 1) dX5_clear_1 kc_i_0
    (sq_puti (pc := 2) dX5_clear_2 fl_X5_9 rfl rfl
    (sq_aload_n (pc := 5) dX5_clear_5 rfl
    (sq_iconst (pc := 6) dX5_clear_6 kc_i_0
    (sq_puti (pc := 7) dX5_clear_7 fl_X5_15 rfl rfl
    (sq_aload_n (pc := 10) dX5_clear_10 rfl
    (sq_iconst (pc := 11) dX5_clear_11 kc_i_0
    (sq_puti (pc := 12) dX5_clear_12 fl_X5_18 rfl rfl
    (sq_aload_n (pc := 15) dX5_clear_15 rfl
    (sq_iconst (pc := 16) dX5_clear_16 kc_i_0
    (sq_puti (pc := 17) dX5_clear_17 fl_X5_21 rfl rfl
    (sq_aload_n (pc := 20) dX5_clear_20 rfl
    (sq_iconst (pc := 21) dX5_clear_21 kc_i_0
    (sq_puti (pc := 22) dX5_clear_22 fl_X5_24 rfl rfl
    (sq_iconst (pc := 25) dX5_clear_25 kc_i_0
    (sq_istore_n (pc := 26) dX5_clear_26 rfl
    (s_S_clear_27 G k_fu))))))))))))))))))
theorem m_S_clear (G : GG) : RS kE G 0 mi_S_clear r_S_clear := by
  intro as M v M' h
  unfold r_S_clear at h
  split at h
  · exact mc_of ok_S_clear (s_S_clear_0 G) (k_c1 _ rfl) (Nat.le_of_ble_eq_true rfl) rfl h
  · cases h
set_option maxHeartbeats 10000000 in
set_option maxRecDepth 20000 in
theorem s_D_reads_63 (G : GG) : Sq kE G (kF G (6) mi_D_reads) mi_D_reads 63 (b_D_reads_63) := by
  unfold b_D_reads_63
  exact (sq_zret rfl (pc := 63) dX3_reads_63)
set_option maxHeartbeats 10000000 in
set_option maxRecDepth 20000 in
theorem s_D_reads_46 (G : GG) : Sq kE G (kF G (6) mi_D_reads) mi_D_reads 46 (b_D_reads_46) := by
  unfold b_D_reads_46
  exact (sq_aload_n (pc := 46) dX3_reads_46 rfl
    (sq_iconst (pc := 47) dX3_reads_47 kc_i_0
    (sq_puti (pc := 48) dX3_reads_48 fl_X3_15 rfl rfl
    (sq_aload_n (pc := 51) dX3_reads_51 rfl
    (sq_geti (pc := 52) dX3_reads_52 fl_X3_25 rfl
    (sq_ifne (pc := 55) dX3_reads_55 (tgt := 62) rfl
    (sq_iconst (pc := 58) dX3_reads_58 kc_i_1
    (sq_goto (pc := 59) dX3_reads_59 (tgt := 63) rfl (s_D_reads_63 G)))
    (sq_iconst (pc := 62) dX3_reads_62 kc_i_0
    (s_D_reads_63 G))))))))
set_option maxHeartbeats 10000000 in
set_option maxRecDepth 20000 in
theorem s_D_reads_0 (G : GG) : Sq kE G (kF G (6) mi_D_reads) mi_D_reads 0 b_D_reads_0 := by
  unfold b_D_reads_0
  exact (sq_aload_n (pc := 0) dX3_reads_0 rfl
    (sq_callV (d := 6) (d' := 0) (mi' := mi_S_clear) (pc := 1) dX3_reads_1 ml_X3_41 in_S_clear se_S_clear ok_S_clear ar_S_clear (by decide) rfl (by decide) (k_ok_kF G (6) mi_D_reads) (m_S_clear G)
    (sq_aload_n (pc := 4) dX3_reads_4 rfl
    (sq_iconst (pc := 5) dX3_reads_5 kc_i_0
    (sq_putz (pc := 6) dX3_reads_6 fl_X3_25 rfl rfl
    (sq_aload_n (pc := 9) dX3_reads_9 rfl
    (sq_iconst (pc := 10) dX3_reads_10 kc_i_0
    (sq_puti (pc := 11) dX3_reads_11 fl_X3_29 rfl rfl
    (sq_aload_n (pc := 14) dX3_reads_14 rfl
    (sq_callV (d := 6) (d' := 2) (mi' := mi_D_look) (pc := 15) dX3_reads_15 ml_X3_46 in_D_look se_D_look ok_D_look ar_D_look (by decide) rfl (by decide) (k_ok_kF G (6) mi_D_reads) (m_D_look G)
    (sq_aload_n (pc := 18) dX3_reads_18 rfl
    (sq_aload_n (pc := 19) dX3_reads_19 rfl
    (sq_callV (d := 6) (d' := 4) (mi' := mi_D_readLaw) (pc := 20) dX3_reads_20 ml_X3_49 in_D_readLaw se_D_readLaw ok_D_readLaw ar_D_readLaw (by decide) rfl (by decide) (k_ok_kF G (6) mi_D_reads) (m_D_readLaw G)
    (sq_aload_n (pc := 23) dX3_reads_23 rfl
    (sq_aload_n (pc := 24) dX3_reads_24 rfl
    (sq_callV (d := 6) (d' := 5) (mi' := mi_D_readFlock) (pc := 25) dX3_reads_25 ml_X3_53 in_D_readFlock se_D_readFlock ok_D_readFlock ar_D_readFlock (by decide) rfl (by decide) (k_ok_kF G (6) mi_D_reads) (m_D_readFlock G)
    (sq_aload_n (pc := 28) dX3_reads_28 rfl
    (sq_aload_n (pc := 29) dX3_reads_29 rfl
    (sq_callV (d := 6) (d' := 5) (mi' := mi_D_readSleepers) (pc := 30) dX3_reads_30 ml_X3_56 in_D_readSleepers se_D_readSleepers ok_D_readSleepers ar_D_readSleepers (by decide) rfl (by decide) (k_ok_kF G (6) mi_D_reads) (m_D_readSleepers G)
    (sq_aload_n (pc := 33) dX3_reads_33 rfl
    (sq_geti (pc := 34) dX3_reads_34 fl_X3_35 rfl
    (sq_iconst (pc := 37) dX3_reads_37 kc_i_m1
    (sq_ceq (pc := 38) dX3_reads_38 (tgt := 46) rfl
    (s_D_reads_46 G)
    (sq_aload_n (pc := 41) dX3_reads_41 rfl
    (sq_iconst (pc := 42) dX3_reads_42 kc_i_1
    (sq_callV (d := 6) (d' := 0) (mi' := mi_D_blame) (pc := 43) dX3_reads_43 ml_X3_59 in_D_blame se_D_blame ok_D_blame ar_D_blame (by decide) rfl (by decide) (k_ok_kF G (6) mi_D_reads) (m_D_blame G)
    (s_D_reads_46 G)))))))))))))))))))))))))))
theorem m_D_reads (G : GG) : RS kE G 6 mi_D_reads r_D_reads := by
  intro as M v M' h
  unfold r_D_reads at h
  split at h
  · exact mc_of ok_D_reads (s_D_reads_0 G) (k_c1 _ rfl) (Nat.le_of_ble_eq_true rfl) rfl h
  · cases h
set_option maxHeartbeats 10000000 in
set_option maxRecDepth 20000 in
theorem s_W_init_0 (G : GG) : Sq kId G (kF G (1) mi_W_init) mi_W_init 0 b_W_init_0 := by
  unfold b_W_init_0
  exact (sq_aload_n (pc := 0) dX4_init_0 rfl
    (sq_cobj (d := 1) (pc := 1) dX4_init_1 (List.mem_append_right _ (List.mem_append_left _ (List.mem_of_getElem? (i := 25) rfl))) in_obj co_obj (by decide) (k_ok_kF G (1) mi_W_init)
    (sq_aload_n (pc := 4) dX4_init_4 rfl
    (sq_bipush (pc := 5) dX4_init_5 kc_b_8
    (sq_cnewi (pc := 7) dX4_init_7 ac_int (k_ok_kF G (1) mi_W_init)
    (sq_cputr (pc := 9) dX4_init_9 fl_X4_9 rfl rfl rfl rfl (fun _ => rfl) (fun _ => rfl)
    (sq_aload_n (pc := 12) dX4_init_12 rfl
    (sq_bipush (pc := 13) dX4_init_13 kc_b_8
    (sq_cnewi (pc := 15) dX4_init_15 ac_int (k_ok_kF G (1) mi_W_init)
    (sq_dup (pc := 17) dX4_init_17
    (sq_iconst (pc := 18) dX4_init_18 kc_i_0
    (sq_iconst (pc := 19) dX4_init_19 kc_i_m1
    (sq_ciast (pc := 20) dX4_init_20
    (sq_dup (pc := 21) dX4_init_21
    (sq_iconst (pc := 22) dX4_init_22 kc_i_1
    (sq_iconst (pc := 23) dX4_init_23 kc_i_m1
    (sq_ciast (pc := 24) dX4_init_24
    (sq_dup (pc := 25) dX4_init_25
    (sq_iconst (pc := 26) dX4_init_26 kc_i_2
    (sq_iconst (pc := 27) dX4_init_27 kc_i_m1
    (sq_ciast (pc := 28) dX4_init_28
    (sq_dup (pc := 29) dX4_init_29
    (sq_iconst (pc := 30) dX4_init_30 kc_i_3
    (sq_iconst (pc := 31) dX4_init_31 kc_i_m1
    (sq_ciast (pc := 32) dX4_init_32
    (sq_dup (pc := 33) dX4_init_33
    (sq_iconst (pc := 34) dX4_init_34 kc_i_4
    (sq_iconst (pc := 35) dX4_init_35 kc_i_m1
    (sq_ciast (pc := 36) dX4_init_36
    (sq_dup (pc := 37) dX4_init_37
    (sq_iconst (pc := 38) dX4_init_38 kc_i_5
    (sq_iconst (pc := 39) dX4_init_39 kc_i_m1
    (sq_ciast (pc := 40) dX4_init_40
    (sq_dup (pc := 41) dX4_init_41
    (sq_bipush (pc := 42) dX4_init_42 kc_b_6
    (sq_iconst (pc := 44) dX4_init_44 kc_i_m1
    (sq_ciast (pc := 45) dX4_init_45
    (sq_dup (pc := 46) dX4_init_46
    (sq_bipush (pc := 47) dX4_init_47 kc_b_7
    (sq_iconst (pc := 49) dX4_init_49 kc_i_m1
    (sq_ciast (pc := 50) dX4_init_50
    (sq_cputr (pc := 51) dX4_init_51 fl_X4_13 rfl rfl rfl rfl (fun _ => rfl) (fun _ => rfl)
    (sq_aload_n (pc := 54) dX4_init_54 rfl
    (sq_sipush (pc := 55) dX4_init_55 kc_s_320
    (sq_cnewi (pc := 58) dX4_init_58 ac_int (k_ok_kF G (1) mi_W_init)
    (sq_cputr (pc := 60) dX4_init_60 fl_X4_16 rfl rfl rfl rfl (fun _ => rfl) (fun _ => rfl)
    (sq_ret rfl (pc := 63) dX4_init_63)))))))))))))))))))))))))))))))))))))))))))))))
theorem m_W_init (G : GG) : RS kId G 1 mi_W_init r_W_init := by
  intro as M v M' h
  unfold r_W_init at h
  split at h
  · exact mc_of ok_W_init (s_W_init_0 G) (k_c1 _ rfl) (Nat.le_of_ble_eq_true rfl) rfl h
  · cases h
set_option maxHeartbeats 10000000 in
set_option maxRecDepth 20000 in
theorem s_W_isGone_15 (G : GG) : Sq kE G (kF G (0) mi_W_isGone) mi_W_isGone 15 (b_W_isGone_15) := by
  unfold b_W_isGone_15
  exact (sq_zret rfl (pc := 15) dX4_isGone_15)
set_option maxHeartbeats 10000000 in
set_option maxRecDepth 20000 in
theorem s_W_isGone_0 (G : GG) : Sq kE G (kF G (0) mi_W_isGone) mi_W_isGone 0 b_W_isGone_0 := by
  unfold b_W_isGone_0
  exact (sq_aload_n (pc := 0) dX4_isGone_0 rfl
    (sq_getr (pc := 1) dX4_isGone_1 fl_X4_13 rfl rfl (by decide)
    (sq_iload_n (pc := 4) dX4_isGone_4 rfl
    (sq_iald (pc := 5) dX4_isGone_5
    (sq_iconst (pc := 6) dX4_isGone_6 kc_i_m1
    (sq_cne (pc := 7) dX4_isGone_7 (tgt := 14) rfl
    (sq_iconst (pc := 10) dX4_isGone_10 kc_i_1
    (sq_goto (pc := 11) dX4_isGone_11 (tgt := 15) rfl (s_W_isGone_15 G)))
    (sq_iconst (pc := 14) dX4_isGone_14 kc_i_0
    (s_W_isGone_15 G))))))))
theorem m_W_isGone (G : GG) : RS kE G 0 mi_W_isGone r_W_isGone := by
  intro as M v M' h
  unfold r_W_isGone at h
  split at h
  · exact mc_of ok_W_isGone (s_W_isGone_0 G) (k_c1 _ rfl) (Nat.le_of_ble_eq_true rfl) rfl h
  · cases h
set_option maxHeartbeats 10000000 in
set_option maxRecDepth 20000 in
theorem s_W_lacks_35 (G : GG) : Sq kE G (kF G (0) mi_W_lacks) mi_W_lacks 35 (b_W_lacks_35) := by
  unfold b_W_lacks_35
  exact (sq_zret rfl (pc := 35) dX4_lacks_35)
set_option maxHeartbeats 10000000 in
set_option maxRecDepth 20000 in
theorem s_W_lacks_30 (G : GG) : Sq kE G (kF G (0) mi_W_lacks) mi_W_lacks 30 (b_W_lacks_30) := by
  unfold b_W_lacks_30
  exact (sq_iconst (pc := 30) dX4_lacks_30 kc_i_1
    (sq_goto (pc := 31) dX4_lacks_31 (tgt := 35) rfl (s_W_lacks_35 G)))
set_option maxHeartbeats 10000000 in
set_option maxRecDepth 20000 in
theorem s_W_lacks_0 (G : GG) : Sq kE G (kF G (0) mi_W_lacks) mi_W_lacks 0 b_W_lacks_0 := by
  unfold b_W_lacks_0
  exact (sq_iload_n (pc := 0) dX4_lacks_0 rfl
    (sq_iflt (pc := 1) dX4_lacks_1 (tgt := 30) rfl
    (s_W_lacks_30 G)
    (sq_iload_n (pc := 4) dX4_lacks_4 rfl
    (sq_iflt (pc := 5) dX4_lacks_5 (tgt := 30) rfl
    (s_W_lacks_30 G)
    (sq_iload_n (pc := 8) dX4_lacks_8 rfl
    (sq_aload_n (pc := 9) dX4_lacks_9 rfl
    (sq_getr (pc := 10) dX4_lacks_10 fl_X4_13 rfl rfl (by decide)
    (sq_iload_n (pc := 13) dX4_lacks_13 rfl
    (sq_iald (pc := 14) dX4_lacks_14
    (sq_cgt (pc := 15) dX4_lacks_15 (tgt := 30) rfl
    (s_W_lacks_30 G)
    (sq_iload_n (pc := 18) dX4_lacks_18 rfl
    (sq_aload_n (pc := 19) dX4_lacks_19 rfl
    (sq_getr (pc := 20) dX4_lacks_20 fl_X4_13 rfl rfl (by decide)
    (sq_iload_n (pc := 23) dX4_lacks_23 rfl
    (sq_iald (pc := 24) dX4_lacks_24
    (sq_iload_n (pc := 25) dX4_lacks_25 rfl
    (sq_isub (pc := 26) dX4_lacks_26
    (sq_cle (pc := 27) dX4_lacks_27 (tgt := 34) rfl
    (sq_iconst (pc := 34) dX4_lacks_34 kc_i_0
    (s_W_lacks_35 G))
    (s_W_lacks_30 G)))))))))))))))))))
theorem m_W_lacks (G : GG) : RS kE G 0 mi_W_lacks r_W_lacks := by
  intro as M v M' h
  unfold r_W_lacks at h
  split at h
  · exact mc_of ok_W_lacks (s_W_lacks_0 G) (k_c1 _ rfl) (Nat.le_of_ble_eq_true rfl) rfl h
  · cases h
set_option maxHeartbeats 10000000 in
set_option maxRecDepth 20000 in
theorem s_W_placeOf_0 (G : GG) : Sq kE G (kF G (0) mi_W_placeOf) mi_W_placeOf 0 b_W_placeOf_0 := by
  unfold b_W_placeOf_0
  exact (sq_iload_n (pc := 0) dX4_placeOf_0 rfl
    (sq_bipush (pc := 1) dX4_placeOf_1 kc_b_40
    (sq_imul (pc := 3) dX4_placeOf_3
    (sq_iload_n (pc := 4) dX4_placeOf_4 rfl
    (sq_iadd (pc := 5) dX4_placeOf_5
    (sq_iret rfl (pc := 6) dX4_placeOf_6))))))
theorem m_W_placeOf (G : GG) : RS kE G 0 mi_W_placeOf r_W_placeOf := by
  intro as M v M' h
  unfold r_W_placeOf at h
  split at h
  · exact mc_of ok_W_placeOf (s_W_placeOf_0 G) (k_c1 _ rfl) (Nat.le_of_ble_eq_true rfl) rfl h
  · cases h
set_option maxHeartbeats 10000000 in
set_option maxRecDepth 20000 in
theorem s_W_make_17 (G : GG) (n : Nat) : Sq kE G (kF G (1) mi_W_make) mi_W_make 17 (b_W_make_17 n) := by
  induction n with
  | zero => exact sq_none
  | succ n ih =>
    unfold b_W_make_17
    exact (sq_iload (pc := 17) dX4_make_17
    (sq_iload_n (pc := 19) dX4_make_19 rfl
    (sq_cge (pc := 20) dX4_make_20 (tgt := 42) rfl
    (sq_ret rfl (pc := 42) dX4_make_42)
    (sq_aload_n (pc := 23) dX4_make_23 rfl
    (sq_getr (pc := 24) dX4_make_24 fl_X4_16 rfl rfl (by decide)
    (sq_aload_n (pc := 27) dX4_make_27 rfl
    (sq_iload_n (pc := 28) dX4_make_28 rfl
    (sq_iload (pc := 29) dX4_make_29
    (sq_callV (d := 1) (d' := 0) (mi' := mi_W_placeOf) (pc := 31) dX4_make_31 ml_X4_19 in_W_placeOf se_W_placeOf ok_W_placeOf ar_W_placeOf (by decide) rfl (by decide) (k_ok_kF G (1) mi_W_make) (m_W_placeOf G)
    (sq_iconst (pc := 34) dX4_make_34 kc_i_0
    (sq_iast (pc := 35) dX4_make_35
    (sq_iinc (pc := 36) dX4_make_36 rfl
    (sq_goto (pc := 39) dX4_make_39 (tgt := 17) rfl ih)))))))))))))
set_option maxHeartbeats 10000000 in
set_option maxRecDepth 20000 in
theorem s_W_make_0 (G : GG) : Sq kE G (kF G (1) mi_W_make) mi_W_make 0 b_W_make_0 := by
  unfold b_W_make_0
  exact (sq_aload_n (pc := 0) dX4_make_0 rfl
    (sq_getr (pc := 1) dX4_make_1 fl_X4_9 rfl rfl (by decide)
    (sq_iload_n (pc := 4) dX4_make_4 rfl
    (sq_iload_n (pc := 5) dX4_make_5 rfl
    (sq_iast (pc := 6) dX4_make_6
    (sq_aload_n (pc := 7) dX4_make_7 rfl
    (sq_getr (pc := 8) dX4_make_8 fl_X4_13 rfl rfl (by decide)
    (sq_iload_n (pc := 11) dX4_make_11 rfl
    (sq_iload_n (pc := 12) dX4_make_12 rfl
    (sq_iast (pc := 13) dX4_make_13
    (sq_iconst (pc := 14) dX4_make_14 kc_i_0
    (sq_istore (pc := 15) dX4_make_15
    (s_W_make_17 G k_fu)))))))))))))
theorem m_W_make (G : GG) : RS kE G 1 mi_W_make r_W_make := by
  intro as M v M' h
  unfold r_W_make at h
  split at h
  · exact mc_of ok_W_make (s_W_make_0 G) (k_c1 _ rfl) (Nat.le_of_ble_eq_true rfl) rfl h
  · cases h
set_option maxHeartbeats 10000000 in
set_option maxRecDepth 20000 in
theorem s_W_put_30 (G : GG) : Sq kE G (kF G (1) mi_W_put) mi_W_put 30 (b_W_put_30) := by
  unfold b_W_put_30
  exact (sq_istore (pc := 30) dX4_put_30
    (sq_aload_n (pc := 32) dX4_put_32 rfl
    (sq_getr (pc := 33) dX4_put_33 fl_X4_16 rfl rfl (by decide)
    (sq_aload_n (pc := 36) dX4_put_36 rfl
    (sq_iload_n (pc := 37) dX4_put_37 rfl
    (sq_iload_n (pc := 38) dX4_put_38 rfl
    (sq_callV (d := 1) (d' := 0) (mi' := mi_W_placeOf) (pc := 39) dX4_put_39 ml_X4_19 in_W_placeOf se_W_placeOf ok_W_placeOf ar_W_placeOf (by decide) rfl (by decide) (k_ok_kF G (1) mi_W_put) (m_W_placeOf G)
    (sq_iload (pc := 42) dX4_put_42
    (sq_iast (pc := 44) dX4_put_44
    (sq_iload (pc := 45) dX4_put_45
    (sq_iret rfl (pc := 47) dX4_put_47)))))))))))
set_option maxHeartbeats 10000000 in
set_option maxRecDepth 20000 in
theorem s_W_put_0 (G : GG) : Sq kE G (kF G (1) mi_W_put) mi_W_put 0 b_W_put_0 := by
  unfold b_W_put_0
  exact (sq_aload_n (pc := 0) dX4_put_0 rfl
    (sq_getr (pc := 1) dX4_put_1 fl_X4_9 rfl rfl (by decide)
    (sq_iload_n (pc := 4) dX4_put_4 rfl
    (sq_iald (pc := 5) dX4_put_5
    (sq_ifne (pc := 6) dX4_put_6 (tgt := 14) rfl
    (sq_iload_n (pc := 9) dX4_put_9 rfl
    (sq_i2b (pc := 10) dX4_put_10
    (sq_goto (pc := 11) dX4_put_11 (tgt := 30) rfl (s_W_put_30 G))))
    (sq_aload_n (pc := 14) dX4_put_14 rfl
    (sq_getr (pc := 15) dX4_put_15 fl_X4_9 rfl rfl (by decide)
    (sq_iload_n (pc := 18) dX4_put_18 rfl
    (sq_iald (pc := 19) dX4_put_19
    (sq_iconst (pc := 20) dX4_put_20 kc_i_1
    (sq_cne (pc := 21) dX4_put_21 (tgt := 29) rfl
    (sq_iload_n (pc := 24) dX4_put_24 rfl
    (sq_i2s (pc := 25) dX4_put_25
    (sq_goto (pc := 26) dX4_put_26 (tgt := 30) rfl (s_W_put_30 G))))
    (sq_iload_n (pc := 29) dX4_put_29 rfl
    (s_W_put_30 G)))))))))))))
theorem m_W_put (G : GG) : RS kE G 1 mi_W_put r_W_put := by
  intro as M v M' h
  unfold r_W_put at h
  split at h
  · exact mc_of ok_W_put (s_W_put_0 G) (k_c1 _ rfl) (Nat.le_of_ble_eq_true rfl) rfl h
  · cases h
set_option maxHeartbeats 10000000 in
set_option maxRecDepth 20000 in
theorem s_W_move_0 (G : GG) : Sq kE G (kF G (1) mi_W_move) mi_W_move 0 b_W_move_0 := by
  unfold b_W_move_0
  exact (sq_aload_n (pc := 0) dX4_move_0 rfl
    (sq_getr (pc := 1) dX4_move_1 fl_X4_16 rfl rfl (by decide)
    (sq_aload_n (pc := 4) dX4_move_4 rfl
    (sq_iload_n (pc := 5) dX4_move_5 rfl
    (sq_iload_n (pc := 6) dX4_move_6 rfl
    (sq_callV (d := 1) (d' := 0) (mi' := mi_W_placeOf) (pc := 7) dX4_move_7 ml_X4_19 in_W_placeOf se_W_placeOf ok_W_placeOf ar_W_placeOf (by decide) rfl (by decide) (k_ok_kF G (1) mi_W_move) (m_W_placeOf G)
    (sq_aload_n (pc := 10) dX4_move_10 rfl
    (sq_getr (pc := 11) dX4_move_11 fl_X4_16 rfl rfl (by decide)
    (sq_aload_n (pc := 14) dX4_move_14 rfl
    (sq_iload_n (pc := 15) dX4_move_15 rfl
    (sq_iload (pc := 16) dX4_move_16
    (sq_callV (d := 1) (d' := 0) (mi' := mi_W_placeOf) (pc := 18) dX4_move_18 ml_X4_19 in_W_placeOf se_W_placeOf ok_W_placeOf ar_W_placeOf (by decide) rfl (by decide) (k_ok_kF G (1) mi_W_move) (m_W_placeOf G)
    (sq_iload (pc := 21) dX4_move_21
    (sq_copy (d := 1) (pc := 23) dX4_move_23 (List.mem_append_right _ (List.mem_append_right _ (List.mem_append_left _ (List.mem_of_getElem? (i := 65) rfl)))) nat_cpy st_cpy ini_sys (by decide) (k_ok_kF G (1) mi_W_move)
    (sq_ret rfl (pc := 26) dX4_move_26)))))))))))))))
theorem m_W_move (G : GG) : RS kE G 1 mi_W_move r_W_move := by
  intro as M v M' h
  unfold r_W_move at h
  split at h
  · exact mc_of ok_W_move (s_W_move_0 G) (k_c1 _ rfl) (Nat.le_of_ble_eq_true rfl) rfl h
  · cases h
set_option maxHeartbeats 10000000 in
set_option maxRecDepth 20000 in
theorem s_W_lose_0 (G : GG) : Sq kE G (kF G (0) mi_W_lose) mi_W_lose 0 b_W_lose_0 := by
  unfold b_W_lose_0
  exact (sq_aload_n (pc := 0) dX4_lose_0 rfl
    (sq_getr (pc := 1) dX4_lose_1 fl_X4_13 rfl rfl (by decide)
    (sq_iload_n (pc := 4) dX4_lose_4 rfl
    (sq_iald (pc := 5) dX4_lose_5
    (sq_istore_n (pc := 6) dX4_lose_6 rfl
    (sq_aload_n (pc := 7) dX4_lose_7 rfl
    (sq_getr (pc := 8) dX4_lose_8 fl_X4_13 rfl rfl (by decide)
    (sq_iload_n (pc := 11) dX4_lose_11 rfl
    (sq_iconst (pc := 12) dX4_lose_12 kc_i_m1
    (sq_iast (pc := 13) dX4_lose_13
    (sq_iload_n (pc := 14) dX4_lose_14 rfl
    (sq_iret rfl (pc := 15) dX4_lose_15))))))))))))
theorem m_W_lose (G : GG) : RS kE G 0 mi_W_lose r_W_lose := by
  intro as M v M' h
  unfold r_W_lose at h
  split at h
  · exact mc_of ok_W_lose (s_W_lose_0 G) (k_c1 _ rfl) (Nat.le_of_ble_eq_true rfl) rfl h
  · cases h
set_option maxHeartbeats 10000000 in
set_option maxRecDepth 20000 in
theorem s_W_howMany_21 (G : GG) {k4 : Kt Mi} (h4 : Sq kE G (kF G (1) mi_W_howMany) mi_W_howMany 4 k4) : Sq kE G (kF G (1) mi_W_howMany) mi_W_howMany 21 (b_W_howMany_21 k4) := by
  unfold b_W_howMany_21
  exact (sq_iinc (pc := 21) dX4_howMany_21 rfl
    (sq_goto (pc := 24) dX4_howMany_24 (tgt := 4) rfl h4))
set_option maxHeartbeats 10000000 in
set_option maxRecDepth 20000 in
theorem s_W_howMany_4 (G : GG) (n : Nat) : Sq kE G (kF G (1) mi_W_howMany) mi_W_howMany 4 (b_W_howMany_4 n) := by
  induction n with
  | zero => exact sq_none
  | succ n ih =>
    unfold b_W_howMany_4
    exact (sq_iload_n (pc := 4) dX4_howMany_4 rfl
    (sq_bipush (pc := 5) dX4_howMany_5 kc_b_8
    (sq_cge (pc := 7) dX4_howMany_7 (tgt := 27) rfl
    (sq_iload_n (pc := 27) dX4_howMany_27 rfl
    (sq_iret rfl (pc := 28) dX4_howMany_28))
    (sq_aload_n (pc := 10) dX4_howMany_10 rfl
    (sq_iload_n (pc := 11) dX4_howMany_11 rfl
    (sq_callV (d := 1) (d' := 0) (mi' := mi_W_isGone) (pc := 12) dX4_howMany_12 ml_X4_29 in_W_isGone se_W_isGone ok_W_isGone ar_W_isGone (by decide) rfl (by decide) (k_ok_kF G (1) mi_W_howMany) (m_W_isGone G)
    (sq_ifne (pc := 15) dX4_howMany_15 (tgt := 21) rfl
    (sq_iinc (pc := 18) dX4_howMany_18 rfl
    (s_W_howMany_21 G ih))
    (s_W_howMany_21 G ih))))))))
set_option maxHeartbeats 10000000 in
set_option maxRecDepth 20000 in
theorem s_W_howMany_0 (G : GG) : Sq kE G (kF G (1) mi_W_howMany) mi_W_howMany 0 b_W_howMany_0 := by
  unfold b_W_howMany_0
  exact (sq_iconst (pc := 0) dX4_howMany_0 kc_i_0
    (sq_istore_n (pc := 1) dX4_howMany_1 rfl
    (sq_iconst (pc := 2) dX4_howMany_2 kc_i_0
    (sq_istore_n (pc := 3) dX4_howMany_3 rfl
    (s_W_howMany_4 G k_fu)))))
theorem m_W_howMany (G : GG) : RS kE G 1 mi_W_howMany r_W_howMany := by
  intro as M v M' h
  unfold r_W_howMany at h
  split at h
  · exact mc_of ok_W_howMany (s_W_howMany_0 G) (k_c1 _ rfl) (Nat.le_of_ble_eq_true rfl) rfl h
  · cases h
set_option maxHeartbeats 10000000 in
set_option maxRecDepth 20000 in
theorem s_S_heardBy_27 (G : GG) {k4 : Kt Mi} (h4 : Sq kE G (kF G (1) mi_S_heardBy) mi_S_heardBy 4 k4) : Sq kE G (kF G (1) mi_S_heardBy) mi_S_heardBy 27 (b_S_heardBy_27 k4) := by
  unfold b_S_heardBy_27
  exact (sq_iinc (pc := 27) dX5_heardBy_27 rfl
    (sq_goto (pc := 30) dX5_heardBy_30 (tgt := 4) rfl h4))
set_option maxHeartbeats 10000000 in
set_option maxRecDepth 20000 in
theorem s_S_heardBy_4 (G : GG) (n : Nat) : Sq kE G (kF G (1) mi_S_heardBy) mi_S_heardBy 4 (b_S_heardBy_4 n) := by
  induction n with
  | zero => exact sq_none
  | succ n ih =>
    unfold b_S_heardBy_4
    exact (sq_iload_n (pc := 4) dX5_heardBy_4 rfl
    (sq_aload_n (pc := 5) dX5_heardBy_5 rfl
    (sq_geti (pc := 6) dX5_heardBy_6 fl_X5_9 rfl
    (sq_cge (pc := 9) dX5_heardBy_9 (tgt := 33) rfl
    (sq_iload_n (pc := 33) dX5_heardBy_33 rfl
    (sq_iret rfl (pc := 34) dX5_heardBy_34))
    (sq_aload_n (pc := 12) dX5_heardBy_12 rfl
    (sq_iload_n (pc := 13) dX5_heardBy_13 rfl
    (sq_iload_n (pc := 14) dX5_heardBy_14 rfl
    (sq_callV (d := 1) (d' := 0) (mi' := mi_S_hears) (pc := 15) dX5_heardBy_15 ml_X5_59 in_S_hears se_S_hears ok_S_hears ar_S_hears (by decide) rfl (by decide) (k_ok_kF G (1) mi_S_heardBy) (m_S_hears G)
    (sq_ifeq (pc := 18) dX5_heardBy_18 (tgt := 27) rfl
    (s_S_heardBy_27 G ih)
    (sq_iload_n (pc := 21) dX5_heardBy_21 rfl
    (sq_iconst (pc := 22) dX5_heardBy_22 kc_i_1
    (sq_iload_n (pc := 23) dX5_heardBy_23 rfl
    (sq_ishl (pc := 24) dX5_heardBy_24
    (sq_ior (pc := 25) dX5_heardBy_25
    (sq_istore_n (pc := 26) dX5_heardBy_26 rfl
    (s_S_heardBy_27 G ih))))))))))))))))
set_option maxHeartbeats 10000000 in
set_option maxRecDepth 20000 in
theorem s_S_heardBy_0 (G : GG) : Sq kE G (kF G (1) mi_S_heardBy) mi_S_heardBy 0 b_S_heardBy_0 := by
  unfold b_S_heardBy_0
  exact (sq_iconst (pc := 0) dX5_heardBy_0 kc_i_0
    (sq_istore_n (pc := 1) dX5_heardBy_1 rfl
    (sq_iconst (pc := 2) dX5_heardBy_2 kc_i_0
    (sq_istore_n (pc := 3) dX5_heardBy_3 rfl
    (s_S_heardBy_4 G k_fu)))))
theorem m_S_heardBy (G : GG) : RS kE G 1 mi_S_heardBy r_S_heardBy := by
  intro as M v M' h
  unfold r_S_heardBy at h
  split at h
  · exact mc_of ok_S_heardBy (s_S_heardBy_0 G) (k_c1 _ rfl) (Nat.le_of_ble_eq_true rfl) rfl h
  · cases h
set_option maxHeartbeats 10000000 in
set_option maxRecDepth 20000 in
theorem s_S_placeOf_2 (G : GG) (n : Nat) : Sq kE G (kF G (0) mi_S_placeOf) mi_S_placeOf 2 (b_S_placeOf_2 n) := by
  induction n with
  | zero => exact sq_none
  | succ n ih =>
    unfold b_S_placeOf_2
    exact (sq_iload_n (pc := 2) dX5_placeOf_2 rfl
    (sq_aload_n (pc := 3) dX5_placeOf_3 rfl
    (sq_geti (pc := 4) dX5_placeOf_4 fl_X5_9 rfl
    (sq_cge (pc := 7) dX5_placeOf_7 (tgt := 28) rfl
    (sq_ldc (pc := 28) dX5_placeOf_28 ct_X5_63
    (sq_iret rfl (pc := 30) dX5_placeOf_30))
    (sq_aload_n (pc := 10) dX5_placeOf_10 rfl
    (sq_getr (pc := 11) dX5_placeOf_11 fl_X5_34 rfl rfl (by decide)
    (sq_iload_n (pc := 14) dX5_placeOf_14 rfl
    (sq_iald (pc := 15) dX5_placeOf_15
    (sq_iload_n (pc := 16) dX5_placeOf_16 rfl
    (sq_cne (pc := 17) dX5_placeOf_17 (tgt := 22) rfl
    (sq_iload_n (pc := 20) dX5_placeOf_20 rfl
    (sq_iret rfl (pc := 21) dX5_placeOf_21))
    (sq_iinc (pc := 22) dX5_placeOf_22 rfl
    (sq_goto (pc := 25) dX5_placeOf_25 (tgt := 2) rfl ih))))))))))))
set_option maxHeartbeats 10000000 in
set_option maxRecDepth 20000 in
theorem s_S_placeOf_0 (G : GG) : Sq kE G (kF G (0) mi_S_placeOf) mi_S_placeOf 0 b_S_placeOf_0 := by
  unfold b_S_placeOf_0
  exact (sq_iconst (pc := 0) dX5_placeOf_0 kc_i_0
    (sq_istore_n (pc := 1) dX5_placeOf_1 rfl
    (s_S_placeOf_2 G k_fu)))
theorem m_S_placeOf (G : GG) : RS kE G 0 mi_S_placeOf r_S_placeOf := by
  intro as M v M' h
  unfold r_S_placeOf at h
  split at h
  · exact mc_of ok_S_placeOf (s_S_placeOf_0 G) (k_c1 _ rfl) (Nat.le_of_ble_eq_true rfl) rfl h
  · cases h
set_option maxHeartbeats 10000000 in
set_option maxRecDepth 20000 in
theorem s_x_init_0 (G : GG) : Sq kId G (kF G (3) mi_x_init) mi_x_init 0 b_x_init_0 := by
  unfold b_x_init_0
  exact (sq_aload_n (pc := 0) dX6_init_0 rfl
    (sq_cobj (d := 3) (pc := 1) dX6_init_1 (List.mem_append_right _ (List.mem_append_left _ (List.mem_of_getElem? (i := 17) rfl))) in_obj co_obj (by decide) (k_ok_kF G (3) mi_x_init)
    (sq_aload_n (pc := 4) dX6_init_4 rfl
    (sq_cnew (pc := 5) dX6_init_5 (by decide) cl_X6_7 ins_4 ini_X4 (k_ok_kF G (3) mi_x_init)
    (sq_dup (pc := 8) dX6_init_8
    (sq_callIN (host := RX6) (d := 3) (pc := 9) dX6_init_9 (List.mem_of_getElem? (i := 0) rfl) in_W_init ok_W_init rfl rfl ar_W_init (by decide) (k_ok_kF G (3) mi_x_init) (m_W_init G)
    (sq_cputr (pc := 12) dX6_init_12 fl_X6_10 rfl rfl rfl rfl (fun _ => rfl) (fun _ => rfl)
    (sq_aload_n (pc := 15) dX6_init_15 rfl
    (sq_cnew (pc := 16) dX6_init_16 (by decide) cl_X6_16 ins_3 ini_X3 (k_ok_kF G (3) mi_x_init)
    (sq_dup (pc := 19) dX6_init_19
    (sq_callIN (host := RX6) (d := 3) (pc := 20) dX6_init_20 (List.mem_of_getElem? (i := 1) rfl) in_D_init ok_D_init rfl rfl ar_D_init (by decide) (k_ok_kF G (3) mi_x_init) (m_D_init G)
    (sq_cputr (pc := 23) dX6_init_23 fl_X6_19 rfl rfl rfl rfl (fun _ => rfl) (fun _ => rfl)
    (sq_aload_n (pc := 26) dX6_init_26 rfl
    (sq_cnew (pc := 27) dX6_init_27 (by decide) cl_X6_23 ins_5 ini_X5 (k_ok_kF G (3) mi_x_init)
    (sq_dup (pc := 30) dX6_init_30
    (sq_callIN (host := RX6) (d := 3) (pc := 31) dX6_init_31 (List.mem_of_getElem? (i := 2) rfl) in_S_init ok_S_init rfl rfl ar_S_init (by decide) (k_ok_kF G (3) mi_x_init) (m_S_init G)
    (sq_cputr (pc := 34) dX6_init_34 fl_X6_26 rfl rfl rfl rfl (fun _ => rfl) (fun _ => rfl)
    (sq_aload_n (pc := 37) dX6_init_37 rfl
    (sq_cnew (pc := 38) dX6_init_38 (by decide) cl_X6_23 ins_5 ini_X5 (k_ok_kF G (3) mi_x_init)
    (sq_dup (pc := 41) dX6_init_41
    (sq_callIN (host := RX6) (d := 3) (pc := 42) dX6_init_42 (List.mem_of_getElem? (i := 2) rfl) in_S_init ok_S_init rfl rfl ar_S_init (by decide) (k_ok_kF G (3) mi_x_init) (m_S_init G)
    (sq_cputr (pc := 45) dX6_init_45 fl_X6_30 rfl rfl rfl rfl (fun _ => rfl) (fun _ => rfl)
    (sq_aload_n (pc := 48) dX6_init_48 rfl
    (sq_cnew (pc := 49) dX6_init_49 (by decide) cl_X6_23 ins_5 ini_X5 (k_ok_kF G (3) mi_x_init)
    (sq_dup (pc := 52) dX6_init_52
    (sq_callIN (host := RX6) (d := 3) (pc := 53) dX6_init_53 (List.mem_of_getElem? (i := 2) rfl) in_S_init ok_S_init rfl rfl ar_S_init (by decide) (k_ok_kF G (3) mi_x_init) (m_S_init G)
    (sq_cputr (pc := 56) dX6_init_56 fl_X6_33 rfl rfl rfl rfl (fun _ => rfl) (fun _ => rfl)
    (sq_aload_n (pc := 59) dX6_init_59 rfl
    (sq_cnew (pc := 60) dX6_init_60 (by decide) cl_X6_36 ins_0 ini_X0 (k_ok_kF G (3) mi_x_init)
    (sq_dup (pc := 63) dX6_init_63
    (sq_callIN (host := RX6) (d := 3) (pc := 64) dX6_init_64 (List.mem_of_getElem? (i := 3) rfl) in_A_init ok_A_init rfl rfl ar_A_init (by decide) (k_ok_kF G (3) mi_x_init) (m_A_init G)
    (sq_cputr (pc := 67) dX6_init_67 fl_X6_39 rfl rfl rfl rfl (fun _ => rfl) (fun _ => rfl)
    (sq_aload_n (pc := 70) dX6_init_70 rfl
    (sq_cnew (pc := 71) dX6_init_71 (by decide) cl_X6_43 ins_2 ini_X2 (k_ok_kF G (3) mi_x_init)
    (sq_dup (pc := 74) dX6_init_74
    (sq_callIN (host := RX6) (d := 3) (pc := 75) dX6_init_75 (List.mem_of_getElem? (i := 4) rfl) in_F_init ok_F_init rfl rfl ar_F_init (by decide) (k_ok_kF G (3) mi_x_init) (m_F_init G)
    (sq_cputr (pc := 78) dX6_init_78 fl_X6_46 rfl rfl rfl rfl (fun _ => rfl) (fun _ => rfl)
    (sq_aload_n (pc := 81) dX6_init_81 rfl
    (sq_cnew (pc := 82) dX6_init_82 (by decide) cl_X6_50 ins_1 ini_X1 (k_ok_kF G (3) mi_x_init)
    (sq_dup (pc := 85) dX6_init_85
    (sq_callIN (host := RX6) (d := 3) (pc := 86) dX6_init_86 (List.mem_of_getElem? (i := 6) rfl) in_Q_init ok_Q_init rfl rfl ar_Q_init (by decide) (k_ok_kF G (3) mi_x_init) (m_Q_init G)
    (sq_cputr (pc := 89) dX6_init_89 fl_X6_53 rfl rfl rfl rfl (fun _ => rfl) (fun _ => rfl)
    (sq_aload_n (pc := 92) dX6_init_92 rfl
    (sq_iconst (pc := 93) dX6_init_93 kc_i_0
    (sq_cputi (pc := 94) dX6_init_94 fl_X6_57 rfl rfl
    (sq_ret rfl (pc := 97) dX6_init_97))))))))))))))))))))))))))))))))))))))))))))))
theorem m_x_init (G : GG) : RS kId G 3 mi_x_init r_x_init := by
  intro as M v M' h
  unfold r_x_init at h
  split at h
  · exact mc_of ok_x_init (s_x_init_0 G) (k_c1 _ rfl) (Nat.le_of_ble_eq_true rfl) rfl h
  · cases h
set_option maxHeartbeats 10000000 in
set_option maxRecDepth 20000 in
theorem s_x_fine_0 (G : GG) : Sq kE G (kF G (0) mi_x_fine) mi_x_fine 0 b_x_fine_0 := by
  unfold b_x_fine_0
  exact (sq_aload_n (pc := 0) dX6_fine_0 rfl
    (sq_iconst (pc := 1) dX6_fine_1 kc_i_0
    (sq_puti (pc := 2) dX6_fine_2 fl_X6_57 rfl rfl
    (sq_iload_n (pc := 5) dX6_fine_5 rfl
    (sq_iret rfl (pc := 6) dX6_fine_6)))))
theorem m_x_fine (G : GG) : RS kE G 0 mi_x_fine r_x_fine := by
  intro as M v M' h
  unfold r_x_fine at h
  split at h
  · exact mc_of ok_x_fine (s_x_fine_0 G) (k_c1 _ rfl) (Nat.le_of_ble_eq_true rfl) rfl h
  · cases h
set_option maxHeartbeats 10000000 in
set_option maxRecDepth 20000 in
theorem s_x_found_0 (G : GG) : Sq kE G (kF G (0) mi_x_found) mi_x_found 0 b_x_found_0 := by
  unfold b_x_found_0
  exact (sq_aload_n (pc := 0) dX6_found_0 rfl
    (sq_iload_n (pc := 1) dX6_found_1 rfl
    (sq_puti (pc := 2) dX6_found_2 fl_X6_57 rfl rfl
    (sq_ldcw (pc := 5) dX6_found_5 ct_X6_285
    (sq_iload_n (pc := 8) dX6_found_8 rfl
    (sq_isub (pc := 9) dX6_found_9
    (sq_iret rfl (pc := 10) dX6_found_10)))))))
theorem m_x_found (G : GG) : RS kE G 0 mi_x_found r_x_found := by
  intro as M v M' h
  unfold r_x_found at h
  split at h
  · exact mc_of ok_x_found (s_x_found_0 G) (k_c1 _ rfl) (Nat.le_of_ble_eq_true rfl) rfl h
  · cases h
set_option maxHeartbeats 10000000 in
set_option maxRecDepth 20000 in
theorem s_x_noRow_15 (G : GG) : Sq kE G (kF G (0) mi_x_noRow) mi_x_noRow 15 (b_x_noRow_15) := by
  unfold b_x_noRow_15
  exact (sq_zret rfl (pc := 15) dX6_noRow_15)
set_option maxHeartbeats 10000000 in
set_option maxRecDepth 20000 in
theorem s_x_noRow_10 (G : GG) : Sq kE G (kF G (0) mi_x_noRow) mi_x_noRow 10 (b_x_noRow_10) := by
  unfold b_x_noRow_10
  exact (sq_iconst (pc := 10) dX6_noRow_10 kc_i_1
    (sq_goto (pc := 11) dX6_noRow_11 (tgt := 15) rfl (s_x_noRow_15 G)))
set_option maxHeartbeats 10000000 in
set_option maxRecDepth 20000 in
theorem s_x_noRow_0 (G : GG) : Sq kE G (kF G (0) mi_x_noRow) mi_x_noRow 0 b_x_noRow_0 := by
  unfold b_x_noRow_0
  exact (sq_iload_n (pc := 0) dX6_noRow_0 rfl
    (sq_iflt (pc := 1) dX6_noRow_1 (tgt := 10) rfl
    (s_x_noRow_10 G)
    (sq_iload_n (pc := 4) dX6_noRow_4 rfl
    (sq_bipush (pc := 5) dX6_noRow_5 kc_b_8
    (sq_clt (pc := 7) dX6_noRow_7 (tgt := 14) rfl
    (sq_iconst (pc := 14) dX6_noRow_14 kc_i_0
    (s_x_noRow_15 G))
    (s_x_noRow_10 G))))))
theorem m_x_noRow (G : GG) : RS kE G 0 mi_x_noRow r_x_noRow := by
  intro as M v M' h
  unfold r_x_noRow at h
  split at h
  · exact mc_of ok_x_noRow (s_x_noRow_0 G) (k_c1 _ rfl) (Nat.le_of_ble_eq_true rfl) rfl h
  · cases h
set_option maxHeartbeats 10000000 in
set_option maxRecDepth 20000 in
theorem s_x_row_23 (G : GG) : Sq kE G (kF G (2) mi_x_row) mi_x_row 23 (b_x_row_23) := by
  unfold b_x_row_23
  exact (sq_ldc (pc := 23) dX6_row_23 ct_X6_65
    (sq_iret rfl (pc := 25) dX6_row_25))
set_option maxHeartbeats 10000000 in
set_option maxRecDepth 20000 in
theorem s_x_row_0 (G : GG) : Sq kE G (kF G (2) mi_x_row) mi_x_row 0 b_x_row_0 := by
  unfold b_x_row_0
  exact (sq_aload_n (pc := 0) dX6_row_0 rfl
    (sq_iload_n (pc := 1) dX6_row_1 rfl
    (sq_callV (d := 2) (d' := 0) (mi' := mi_x_noRow) (pc := 2) dX6_row_2 ml_X6_61 in_x_noRow se_x_noRow ok_x_noRow ar_x_noRow (by decide) rfl (by decide) (k_ok_kF G (2) mi_x_row) (m_x_noRow G)
    (sq_ifne (pc := 5) dX6_row_5 (tgt := 23) rfl
    (sq_iload_n (pc := 8) dX6_row_8 rfl
    (sq_iflt (pc := 9) dX6_row_9 (tgt := 23) rfl
    (s_x_row_23 G)
    (sq_iload_n (pc := 12) dX6_row_12 rfl
    (sq_iconst (pc := 13) dX6_row_13 kc_i_3
    (sq_cge (pc := 14) dX6_row_14 (tgt := 23) rfl
    (s_x_row_23 G)
    (sq_iload_n (pc := 17) dX6_row_17 rfl
    (sq_bipush (pc := 18) dX6_row_18 kc_b_40
    (sq_cle (pc := 20) dX6_row_20 (tgt := 26) rfl
    (sq_iload_n (pc := 26) dX6_row_26 rfl
    (sq_ifge (pc := 27) dX6_row_27 (tgt := 36) rfl
    (sq_aload_n (pc := 36) dX6_row_36 rfl
    (sq_getr (pc := 37) dX6_row_37 fl_X6_10 rfl rfl (by decide)
    (sq_iload_n (pc := 40) dX6_row_40 rfl
    (sq_iload_n (pc := 41) dX6_row_41 rfl
    (sq_iload_n (pc := 42) dX6_row_42 rfl
    (sq_callV (d := 2) (d' := 1) (mi' := mi_W_make) (pc := 43) dX6_row_43 ml_X6_70 in_W_make se_W_make ok_W_make ar_W_make (by decide) rfl (by decide) (k_ok_kF G (2) mi_x_row) (m_W_make G)
    (sq_aload_n (pc := 46) dX6_row_46 rfl
    (sq_iload_n (pc := 47) dX6_row_47 rfl
    (sq_callV (d := 2) (d' := 0) (mi' := mi_x_fine) (pc := 48) dX6_row_48 ml_X6_74 in_x_fine se_x_fine ok_x_fine ar_x_fine (by decide) rfl (by decide) (k_ok_kF G (2) mi_x_row) (m_x_fine G)
    (sq_iret rfl (pc := 51) dX6_row_51))))))))))
    (sq_aload_n (pc := 30) dX6_row_30 rfl
    (sq_iconst (pc := 31) dX6_row_31 kc_i_4
    (sq_callV (d := 2) (d' := 0) (mi' := mi_x_found) (pc := 32) dX6_row_32 ml_X6_66 in_x_found se_x_found ok_x_found ar_x_found (by decide) rfl (by decide) (k_ok_kF G (2) mi_x_row) (m_x_found G)
    (sq_iret rfl (pc := 35) dX6_row_35))))))
    (s_x_row_23 G)))))))))
    (s_x_row_23 G)))))
theorem m_x_row (G : GG) : RS kE G 2 mi_x_row r_x_row := by
  intro as M v M' h
  unfold r_x_row at h
  split at h
  · exact mc_of ok_x_row (s_x_row_0 G) (k_c1 _ rfl) (Nat.le_of_ble_eq_true rfl) rfl h
  · cases h
set_option maxHeartbeats 10000000 in
set_option maxRecDepth 20000 in
theorem s_x_set_0 (G : GG) : Sq kE G (kF G (2) mi_x_set) mi_x_set 0 b_x_set_0 := by
  unfold b_x_set_0
  exact (sq_aload_n (pc := 0) dX6_set_0 rfl
    (sq_iload_n (pc := 1) dX6_set_1 rfl
    (sq_callV (d := 2) (d' := 0) (mi' := mi_x_noRow) (pc := 2) dX6_set_2 ml_X6_61 in_x_noRow se_x_noRow ok_x_noRow ar_x_noRow (by decide) rfl (by decide) (k_ok_kF G (2) mi_x_set) (m_x_noRow G)
    (sq_ifeq (pc := 5) dX6_set_5 (tgt := 11) rfl
    (sq_aload_n (pc := 11) dX6_set_11 rfl
    (sq_getr (pc := 12) dX6_set_12 fl_X6_10 rfl rfl (by decide)
    (sq_iload_n (pc := 15) dX6_set_15 rfl
    (sq_callV (d := 2) (d' := 0) (mi' := mi_W_isGone) (pc := 16) dX6_set_16 ml_X6_77 in_W_isGone se_W_isGone ok_W_isGone ar_W_isGone (by decide) rfl (by decide) (k_ok_kF G (2) mi_x_set) (m_W_isGone G)
    (sq_ifeq (pc := 19) dX6_set_19 (tgt := 28) rfl
    (sq_aload_n (pc := 28) dX6_set_28 rfl
    (sq_getr (pc := 29) dX6_set_29 fl_X6_10 rfl rfl (by decide)
    (sq_iload_n (pc := 32) dX6_set_32 rfl
    (sq_iload_n (pc := 33) dX6_set_33 rfl
    (sq_iconst (pc := 34) dX6_set_34 kc_i_1
    (sq_callV (d := 2) (d' := 0) (mi' := mi_W_lacks) (pc := 35) dX6_set_35 ml_X6_80 in_W_lacks se_W_lacks ok_W_lacks ar_W_lacks (by decide) rfl (by decide) (k_ok_kF G (2) mi_x_set) (m_W_lacks G)
    (sq_ifeq (pc := 38) dX6_set_38 (tgt := 47) rfl
    (sq_aload_n (pc := 47) dX6_set_47 rfl
    (sq_aload_n (pc := 48) dX6_set_48 rfl
    (sq_getr (pc := 49) dX6_set_49 fl_X6_10 rfl rfl (by decide)
    (sq_iload_n (pc := 52) dX6_set_52 rfl
    (sq_iload_n (pc := 53) dX6_set_53 rfl
    (sq_iload_n (pc := 54) dX6_set_54 rfl
    (sq_callV (d := 2) (d' := 1) (mi' := mi_W_put) (pc := 55) dX6_set_55 ml_X6_84 in_W_put se_W_put ok_W_put ar_W_put (by decide) rfl (by decide) (k_ok_kF G (2) mi_x_set) (m_W_put G)
    (sq_callV (d := 2) (d' := 0) (mi' := mi_x_fine) (pc := 58) dX6_set_58 ml_X6_74 in_x_fine se_x_fine ok_x_fine ar_x_fine (by decide) rfl (by decide) (k_ok_kF G (2) mi_x_set) (m_x_fine G)
    (sq_iret rfl (pc := 61) dX6_set_61)))))))))
    (sq_aload_n (pc := 41) dX6_set_41 rfl
    (sq_iconst (pc := 42) dX6_set_42 kc_i_2
    (sq_callV (d := 2) (d' := 0) (mi' := mi_x_found) (pc := 43) dX6_set_43 ml_X6_66 in_x_found se_x_found ok_x_found ar_x_found (by decide) rfl (by decide) (k_ok_kF G (2) mi_x_set) (m_x_found G)
    (sq_iret rfl (pc := 46) dX6_set_46)))))))))))
    (sq_aload_n (pc := 22) dX6_set_22 rfl
    (sq_iconst (pc := 23) dX6_set_23 kc_i_1
    (sq_callV (d := 2) (d' := 0) (mi' := mi_x_found) (pc := 24) dX6_set_24 ml_X6_66 in_x_found se_x_found ok_x_found ar_x_found (by decide) rfl (by decide) (k_ok_kF G (2) mi_x_set) (m_x_found G)
    (sq_iret rfl (pc := 27) dX6_set_27)))))))))
    (sq_ldc (pc := 8) dX6_set_8 ct_X6_65
    (sq_iret rfl (pc := 10) dX6_set_10))))))
theorem m_x_set (G : GG) : RS kE G 2 mi_x_set r_x_set := by
  intro as M v M' h
  unfold r_x_set at h
  split at h
  · exact mc_of ok_x_set (s_x_set_0 G) (k_c1 _ rfl) (Nat.le_of_ble_eq_true rfl) rfl h
  · cases h
