/-! ===== the machine does what the functions say ===== -/
set_option maxHeartbeats 10000000 in
set_option maxRecDepth 20000 in
theorem s_m_takeOut_38 (G : GG) (n : Nat) : Sq kE G (kF G (1) mi_m_takeOut) mi_m_takeOut 38 (b_m_takeOut_38 n) := by
  induction n with
  | zero => exact sq_none
  | succ n ih =>
    unfold b_m_takeOut_38
    exact (sq_iload (pc := 38) dX7_takeOut_38
    (sq_iload_n (pc := 40) dX7_takeOut_40 rfl
    (sq_cge (pc := 41) dX7_takeOut_41 (tgt := 71) rfl
    (sq_iconst (pc := 71) dX7_takeOut_71 kc_i_0
    (sq_iret rfl (pc := 72) dX7_takeOut_72))
    (sq_aload_n (pc := 44) dX7_takeOut_44 rfl
    (sq_getr (pc := 45) dX7_takeOut_45 fl_X7_44 rfl rfl (by decide)
    (sq_iload (pc := 48) dX7_takeOut_48
    (sq_aload_n (pc := 50) dX7_takeOut_50 rfl
    (sq_getr (pc := 51) dX7_takeOut_51 fl_X7_16 rfl rfl (by decide)
    (sq_bipush (pc := 54) dX7_takeOut_54 kc_b_40
    (sq_iload_n (pc := 56) dX7_takeOut_56 rfl
    (sq_imul (pc := 57) dX7_takeOut_57
    (sq_iload_n (pc := 58) dX7_takeOut_58 rfl
    (sq_iadd (pc := 59) dX7_takeOut_59
    (sq_iload (pc := 60) dX7_takeOut_60
    (sq_iadd (pc := 62) dX7_takeOut_62
    (sq_iald (pc := 63) dX7_takeOut_63
    (sq_iast (pc := 64) dX7_takeOut_64
    (sq_iinc (pc := 65) dX7_takeOut_65 rfl
    (sq_goto (pc := 68) dX7_takeOut_68 (tgt := 38) rfl ih)))))))))))))))))))
set_option maxHeartbeats 10000000 in
set_option maxRecDepth 20000 in
theorem s_m_takeOut_0 (G : GG) : Sq kE G (kF G (1) mi_m_takeOut) mi_m_takeOut 0 b_m_takeOut_0 := by
  unfold b_m_takeOut_0
  exact (sq_aload_n (pc := 0) dX7_takeOut_0 rfl
    (sq_getr (pc := 1) dX7_takeOut_1 fl_X7_7 rfl rfl (by decide)
    (sq_iload_n (pc := 4) dX7_takeOut_4 rfl
    (sq_iald (pc := 5) dX7_takeOut_5
    (sq_ifge (pc := 6) dX7_takeOut_6 (tgt := 15) rfl
    (sq_iload_n (pc := 15) dX7_takeOut_15 rfl
    (sq_iload_n (pc := 16) dX7_takeOut_16 rfl
    (sq_aload_n (pc := 17) dX7_takeOut_17 rfl
    (sq_getr (pc := 18) dX7_takeOut_18 fl_X7_13 rfl rfl (by decide)
    (sq_iload_n (pc := 21) dX7_takeOut_21 rfl
    (sq_iald (pc := 22) dX7_takeOut_22
    (sq_callS (d := 1) (d' := 0) (mi' := mi_m_isPart) (pc := 23) dX7_takeOut_23 ml_X7_77 st_m_isPart ok_m_isPart ar_m_isPart (by decide) (k_ok_kF G (1) mi_m_takeOut) (m_m_isPart G)
    (sq_ifne (pc := 26) dX7_takeOut_26 (tgt := 35) rfl
    (sq_aload_n (pc := 29) dX7_takeOut_29 rfl
    (sq_iconst (pc := 30) dX7_takeOut_30 kc_i_2
    (sq_callV (d := 1) (d' := 0) (mi' := mi_m_finds) (pc := 31) dX7_takeOut_31 ml_X7_70 in_m_finds se_m_finds ok_m_finds ar_m_finds (by decide) rfl (by decide) (k_ok_kF G (1) mi_m_takeOut) (m_m_finds G)
    (sq_iret rfl (pc := 34) dX7_takeOut_34))))
    (sq_iconst (pc := 35) dX7_takeOut_35 kc_i_0
    (sq_istore (pc := 36) dX7_takeOut_36
    (s_m_takeOut_38 G k_fu)))))))))))
    (sq_aload_n (pc := 9) dX7_takeOut_9 rfl
    (sq_iconst (pc := 10) dX7_takeOut_10 kc_i_1
    (sq_callV (d := 1) (d' := 0) (mi' := mi_m_finds) (pc := 11) dX7_takeOut_11 ml_X7_70 in_m_finds se_m_finds ok_m_finds ar_m_finds (by decide) rfl (by decide) (k_ok_kF G (1) mi_m_takeOut) (m_m_finds G)
    (sq_iret rfl (pc := 14) dX7_takeOut_14)))))))))
theorem m_m_takeOut (G : GG) : RS kE G 1 mi_m_takeOut r_m_takeOut := by
  intro as M v M' h
  unfold r_m_takeOut at h
  split at h
  · exact mc_of ok_m_takeOut (s_m_takeOut_0 G) (k_c1 _ rfl) (Nat.le_of_ble_eq_true rfl) rfl h
  · cases h
set_option maxHeartbeats 10000000 in
set_option maxRecDepth 20000 in
theorem s_m_isSo_48 (G : GG) {k5 : Kt Mi} (h5 : Sq kE G (kF G (2) mi_m_isSo) mi_m_isSo 5 k5) : Sq kE G (kF G (2) mi_m_isSo) mi_m_isSo 48 (b_m_isSo_48 k5) := by
  unfold b_m_isSo_48
  exact (sq_istore_n (pc := 48) dX7_isSo_48 rfl
    (sq_iinc (pc := 49) dX7_isSo_49 rfl
    (sq_goto (pc := 52) dX7_isSo_52 (tgt := 5) rfl h5)))
set_option maxHeartbeats 10000000 in
set_option maxRecDepth 20000 in
theorem s_m_isSo_47 (G : GG) {k5 : Kt Mi} (h5 : Sq kE G (kF G (2) mi_m_isSo) mi_m_isSo 5 k5) : Sq kE G (kF G (2) mi_m_isSo) mi_m_isSo 47 (b_m_isSo_47 k5) := by
  unfold b_m_isSo_47
  exact (sq_iconst (pc := 47) dX7_isSo_47 kc_i_0
    (s_m_isSo_48 G h5))
set_option maxHeartbeats 10000000 in
set_option maxRecDepth 20000 in
theorem s_m_isSo_5 (G : GG) (n : Nat) : Sq kE G (kF G (2) mi_m_isSo) mi_m_isSo 5 (b_m_isSo_5 n) := by
  induction n with
  | zero => exact sq_none
  | succ n ih =>
    unfold b_m_isSo_5
    exact (sq_iload (pc := 5) dX7_isSo_5
    (sq_iload_n (pc := 7) dX7_isSo_7 rfl
    (sq_cge (pc := 8) dX7_isSo_8 (tgt := 55) rfl
    (sq_iload_n (pc := 55) dX7_isSo_55 rfl
    (sq_zret rfl (pc := 56) dX7_isSo_56))
    (sq_aload_n (pc := 11) dX7_isSo_11 rfl
    (sq_getr (pc := 12) dX7_isSo_12 fl_X7_28 rfl rfl (by decide)
    (sq_iload_n (pc := 15) dX7_isSo_15 rfl
    (sq_callS (d := 2) (d' := 1) (mi' := mi_m_pass) (pc := 16) dX7_isSo_16 ml_X7_162 st_m_pass ok_m_pass ar_m_pass (by decide) (k_ok_kF G (2) mi_m_isSo) (m_m_pass G)
    (sq_iload_n (pc := 19) dX7_isSo_19 rfl
    (sq_ifeq (pc := 20) dX7_isSo_20 (tgt := 47) rfl
    (s_m_isSo_47 G ih)
    (sq_aload_n (pc := 23) dX7_isSo_23 rfl
    (sq_getr (pc := 24) dX7_isSo_24 fl_X7_28 rfl rfl (by decide)
    (sq_callS (d := 2) (d' := 0) (mi' := mi_m_offOf) (pc := 27) dX7_isSo_27 ml_X7_166 st_m_offOf ok_m_offOf ar_m_offOf (by decide) (k_ok_kF G (2) mi_m_isSo) (m_m_offOf G)
    (sq_callS (d := 2) (d' := 0) (mi' := mi_m_bits) (pc := 30) dX7_isSo_30 ml_X7_137 st_m_bits ok_m_bits ar_m_bits (by decide) (k_ok_kF G (2) mi_m_isSo) (m_m_bits G)
    (sq_aload_n (pc := 33) dX7_isSo_33 rfl
    (sq_getr (pc := 34) dX7_isSo_34 fl_X7_44 rfl rfl (by decide)
    (sq_iload (pc := 37) dX7_isSo_37
    (sq_iald (pc := 39) dX7_isSo_39
    (sq_cne (pc := 40) dX7_isSo_40 (tgt := 47) rfl
    (sq_iconst (pc := 43) dX7_isSo_43 kc_i_1
    (sq_goto (pc := 44) dX7_isSo_44 (tgt := 48) rfl (s_m_isSo_48 G ih)))
    (s_m_isSo_47 G ih)))))))))))))))))))
set_option maxHeartbeats 10000000 in
set_option maxRecDepth 20000 in
theorem s_m_isSo_0 (G : GG) : Sq kE G (kF G (2) mi_m_isSo) mi_m_isSo 0 b_m_isSo_0 := by
  unfold b_m_isSo_0
  exact (sq_iconst (pc := 0) dX7_isSo_0 kc_i_1
    (sq_istore_n (pc := 1) dX7_isSo_1 rfl
    (sq_iconst (pc := 2) dX7_isSo_2 kc_i_0
    (sq_istore (pc := 3) dX7_isSo_3
    (s_m_isSo_5 G k_fu)))))
theorem m_m_isSo (G : GG) : RS kE G 2 mi_m_isSo r_m_isSo := by
  intro as M v M' h
  unfold r_m_isSo at h
  split at h
  · exact mc_of ok_m_isSo (s_m_isSo_0 G) (k_c1 _ rfl) (Nat.le_of_ble_eq_true rfl) rfl h
  · cases h
set_option maxHeartbeats 10000000 in
set_option maxRecDepth 20000 in
theorem s_m_missing_27 (G : GG) : Sq kE G (kF G (3) mi_m_missing) mi_m_missing 27 (b_m_missing_27) := by
  unfold b_m_missing_27
  exact (sq_ldc (pc := 27) dX7_missing_27 ct_X7_69
    (sq_iret rfl (pc := 29) dX7_missing_29))
set_option maxHeartbeats 10000000 in
set_option maxRecDepth 20000 in
theorem s_m_missing_116 (G : GG) : Sq kE G (kF G (3) mi_m_missing) mi_m_missing 116 (b_m_missing_116) := by
  unfold b_m_missing_116
  exact (sq_aload_n (pc := 116) dX7_missing_116 rfl
    (sq_iload (pc := 117) dX7_missing_117
    (sq_callV (d := 3) (d' := 0) (mi' := mi_m_done) (pc := 119) dX7_missing_119 ml_X7_74 in_m_done se_m_done ok_m_done ar_m_done (by decide) rfl (by decide) (k_ok_kF G (3) mi_m_missing) (m_m_done G)
    (sq_iret rfl (pc := 122) dX7_missing_122))))
set_option maxHeartbeats 10000000 in
set_option maxRecDepth 20000 in
theorem s_m_missing_107 (G : GG) {k53 : Kt Mi} (h53 : Sq kE G (kF G (3) mi_m_missing) mi_m_missing 53 k53) : Sq kE G (kF G (3) mi_m_missing) mi_m_missing 107 (b_m_missing_107 k53) := by
  unfold b_m_missing_107
  exact (sq_ior (pc := 107) dX7_missing_107
    (sq_istore (pc := 108) dX7_missing_108
    (sq_iinc (pc := 110) dX7_missing_110 rfl
    (sq_goto (pc := 113) dX7_missing_113 (tgt := 53) rfl h53))))
set_option maxHeartbeats 10000000 in
set_option maxRecDepth 20000 in
theorem s_m_missing_53 (G : GG) (n : Nat) : Sq kE G (kF G (3) mi_m_missing) mi_m_missing 53 (b_m_missing_53 n) := by
  induction n with
  | zero => exact sq_none
  | succ n ih =>
    unfold b_m_missing_53
    exact (sq_iload (pc := 53) dX7_missing_53
    (sq_aload_n (pc := 55) dX7_missing_55 rfl
    (sq_getr (pc := 56) dX7_missing_56 fl_X7_22 rfl rfl (by decide)
    (sq_iconst (pc := 59) dX7_missing_59 kc_i_2
    (sq_iald (pc := 60) dX7_missing_60
    (sq_cge (pc := 61) dX7_missing_61 (tgt := 116) rfl
    (s_m_missing_116 G)
    (sq_aload_n (pc := 64) dX7_missing_64 rfl
    (sq_getr (pc := 65) dX7_missing_65 fl_X7_22 rfl rfl (by decide)
    (sq_iconst (pc := 68) dX7_missing_68 kc_i_2
    (sq_iald (pc := 69) dX7_missing_69
    (sq_iconst (pc := 70) dX7_missing_70 kc_i_1
    (sq_cle (pc := 71) dX7_missing_71 (tgt := 116) rfl
    (s_m_missing_116 G)
    (sq_aload_n (pc := 74) dX7_missing_74 rfl
    (sq_callV (d := 3) (d' := 1) (mi' := mi_m_begin) (pc := 75) dX7_missing_75 ml_X7_176 in_m_begin se_m_begin ok_m_begin ar_m_begin (by decide) rfl (by decide) (k_ok_kF G (3) mi_m_missing) (m_m_begin G)
    (sq_iload (pc := 78) dX7_missing_78
    (sq_aload_n (pc := 80) dX7_missing_80 rfl
    (sq_iload_n (pc := 81) dX7_missing_81 rfl
    (sq_aload_n (pc := 82) dX7_missing_82 rfl
    (sq_callV (d := 3) (d' := 0) (mi' := mi_m_flock) (pc := 83) dX7_missing_83 ml_X7_158 in_m_flock se_m_flock ok_m_flock ar_m_flock (by decide) rfl (by decide) (k_ok_kF G (3) mi_m_missing) (m_m_flock G)
    (sq_iconst (pc := 86) dX7_missing_86 kc_i_1
    (sq_iload (pc := 87) dX7_missing_87
    (sq_ishl (pc := 89) dX7_missing_89
    (sq_iconst (pc := 90) dX7_missing_90 kc_i_m1
    (sq_ixor (pc := 91) dX7_missing_91
    (sq_iand (pc := 92) dX7_missing_92
    (sq_callV (d := 3) (d' := 2) (mi' := mi_m_isSo) (pc := 93) dX7_missing_93 ml_X7_200 in_m_isSo se_m_isSo ok_m_isSo ar_m_isSo (by decide) rfl (by decide) (k_ok_kF G (3) mi_m_missing) (m_m_isSo G)
    (sq_ifeq (pc := 96) dX7_missing_96 (tgt := 106) rfl
    (sq_iconst (pc := 106) dX7_missing_106 kc_i_0
    (s_m_missing_107 G ih))
    (sq_iconst (pc := 99) dX7_missing_99 kc_i_1
    (sq_iload (pc := 100) dX7_missing_100
    (sq_ishl (pc := 102) dX7_missing_102
    (sq_goto (pc := 103) dX7_missing_103 (tgt := 107) rfl (s_m_missing_107 G ih))))))))))))))))))))))))))))))))
set_option maxHeartbeats 10000000 in
set_option maxRecDepth 20000 in
theorem s_m_missing_0 (G : GG) : Sq kE G (kF G (3) mi_m_missing) mi_m_missing 0 b_m_missing_0 := by
  unfold b_m_missing_0
  exact (sq_aload_n (pc := 0) dX7_missing_0 rfl
    (sq_callV (d := 3) (d' := 0) (mi' := mi_m_isSquare) (pc := 1) dX7_missing_1 ml_X7_151 in_m_isSquare se_m_isSquare ok_m_isSquare ar_m_isSquare (by decide) rfl (by decide) (k_ok_kF G (3) mi_m_missing) (m_m_isSquare G)
    (sq_ifne (pc := 4) dX7_missing_4 (tgt := 10) rfl
    (sq_ldc (pc := 7) dX7_missing_7 ct_X7_154
    (sq_iret rfl (pc := 9) dX7_missing_9))
    (sq_iload_n (pc := 10) dX7_missing_10 rfl
    (sq_callS (d := 3) (d' := 1) (mi' := mi_m_isRow) (pc := 11) dX7_missing_11 ml_X7_65 st_m_isRow ok_m_isRow ar_m_isRow (by decide) (k_ok_kF G (3) mi_m_missing) (m_m_isRow G)
    (sq_ifeq (pc := 14) dX7_missing_14 (tgt := 27) rfl
    (s_m_missing_27 G)
    (sq_iload_n (pc := 17) dX7_missing_17 rfl
    (sq_iconst (pc := 18) dX7_missing_18 kc_i_1
    (sq_bipush (pc := 19) dX7_missing_19 kc_b_16
    (sq_callS (d := 3) (d' := 0) (mi' := mi_m_in) (pc := 21) dX7_missing_21 ml_X7_56 st_m_in ok_m_in ar_m_in (by decide) (k_ok_kF G (3) mi_m_missing) (m_m_in G)
    (sq_ifne (pc := 24) dX7_missing_24 (tgt := 30) rfl
    (s_m_missing_27 G)
    (sq_aload_n (pc := 30) dX7_missing_30 rfl
    (sq_iload_n (pc := 31) dX7_missing_31 rfl
    (sq_iload_n (pc := 32) dX7_missing_32 rfl
    (sq_iload_n (pc := 33) dX7_missing_33 rfl
    (sq_callV (d := 3) (d' := 1) (mi' := mi_m_takeOut) (pc := 34) dX7_missing_34 ml_X7_197 in_m_takeOut se_m_takeOut ok_m_takeOut ar_m_takeOut (by decide) rfl (by decide) (k_ok_kF G (3) mi_m_missing) (m_m_takeOut G)
    (sq_istore (pc := 37) dX7_missing_37
    (sq_iload (pc := 39) dX7_missing_39
    (sq_ifge (pc := 41) dX7_missing_41 (tgt := 47) rfl
    (sq_iconst (pc := 47) dX7_missing_47 kc_i_0
    (sq_istore (pc := 48) dX7_missing_48
    (sq_iconst (pc := 50) dX7_missing_50 kc_i_0
    (sq_istore (pc := 51) dX7_missing_51
    (s_m_missing_53 G k_fu)))))
    (sq_iload (pc := 44) dX7_missing_44
    (sq_iret rfl (pc := 46) dX7_missing_46)))))))))))))))))))))
theorem m_m_missing (G : GG) : RS kE G 3 mi_m_missing r_m_missing := by
  intro as M v M' h
  unfold r_m_missing at h
  split at h
  · exact mc_of ok_m_missing (s_m_missing_0 G) (k_c1 _ rfl) (Nat.le_of_ble_eq_true rfl) rfl h
  · cases h
set_option maxHeartbeats 10000000 in
set_option maxRecDepth 20000 in
theorem s_m_windy_27 (G : GG) : Sq kE G (kF G (3) mi_m_windy) mi_m_windy 27 (b_m_windy_27) := by
  unfold b_m_windy_27
  exact (sq_ldc (pc := 27) dX7_windy_27 ct_X7_69
    (sq_iret rfl (pc := 29) dX7_windy_29))
set_option maxHeartbeats 10000000 in
set_option maxRecDepth 20000 in
theorem s_m_windy_94 (G : GG) {k53 : Kt Mi} (h53 : Sq kE G (kF G (3) mi_m_windy) mi_m_windy 53 k53) : Sq kE G (kF G (3) mi_m_windy) mi_m_windy 94 (b_m_windy_94 k53) := by
  unfold b_m_windy_94
  exact (sq_ior (pc := 94) dX7_windy_94
    (sq_istore (pc := 95) dX7_windy_95
    (sq_iinc (pc := 97) dX7_windy_97 rfl
    (sq_goto (pc := 100) dX7_windy_100 (tgt := 53) rfl h53))))
set_option maxHeartbeats 10000000 in
set_option maxRecDepth 20000 in
theorem s_m_windy_53 (G : GG) (n : Nat) : Sq kE G (kF G (3) mi_m_windy) mi_m_windy 53 (b_m_windy_53 n) := by
  induction n with
  | zero => exact sq_none
  | succ n ih =>
    unfold b_m_windy_53
    exact (sq_iload (pc := 53) dX7_windy_53
    (sq_bipush (pc := 55) dX7_windy_55 kc_b_10
    (sq_cge (pc := 57) dX7_windy_57 (tgt := 103) rfl
    (sq_aload_n (pc := 103) dX7_windy_103 rfl
    (sq_iload (pc := 104) dX7_windy_104
    (sq_callV (d := 3) (d' := 0) (mi' := mi_m_done) (pc := 106) dX7_windy_106 ml_X7_74 in_m_done se_m_done ok_m_done ar_m_done (by decide) rfl (by decide) (k_ok_kF G (3) mi_m_windy) (m_m_done G)
    (sq_iret rfl (pc := 109) dX7_windy_109))))
    (sq_aload_n (pc := 60) dX7_windy_60 rfl
    (sq_callV (d := 3) (d' := 1) (mi' := mi_m_begin) (pc := 61) dX7_windy_61 ml_X7_176 in_m_begin se_m_begin ok_m_begin ar_m_begin (by decide) rfl (by decide) (k_ok_kF G (3) mi_m_windy) (m_m_begin G)
    (sq_aload_n (pc := 64) dX7_windy_64 rfl
    (sq_getr (pc := 65) dX7_windy_65 fl_X7_28 rfl rfl (by decide)
    (sq_iconst (pc := 68) dX7_windy_68 kc_i_1
    (sq_iload (pc := 69) dX7_windy_69
    (sq_iast (pc := 71) dX7_windy_71
    (sq_iload (pc := 72) dX7_windy_72
    (sq_aload_n (pc := 74) dX7_windy_74 rfl
    (sq_iload_n (pc := 75) dX7_windy_75 rfl
    (sq_aload_n (pc := 76) dX7_windy_76 rfl
    (sq_callV (d := 3) (d' := 0) (mi' := mi_m_flock) (pc := 77) dX7_windy_77 ml_X7_158 in_m_flock se_m_flock ok_m_flock ar_m_flock (by decide) rfl (by decide) (k_ok_kF G (3) mi_m_windy) (m_m_flock G)
    (sq_callV (d := 3) (d' := 2) (mi' := mi_m_isSo) (pc := 80) dX7_windy_80 ml_X7_200 in_m_isSo se_m_isSo ok_m_isSo ar_m_isSo (by decide) rfl (by decide) (k_ok_kF G (3) mi_m_windy) (m_m_isSo G)
    (sq_ifeq (pc := 83) dX7_windy_83 (tgt := 93) rfl
    (sq_iconst (pc := 93) dX7_windy_93 kc_i_0
    (s_m_windy_94 G ih))
    (sq_iconst (pc := 86) dX7_windy_86 kc_i_1
    (sq_iload (pc := 87) dX7_windy_87
    (sq_ishl (pc := 89) dX7_windy_89
    (sq_goto (pc := 90) dX7_windy_90 (tgt := 94) rfl (s_m_windy_94 G ih))))))))))))))))))))))
set_option maxHeartbeats 10000000 in
set_option maxRecDepth 20000 in
theorem s_m_windy_0 (G : GG) : Sq kE G (kF G (3) mi_m_windy) mi_m_windy 0 b_m_windy_0 := by
  unfold b_m_windy_0
  exact (sq_aload_n (pc := 0) dX7_windy_0 rfl
    (sq_callV (d := 3) (d' := 0) (mi' := mi_m_isSquare) (pc := 1) dX7_windy_1 ml_X7_151 in_m_isSquare se_m_isSquare ok_m_isSquare ar_m_isSquare (by decide) rfl (by decide) (k_ok_kF G (3) mi_m_windy) (m_m_isSquare G)
    (sq_ifne (pc := 4) dX7_windy_4 (tgt := 10) rfl
    (sq_ldc (pc := 7) dX7_windy_7 ct_X7_154
    (sq_iret rfl (pc := 9) dX7_windy_9))
    (sq_iload_n (pc := 10) dX7_windy_10 rfl
    (sq_callS (d := 3) (d' := 1) (mi' := mi_m_isRow) (pc := 11) dX7_windy_11 ml_X7_65 st_m_isRow ok_m_isRow ar_m_isRow (by decide) (k_ok_kF G (3) mi_m_windy) (m_m_isRow G)
    (sq_ifeq (pc := 14) dX7_windy_14 (tgt := 27) rfl
    (s_m_windy_27 G)
    (sq_iload_n (pc := 17) dX7_windy_17 rfl
    (sq_iconst (pc := 18) dX7_windy_18 kc_i_1
    (sq_bipush (pc := 19) dX7_windy_19 kc_b_16
    (sq_callS (d := 3) (d' := 0) (mi' := mi_m_in) (pc := 21) dX7_windy_21 ml_X7_56 st_m_in ok_m_in ar_m_in (by decide) (k_ok_kF G (3) mi_m_windy) (m_m_in G)
    (sq_ifne (pc := 24) dX7_windy_24 (tgt := 30) rfl
    (s_m_windy_27 G)
    (sq_aload_n (pc := 30) dX7_windy_30 rfl
    (sq_iload_n (pc := 31) dX7_windy_31 rfl
    (sq_iload_n (pc := 32) dX7_windy_32 rfl
    (sq_iload_n (pc := 33) dX7_windy_33 rfl
    (sq_callV (d := 3) (d' := 1) (mi' := mi_m_takeOut) (pc := 34) dX7_windy_34 ml_X7_197 in_m_takeOut se_m_takeOut ok_m_takeOut ar_m_takeOut (by decide) rfl (by decide) (k_ok_kF G (3) mi_m_windy) (m_m_takeOut G)
    (sq_istore (pc := 37) dX7_windy_37
    (sq_iload (pc := 39) dX7_windy_39
    (sq_ifge (pc := 41) dX7_windy_41 (tgt := 47) rfl
    (sq_iconst (pc := 47) dX7_windy_47 kc_i_0
    (sq_istore (pc := 48) dX7_windy_48
    (sq_iconst (pc := 50) dX7_windy_50 kc_i_0
    (sq_istore (pc := 51) dX7_windy_51
    (s_m_windy_53 G k_fu)))))
    (sq_iload (pc := 44) dX7_windy_44
    (sq_iret rfl (pc := 46) dX7_windy_46)))))))))))))))))))))
theorem m_m_windy (G : GG) : RS kE G 3 mi_m_windy r_m_windy := by
  intro as M v M' h
  unfold r_m_windy at h
  split at h
  · exact mc_of ok_m_windy (s_m_windy_0 G) (k_c1 _ rfl) (Nat.le_of_ble_eq_true rfl) rfl h
  · cases h
set_option maxHeartbeats 10000000 in
set_option maxRecDepth 20000 in
theorem s_m_sorts_26 (G : GG) : Sq kE G (kF G (3) mi_m_sorts) mi_m_sorts 26 (b_m_sorts_26) := by
  unfold b_m_sorts_26
  exact (sq_ldc (pc := 26) dX7_sorts_26 ct_X7_69
    (sq_iret rfl (pc := 28) dX7_sorts_28))
set_option maxHeartbeats 10000000 in
set_option maxRecDepth 20000 in
theorem s_m_sorts_97 (G : GG) {k53 : Kt Mi} (h53 : Sq kE G (kF G (3) mi_m_sorts) mi_m_sorts 53 k53) : Sq kE G (kF G (3) mi_m_sorts) mi_m_sorts 97 (b_m_sorts_97 k53) := by
  unfold b_m_sorts_97
  exact (sq_ior (pc := 97) dX7_sorts_97
    (sq_istore (pc := 98) dX7_sorts_98
    (sq_iinc (pc := 100) dX7_sorts_100 rfl
    (sq_goto (pc := 103) dX7_sorts_103 (tgt := 53) rfl h53))))
set_option maxHeartbeats 10000000 in
set_option maxRecDepth 20000 in
theorem s_m_sorts_53 (G : GG) (n : Nat) : Sq kE G (kF G (3) mi_m_sorts) mi_m_sorts 53 (b_m_sorts_53 n) := by
  induction n with
  | zero => exact sq_none
  | succ n ih =>
    unfold b_m_sorts_53
    exact (sq_iload (pc := 53) dX7_sorts_53
    (sq_iconst (pc := 55) dX7_sorts_55 kc_i_5
    (sq_cgt (pc := 56) dX7_sorts_56 (tgt := 106) rfl
    (sq_aload_n (pc := 106) dX7_sorts_106 rfl
    (sq_iload (pc := 107) dX7_sorts_107
    (sq_callV (d := 3) (d' := 0) (mi' := mi_m_done) (pc := 109) dX7_sorts_109 ml_X7_74 in_m_done se_m_done ok_m_done ar_m_done (by decide) rfl (by decide) (k_ok_kF G (3) mi_m_sorts) (m_m_done G)
    (sq_iret rfl (pc := 112) dX7_sorts_112))))
    (sq_aload_n (pc := 59) dX7_sorts_59 rfl
    (sq_callV (d := 3) (d' := 1) (mi' := mi_m_begin) (pc := 60) dX7_sorts_60 ml_X7_176 in_m_begin se_m_begin ok_m_begin ar_m_begin (by decide) rfl (by decide) (k_ok_kF G (3) mi_m_sorts) (m_m_begin G)
    (sq_aload_n (pc := 63) dX7_sorts_63 rfl
    (sq_getr (pc := 64) dX7_sorts_64 fl_X7_28 rfl rfl (by decide)
    (sq_bipush (pc := 67) dX7_sorts_67 kc_b_22
    (sq_iload_n (pc := 69) dX7_sorts_69 rfl
    (sq_iadd (pc := 70) dX7_sorts_70
    (sq_iload (pc := 71) dX7_sorts_71
    (sq_iast (pc := 73) dX7_sorts_73
    (sq_iload (pc := 74) dX7_sorts_74
    (sq_aload_n (pc := 76) dX7_sorts_76 rfl
    (sq_iload (pc := 77) dX7_sorts_77
    (sq_aload_n (pc := 79) dX7_sorts_79 rfl
    (sq_callV (d := 3) (d' := 0) (mi' := mi_m_flock) (pc := 80) dX7_sorts_80 ml_X7_158 in_m_flock se_m_flock ok_m_flock ar_m_flock (by decide) rfl (by decide) (k_ok_kF G (3) mi_m_sorts) (m_m_flock G)
    (sq_callV (d := 3) (d' := 2) (mi' := mi_m_isSo) (pc := 83) dX7_sorts_83 ml_X7_200 in_m_isSo se_m_isSo ok_m_isSo ar_m_isSo (by decide) rfl (by decide) (k_ok_kF G (3) mi_m_sorts) (m_m_isSo G)
    (sq_ifeq (pc := 86) dX7_sorts_86 (tgt := 96) rfl
    (sq_iconst (pc := 96) dX7_sorts_96 kc_i_0
    (s_m_sorts_97 G ih))
    (sq_iconst (pc := 89) dX7_sorts_89 kc_i_1
    (sq_iload (pc := 90) dX7_sorts_90
    (sq_ishl (pc := 92) dX7_sorts_92
    (sq_goto (pc := 93) dX7_sorts_93 (tgt := 97) rfl (s_m_sorts_97 G ih))))))))))))))))))))))))
set_option maxHeartbeats 10000000 in
set_option maxRecDepth 20000 in
theorem s_m_sorts_0 (G : GG) : Sq kE G (kF G (3) mi_m_sorts) mi_m_sorts 0 b_m_sorts_0 := by
  unfold b_m_sorts_0
  exact (sq_aload_n (pc := 0) dX7_sorts_0 rfl
    (sq_iload_n (pc := 1) dX7_sorts_1 rfl
    (sq_callV (d := 3) (d' := 1) (mi' := mi_m_isOne) (pc := 2) dX7_sorts_2 ml_X7_170 in_m_isOne se_m_isOne ok_m_isOne ar_m_isOne (by decide) rfl (by decide) (k_ok_kF G (3) mi_m_sorts) (m_m_isOne G)
    (sq_ifeq (pc := 5) dX7_sorts_5 (tgt := 26) rfl
    (s_m_sorts_26 G)
    (sq_iload_n (pc := 8) dX7_sorts_8 rfl
    (sq_callS (d := 3) (d' := 1) (mi' := mi_m_isRow) (pc := 9) dX7_sorts_9 ml_X7_65 st_m_isRow ok_m_isRow ar_m_isRow (by decide) (k_ok_kF G (3) mi_m_sorts) (m_m_isRow G)
    (sq_ifeq (pc := 12) dX7_sorts_12 (tgt := 26) rfl
    (s_m_sorts_26 G)
    (sq_iload (pc := 15) dX7_sorts_15
    (sq_iconst (pc := 17) dX7_sorts_17 kc_i_1
    (sq_bipush (pc := 18) dX7_sorts_18 kc_b_16
    (sq_callS (d := 3) (d' := 0) (mi' := mi_m_in) (pc := 20) dX7_sorts_20 ml_X7_56 st_m_in ok_m_in ar_m_in (by decide) (k_ok_kF G (3) mi_m_sorts) (m_m_in G)
    (sq_ifne (pc := 23) dX7_sorts_23 (tgt := 29) rfl
    (s_m_sorts_26 G)
    (sq_aload_n (pc := 29) dX7_sorts_29 rfl
    (sq_iload_n (pc := 30) dX7_sorts_30 rfl
    (sq_iload_n (pc := 31) dX7_sorts_31 rfl
    (sq_iload (pc := 32) dX7_sorts_32
    (sq_callV (d := 3) (d' := 1) (mi' := mi_m_takeOut) (pc := 34) dX7_sorts_34 ml_X7_197 in_m_takeOut se_m_takeOut ok_m_takeOut ar_m_takeOut (by decide) rfl (by decide) (k_ok_kF G (3) mi_m_sorts) (m_m_takeOut G)
    (sq_istore (pc := 37) dX7_sorts_37
    (sq_iload (pc := 39) dX7_sorts_39
    (sq_ifge (pc := 41) dX7_sorts_41 (tgt := 47) rfl
    (sq_iconst (pc := 47) dX7_sorts_47 kc_i_0
    (sq_istore (pc := 48) dX7_sorts_48
    (sq_iconst (pc := 50) dX7_sorts_50 kc_i_1
    (sq_istore (pc := 51) dX7_sorts_51
    (s_m_sorts_53 G k_fu)))))
    (sq_iload (pc := 44) dX7_sorts_44
    (sq_iret rfl (pc := 46) dX7_sorts_46))))))))))))))))))))))
theorem m_m_sorts (G : GG) : RS kE G 3 mi_m_sorts r_m_sorts := by
  intro as M v M' h
  unfold r_m_sorts at h
  split at h
  · exact mc_of ok_m_sorts (s_m_sorts_0 G) (k_c1 _ rfl) (Nat.le_of_ble_eq_true rfl) rfl h
  · cases h
set_option maxHeartbeats 10000000 in
set_option maxRecDepth 20000 in
theorem s_m_stay_38 (G : GG) : Sq kE G (kF G (2) mi_m_stay) mi_m_stay 38 (b_m_stay_38) := by
  unfold b_m_stay_38
  exact (sq_ldc (pc := 38) dX7_stay_38 ct_X7_69
    (sq_iret rfl (pc := 40) dX7_stay_40))
set_option maxHeartbeats 10000000 in
set_option maxRecDepth 20000 in
theorem s_m_stay_254 (G : GG) : Sq kE G (kF G (2) mi_m_stay) mi_m_stay 254 (b_m_stay_254) := by
  unfold b_m_stay_254
  exact (sq_iload (pc := 254) dX7_stay_254
    (sq_idiv (pc := 256) dX7_stay_256
    (sq_iret rfl (pc := 257) dX7_stay_257)))
set_option maxHeartbeats 10000000 in
set_option maxRecDepth 20000 in
theorem s_m_stay_219 (G : GG) (n : Nat) : Sq kE G (kF G (2) mi_m_stay) mi_m_stay 219 (b_m_stay_219 n) := by
  induction n with
  | zero => exact sq_none
  | succ n ih =>
    unfold b_m_stay_219
    exact (sq_iload (pc := 219) dX7_stay_219
    (sq_ifle (pc := 221) dX7_stay_221 (tgt := 242) rfl
    (sq_iload (pc := 242) dX7_stay_242
    (sq_ifne (pc := 244) dX7_stay_244 (tgt := 252) rfl
    (sq_iload (pc := 247) dX7_stay_247
    (sq_goto (pc := 249) dX7_stay_249 (tgt := 254) rfl (s_m_stay_254 G)))
    (sq_iload (pc := 252) dX7_stay_252
    (s_m_stay_254 G))))
    (sq_iload (pc := 224) dX7_stay_224
    (sq_iload (pc := 226) dX7_stay_226
    (sq_irem (pc := 228) dX7_stay_228
    (sq_istore (pc := 229) dX7_stay_229
    (sq_iload (pc := 231) dX7_stay_231
    (sq_istore (pc := 233) dX7_stay_233
    (sq_iload (pc := 235) dX7_stay_235
    (sq_istore (pc := 237) dX7_stay_237
    (sq_goto (pc := 239) dX7_stay_239 (tgt := 219) rfl ih)))))))))))
set_option maxHeartbeats 10000000 in
set_option maxRecDepth 20000 in
theorem s_m_stay_205 (G : GG) {k77 : Kt Mi} (h77 : Sq kE G (kF G (2) mi_m_stay) mi_m_stay 77 k77) : Sq kE G (kF G (2) mi_m_stay) mi_m_stay 205 (b_m_stay_205 k77) := by
  unfold b_m_stay_205
  exact (sq_iinc (pc := 205) dX7_stay_205 rfl
    (sq_goto (pc := 208) dX7_stay_208 (tgt := 77) rfl h77))
set_option maxHeartbeats 10000000 in
set_option maxRecDepth 20000 in
theorem s_m_stay_202 (G : GG) {k77 : Kt Mi} (h77 : Sq kE G (kF G (2) mi_m_stay) mi_m_stay 77 k77) : Sq kE G (kF G (2) mi_m_stay) mi_m_stay 202 (b_m_stay_202 k77) := by
  unfold b_m_stay_202
  exact (sq_iadd (pc := 202) dX7_stay_202
    (sq_istore (pc := 203) dX7_stay_203
    (s_m_stay_205 G h77)))
set_option maxHeartbeats 10000000 in
set_option maxRecDepth 20000 in
theorem s_m_stay_160 (G : GG) {k77 : Kt Mi} (h77 : Sq kE G (kF G (2) mi_m_stay) mi_m_stay 77 k77) (n : Nat) : Sq kE G (kF G (2) mi_m_stay) mi_m_stay 160 (b_m_stay_160 k77 n) := by
  induction n with
  | zero => exact sq_none
  | succ n ih =>
    unfold b_m_stay_160
    exact (sq_iload (pc := 160) dX7_stay_160
    (sq_iload_n (pc := 162) dX7_stay_162 rfl
    (sq_cge (pc := 163) dX7_stay_163 (tgt := 181) rfl
    (sq_iload (pc := 181) dX7_stay_181
    (sq_aload_n (pc := 183) dX7_stay_183 rfl
    (sq_getr (pc := 184) dX7_stay_184 fl_X7_28 rfl rfl (by decide)
    (sq_bipush (pc := 187) dX7_stay_187 kc_b_42
    (sq_iload_n (pc := 189) dX7_stay_189 rfl
    (sq_iadd (pc := 190) dX7_stay_190
    (sq_iald (pc := 191) dX7_stay_191
    (sq_iconst (pc := 192) dX7_stay_192 kc_i_1
    (sq_cne (pc := 193) dX7_stay_193 (tgt := 201) rfl
    (sq_iload (pc := 196) dX7_stay_196
    (sq_goto (pc := 198) dX7_stay_198 (tgt := 202) rfl (s_m_stay_202 G h77)))
    (sq_iconst (pc := 201) dX7_stay_201 kc_i_0
    (s_m_stay_202 G h77)))))))))))
    (sq_aload_n (pc := 166) dX7_stay_166 rfl
    (sq_getr (pc := 167) dX7_stay_167 fl_X7_28 rfl rfl (by decide)
    (sq_iload (pc := 170) dX7_stay_170
    (sq_callS (d := 2) (d' := 1) (mi' := mi_m_pass) (pc := 172) dX7_stay_172 ml_X7_162 st_m_pass ok_m_pass ar_m_pass (by decide) (k_ok_kF G (2) mi_m_stay) (m_m_pass G)
    (sq_iinc (pc := 175) dX7_stay_175 rfl
    (sq_goto (pc := 178) dX7_stay_178 (tgt := 160) rfl ih)))))))))
set_option maxHeartbeats 10000000 in
set_option maxRecDepth 20000 in
theorem s_m_stay_144 (G : GG) {k77 : Kt Mi} {k106 : Kt Mi} (h77 : Sq kE G (kF G (2) mi_m_stay) mi_m_stay 77 k77) (h106 : Sq kE G (kF G (2) mi_m_stay) mi_m_stay 106 k106) : Sq kE G (kF G (2) mi_m_stay) mi_m_stay 144 (b_m_stay_144 k77 k106) := by
  unfold b_m_stay_144
  exact (sq_imul (pc := 144) dX7_stay_144
    (sq_istore (pc := 145) dX7_stay_145
    (sq_iinc (pc := 147) dX7_stay_147 rfl
    (sq_goto (pc := 150) dX7_stay_150 (tgt := 106) rfl h106))))
set_option maxHeartbeats 10000000 in
set_option maxRecDepth 20000 in
theorem s_m_stay_106 (G : GG) {k77 : Kt Mi} (h77 : Sq kE G (kF G (2) mi_m_stay) mi_m_stay 77 k77) (n : Nat) : Sq kE G (kF G (2) mi_m_stay) mi_m_stay 106 (b_m_stay_106 k77 n) := by
  induction n with
  | zero => exact sq_none
  | succ n ih =>
    unfold b_m_stay_106
    exact (sq_iload (pc := 106) dX7_stay_106
    (sq_aload_n (pc := 108) dX7_stay_108 rfl
    (sq_getr (pc := 109) dX7_stay_109 fl_X7_22 rfl rfl (by decide)
    (sq_iconst (pc := 112) dX7_stay_112 kc_i_2
    (sq_iald (pc := 113) dX7_stay_113
    (sq_cge (pc := 114) dX7_stay_114 (tgt := 153) rfl
    (sq_aload_n (pc := 153) dX7_stay_153 rfl
    (sq_callV (d := 2) (d' := 1) (mi' := mi_m_begin) (pc := 154) dX7_stay_154 ml_X7_176 in_m_begin se_m_begin ok_m_begin ar_m_begin (by decide) rfl (by decide) (k_ok_kF G (2) mi_m_stay) (m_m_begin G)
    (sq_iconst (pc := 157) dX7_stay_157 kc_i_0
    (sq_istore (pc := 158) dX7_stay_158
    (s_m_stay_160 G h77 k_fu)))))
    (sq_iload (pc := 117) dX7_stay_117
    (sq_iload (pc := 119) dX7_stay_119
    (sq_aload_n (pc := 121) dX7_stay_121 rfl
    (sq_getr (pc := 122) dX7_stay_122 fl_X7_22 rfl rfl (by decide)
    (sq_iconst (pc := 125) dX7_stay_125 kc_i_4
    (sq_iload (pc := 126) dX7_stay_126
    (sq_iadd (pc := 128) dX7_stay_128
    (sq_iald (pc := 129) dX7_stay_129
    (sq_callS (d := 2) (d' := 0) (mi' := mi_m_has) (pc := 130) dX7_stay_130 ml_X7_140 st_m_has ok_m_has ar_m_has (by decide) (k_ok_kF G (2) mi_m_stay) (m_m_has G)
    (sq_ifeq (pc := 133) dX7_stay_133 (tgt := 143) rfl
    (sq_iload_n (pc := 143) dX7_stay_143 rfl
    (s_m_stay_144 G h77 ih))
    (sq_bipush (pc := 136) dX7_stay_136 kc_b_10
    (sq_iload_n (pc := 138) dX7_stay_138 rfl
    (sq_isub (pc := 139) dX7_stay_139
    (sq_goto (pc := 140) dX7_stay_140 (tgt := 144) rfl (s_m_stay_144 G h77 ih)))))))))))))))))))))
set_option maxHeartbeats 10000000 in
set_option maxRecDepth 20000 in
theorem s_m_stay_77 (G : GG) (n : Nat) : Sq kE G (kF G (2) mi_m_stay) mi_m_stay 77 (b_m_stay_77 n) := by
  induction n with
  | zero => exact sq_none
  | succ n ih =>
    unfold b_m_stay_77
    exact (sq_iload (pc := 77) dX7_stay_77
    (sq_aload_n (pc := 79) dX7_stay_79 rfl
    (sq_callV (d := 2) (d' := 0) (mi' := mi_m_flock) (pc := 80) dX7_stay_80 ml_X7_158 in_m_flock se_m_flock ok_m_flock ar_m_flock (by decide) rfl (by decide) (k_ok_kF G (2) mi_m_stay) (m_m_flock G)
    (sq_cgt (pc := 83) dX7_stay_83 (tgt := 211) rfl
    (sq_iload (pc := 211) dX7_stay_211
    (sq_istore (pc := 213) dX7_stay_213
    (sq_iload (pc := 215) dX7_stay_215
    (sq_istore (pc := 217) dX7_stay_217
    (s_m_stay_219 G k_fu)))))
    (sq_iload (pc := 86) dX7_stay_86
    (sq_aload_n (pc := 88) dX7_stay_88 rfl
    (sq_getr (pc := 89) dX7_stay_89 fl_X7_22 rfl rfl (by decide)
    (sq_iconst (pc := 92) dX7_stay_92 kc_i_4
    (sq_iald (pc := 93) dX7_stay_93
    (sq_callS (d := 2) (d' := 0) (mi' := mi_m_has) (pc := 94) dX7_stay_94 ml_X7_140 st_m_has ok_m_has ar_m_has (by decide) (k_ok_kF G (2) mi_m_stay) (m_m_has G)
    (sq_ifeq (pc := 97) dX7_stay_97 (tgt := 205) rfl
    (s_m_stay_205 G ih)
    (sq_iconst (pc := 100) dX7_stay_100 kc_i_1
    (sq_istore (pc := 101) dX7_stay_101
    (sq_iconst (pc := 103) dX7_stay_103 kc_i_1
    (sq_istore (pc := 104) dX7_stay_104
    (s_m_stay_106 G ih k_fu))))))))))))))))
set_option maxHeartbeats 10000000 in
set_option maxRecDepth 20000 in
theorem s_m_stay_50 (G : GG) (n : Nat) : Sq kE G (kF G (2) mi_m_stay) mi_m_stay 50 (b_m_stay_50 n) := by
  induction n with
  | zero => exact sq_none
  | succ n ih =>
    unfold b_m_stay_50
    exact (sq_iload (pc := 50) dX7_stay_50
    (sq_aload_n (pc := 52) dX7_stay_52 rfl
    (sq_getr (pc := 53) dX7_stay_53 fl_X7_22 rfl rfl (by decide)
    (sq_iconst (pc := 56) dX7_stay_56 kc_i_2
    (sq_iald (pc := 57) dX7_stay_57
    (sq_cge (pc := 58) dX7_stay_58 (tgt := 74) rfl
    (sq_iconst (pc := 74) dX7_stay_74 kc_i_1
    (sq_istore (pc := 75) dX7_stay_75
    (s_m_stay_77 G k_fu)))
    (sq_iload (pc := 61) dX7_stay_61
    (sq_bipush (pc := 63) dX7_stay_63 kc_b_10
    (sq_imul (pc := 65) dX7_stay_65
    (sq_istore (pc := 66) dX7_stay_66
    (sq_iinc (pc := 68) dX7_stay_68 rfl
    (sq_goto (pc := 71) dX7_stay_71 (tgt := 50) rfl ih))))))))))))
set_option maxHeartbeats 10000000 in
set_option maxRecDepth 20000 in
theorem s_m_stay_0 (G : GG) : Sq kE G (kF G (2) mi_m_stay) mi_m_stay 0 b_m_stay_0 := by
  unfold b_m_stay_0
  exact (sq_aload_n (pc := 0) dX7_stay_0 rfl
    (sq_iload_n (pc := 1) dX7_stay_1 rfl
    (sq_callV (d := 2) (d' := 1) (mi' := mi_m_isOne) (pc := 2) dX7_stay_2 ml_X7_170 in_m_isOne se_m_isOne ok_m_isOne ar_m_isOne (by decide) rfl (by decide) (k_ok_kF G (2) mi_m_stay) (m_m_isOne G)
    (sq_ifeq (pc := 5) dX7_stay_5 (tgt := 38) rfl
    (s_m_stay_38 G)
    (sq_iload_n (pc := 8) dX7_stay_8 rfl
    (sq_iconst (pc := 9) dX7_stay_9 kc_i_0
    (sq_bipush (pc := 10) dX7_stay_10 kc_b_99
    (sq_callS (d := 2) (d' := 0) (mi' := mi_m_in) (pc := 12) dX7_stay_12 ml_X7_56 st_m_in ok_m_in ar_m_in (by decide) (k_ok_kF G (2) mi_m_stay) (m_m_in G)
    (sq_ifeq (pc := 15) dX7_stay_15 (tgt := 38) rfl
    (s_m_stay_38 G)
    (sq_iload_n (pc := 18) dX7_stay_18 rfl
    (sq_iconst (pc := 19) dX7_stay_19 kc_i_0
    (sq_bipush (pc := 20) dX7_stay_20 kc_b_10
    (sq_callS (d := 2) (d' := 0) (mi' := mi_m_in) (pc := 22) dX7_stay_22 ml_X7_56 st_m_in ok_m_in ar_m_in (by decide) (k_ok_kF G (2) mi_m_stay) (m_m_in G)
    (sq_ifeq (pc := 25) dX7_stay_25 (tgt := 38) rfl
    (s_m_stay_38 G)
    (sq_iload (pc := 28) dX7_stay_28
    (sq_iconst (pc := 30) dX7_stay_30 kc_i_0
    (sq_iconst (pc := 31) dX7_stay_31 kc_i_1
    (sq_callS (d := 2) (d' := 0) (mi' := mi_m_in) (pc := 32) dX7_stay_32 ml_X7_56 st_m_in ok_m_in ar_m_in (by decide) (k_ok_kF G (2) mi_m_stay) (m_m_in G)
    (sq_ifne (pc := 35) dX7_stay_35 (tgt := 41) rfl
    (s_m_stay_38 G)
    (sq_iconst (pc := 41) dX7_stay_41 kc_i_0
    (sq_istore (pc := 42) dX7_stay_42
    (sq_iconst (pc := 44) dX7_stay_44 kc_i_1
    (sq_istore (pc := 45) dX7_stay_45
    (sq_iconst (pc := 47) dX7_stay_47 kc_i_1
    (sq_istore (pc := 48) dX7_stay_48
    (s_m_stay_50 G k_fu))))))))))))))))))))))))))
theorem m_m_stay (G : GG) : RS kE G 2 mi_m_stay r_m_stay := by
  intro as M v M' h
  unfold r_m_stay at h
  split at h
  · exact mc_of ok_m_stay (s_m_stay_0 G) (k_c1 _ rfl) (Nat.le_of_ble_eq_true rfl) rfl h
  · cases h
set_option maxHeartbeats 10000000 in
set_option maxRecDepth 20000 in
theorem s_m_image_0 (G : GG) : Sq kE G (kF G (1) mi_m_image) mi_m_image 0 b_m_image_0 := by
  unfold b_m_image_0
  exact (sq_iload_n (pc := 0) dX7_image_0 rfl
    (sq_iconst (pc := 1) dX7_image_1 kc_i_0
    (sq_iconst (pc := 2) dX7_image_2 kc_i_1
    (sq_callS (d := 1) (d' := 0) (mi' := mi_m_in) (pc := 3) dX7_image_3 ml_X7_56 st_m_in ok_m_in ar_m_in (by decide) (k_ok_kF G (1) mi_m_image) (m_m_in G)
    (sq_ifne (pc := 6) dX7_image_6 (tgt := 12) rfl
    (sq_ldc (pc := 9) dX7_image_9 ct_X7_69
    (sq_iret rfl (pc := 11) dX7_image_11))
    (sq_aload_n (pc := 12) dX7_image_12 rfl
    (sq_callV (d := 1) (d' := 0) (mi' := mi_m_isSquare) (pc := 13) dX7_image_13 ml_X7_151 in_m_isSquare se_m_isSquare ok_m_isSquare ar_m_isSquare (by decide) rfl (by decide) (k_ok_kF G (1) mi_m_image) (m_m_isSquare G)
    (sq_ifne (pc := 16) dX7_image_16 (tgt := 22) rfl
    (sq_ldc (pc := 19) dX7_image_19 ct_X7_154
    (sq_iret rfl (pc := 21) dX7_image_21))
    (sq_aload_n (pc := 22) dX7_image_22 rfl
    (sq_getr (pc := 23) dX7_image_23 fl_X7_22 rfl rfl (by decide)
    (sq_iconst (pc := 26) dX7_image_26 kc_i_0
    (sq_aload_n (pc := 27) dX7_image_27 rfl
    (sq_getr (pc := 28) dX7_image_28 fl_X7_31 rfl rfl (by decide)
    (sq_bipush (pc := 31) dX7_image_31 kc_b_47
    (sq_iload_n (pc := 33) dX7_image_33 rfl
    (sq_imul (pc := 34) dX7_image_34
    (sq_callS (d := 1) (d' := 0) (mi' := mi_m_lay) (pc := 35) dX7_image_35 ml_X7_130 st_m_lay ok_m_lay ar_m_lay (by decide) (k_ok_kF G (1) mi_m_image) (m_m_lay G)
    (sq_aload_n (pc := 38) dX7_image_38 rfl
    (sq_getr (pc := 39) dX7_image_39 fl_X7_34 rfl rfl (by decide)
    (sq_iload_n (pc := 42) dX7_image_42 rfl
    (sq_iconst (pc := 43) dX7_image_43 kc_i_1
    (sq_zast (pc := 44) dX7_image_44
    (sq_iconst (pc := 45) dX7_image_45 kc_i_1
    (sq_iret rfl (pc := 46) dX7_image_46))))))))))))))))))))))))
theorem m_m_image (G : GG) : RS kE G 1 mi_m_image r_m_image := by
  intro as M v M' h
  unfold r_m_image at h
  split at h
  · exact mc_of ok_m_image (s_m_image_0 G) (k_c1 _ rfl) (Nat.le_of_ble_eq_true rfl) rfl h
  · cases h
set_option maxHeartbeats 10000000 in
set_option maxRecDepth 20000 in
theorem s_m_restore_0 (G : GG) : Sq kE G (kF G (1) mi_m_restore) mi_m_restore 0 b_m_restore_0 := by
  unfold b_m_restore_0
  exact (sq_iload_n (pc := 0) dX7_restore_0 rfl
    (sq_iconst (pc := 1) dX7_restore_1 kc_i_0
    (sq_iconst (pc := 2) dX7_restore_2 kc_i_1
    (sq_callS (d := 1) (d' := 0) (mi' := mi_m_in) (pc := 3) dX7_restore_3 ml_X7_56 st_m_in ok_m_in ar_m_in (by decide) (k_ok_kF G (1) mi_m_restore) (m_m_in G)
    (sq_ifne (pc := 6) dX7_restore_6 (tgt := 12) rfl
    (sq_ldc (pc := 9) dX7_restore_9 ct_X7_69
    (sq_iret rfl (pc := 11) dX7_restore_11))
    (sq_aload_n (pc := 12) dX7_restore_12 rfl
    (sq_getr (pc := 13) dX7_restore_13 fl_X7_34 rfl rfl (by decide)
    (sq_iload_n (pc := 16) dX7_restore_16 rfl
    (sq_zald (pc := 17) dX7_restore_17
    (sq_ifne (pc := 18) dX7_restore_18 (tgt := 24) rfl
    (sq_ldc (pc := 21) dX7_restore_21 ct_X7_154
    (sq_iret rfl (pc := 23) dX7_restore_23))
    (sq_aload_n (pc := 24) dX7_restore_24 rfl
    (sq_getr (pc := 25) dX7_restore_25 fl_X7_31 rfl rfl (by decide)
    (sq_bipush (pc := 28) dX7_restore_28 kc_b_47
    (sq_iload_n (pc := 30) dX7_restore_30 rfl
    (sq_imul (pc := 31) dX7_restore_31
    (sq_aload_n (pc := 32) dX7_restore_32 rfl
    (sq_getr (pc := 33) dX7_restore_33 fl_X7_22 rfl rfl (by decide)
    (sq_iconst (pc := 36) dX7_restore_36 kc_i_0
    (sq_callS (d := 1) (d' := 0) (mi' := mi_m_lay) (pc := 37) dX7_restore_37 ml_X7_130 st_m_lay ok_m_lay ar_m_lay (by decide) (k_ok_kF G (1) mi_m_restore) (m_m_lay G)
    (sq_aload_n (pc := 40) dX7_restore_40 rfl
    (sq_iconst (pc := 41) dX7_restore_41 kc_i_0
    (sq_puti (pc := 42) dX7_restore_42 fl_X7_134 rfl rfl
    (sq_iconst (pc := 45) dX7_restore_45 kc_i_1
    (sq_iret rfl (pc := 46) dX7_restore_46))))))))))))))))))))))))
theorem m_m_restore (G : GG) : RS kE G 1 mi_m_restore r_m_restore := by
  intro as M v M' h
  unfold r_m_restore at h
  split at h
  · exact mc_of ok_m_restore (s_m_restore_0 G) (k_c1 _ rfl) (Nat.le_of_ble_eq_true rfl) rfl h
  · cases h
set_option maxHeartbeats 10000000 in
set_option maxRecDepth 20000 in
theorem s_m_kind_22 (G : GG) : Sq kE G (kF G (2) mi_m_kind) mi_m_kind 22 (b_m_kind_22) := by
  unfold b_m_kind_22
  exact (sq_iret rfl (pc := 22) dX7_kind_22)
set_option maxHeartbeats 10000000 in
set_option maxRecDepth 20000 in
theorem s_m_kind_0 (G : GG) : Sq kE G (kF G (2) mi_m_kind) mi_m_kind 0 b_m_kind_0 := by
  unfold b_m_kind_0
  exact (sq_aload_n (pc := 0) dX7_kind_0 rfl
    (sq_iload_n (pc := 1) dX7_kind_1 rfl
    (sq_callV (d := 2) (d' := 1) (mi' := mi_m_isOne) (pc := 2) dX7_kind_2 ml_X7_170 in_m_isOne se_m_isOne ok_m_isOne ar_m_isOne (by decide) rfl (by decide) (k_ok_kF G (2) mi_m_kind) (m_m_isOne G)
    (sq_ifeq (pc := 5) dX7_kind_5 (tgt := 20) rfl
    (sq_ldc (pc := 20) dX7_kind_20 ct_X7_69
    (s_m_kind_22 G))
    (sq_aload_n (pc := 8) dX7_kind_8 rfl
    (sq_getr (pc := 9) dX7_kind_9 fl_X7_22 rfl rfl (by decide)
    (sq_bipush (pc := 12) dX7_kind_12 kc_b_22
    (sq_iload_n (pc := 14) dX7_kind_14 rfl
    (sq_iadd (pc := 15) dX7_kind_15
    (sq_iald (pc := 16) dX7_kind_16
    (sq_goto (pc := 17) dX7_kind_17 (tgt := 22) rfl (s_m_kind_22 G))))))))))))
theorem m_m_kind (G : GG) : RS kE G 2 mi_m_kind r_m_kind := by
  intro as M v M' h
  unfold r_m_kind at h
  split at h
  · exact mc_of ok_m_kind (s_m_kind_0 G) (k_c1 _ rfl) (Nat.le_of_ble_eq_true rfl) rfl h
  · cases h
set_option maxHeartbeats 10000000 in
set_option maxRecDepth 20000 in
theorem s_m_parentOf_24 (G : GG) : Sq kE G (kF G (0) mi_m_parentOf) mi_m_parentOf 24 (b_m_parentOf_24) := by
  unfold b_m_parentOf_24
  exact (sq_iret rfl (pc := 24) dX7_parentOf_24)
set_option maxHeartbeats 10000000 in
set_option maxRecDepth 20000 in
theorem s_m_parentOf_10 (G : GG) : Sq kE G (kF G (0) mi_m_parentOf) mi_m_parentOf 10 (b_m_parentOf_10) := by
  unfold b_m_parentOf_10
  exact (sq_iconst (pc := 10) dX7_parentOf_10 kc_i_0
    (sq_goto (pc := 11) dX7_parentOf_11 (tgt := 24) rfl (s_m_parentOf_24 G)))
set_option maxHeartbeats 10000000 in
set_option maxRecDepth 20000 in
theorem s_m_parentOf_0 (G : GG) : Sq kE G (kF G (0) mi_m_parentOf) mi_m_parentOf 0 b_m_parentOf_0 := by
  unfold b_m_parentOf_0
  exact (sq_iload_n (pc := 0) dX7_parentOf_0 rfl
    (sq_iconst (pc := 1) dX7_parentOf_1 kc_i_1
    (sq_ceq (pc := 2) dX7_parentOf_2 (tgt := 10) rfl
    (s_m_parentOf_10 G)
    (sq_iload_n (pc := 5) dX7_parentOf_5 rfl
    (sq_iconst (pc := 6) dX7_parentOf_6 kc_i_4
    (sq_cne (pc := 7) dX7_parentOf_7 (tgt := 14) rfl
    (s_m_parentOf_10 G)
    (sq_iload_n (pc := 14) dX7_parentOf_14 rfl
    (sq_iconst (pc := 15) dX7_parentOf_15 kc_i_5
    (sq_cne (pc := 16) dX7_parentOf_16 (tgt := 23) rfl
    (sq_iconst (pc := 19) dX7_parentOf_19 kc_i_4
    (sq_goto (pc := 20) dX7_parentOf_20 (tgt := 24) rfl (s_m_parentOf_24 G)))
    (sq_iconst (pc := 23) dX7_parentOf_23 kc_i_1
    (s_m_parentOf_24 G)))))))))))
theorem m_m_parentOf (G : GG) : RS kE G 0 mi_m_parentOf r_m_parentOf := by
  intro as M v M' h
  unfold r_m_parentOf at h
  split at h
  · exact mc_of ok_m_parentOf (s_m_parentOf_0 G) (k_c1 _ rfl) (Nat.le_of_ble_eq_true rfl) rfl h
  · cases h
set_option maxHeartbeats 10000000 in
set_option maxRecDepth 20000 in
theorem s_m_as_17 (G : GG) : Sq kE G (kF G (2) mi_m_as) mi_m_as 17 (b_m_as_17) := by
  unfold b_m_as_17
  exact (sq_ldc (pc := 17) dX7_as_17 ct_X7_69
    (sq_iret rfl (pc := 19) dX7_as_19))
set_option maxHeartbeats 10000000 in
set_option maxRecDepth 20000 in
theorem s_m_as_72 (G : GG) : Sq kE G (kF G (2) mi_m_as) mi_m_as 72 (b_m_as_72) := by
  unfold b_m_as_72
  exact (sq_iret rfl (pc := 72) dX7_as_72)
set_option maxHeartbeats 10000000 in
set_option maxRecDepth 20000 in
theorem s_m_as_52 (G : GG) : Sq kE G (kF G (2) mi_m_as) mi_m_as 52 (b_m_as_52) := by
  unfold b_m_as_52
  exact (sq_istore (pc := 52) dX7_as_52
    (sq_iload (pc := 54) dX7_as_54
    (sq_ifeq (pc := 56) dX7_as_56 (tgt := 67) rfl
    (sq_aload_n (pc := 67) dX7_as_67 rfl
    (sq_iconst (pc := 68) dX7_as_68 kc_i_3
    (sq_callV (d := 2) (d' := 0) (mi' := mi_m_finds) (pc := 69) dX7_as_69 ml_X7_70 in_m_finds se_m_finds ok_m_finds ar_m_finds (by decide) rfl (by decide) (k_ok_kF G (2) mi_m_as) (m_m_finds G)
    (s_m_as_72 G))))
    (sq_aload_n (pc := 59) dX7_as_59 rfl
    (sq_iload_n (pc := 60) dX7_as_60 rfl
    (sq_callV (d := 2) (d' := 0) (mi' := mi_m_done) (pc := 61) dX7_as_61 ml_X7_74 in_m_done se_m_done ok_m_done ar_m_done (by decide) rfl (by decide) (k_ok_kF G (2) mi_m_as) (m_m_done G)
    (sq_goto (pc := 64) dX7_as_64 (tgt := 72) rfl (s_m_as_72 G))))))))
set_option maxHeartbeats 10000000 in
set_option maxRecDepth 20000 in
theorem s_m_as_47 (G : GG) : Sq kE G (kF G (2) mi_m_as) mi_m_as 47 (b_m_as_47) := by
  unfold b_m_as_47
  exact (sq_iconst (pc := 47) dX7_as_47 kc_i_1
    (sq_goto (pc := 48) dX7_as_48 (tgt := 52) rfl (s_m_as_52 G)))
set_option maxHeartbeats 10000000 in
set_option maxRecDepth 20000 in
theorem s_m_as_0 (G : GG) : Sq kE G (kF G (2) mi_m_as) mi_m_as 0 b_m_as_0 := by
  unfold b_m_as_0
  exact (sq_aload_n (pc := 0) dX7_as_0 rfl
    (sq_iload_n (pc := 1) dX7_as_1 rfl
    (sq_callV (d := 2) (d' := 1) (mi' := mi_m_isOne) (pc := 2) dX7_as_2 ml_X7_170 in_m_isOne se_m_isOne ok_m_isOne ar_m_isOne (by decide) rfl (by decide) (k_ok_kF G (2) mi_m_as) (m_m_isOne G)
    (sq_ifeq (pc := 5) dX7_as_5 (tgt := 17) rfl
    (s_m_as_17 G)
    (sq_iload_n (pc := 8) dX7_as_8 rfl
    (sq_iconst (pc := 9) dX7_as_9 kc_i_0
    (sq_iconst (pc := 10) dX7_as_10 kc_i_5
    (sq_callS (d := 2) (d' := 0) (mi' := mi_m_in) (pc := 11) dX7_as_11 ml_X7_56 st_m_in ok_m_in ar_m_in (by decide) (k_ok_kF G (2) mi_m_as) (m_m_in G)
    (sq_ifne (pc := 14) dX7_as_14 (tgt := 20) rfl
    (s_m_as_17 G)
    (sq_aload_n (pc := 20) dX7_as_20 rfl
    (sq_getr (pc := 21) dX7_as_21 fl_X7_22 rfl rfl (by decide)
    (sq_bipush (pc := 24) dX7_as_24 kc_b_22
    (sq_iload_n (pc := 26) dX7_as_26 rfl
    (sq_iadd (pc := 27) dX7_as_27
    (sq_iald (pc := 28) dX7_as_28
    (sq_istore_n (pc := 29) dX7_as_29 rfl
    (sq_iload_n (pc := 30) dX7_as_30 rfl
    (sq_ifeq (pc := 31) dX7_as_31 (tgt := 47) rfl
    (s_m_as_47 G)
    (sq_iload_n (pc := 34) dX7_as_34 rfl
    (sq_iload_n (pc := 35) dX7_as_35 rfl
    (sq_ceq (pc := 36) dX7_as_36 (tgt := 47) rfl
    (s_m_as_47 G)
    (sq_iload_n (pc := 39) dX7_as_39 rfl
    (sq_callS (d := 2) (d' := 0) (mi' := mi_m_parentOf) (pc := 40) dX7_as_40 ml_X7_203 st_m_parentOf ok_m_parentOf ar_m_parentOf (by decide) (k_ok_kF G (2) mi_m_as) (m_m_parentOf G)
    (sq_iload_n (pc := 43) dX7_as_43 rfl
    (sq_cne (pc := 44) dX7_as_44 (tgt := 51) rfl
    (s_m_as_47 G)
    (sq_iconst (pc := 51) dX7_as_51 kc_i_0
    (s_m_as_52 G)))))))))))))))))))))))))))
theorem m_m_as (G : GG) : RS kE G 2 mi_m_as r_m_as := by
  intro as M v M' h
  unfold r_m_as at h
  split at h
  · exact mc_of ok_m_as (s_m_as_0 G) (k_c1 _ rfl) (Nat.le_of_ble_eq_true rfl) rfl h
  · cases h
set_option maxHeartbeats 10000000 in
set_option maxRecDepth 20000 in
theorem s_m_begins_29 (G : GG) : Sq kE G (kF G (0) mi_m_begins) mi_m_begins 29 (b_m_begins_29) := by
  unfold b_m_begins_29
  exact (sq_ret rfl (pc := 29) dX7_begins_29)
set_option maxHeartbeats 10000000 in
set_option maxRecDepth 20000 in
theorem s_m_begins_0 (G : GG) : Sq kE G (kF G (0) mi_m_begins) mi_m_begins 0 b_m_begins_0 := by
  unfold b_m_begins_0
  exact (sq_aload_n (pc := 0) dX7_begins_0 rfl
    (sq_geti (pc := 1) dX7_begins_1 fl_X7_206 rfl
    (sq_bipush (pc := 4) dX7_begins_4 kc_b_16
    (sq_cge (pc := 6) dX7_begins_6 (tgt := 29) rfl
    (s_m_begins_29 G)
    (sq_aload_n (pc := 9) dX7_begins_9 rfl
    (sq_getr (pc := 10) dX7_begins_10 fl_X7_41 rfl rfl (by decide)
    (sq_aload_n (pc := 13) dX7_begins_13 rfl
    (sq_geti (pc := 14) dX7_begins_14 fl_X7_206 rfl
    (sq_iload_n (pc := 17) dX7_begins_17 rfl
    (sq_iast (pc := 18) dX7_begins_18
    (sq_aload_n (pc := 19) dX7_begins_19 rfl
    (sq_dup (pc := 20) dX7_begins_20
    (sq_geti (pc := 21) dX7_begins_21 fl_X7_206 rfl
    (sq_iconst (pc := 24) dX7_begins_24 kc_i_1
    (sq_iadd (pc := 25) dX7_begins_25
    (sq_puti (pc := 26) dX7_begins_26 fl_X7_206 rfl rfl
    (s_m_begins_29 G)))))))))))))))))
theorem m_m_begins (G : GG) : RS kE G 0 mi_m_begins r_m_begins := by
  intro as M v M' h
  unfold r_m_begins at h
  split at h
  · exact mc_of ok_m_begins (s_m_begins_0 G) (k_c1 _ rfl) (Nat.le_of_ble_eq_true rfl) rfl h
  · cases h
set_option maxHeartbeats 10000000 in
set_option maxRecDepth 20000 in
theorem s_m_markPlain_0 (G : GG) : Sq kE G (kF G (1) mi_m_markPlain) mi_m_markPlain 0 b_m_markPlain_0 := by
  unfold b_m_markPlain_0
  exact (sq_aload_n (pc := 0) dX7_markPlain_0 rfl
    (sq_bipush (pc := 1) dX7_markPlain_1 kc_b_21
    (sq_callV (d := 1) (d' := 0) (mi' := mi_m_begins) (pc := 3) dX7_markPlain_3 ml_X7_209 in_m_begins se_m_begins ok_m_begins ar_m_begins (by decide) rfl (by decide) (k_ok_kF G (1) mi_m_markPlain) (m_m_begins G)
    (sq_aload_n (pc := 6) dX7_markPlain_6 rfl
    (sq_bipush (pc := 7) dX7_markPlain_7 kc_b_20
    (sq_callV (d := 1) (d' := 0) (mi' := mi_m_begins) (pc := 9) dX7_markPlain_9 ml_X7_209 in_m_begins se_m_begins ok_m_begins ar_m_begins (by decide) rfl (by decide) (k_ok_kF G (1) mi_m_markPlain) (m_m_begins G)
    (sq_iload_n (pc := 12) dX7_markPlain_12 rfl
    (sq_aload_n (pc := 13) dX7_markPlain_13 rfl
    (sq_getr (pc := 14) dX7_markPlain_14 fl_X7_22 rfl rfl (by decide)
    (sq_bipush (pc := 17) dX7_markPlain_17 kc_b_37
    (sq_iload_n (pc := 19) dX7_markPlain_19 rfl
    (sq_iadd (pc := 20) dX7_markPlain_20
    (sq_iald (pc := 21) dX7_markPlain_21
    (sq_iadd (pc := 22) dX7_markPlain_22
    (sq_iret rfl (pc := 23) dX7_markPlain_23)))))))))))))))
theorem m_m_markPlain (G : GG) : RS kE G 1 mi_m_markPlain r_m_markPlain := by
  intro as M v M' h
  unfold r_m_markPlain at h
  split at h
  · exact mc_of ok_m_markPlain (s_m_markPlain_0 G) (k_c1 _ rfl) (Nat.le_of_ble_eq_true rfl) rfl h
  · cases h
set_option maxHeartbeats 10000000 in
set_option maxRecDepth 20000 in
theorem s_m_markWarm_0 (G : GG) : Sq kE G (kF G (2) mi_m_markWarm) mi_m_markWarm 0 b_m_markWarm_0 := by
  unfold b_m_markWarm_0
  exact (sq_aload_n (pc := 0) dX7_markWarm_0 rfl
    (sq_getr (pc := 1) dX7_markWarm_1 fl_X7_22 rfl rfl (by decide)
    (sq_bipush (pc := 4) dX7_markWarm_4 kc_b_22
    (sq_iload_n (pc := 6) dX7_markWarm_6 rfl
    (sq_iadd (pc := 7) dX7_markWarm_7
    (sq_iald (pc := 8) dX7_markWarm_8
    (sq_istore_n (pc := 9) dX7_markWarm_9 rfl
    (sq_iload_n (pc := 10) dX7_markWarm_10 rfl
    (sq_iconst (pc := 11) dX7_markWarm_11 kc_i_2
    (sq_cne (pc := 12) dX7_markWarm_12 (tgt := 29) rfl
    (sq_aload_n (pc := 15) dX7_markWarm_15 rfl
    (sq_bipush (pc := 16) dX7_markWarm_16 kc_b_24
    (sq_callV (d := 2) (d' := 0) (mi' := mi_m_begins) (pc := 18) dX7_markWarm_18 ml_X7_209 in_m_begins se_m_begins ok_m_begins ar_m_begins (by decide) rfl (by decide) (k_ok_kF G (2) mi_m_markWarm) (m_m_begins G)
    (sq_iconst (pc := 21) dX7_markWarm_21 kc_i_2
    (sq_aload_n (pc := 22) dX7_markWarm_22 rfl
    (sq_iload_n (pc := 23) dX7_markWarm_23 rfl
    (sq_callV (d := 2) (d' := 1) (mi' := mi_m_markPlain) (pc := 24) dX7_markWarm_24 ml_X7_212 in_m_markPlain se_m_markPlain ok_m_markPlain ar_m_markPlain (by decide) rfl (by decide) (k_ok_kF G (2) mi_m_markWarm) (m_m_markPlain G)
    (sq_imul (pc := 27) dX7_markWarm_27
    (sq_iret rfl (pc := 28) dX7_markWarm_28)))))))))
    (sq_iload_n (pc := 29) dX7_markWarm_29 rfl
    (sq_iconst (pc := 30) dX7_markWarm_30 kc_i_3
    (sq_cne (pc := 31) dX7_markWarm_31 (tgt := 50) rfl
    (sq_aload_n (pc := 34) dX7_markWarm_34 rfl
    (sq_bipush (pc := 35) dX7_markWarm_35 kc_b_22
    (sq_callV (d := 2) (d' := 0) (mi' := mi_m_begins) (pc := 37) dX7_markWarm_37 ml_X7_209 in_m_begins se_m_begins ok_m_begins ar_m_begins (by decide) rfl (by decide) (k_ok_kF G (2) mi_m_markWarm) (m_m_begins G)
    (sq_aload_n (pc := 40) dX7_markWarm_40 rfl
    (sq_iload_n (pc := 41) dX7_markWarm_41 rfl
    (sq_callV (d := 2) (d' := 1) (mi' := mi_m_markPlain) (pc := 42) dX7_markWarm_42 ml_X7_212 in_m_markPlain se_m_markPlain ok_m_markPlain ar_m_markPlain (by decide) rfl (by decide) (k_ok_kF G (2) mi_m_markWarm) (m_m_markPlain G)
    (sq_sipush (pc := 45) dX7_markWarm_45 kc_s_1000
    (sq_isub (pc := 48) dX7_markWarm_48
    (sq_iret rfl (pc := 49) dX7_markWarm_49)))))))))
    (sq_aload_n (pc := 50) dX7_markWarm_50 rfl
    (sq_iload_n (pc := 51) dX7_markWarm_51 rfl
    (sq_callV (d := 2) (d' := 1) (mi' := mi_m_markPlain) (pc := 52) dX7_markWarm_52 ml_X7_212 in_m_markPlain se_m_markPlain ok_m_markPlain ar_m_markPlain (by decide) rfl (by decide) (k_ok_kF G (2) mi_m_markWarm) (m_m_markPlain G)
    (sq_iret rfl (pc := 55) dX7_markWarm_55)))))))))))))))))
theorem m_m_markWarm (G : GG) : RS kE G 2 mi_m_markWarm r_m_markWarm := by
  intro as M v M' h
  unfold r_m_markWarm at h
  split at h
  · exact mc_of ok_m_markWarm (s_m_markWarm_0 G) (k_c1 _ rfl) (Nat.le_of_ble_eq_true rfl) rfl h
  · cases h
set_option maxHeartbeats 10000000 in
set_option maxRecDepth 20000 in
theorem s_m_sizeNervous_0 (G : GG) : Sq kE G (kF G (1) mi_m_sizeNervous) mi_m_sizeNervous 0 b_m_sizeNervous_0 := by
  unfold b_m_sizeNervous_0
  exact (sq_aload_n (pc := 0) dX7_sizeNervous_0 rfl
    (sq_bipush (pc := 1) dX7_sizeNervous_1 kc_b_13
    (sq_callV (d := 1) (d' := 0) (mi' := mi_m_begins) (pc := 3) dX7_sizeNervous_3 ml_X7_209 in_m_begins se_m_begins ok_m_begins ar_m_begins (by decide) rfl (by decide) (k_ok_kF G (1) mi_m_sizeNervous) (m_m_begins G)
    (sq_aload_n (pc := 6) dX7_sizeNervous_6 rfl
    (sq_bipush (pc := 7) dX7_sizeNervous_7 kc_b_10
    (sq_callV (d := 1) (d' := 0) (mi' := mi_m_begins) (pc := 9) dX7_sizeNervous_9 ml_X7_209 in_m_begins se_m_begins ok_m_begins ar_m_begins (by decide) rfl (by decide) (k_ok_kF G (1) mi_m_sizeNervous) (m_m_begins G)
    (sq_aload_n (pc := 12) dX7_sizeNervous_12 rfl
    (sq_getr (pc := 13) dX7_sizeNervous_13 fl_X7_22 rfl rfl (by decide)
    (sq_bipush (pc := 16) dX7_sizeNervous_16 kc_b_27
    (sq_iload_n (pc := 18) dX7_sizeNervous_18 rfl
    (sq_iadd (pc := 19) dX7_sizeNervous_19
    (sq_iald (pc := 20) dX7_sizeNervous_20
    (sq_bipush (pc := 21) dX7_sizeNervous_21 kc_b_100
    (sq_isub (pc := 23) dX7_sizeNervous_23
    (sq_iret rfl (pc := 24) dX7_sizeNervous_24)))))))))))))))
theorem m_m_sizeNervous (G : GG) : RS kE G 1 mi_m_sizeNervous r_m_sizeNervous := by
  intro as M v M' h
  unfold r_m_sizeNervous at h
  split at h
  · exact mc_of ok_m_sizeNervous (s_m_sizeNervous_0 G) (k_c1 _ rfl) (Nat.le_of_ble_eq_true rfl) rfl h
  · cases h
set_option maxHeartbeats 10000000 in
set_option maxRecDepth 20000 in
theorem s_m_sizeOf_90 (G : GG) : Sq kE G (kF G (3) mi_m_sizeOf) mi_m_sizeOf 90 (b_m_sizeOf_90) := by
  unfold b_m_sizeOf_90
  exact (sq_iret rfl (pc := 90) dX7_sizeOf_90)
set_option maxHeartbeats 10000000 in
set_option maxRecDepth 20000 in
theorem s_m_sizeOf_51 (G : GG) : Sq kE G (kF G (3) mi_m_sizeOf) mi_m_sizeOf 51 (b_m_sizeOf_51) := by
  unfold b_m_sizeOf_51
  exact (sq_aload_n (pc := 51) dX7_sizeOf_51 rfl
    (sq_bipush (pc := 52) dX7_sizeOf_52 kc_b_11
    (sq_callV (d := 3) (d' := 0) (mi' := mi_m_begins) (pc := 54) dX7_sizeOf_54 ml_X7_209 in_m_begins se_m_begins ok_m_begins ar_m_begins (by decide) rfl (by decide) (k_ok_kF G (3) mi_m_sizeOf) (m_m_begins G)
    (sq_aload_n (pc := 57) dX7_sizeOf_57 rfl
    (sq_bipush (pc := 58) dX7_sizeOf_58 kc_b_10
    (sq_callV (d := 3) (d' := 0) (mi' := mi_m_begins) (pc := 60) dX7_sizeOf_60 ml_X7_209 in_m_begins se_m_begins ok_m_begins ar_m_begins (by decide) rfl (by decide) (k_ok_kF G (3) mi_m_sizeOf) (m_m_begins G)
    (sq_aload_n (pc := 63) dX7_sizeOf_63 rfl
    (sq_getr (pc := 64) dX7_sizeOf_64 fl_X7_22 rfl rfl (by decide)
    (sq_bipush (pc := 67) dX7_sizeOf_67 kc_b_27
    (sq_iload_n (pc := 69) dX7_sizeOf_69 rfl
    (sq_iadd (pc := 70) dX7_sizeOf_70
    (sq_iald (pc := 71) dX7_sizeOf_71
    (sq_aload_n (pc := 72) dX7_sizeOf_72 rfl
    (sq_iload_n (pc := 73) dX7_sizeOf_73 rfl
    (sq_callV (d := 3) (d' := 2) (mi' := mi_m_markWarm) (pc := 74) dX7_sizeOf_74 ml_X7_218 in_m_markWarm se_m_markWarm ok_m_markWarm ar_m_markWarm (by decide) rfl (by decide) (k_ok_kF G (3) mi_m_sizeOf) (m_m_markWarm G)
    (sq_iadd (pc := 77) dX7_sizeOf_77
    (sq_istore_n (pc := 78) dX7_sizeOf_78 rfl
    (sq_iload_n (pc := 79) dX7_sizeOf_79 rfl
    (sq_iconst (pc := 80) dX7_sizeOf_80 kc_i_2
    (sq_cne (pc := 81) dX7_sizeOf_81 (tgt := 89) rfl
    (sq_iload_n (pc := 84) dX7_sizeOf_84 rfl
    (sq_ineg (pc := 85) dX7_sizeOf_85
    (sq_goto (pc := 86) dX7_sizeOf_86 (tgt := 90) rfl (s_m_sizeOf_90 G))))
    (sq_iload_n (pc := 89) dX7_sizeOf_89 rfl
    (s_m_sizeOf_90 G))))))))))))))))))))))
set_option maxHeartbeats 10000000 in
set_option maxRecDepth 20000 in
theorem s_m_sizeOf_0 (G : GG) : Sq kE G (kF G (3) mi_m_sizeOf) mi_m_sizeOf 0 b_m_sizeOf_0 := by
  unfold b_m_sizeOf_0
  exact (sq_aload_n (pc := 0) dX7_sizeOf_0 rfl
    (sq_getr (pc := 1) dX7_sizeOf_1 fl_X7_22 rfl rfl (by decide)
    (sq_bipush (pc := 4) dX7_sizeOf_4 kc_b_22
    (sq_iload_n (pc := 6) dX7_sizeOf_6 rfl
    (sq_iadd (pc := 7) dX7_sizeOf_7
    (sq_iald (pc := 8) dX7_sizeOf_8
    (sq_istore_n (pc := 9) dX7_sizeOf_9 rfl
    (sq_iload_n (pc := 10) dX7_sizeOf_10 rfl
    (sq_iconst (pc := 11) dX7_sizeOf_11 kc_i_5
    (sq_cne (pc := 12) dX7_sizeOf_12 (tgt := 29) rfl
    (sq_aload_n (pc := 15) dX7_sizeOf_15 rfl
    (sq_bipush (pc := 16) dX7_sizeOf_16 kc_b_14
    (sq_callV (d := 3) (d' := 0) (mi' := mi_m_begins) (pc := 18) dX7_sizeOf_18 ml_X7_209 in_m_begins se_m_begins ok_m_begins ar_m_begins (by decide) rfl (by decide) (k_ok_kF G (3) mi_m_sizeOf) (m_m_begins G)
    (sq_iconst (pc := 21) dX7_sizeOf_21 kc_i_2
    (sq_aload_n (pc := 22) dX7_sizeOf_22 rfl
    (sq_iload_n (pc := 23) dX7_sizeOf_23 rfl
    (sq_callV (d := 3) (d' := 1) (mi' := mi_m_sizeNervous) (pc := 24) dX7_sizeOf_24 ml_X7_215 in_m_sizeNervous se_m_sizeNervous ok_m_sizeNervous ar_m_sizeNervous (by decide) rfl (by decide) (k_ok_kF G (3) mi_m_sizeOf) (m_m_sizeNervous G)
    (sq_imul (pc := 27) dX7_sizeOf_27
    (sq_iret rfl (pc := 28) dX7_sizeOf_28)))))))))
    (sq_iload_n (pc := 29) dX7_sizeOf_29 rfl
    (sq_iconst (pc := 30) dX7_sizeOf_30 kc_i_4
    (sq_cne (pc := 31) dX7_sizeOf_31 (tgt := 40) rfl
    (sq_aload_n (pc := 34) dX7_sizeOf_34 rfl
    (sq_iload_n (pc := 35) dX7_sizeOf_35 rfl
    (sq_callV (d := 3) (d' := 1) (mi' := mi_m_sizeNervous) (pc := 36) dX7_sizeOf_36 ml_X7_215 in_m_sizeNervous se_m_sizeNervous ok_m_sizeNervous ar_m_sizeNervous (by decide) rfl (by decide) (k_ok_kF G (3) mi_m_sizeOf) (m_m_sizeNervous G)
    (sq_iret rfl (pc := 39) dX7_sizeOf_39))))
    (sq_iload_n (pc := 40) dX7_sizeOf_40 rfl
    (sq_iconst (pc := 41) dX7_sizeOf_41 kc_i_2
    (sq_cne (pc := 42) dX7_sizeOf_42 (tgt := 51) rfl
    (sq_aload_n (pc := 45) dX7_sizeOf_45 rfl
    (sq_bipush (pc := 46) dX7_sizeOf_46 kc_b_12
    (sq_callV (d := 3) (d' := 0) (mi' := mi_m_begins) (pc := 48) dX7_sizeOf_48 ml_X7_209 in_m_begins se_m_begins ok_m_begins ar_m_begins (by decide) rfl (by decide) (k_ok_kF G (3) mi_m_sizeOf) (m_m_begins G)
    (s_m_sizeOf_51 G))))
    (s_m_sizeOf_51 G)))))))))))))))))
theorem m_m_sizeOf (G : GG) : RS kE G 3 mi_m_sizeOf r_m_sizeOf := by
  intro as M v M' h
  unfold r_m_sizeOf at h
  split at h
  · exact mc_of ok_m_sizeOf (s_m_sizeOf_0 G) (k_c1 _ rfl) (Nat.le_of_ble_eq_true rfl) rfl h
  · cases h
set_option maxHeartbeats 10000000 in
set_option maxRecDepth 20000 in
theorem s_m_markOf_0 (G : GG) : Sq kE G (kF G (4) mi_m_markOf) mi_m_markOf 0 b_m_markOf_0 := by
  unfold b_m_markOf_0
  exact (sq_aload_n (pc := 0) dX7_markOf_0 rfl
    (sq_getr (pc := 1) dX7_markOf_1 fl_X7_22 rfl rfl (by decide)
    (sq_bipush (pc := 4) dX7_markOf_4 kc_b_22
    (sq_iload_n (pc := 6) dX7_markOf_6 rfl
    (sq_iadd (pc := 7) dX7_markOf_7
    (sq_iald (pc := 8) dX7_markOf_8
    (sq_iconst (pc := 9) dX7_markOf_9 kc_i_4
    (sq_cge (pc := 10) dX7_markOf_10 (tgt := 19) rfl
    (sq_aload_n (pc := 19) dX7_markOf_19 rfl
    (sq_bipush (pc := 20) dX7_markOf_20 kc_b_23
    (sq_callV (d := 4) (d' := 0) (mi' := mi_m_begins) (pc := 22) dX7_markOf_22 ml_X7_209 in_m_begins se_m_begins ok_m_begins ar_m_begins (by decide) rfl (by decide) (k_ok_kF G (4) mi_m_markOf) (m_m_begins G)
    (sq_aload_n (pc := 25) dX7_markOf_25 rfl
    (sq_bipush (pc := 26) dX7_markOf_26 kc_b_20
    (sq_callV (d := 4) (d' := 0) (mi' := mi_m_begins) (pc := 28) dX7_markOf_28 ml_X7_209 in_m_begins se_m_begins ok_m_begins ar_m_begins (by decide) rfl (by decide) (k_ok_kF G (4) mi_m_markOf) (m_m_begins G)
    (sq_iload_n (pc := 31) dX7_markOf_31 rfl
    (sq_aload_n (pc := 32) dX7_markOf_32 rfl
    (sq_iload_n (pc := 33) dX7_markOf_33 rfl
    (sq_callV (d := 4) (d' := 3) (mi' := mi_m_sizeOf) (pc := 34) dX7_markOf_34 ml_X7_221 in_m_sizeOf se_m_sizeOf ok_m_sizeOf ar_m_sizeOf (by decide) rfl (by decide) (k_ok_kF G (4) mi_m_markOf) (m_m_sizeOf G)
    (sq_isub (pc := 37) dX7_markOf_37
    (sq_iret rfl (pc := 38) dX7_markOf_38))))))))))))
    (sq_aload_n (pc := 13) dX7_markOf_13 rfl
    (sq_iload_n (pc := 14) dX7_markOf_14 rfl
    (sq_callV (d := 4) (d' := 2) (mi' := mi_m_markWarm) (pc := 15) dX7_markOf_15 ml_X7_218 in_m_markWarm se_m_markWarm ok_m_markWarm ar_m_markWarm (by decide) rfl (by decide) (k_ok_kF G (4) mi_m_markOf) (m_m_markWarm G)
    (sq_iret rfl (pc := 18) dX7_markOf_18))))))))))))
theorem m_m_markOf (G : GG) : RS kE G 4 mi_m_markOf r_m_markOf := by
  intro as M v M' h
  unfold r_m_markOf at h
  split at h
  · exact mc_of ok_m_markOf (s_m_markOf_0 G) (k_c1 _ rfl) (Nat.le_of_ble_eq_true rfl) rfl h
  · cases h
set_option maxHeartbeats 10000000 in
set_option maxRecDepth 20000 in
theorem s_m_ask_17 (G : GG) : Sq kE G (kF G (5) mi_m_ask) mi_m_ask 17 (b_m_ask_17) := by
  unfold b_m_ask_17
  exact (sq_ldc (pc := 17) dX7_ask_17 ct_X7_69
    (sq_iret rfl (pc := 19) dX7_ask_19))
set_option maxHeartbeats 10000000 in
set_option maxRecDepth 20000 in
theorem s_m_ask_42 (G : GG) : Sq kE G (kF G (5) mi_m_ask) mi_m_ask 42 (b_m_ask_42) := by
  unfold b_m_ask_42
  exact (sq_iret rfl (pc := 42) dX7_ask_42)
set_option maxHeartbeats 10000000 in
set_option maxRecDepth 20000 in
theorem s_m_ask_0 (G : GG) : Sq kE G (kF G (5) mi_m_ask) mi_m_ask 0 b_m_ask_0 := by
  unfold b_m_ask_0
  exact (sq_aload_n (pc := 0) dX7_ask_0 rfl
    (sq_iload_n (pc := 1) dX7_ask_1 rfl
    (sq_callV (d := 5) (d' := 1) (mi' := mi_m_isOne) (pc := 2) dX7_ask_2 ml_X7_170 in_m_isOne se_m_isOne ok_m_isOne ar_m_isOne (by decide) rfl (by decide) (k_ok_kF G (5) mi_m_ask) (m_m_isOne G)
    (sq_ifeq (pc := 5) dX7_ask_5 (tgt := 17) rfl
    (s_m_ask_17 G)
    (sq_iload_n (pc := 8) dX7_ask_8 rfl
    (sq_iconst (pc := 9) dX7_ask_9 kc_i_0
    (sq_iconst (pc := 10) dX7_ask_10 kc_i_1
    (sq_callS (d := 5) (d' := 0) (mi' := mi_m_in) (pc := 11) dX7_ask_11 ml_X7_56 st_m_in ok_m_in ar_m_in (by decide) (k_ok_kF G (5) mi_m_ask) (m_m_in G)
    (sq_ifne (pc := 14) dX7_ask_14 (tgt := 20) rfl
    (s_m_ask_17 G)
    (sq_aload_n (pc := 20) dX7_ask_20 rfl
    (sq_iconst (pc := 21) dX7_ask_21 kc_i_0
    (sq_puti (pc := 22) dX7_ask_22 fl_X7_206 rfl rfl
    (sq_iload_n (pc := 25) dX7_ask_25 rfl
    (sq_ifne (pc := 26) dX7_ask_26 (tgt := 37) rfl
    (sq_aload_n (pc := 29) dX7_ask_29 rfl
    (sq_iload_n (pc := 30) dX7_ask_30 rfl
    (sq_callV (d := 5) (d' := 3) (mi' := mi_m_sizeOf) (pc := 31) dX7_ask_31 ml_X7_221 in_m_sizeOf se_m_sizeOf ok_m_sizeOf ar_m_sizeOf (by decide) rfl (by decide) (k_ok_kF G (5) mi_m_ask) (m_m_sizeOf G)
    (sq_goto (pc := 34) dX7_ask_34 (tgt := 42) rfl (s_m_ask_42 G)))))
    (sq_aload_n (pc := 37) dX7_ask_37 rfl
    (sq_iload_n (pc := 38) dX7_ask_38 rfl
    (sq_callV (d := 5) (d' := 4) (mi' := mi_m_markOf) (pc := 39) dX7_ask_39 ml_X7_224 in_m_markOf se_m_markOf ok_m_markOf ar_m_markOf (by decide) rfl (by decide) (k_ok_kF G (5) mi_m_ask) (m_m_markOf G)
    (s_m_ask_42 G))))))))))))))))))
theorem m_m_ask (G : GG) : RS kE G 5 mi_m_ask r_m_ask := by
  intro as M v M' h
  unfold r_m_ask at h
  split at h
  · exact mc_of ok_m_ask (s_m_ask_0 G) (k_c1 _ rfl) (Nat.le_of_ble_eq_true rfl) rfl h
  · cases h
set_option maxHeartbeats 10000000 in
set_option maxRecDepth 20000 in
theorem s_m_trace_25 (G : GG) : Sq kE G (kF G (1) mi_m_trace) mi_m_trace 25 (b_m_trace_25) := by
  unfold b_m_trace_25
  exact (sq_iret rfl (pc := 25) dX7_trace_25)
set_option maxHeartbeats 10000000 in
set_option maxRecDepth 20000 in
theorem s_m_trace_0 (G : GG) : Sq kE G (kF G (1) mi_m_trace) mi_m_trace 0 b_m_trace_0 := by
  unfold b_m_trace_0
  exact (sq_iload_n (pc := 0) dX7_trace_0 rfl
    (sq_iconst (pc := 1) dX7_trace_1 kc_i_0
    (sq_aload_n (pc := 2) dX7_trace_2 rfl
    (sq_geti (pc := 3) dX7_trace_3 fl_X7_206 rfl
    (sq_iconst (pc := 6) dX7_trace_6 kc_i_1
    (sq_isub (pc := 7) dX7_trace_7
    (sq_callS (d := 1) (d' := 0) (mi' := mi_m_in) (pc := 8) dX7_trace_8 ml_X7_56 st_m_in ok_m_in ar_m_in (by decide) (k_ok_kF G (1) mi_m_trace) (m_m_in G)
    (sq_ifeq (pc := 11) dX7_trace_11 (tgt := 23) rfl
    (sq_ldc (pc := 23) dX7_trace_23 ct_X7_183
    (s_m_trace_25 G))
    (sq_aload_n (pc := 14) dX7_trace_14 rfl
    (sq_getr (pc := 15) dX7_trace_15 fl_X7_41 rfl rfl (by decide)
    (sq_iload_n (pc := 18) dX7_trace_18 rfl
    (sq_iald (pc := 19) dX7_trace_19
    (sq_goto (pc := 20) dX7_trace_20 (tgt := 25) rfl (s_m_trace_25 G))))))))))))))
theorem m_m_trace (G : GG) : RS kE G 1 mi_m_trace r_m_trace := by
  intro as M v M' h
  unfold r_m_trace at h
  split at h
  · exact mc_of ok_m_trace (s_m_trace_0 G) (k_c1 _ rfl) (Nat.le_of_ble_eq_true rfl) rfl h
  · cases h
set_option maxHeartbeats 10000000 in
set_option maxRecDepth 20000 in
theorem s_m_count_25 (G : GG) {k4 : Kt Mi} (h4 : Sq kE G (kF G (1) mi_m_count) mi_m_count 4 k4) : Sq kE G (kF G (1) mi_m_count) mi_m_count 25 (b_m_count_25 k4) := by
  unfold b_m_count_25
  exact (sq_iadd (pc := 25) dX7_count_25
    (sq_istore_n (pc := 26) dX7_count_26 rfl
    (sq_iinc (pc := 27) dX7_count_27 rfl
    (sq_goto (pc := 30) dX7_count_30 (tgt := 4) rfl h4))))
set_option maxHeartbeats 10000000 in
set_option maxRecDepth 20000 in
theorem s_m_count_4 (G : GG) (n : Nat) : Sq kE G (kF G (1) mi_m_count) mi_m_count 4 (b_m_count_4 n) := by
  induction n with
  | zero => exact sq_none
  | succ n ih =>
    unfold b_m_count_4
    exact (sq_iload_n (pc := 4) dX7_count_4 rfl
    (sq_bipush (pc := 5) dX7_count_5 kc_b_8
    (sq_cge (pc := 7) dX7_count_7 (tgt := 33) rfl
    (sq_iload_n (pc := 33) dX7_count_33 rfl
    (sq_tsw (pc := 34) dX7_count_34 (td := 131) rfl (by decide +kernel)
    ((k_swT_cons 46 80 ki_0_0 (by decide +kernel) (by decide +kernel) (sq_iload_n (pc := 80) dX7_count_80 rfl
    (sq_iret rfl (pc := 81) dX7_count_81)) 
    (k_swT_cons 48 82 ki_0_1 (by decide +kernel) (by decide +kernel) (sq_aload_n (pc := 82) dX7_count_82 rfl
    (sq_getr (pc := 83) dX7_count_83 fl_X7_22 rfl rfl (by decide)
    (sq_iconst (pc := 86) dX7_count_86 kc_i_2
    (sq_iald (pc := 87) dX7_count_87
    (sq_iret rfl (pc := 88) dX7_count_88))))) 
    (k_swT_cons 55 89 ki_0_2 (by decide +kernel) (by decide +kernel) (sq_aload_n (pc := 89) dX7_count_89 rfl
    (sq_getr (pc := 90) dX7_count_90 fl_X7_22 rfl rfl (by decide)
    (sq_iconst (pc := 93) dX7_count_93 kc_i_3
    (sq_iald (pc := 94) dX7_count_94
    (sq_iret rfl (pc := 95) dX7_count_95))))) 
    (k_swT_cons 62 96 ki_0_3 (by decide +kernel) (by decide +kernel) (sq_aload_n (pc := 96) dX7_count_96 rfl
    (sq_getr (pc := 97) dX7_count_97 fl_X7_22 rfl rfl (by decide)
    (sq_iconst (pc := 100) dX7_count_100 kc_i_0
    (sq_iald (pc := 101) dX7_count_101
    (sq_iret rfl (pc := 102) dX7_count_102))))) 
    (k_swT_cons 69 103 ki_0_4 (by decide +kernel) (by decide +kernel) (sq_aload_n (pc := 103) dX7_count_103 rfl
    (sq_getr (pc := 104) dX7_count_104 fl_X7_22 rfl rfl (by decide)
    (sq_iconst (pc := 107) dX7_count_107 kc_i_1
    (sq_iald (pc := 108) dX7_count_108
    (sq_iret rfl (pc := 109) dX7_count_109))))) 
    (k_swT_cons 76 110 ki_0_5 (by decide +kernel) (by decide +kernel) (sq_aload_n (pc := 110) dX7_count_110 rfl
    (sq_getr (pc := 111) dX7_count_111 fl_X7_22 rfl rfl (by decide)
    (sq_callS (d := 1) (d' := 0) (mi' := mi_m_offOf) (pc := 114) dX7_count_114 ml_X7_166 st_m_offOf ok_m_offOf ar_m_offOf (by decide) (k_ok_kF G (1) mi_m_count) (m_m_offOf G)
    (sq_callS (d := 1) (d' := 0) (mi' := mi_m_bits) (pc := 117) dX7_count_117 ml_X7_137 st_m_bits ok_m_bits ar_m_bits (by decide) (k_ok_kF G (1) mi_m_count) (m_m_bits G)
    (sq_iret rfl (pc := 120) dX7_count_120))))) 
    (k_swT_cons 87 121 ki_0_6 (by decide +kernel) (by decide +kernel) (sq_aload_n (pc := 121) dX7_count_121 rfl
    (sq_geti (pc := 122) dX7_count_122 fl_X7_134 rfl
    (sq_iret rfl (pc := 125) dX7_count_125))) 
    (k_swT_cons 92 126 ki_0_7 (by decide +kernel) (by decide +kernel) (sq_aload_n (pc := 126) dX7_count_126 rfl
    (sq_geti (pc := 127) dX7_count_127 fl_X7_80 rfl
    (sq_iret rfl (pc := 130) dX7_count_130))) k_swT_nil)))))))))
    (sq_ldc (pc := 131) dX7_count_131 ct_X7_69
    (sq_iret rfl (pc := 133) dX7_count_133))))
    (sq_iload_n (pc := 10) dX7_count_10 rfl
    (sq_aload_n (pc := 11) dX7_count_11 rfl
    (sq_getr (pc := 12) dX7_count_12 fl_X7_7 rfl rfl (by decide)
    (sq_iload_n (pc := 15) dX7_count_15 rfl
    (sq_iald (pc := 16) dX7_count_16
    (sq_ifge (pc := 17) dX7_count_17 (tgt := 24) rfl
    (sq_iconst (pc := 24) dX7_count_24 kc_i_1
    (s_m_count_25 G ih))
    (sq_iconst (pc := 20) dX7_count_20 kc_i_0
    (sq_goto (pc := 21) dX7_count_21 (tgt := 25) rfl (s_m_count_25 G ih))))))))))))
set_option maxHeartbeats 10000000 in
set_option maxRecDepth 20000 in
theorem s_m_count_0 (G : GG) : Sq kE G (kF G (1) mi_m_count) mi_m_count 0 b_m_count_0 := by
  unfold b_m_count_0
  exact (sq_iconst (pc := 0) dX7_count_0 kc_i_0
    (sq_istore_n (pc := 1) dX7_count_1 rfl
    (sq_iconst (pc := 2) dX7_count_2 kc_i_0
    (sq_istore_n (pc := 3) dX7_count_3 rfl
    (s_m_count_4 G k_fu)))))
theorem m_m_count (G : GG) : RS kE G 1 mi_m_count r_m_count := by
  intro as M v M' h
  unfold r_m_count at h
  split at h
  · exact mc_of ok_m_count (s_m_count_0 G) (k_c1 _ rfl) (Nat.le_of_ble_eq_true rfl) rfl h
  · cases h
set_option maxHeartbeats 10000000 in
set_option maxRecDepth 20000 in
theorem s_m_status_0 (G : GG) : Sq kE G (kF G (0) mi_m_status) mi_m_status 0 b_m_status_0 := by
  unfold b_m_status_0
  exact (sq_aload_n (pc := 0) dX7_status_0 rfl
    (sq_geti (pc := 1) dX7_status_1 fl_X7_60 rfl
    (sq_iret rfl (pc := 4) dX7_status_4)))
theorem m_m_status (G : GG) : RS kE G 0 mi_m_status r_m_status := by
  intro as M v M' h
  unfold r_m_status at h
  split at h
  · exact mc_of ok_m_status (s_m_status_0 G) (k_c1 _ rfl) (Nat.le_of_ble_eq_true rfl) rfl h
  · cases h
