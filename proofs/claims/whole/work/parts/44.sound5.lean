/-! ===== the machine does what the functions say ===== -/
set_option maxHeartbeats 10000000 in
set_option maxRecDepth 20000 in
theorem s_m_countedBy_144 (G : GG) : Sq kE G (kF G (0) mi_m_countedBy) mi_m_countedBy 144 (b_m_countedBy_144) := by
  unfold b_m_countedBy_144
  exact (sq_iret rfl (pc := 144) dX7_countedBy_144)
set_option maxHeartbeats 10000000 in
set_option maxRecDepth 20000 in
theorem s_m_countedBy_126 (G : GG) : Sq kE G (kF G (0) mi_m_countedBy) mi_m_countedBy 126 (b_m_countedBy_126) := by
  unfold b_m_countedBy_126
  exact (sq_iload_n (pc := 126) dX7_countedBy_126 rfl
    (sq_iload (pc := 127) dX7_countedBy_127
    (sq_iadd (pc := 129) dX7_countedBy_129
    (sq_bipush (pc := 130) dX7_countedBy_130 kc_b_99
    (sq_cle (pc := 132) dX7_countedBy_132 (tgt := 140) rfl
    (sq_iload_n (pc := 140) dX7_countedBy_140 rfl
    (sq_iload (pc := 141) dX7_countedBy_141
    (sq_iadd (pc := 143) dX7_countedBy_143
    (s_m_countedBy_144 G))))
    (sq_bipush (pc := 135) dX7_countedBy_135 kc_b_99
    (sq_goto (pc := 137) dX7_countedBy_137 (tgt := 144) rfl (s_m_countedBy_144 G))))))))
set_option maxHeartbeats 10000000 in
set_option maxRecDepth 20000 in
theorem s_m_countedBy_90 (G : GG) : Sq kE G (kF G (0) mi_m_countedBy) mi_m_countedBy 90 (b_m_countedBy_90) := by
  unfold b_m_countedBy_90
  exact (sq_istore (pc := 90) dX7_countedBy_90
    (sq_goto (pc := 92) dX7_countedBy_92 (tgt := 126) rfl (s_m_countedBy_126 G)))
set_option maxHeartbeats 10000000 in
set_option maxRecDepth 20000 in
theorem s_m_countedBy_105 (G : GG) : Sq kE G (kF G (0) mi_m_countedBy) mi_m_countedBy 105 (b_m_countedBy_105) := by
  unfold b_m_countedBy_105
  exact (sq_istore (pc := 105) dX7_countedBy_105
    (sq_goto (pc := 107) dX7_countedBy_107 (tgt := 126) rfl (s_m_countedBy_126 G)))
set_option maxHeartbeats 10000000 in
set_option maxRecDepth 20000 in
theorem s_m_countedBy_121 (G : GG) : Sq kE G (kF G (0) mi_m_countedBy) mi_m_countedBy 121 (b_m_countedBy_121) := by
  unfold b_m_countedBy_121
  exact (sq_istore (pc := 121) dX7_countedBy_121
    (sq_goto (pc := 123) dX7_countedBy_123 (tgt := 126) rfl (s_m_countedBy_126 G)))
set_option maxHeartbeats 10000000 in
set_option maxRecDepth 20000 in
theorem s_m_countedBy_110 (G : GG) : Sq kE G (kF G (0) mi_m_countedBy) mi_m_countedBy 110 (b_m_countedBy_110) := by
  unfold b_m_countedBy_110
  exact (sq_iload (pc := 110) dX7_countedBy_110
    (sq_ifeq (pc := 112) dX7_countedBy_112 (tgt := 120) rfl
    (sq_iconst (pc := 120) dX7_countedBy_120 kc_i_1
    (s_m_countedBy_121 G))
    (sq_iload_n (pc := 115) dX7_countedBy_115 rfl
    (sq_ineg (pc := 116) dX7_countedBy_116
    (sq_goto (pc := 117) dX7_countedBy_117 (tgt := 121) rfl (s_m_countedBy_121 G))))))
set_option maxHeartbeats 10000000 in
set_option maxRecDepth 20000 in
theorem s_m_countedBy_40 (G : GG) : Sq kE G (kF G (0) mi_m_countedBy) mi_m_countedBy 40 (b_m_countedBy_40) := by
  unfold b_m_countedBy_40
  exact (sq_istore (pc := 40) dX7_countedBy_40
    (sq_iconst (pc := 42) dX7_countedBy_42 kc_i_1
    (sq_istore (pc := 43) dX7_countedBy_43
    (sq_aload_n (pc := 45) dX7_countedBy_45 rfl
    (sq_bipush (pc := 46) dX7_countedBy_46 kc_b_22
    (sq_iload_n (pc := 48) dX7_countedBy_48 rfl
    (sq_iadd (pc := 49) dX7_countedBy_49
    (sq_iald (pc := 50) dX7_countedBy_50
    (sq_tsw (pc := 51) dX7_countedBy_51 (td := 126) rfl (by decide +kernel)
    ((k_swT_cons 29 80 ki_2_0 (by decide +kernel) (by decide +kernel) (sq_iload (pc := 80) dX7_countedBy_80
    (sq_ifeq (pc := 82) dX7_countedBy_82 (tgt := 89) rfl
    (sq_iconst (pc := 89) dX7_countedBy_89 kc_i_1
    (s_m_countedBy_90 G))
    (sq_iconst (pc := 85) dX7_countedBy_85 kc_i_2
    (sq_goto (pc := 86) dX7_countedBy_86 (tgt := 90) rfl (s_m_countedBy_90 G))))) 
    (k_swT_cons 44 95 ki_2_1 (by decide +kernel) (by decide +kernel) (sq_iload (pc := 95) dX7_countedBy_95
    (sq_ifeq (pc := 97) dX7_countedBy_97 (tgt := 104) rfl
    (sq_iconst (pc := 104) dX7_countedBy_104 kc_i_1
    (s_m_countedBy_105 G))
    (sq_iconst (pc := 100) dX7_countedBy_100 kc_i_0
    (sq_goto (pc := 101) dX7_countedBy_101 (tgt := 105) rfl (s_m_countedBy_105 G))))) 
    (k_swT_cons 59 110 ki_2_2 (by decide +kernel) (by decide +kernel) (s_m_countedBy_110 G) 
    (k_swT_cons 59 110 ki_2_3 (by decide +kernel) (by decide +kernel) (s_m_countedBy_110 G) k_swT_nil)))))
    (s_m_countedBy_126 G))))))))))
set_option maxHeartbeats 10000000 in
set_option maxRecDepth 20000 in
theorem s_m_countedBy_23 (G : GG) : Sq kE G (kF G (0) mi_m_countedBy) mi_m_countedBy 23 (b_m_countedBy_23) := by
  unfold b_m_countedBy_23
  exact (sq_istore (pc := 23) dX7_countedBy_23
    (sq_aload_n (pc := 25) dX7_countedBy_25 rfl
    (sq_bipush (pc := 26) dX7_countedBy_26 kc_b_16
    (sq_iload_n (pc := 28) dX7_countedBy_28 rfl
    (sq_iadd (pc := 29) dX7_countedBy_29
    (sq_iald (pc := 30) dX7_countedBy_30
    (sq_iconst (pc := 31) dX7_countedBy_31 kc_i_1
    (sq_cle (pc := 32) dX7_countedBy_32 (tgt := 39) rfl
    (sq_iconst (pc := 39) dX7_countedBy_39 kc_i_0
    (s_m_countedBy_40 G))
    (sq_iconst (pc := 35) dX7_countedBy_35 kc_i_1
    (sq_goto (pc := 36) dX7_countedBy_36 (tgt := 40) rfl (s_m_countedBy_40 G)))))))))))
set_option maxHeartbeats 10000000 in
set_option maxRecDepth 20000 in
theorem s_m_countedBy_0 (G : GG) : Sq kE G (kF G (0) mi_m_countedBy) mi_m_countedBy 0 b_m_countedBy_0 := by
  unfold b_m_countedBy_0
  exact (sq_aload_n (pc := 0) dX7_countedBy_0 rfl
    (sq_bipush (pc := 1) dX7_countedBy_1 kc_b_37
    (sq_iload_n (pc := 3) dX7_countedBy_3 rfl
    (sq_iadd (pc := 4) dX7_countedBy_4
    (sq_iald (pc := 5) dX7_countedBy_5
    (sq_istore_n (pc := 6) dX7_countedBy_6 rfl
    (sq_aload_n (pc := 7) dX7_countedBy_7 rfl
    (sq_bipush (pc := 8) dX7_countedBy_8 kc_b_16
    (sq_iload_n (pc := 10) dX7_countedBy_10 rfl
    (sq_iadd (pc := 11) dX7_countedBy_11
    (sq_iald (pc := 12) dX7_countedBy_12
    (sq_iconst (pc := 13) dX7_countedBy_13 kc_i_2
    (sq_irem (pc := 14) dX7_countedBy_14
    (sq_ifne (pc := 15) dX7_countedBy_15 (tgt := 22) rfl
    (sq_iconst (pc := 18) dX7_countedBy_18 kc_i_1
    (sq_goto (pc := 19) dX7_countedBy_19 (tgt := 23) rfl (s_m_countedBy_23 G)))
    (sq_iconst (pc := 22) dX7_countedBy_22 kc_i_0
    (s_m_countedBy_23 G))))))))))))))))
theorem m_m_countedBy (G : GG) : RS kE G 0 mi_m_countedBy r_m_countedBy := by
  intro as M v M' h
  unfold r_m_countedBy at h
  split at h
  · exact mc_of ok_m_countedBy (s_m_countedBy_0 G) (k_c1 _ rfl) (Nat.le_of_ble_eq_true rfl) rfl h
  · cases h
set_option maxHeartbeats 10000000 in
set_option maxRecDepth 20000 in
theorem s_m_pass_186 (G : GG) {k69 : Kt Mi} (h69 : Sq kE G (kF G (1) mi_m_pass) mi_m_pass 69 k69) : Sq kE G (kF G (1) mi_m_pass) mi_m_pass 186 (b_m_pass_186 k69) := by
  unfold b_m_pass_186
  exact (sq_iast (pc := 186) dX7_pass_186
    (sq_iinc (pc := 187) dX7_pass_187 rfl
    (sq_goto (pc := 190) dX7_pass_190 (tgt := 69) rfl h69)))
set_option maxHeartbeats 10000000 in
set_option maxRecDepth 20000 in
theorem s_m_pass_152 (G : GG) {k69 : Kt Mi} (h69 : Sq kE G (kF G (1) mi_m_pass) mi_m_pass 69 k69) : Sq kE G (kF G (1) mi_m_pass) mi_m_pass 152 (b_m_pass_152 k69) := by
  unfold b_m_pass_152
  exact (sq_aload_n (pc := 152) dX7_pass_152 rfl
    (sq_bipush (pc := 153) dX7_pass_153 kc_b_42
    (sq_iload (pc := 155) dX7_pass_155
    (sq_iadd (pc := 157) dX7_pass_157
    (sq_aload_n (pc := 158) dX7_pass_158 rfl
    (sq_bipush (pc := 159) dX7_pass_159 kc_b_37
    (sq_iload (pc := 161) dX7_pass_161
    (sq_iadd (pc := 163) dX7_pass_163
    (sq_iald (pc := 164) dX7_pass_164
    (sq_aload_n (pc := 165) dX7_pass_165 rfl
    (sq_bipush (pc := 166) dX7_pass_166 kc_b_27
    (sq_iload (pc := 168) dX7_pass_168
    (sq_iadd (pc := 170) dX7_pass_170
    (sq_iald (pc := 171) dX7_pass_171
    (sq_clt (pc := 172) dX7_pass_172 (tgt := 179) rfl
    (sq_aload_n (pc := 179) dX7_pass_179 rfl
    (sq_bipush (pc := 180) dX7_pass_180 kc_b_42
    (sq_iload (pc := 182) dX7_pass_182
    (sq_iadd (pc := 184) dX7_pass_184
    (sq_iald (pc := 185) dX7_pass_185
    (s_m_pass_186 G h69))))))
    (sq_iconst (pc := 175) dX7_pass_175 kc_i_1
    (sq_goto (pc := 176) dX7_pass_176 (tgt := 186) rfl (s_m_pass_186 G h69))))))))))))))))))
set_option maxHeartbeats 10000000 in
set_option maxRecDepth 20000 in
theorem s_m_pass_151 (G : GG) {k69 : Kt Mi} (h69 : Sq kE G (kF G (1) mi_m_pass) mi_m_pass 69 k69) : Sq kE G (kF G (1) mi_m_pass) mi_m_pass 151 (b_m_pass_151 k69) := by
  unfold b_m_pass_151
  exact (sq_iast (pc := 151) dX7_pass_151
    (s_m_pass_152 G h69))
set_option maxHeartbeats 10000000 in
set_option maxRecDepth 20000 in
theorem s_m_pass_127 (G : GG) {k69 : Kt Mi} (h69 : Sq kE G (kF G (1) mi_m_pass) mi_m_pass 69 k69) : Sq kE G (kF G (1) mi_m_pass) mi_m_pass 127 (b_m_pass_127 k69) := by
  unfold b_m_pass_127
  exact (sq_istore (pc := 127) dX7_pass_127
    (sq_aload_n (pc := 129) dX7_pass_129 rfl
    (sq_bipush (pc := 130) dX7_pass_130 kc_b_42
    (sq_iload (pc := 132) dX7_pass_132
    (sq_iadd (pc := 134) dX7_pass_134
    (sq_iload (pc := 135) dX7_pass_135
    (sq_ifeq (pc := 137) dX7_pass_137 (tgt := 144) rfl
    (sq_aload_n (pc := 144) dX7_pass_144 rfl
    (sq_bipush (pc := 145) dX7_pass_145 kc_b_42
    (sq_iload (pc := 147) dX7_pass_147
    (sq_iadd (pc := 149) dX7_pass_149
    (sq_iald (pc := 150) dX7_pass_150
    (s_m_pass_151 G h69))))))
    (sq_iconst (pc := 140) dX7_pass_140 kc_i_0
    (sq_goto (pc := 141) dX7_pass_141 (tgt := 151) rfl (s_m_pass_151 G h69))))))))))
set_option maxHeartbeats 10000000 in
set_option maxRecDepth 20000 in
theorem s_m_pass_126 (G : GG) {k69 : Kt Mi} (h69 : Sq kE G (kF G (1) mi_m_pass) mi_m_pass 69 k69) : Sq kE G (kF G (1) mi_m_pass) mi_m_pass 126 (b_m_pass_126 k69) := by
  unfold b_m_pass_126
  exact (sq_iconst (pc := 126) dX7_pass_126 kc_i_0
    (s_m_pass_127 G h69))
set_option maxHeartbeats 10000000 in
set_option maxRecDepth 20000 in
theorem s_m_pass_69 (G : GG) (n : Nat) : Sq kE G (kF G (1) mi_m_pass) mi_m_pass 69 (b_m_pass_69 n) := by
  induction n with
  | zero => exact sq_none
  | succ n ih =>
    unfold b_m_pass_69
    exact (sq_iload (pc := 69) dX7_pass_69
    (sq_aload_n (pc := 71) dX7_pass_71 rfl
    (sq_iconst (pc := 72) dX7_pass_72 kc_i_3
    (sq_iald (pc := 73) dX7_pass_73
    (sq_cge (pc := 74) dX7_pass_74 (tgt := 193) rfl
    (sq_ret rfl (pc := 193) dX7_pass_193)
    (sq_aload_n (pc := 77) dX7_pass_77 rfl
    (sq_iload (pc := 78) dX7_pass_78
    (sq_iload_n (pc := 80) dX7_pass_80 rfl
    (sq_callS (d := 1) (d' := 0) (mi' := mi_m_hears) (pc := 81) dX7_pass_81 ml_X7_143 st_m_hears ok_m_hears ar_m_hears (by decide) (k_ok_kF G (1) mi_m_pass) (m_m_hears G)
    (sq_ifeq (pc := 84) dX7_pass_84 (tgt := 152) rfl
    (s_m_pass_152 G ih)
    (sq_aload_n (pc := 87) dX7_pass_87 rfl
    (sq_bipush (pc := 88) dX7_pass_88 kc_b_37
    (sq_iload (pc := 90) dX7_pass_90
    (sq_iadd (pc := 92) dX7_pass_92
    (sq_aload_n (pc := 93) dX7_pass_93 rfl
    (sq_iload (pc := 94) dX7_pass_94
    (sq_iload_n (pc := 96) dX7_pass_96 rfl
    (sq_callS (d := 1) (d' := 0) (mi' := mi_m_countedBy) (pc := 97) dX7_pass_97 ml_X7_147 st_m_countedBy ok_m_countedBy ar_m_countedBy (by decide) (k_ok_kF G (1) mi_m_pass) (m_m_countedBy G)
    (sq_iast (pc := 100) dX7_pass_100
    (sq_aload_n (pc := 101) dX7_pass_101 rfl
    (sq_bipush (pc := 102) dX7_pass_102 kc_b_22
    (sq_iload (pc := 104) dX7_pass_104
    (sq_iadd (pc := 106) dX7_pass_106
    (sq_iald (pc := 107) dX7_pass_107
    (sq_iconst (pc := 108) dX7_pass_108 kc_i_5
    (sq_cne (pc := 109) dX7_pass_109 (tgt := 126) rfl
    (sq_aload_n (pc := 112) dX7_pass_112 rfl
    (sq_bipush (pc := 113) dX7_pass_113 kc_b_16
    (sq_iload_n (pc := 115) dX7_pass_115 rfl
    (sq_iadd (pc := 116) dX7_pass_116
    (sq_iald (pc := 117) dX7_pass_117
    (sq_iconst (pc := 118) dX7_pass_118 kc_i_1
    (sq_cle (pc := 119) dX7_pass_119 (tgt := 126) rfl
    (s_m_pass_126 G ih)
    (sq_iconst (pc := 122) dX7_pass_122 kc_i_1
    (sq_goto (pc := 123) dX7_pass_123 (tgt := 127) rfl (s_m_pass_127 G ih))))))))))
    (s_m_pass_126 G ih)))))))))))))))))))))))))))
set_option maxHeartbeats 10000000 in
set_option maxRecDepth 20000 in
theorem s_m_pass_53 (G : GG) {k14 : Kt Mi} (h14 : Sq kE G (kF G (1) mi_m_pass) mi_m_pass 14 k14) : Sq kE G (kF G (1) mi_m_pass) mi_m_pass 53 (b_m_pass_53 k14) := by
  unfold b_m_pass_53
  exact (sq_iinc (pc := 53) dX7_pass_53 rfl
    (sq_goto (pc := 56) dX7_pass_56 (tgt := 14) rfl h14))
set_option maxHeartbeats 10000000 in
set_option maxRecDepth 20000 in
theorem s_m_pass_49 (G : GG) {k14 : Kt Mi} (h14 : Sq kE G (kF G (1) mi_m_pass) mi_m_pass 14 k14) : Sq kE G (kF G (1) mi_m_pass) mi_m_pass 49 (b_m_pass_49 k14) := by
  unfold b_m_pass_49
  exact (sq_istore_n (pc := 49) dX7_pass_49 rfl
    (sq_iinc (pc := 50) dX7_pass_50 rfl
    (s_m_pass_53 G h14)))
set_option maxHeartbeats 10000000 in
set_option maxRecDepth 20000 in
theorem s_m_pass_14 (G : GG) (n : Nat) : Sq kE G (kF G (1) mi_m_pass) mi_m_pass 14 (b_m_pass_14 n) := by
  induction n with
  | zero => exact sq_none
  | succ n ih =>
    unfold b_m_pass_14
    exact (sq_iload (pc := 14) dX7_pass_14
    (sq_aload_n (pc := 16) dX7_pass_16 rfl
    (sq_iconst (pc := 17) dX7_pass_17 kc_i_2
    (sq_iald (pc := 18) dX7_pass_18
    (sq_cge (pc := 19) dX7_pass_19 (tgt := 59) rfl
    (sq_aload_n (pc := 59) dX7_pass_59 rfl
    (sq_iconst (pc := 60) dX7_pass_60 kc_i_0
    (sq_dup2 (pc := 61) dX7_pass_61
    (sq_iald (pc := 62) dX7_pass_62
    (sq_iconst (pc := 63) dX7_pass_63 kc_i_1
    (sq_iadd (pc := 64) dX7_pass_64
    (sq_iast (pc := 65) dX7_pass_65
    (sq_iconst (pc := 66) dX7_pass_66 kc_i_0
    (sq_istore (pc := 67) dX7_pass_67
    (s_m_pass_69 G k_fu))))))))))
    (sq_iload_n (pc := 22) dX7_pass_22 rfl
    (sq_aload_n (pc := 23) dX7_pass_23 rfl
    (sq_iconst (pc := 24) dX7_pass_24 kc_i_4
    (sq_iload (pc := 25) dX7_pass_25
    (sq_iadd (pc := 27) dX7_pass_27
    (sq_iald (pc := 28) dX7_pass_28
    (sq_callS (d := 1) (d' := 0) (mi' := mi_m_has) (pc := 29) dX7_pass_29 ml_X7_140 st_m_has ok_m_has ar_m_has (by decide) (k_ok_kF G (1) mi_m_pass) (m_m_has G)
    (sq_ifeq (pc := 32) dX7_pass_32 (tgt := 53) rfl
    (s_m_pass_53 G ih)
    (sq_iload_n (pc := 35) dX7_pass_35 rfl
    (sq_ifne (pc := 36) dX7_pass_36 (tgt := 48) rfl
    (sq_aload_n (pc := 39) dX7_pass_39 rfl
    (sq_iconst (pc := 40) dX7_pass_40 kc_i_4
    (sq_iload (pc := 41) dX7_pass_41
    (sq_iadd (pc := 43) dX7_pass_43
    (sq_iald (pc := 44) dX7_pass_44
    (sq_goto (pc := 45) dX7_pass_45 (tgt := 49) rfl (s_m_pass_49 G ih)))))))
    (sq_iload_n (pc := 48) dX7_pass_48 rfl
    (s_m_pass_49 G ih)))))))))))))))))
set_option maxHeartbeats 10000000 in
set_option maxRecDepth 20000 in
theorem s_m_pass_0 (G : GG) : Sq kE G (kF G (1) mi_m_pass) mi_m_pass 0 b_m_pass_0 := by
  unfold b_m_pass_0
  exact (sq_aload_n (pc := 0) dX7_pass_0 rfl
    (sq_iconst (pc := 1) dX7_pass_1 kc_i_0
    (sq_iald (pc := 2) dX7_pass_2
    (sq_iload_n (pc := 3) dX7_pass_3 rfl
    (sq_callS (d := 1) (d' := 0) (mi' := mi_m_bits) (pc := 4) dX7_pass_4 ml_X7_137 st_m_bits ok_m_bits ar_m_bits (by decide) (k_ok_kF G (1) mi_m_pass) (m_m_bits G)
    (sq_irem (pc := 7) dX7_pass_7
    (sq_istore_n (pc := 8) dX7_pass_8 rfl
    (sq_iconst (pc := 9) dX7_pass_9 kc_i_0
    (sq_istore_n (pc := 10) dX7_pass_10 rfl
    (sq_iconst (pc := 11) dX7_pass_11 kc_i_0
    (sq_istore (pc := 12) dX7_pass_12
    (s_m_pass_14 G k_fu))))))))))))
theorem m_m_pass (G : GG) : RS kE G 1 mi_m_pass r_m_pass := by
  intro as M v M' h
  unfold r_m_pass at h
  split at h
  · exact mc_of ok_m_pass (s_m_pass_0 G) (k_c1 _ rfl) (Nat.le_of_ble_eq_true rfl) rfl h
  · cases h
set_option maxHeartbeats 10000000 in
set_option maxRecDepth 20000 in
theorem s_m_offOf_4 (G : GG) (n : Nat) : Sq kE G (kF G (0) mi_m_offOf) mi_m_offOf 4 (b_m_offOf_4 n) := by
  induction n with
  | zero => exact sq_none
  | succ n ih =>
    unfold b_m_offOf_4
    exact (sq_iload_n (pc := 4) dX7_offOf_4 rfl
    (sq_aload_n (pc := 5) dX7_offOf_5 rfl
    (sq_iconst (pc := 6) dX7_offOf_6 kc_i_3
    (sq_iald (pc := 7) dX7_offOf_7
    (sq_cge (pc := 8) dX7_offOf_8 (tgt := 28) rfl
    (sq_iload_n (pc := 28) dX7_offOf_28 rfl
    (sq_iret rfl (pc := 29) dX7_offOf_29))
    (sq_iload_n (pc := 11) dX7_offOf_11 rfl
    (sq_aload_n (pc := 12) dX7_offOf_12 rfl
    (sq_bipush (pc := 13) dX7_offOf_13 kc_b_42
    (sq_iload_n (pc := 15) dX7_offOf_15 rfl
    (sq_iadd (pc := 16) dX7_offOf_16
    (sq_iald (pc := 17) dX7_offOf_17
    (sq_iload_n (pc := 18) dX7_offOf_18 rfl
    (sq_ishl (pc := 19) dX7_offOf_19
    (sq_ior (pc := 20) dX7_offOf_20
    (sq_istore_n (pc := 21) dX7_offOf_21 rfl
    (sq_iinc (pc := 22) dX7_offOf_22 rfl
    (sq_goto (pc := 25) dX7_offOf_25 (tgt := 4) rfl ih)))))))))))))))))
set_option maxHeartbeats 10000000 in
set_option maxRecDepth 20000 in
theorem s_m_offOf_0 (G : GG) : Sq kE G (kF G (0) mi_m_offOf) mi_m_offOf 0 b_m_offOf_0 := by
  unfold b_m_offOf_0
  exact (sq_iconst (pc := 0) dX7_offOf_0 kc_i_0
    (sq_istore_n (pc := 1) dX7_offOf_1 rfl
    (sq_iconst (pc := 2) dX7_offOf_2 kc_i_0
    (sq_istore_n (pc := 3) dX7_offOf_3 rfl
    (s_m_offOf_4 G k_fu)))))
theorem m_m_offOf (G : GG) : RS kE G 0 mi_m_offOf r_m_offOf := by
  intro as M v M' h
  unfold r_m_offOf at h
  split at h
  · exact mc_of ok_m_offOf (s_m_offOf_0 G) (k_c1 _ rfl) (Nat.le_of_ble_eq_true rfl) rfl h
  · cases h
set_option maxHeartbeats 10000000 in
set_option maxRecDepth 20000 in
theorem s_m_flock_0 (G : GG) : Sq kE G (kF G (0) mi_m_flock) mi_m_flock 0 b_m_flock_0 := by
  unfold b_m_flock_0
  exact (sq_iconst (pc := 0) dX7_flock_0 kc_i_1
    (sq_aload_n (pc := 1) dX7_flock_1 rfl
    (sq_getr (pc := 2) dX7_flock_2 fl_X7_22 rfl rfl (by decide)
    (sq_iconst (pc := 5) dX7_flock_5 kc_i_2
    (sq_iald (pc := 6) dX7_flock_6
    (sq_ishl (pc := 7) dX7_flock_7
    (sq_iconst (pc := 8) dX7_flock_8 kc_i_1
    (sq_isub (pc := 9) dX7_flock_9
    (sq_iret rfl (pc := 10) dX7_flock_10)))))))))
theorem m_m_flock (G : GG) : RS kE G 0 mi_m_flock r_m_flock := by
  intro as M v M' h
  unfold r_m_flock at h
  split at h
  · exact mc_of ok_m_flock (s_m_flock_0 G) (k_c1 _ rfl) (Nat.le_of_ble_eq_true rfl) rfl h
  · cases h
set_option maxHeartbeats 10000000 in
set_option maxRecDepth 20000 in
theorem s_m_steps_42 (G : GG) (n : Nat) : Sq kE G (kF G (2) mi_m_steps) mi_m_steps 42 (b_m_steps_42 n) := by
  induction n with
  | zero => exact sq_none
  | succ n ih =>
    unfold b_m_steps_42
    exact (sq_iload_n (pc := 42) dX7_steps_42 rfl
    (sq_iload_n (pc := 43) dX7_steps_43 rfl
    (sq_cge (pc := 44) dX7_steps_44 (tgt := 68) rfl
    (sq_aload_n (pc := 68) dX7_steps_68 rfl
    (sq_getr (pc := 69) dX7_steps_69 fl_X7_22 rfl rfl (by decide)
    (sq_callS (d := 2) (d' := 0) (mi' := mi_m_offOf) (pc := 72) dX7_steps_72 ml_X7_166 st_m_offOf ok_m_offOf ar_m_offOf (by decide) (k_ok_kF G (2) mi_m_steps) (m_m_offOf G)
    (sq_iret rfl (pc := 75) dX7_steps_75))))
    (sq_aload_n (pc := 47) dX7_steps_47 rfl
    (sq_callV (d := 2) (d' := 1) (mi' := mi_m_note) (pc := 48) dX7_steps_48 ml_X7_155 in_m_note se_m_note ok_m_note ar_m_note (by decide) rfl (by decide) (k_ok_kF G (2) mi_m_steps) (m_m_note G)
    (sq_aload_n (pc := 51) dX7_steps_51 rfl
    (sq_getr (pc := 52) dX7_steps_52 fl_X7_22 rfl rfl (by decide)
    (sq_aload_n (pc := 55) dX7_steps_55 rfl
    (sq_callV (d := 2) (d' := 0) (mi' := mi_m_flock) (pc := 56) dX7_steps_56 ml_X7_158 in_m_flock se_m_flock ok_m_flock ar_m_flock (by decide) rfl (by decide) (k_ok_kF G (2) mi_m_steps) (m_m_flock G)
    (sq_callS (d := 2) (d' := 1) (mi' := mi_m_pass) (pc := 59) dX7_steps_59 ml_X7_162 st_m_pass ok_m_pass ar_m_pass (by decide) (k_ok_kF G (2) mi_m_steps) (m_m_pass G)
    (sq_iinc (pc := 62) dX7_steps_62 rfl
    (sq_goto (pc := 65) dX7_steps_65 (tgt := 42) rfl ih))))))))))))
set_option maxHeartbeats 10000000 in
set_option maxRecDepth 20000 in
theorem s_m_steps_0 (G : GG) : Sq kE G (kF G (2) mi_m_steps) mi_m_steps 0 b_m_steps_0 := by
  unfold b_m_steps_0
  exact (sq_aload_n (pc := 0) dX7_steps_0 rfl
    (sq_callV (d := 2) (d' := 0) (mi' := mi_m_isSquare) (pc := 1) dX7_steps_1 ml_X7_151 in_m_isSquare se_m_isSquare ok_m_isSquare ar_m_isSquare (by decide) rfl (by decide) (k_ok_kF G (2) mi_m_steps) (m_m_isSquare G)
    (sq_ifne (pc := 4) dX7_steps_4 (tgt := 10) rfl
    (sq_ldc (pc := 7) dX7_steps_7 ct_X7_154
    (sq_iret rfl (pc := 9) dX7_steps_9))
    (sq_iload_n (pc := 10) dX7_steps_10 rfl
    (sq_iconst (pc := 11) dX7_steps_11 kc_i_1
    (sq_bipush (pc := 12) dX7_steps_12 kc_b_24
    (sq_callS (d := 2) (d' := 0) (mi' := mi_m_in) (pc := 14) dX7_steps_14 ml_X7_56 st_m_in ok_m_in ar_m_in (by decide) (k_ok_kF G (2) mi_m_steps) (m_m_in G)
    (sq_ifne (pc := 17) dX7_steps_17 (tgt := 23) rfl
    (sq_ldc (pc := 20) dX7_steps_20 ct_X7_69
    (sq_iret rfl (pc := 22) dX7_steps_22))
    (sq_aload_n (pc := 23) dX7_steps_23 rfl
    (sq_getr (pc := 24) dX7_steps_24 fl_X7_22 rfl rfl (by decide)
    (sq_iconst (pc := 27) dX7_steps_27 kc_i_0
    (sq_iald (pc := 28) dX7_steps_28
    (sq_iload_n (pc := 29) dX7_steps_29 rfl
    (sq_iadd (pc := 30) dX7_steps_30
    (sq_sipush (pc := 31) dX7_steps_31 kc_s_9999
    (sq_cle (pc := 34) dX7_steps_34 (tgt := 40) rfl
    (sq_iconst (pc := 40) dX7_steps_40 kc_i_0
    (sq_istore_n (pc := 41) dX7_steps_41 rfl
    (s_m_steps_42 G k_fu)))
    (sq_ldc (pc := 37) dX7_steps_37 ct_X7_83
    (sq_iret rfl (pc := 39) dX7_steps_39))))))))))))))))))
theorem m_m_steps (G : GG) : RS kE G 2 mi_m_steps r_m_steps := by
  intro as M v M' h
  unfold r_m_steps at h
  split at h
  · exact mc_of ok_m_steps (s_m_steps_0 G) (k_c1 _ rfl) (Nat.le_of_ble_eq_true rfl) rfl h
  · cases h
set_option maxHeartbeats 10000000 in
set_option maxRecDepth 20000 in
theorem s_m_change_0 (G : GG) : Sq kE G (kF G (2) mi_m_change) mi_m_change 0 b_m_change_0 := by
  unfold b_m_change_0
  exact (sq_iload_n (pc := 0) dX7_change_0 rfl
    (sq_iconst (pc := 1) dX7_change_1 kc_i_0
    (sq_aload_n (pc := 2) dX7_change_2 rfl
    (sq_getr (pc := 3) dX7_change_3 fl_X7_22 rfl rfl (by decide)
    (sq_iconst (pc := 6) dX7_change_6 kc_i_2
    (sq_iald (pc := 7) dX7_change_7
    (sq_iconst (pc := 8) dX7_change_8 kc_i_1
    (sq_isub (pc := 9) dX7_change_9
    (sq_callS (d := 2) (d' := 0) (mi' := mi_m_in) (pc := 10) dX7_change_10 ml_X7_56 st_m_in ok_m_in ar_m_in (by decide) (k_ok_kF G (2) mi_m_change) (m_m_in G)
    (sq_ifne (pc := 13) dX7_change_13 (tgt := 19) rfl
    (sq_ldc (pc := 16) dX7_change_16 ct_X7_69
    (sq_iret rfl (pc := 18) dX7_change_18))
    (sq_iload_n (pc := 19) dX7_change_19 rfl
    (sq_aload_n (pc := 20) dX7_change_20 rfl
    (sq_getr (pc := 21) dX7_change_21 fl_X7_22 rfl rfl (by decide)
    (sq_iconst (pc := 24) dX7_change_24 kc_i_2
    (sq_iald (pc := 25) dX7_change_25
    (sq_iconst (pc := 26) dX7_change_26 kc_i_1
    (sq_isub (pc := 27) dX7_change_27
    (sq_cne (pc := 28) dX7_change_28 (tgt := 34) rfl
    (sq_ldc (pc := 31) dX7_change_31 ct_X7_154
    (sq_iret rfl (pc := 33) dX7_change_33))
    (sq_aload_n (pc := 34) dX7_change_34 rfl
    (sq_callV (d := 2) (d' := 1) (mi' := mi_m_note) (pc := 35) dX7_change_35 ml_X7_155 in_m_note se_m_note ok_m_note ar_m_note (by decide) rfl (by decide) (k_ok_kF G (2) mi_m_change) (m_m_note G)
    (sq_aload_n (pc := 38) dX7_change_38 rfl
    (sq_getr (pc := 39) dX7_change_39 fl_X7_22 rfl rfl (by decide)
    (sq_iconst (pc := 42) dX7_change_42 kc_i_4
    (sq_iload_n (pc := 43) dX7_change_43 rfl
    (sq_iadd (pc := 44) dX7_change_44
    (sq_iald (pc := 45) dX7_change_45
    (sq_istore_n (pc := 46) dX7_change_46 rfl
    (sq_aload_n (pc := 47) dX7_change_47 rfl
    (sq_getr (pc := 48) dX7_change_48 fl_X7_22 rfl rfl (by decide)
    (sq_iconst (pc := 51) dX7_change_51 kc_i_4
    (sq_iload_n (pc := 52) dX7_change_52 rfl
    (sq_iadd (pc := 53) dX7_change_53
    (sq_aload_n (pc := 54) dX7_change_54 rfl
    (sq_getr (pc := 55) dX7_change_55 fl_X7_22 rfl rfl (by decide)
    (sq_iconst (pc := 58) dX7_change_58 kc_i_4
    (sq_iload_n (pc := 59) dX7_change_59 rfl
    (sq_iadd (pc := 60) dX7_change_60
    (sq_iconst (pc := 61) dX7_change_61 kc_i_1
    (sq_iadd (pc := 62) dX7_change_62
    (sq_iald (pc := 63) dX7_change_63
    (sq_iast (pc := 64) dX7_change_64
    (sq_aload_n (pc := 65) dX7_change_65 rfl
    (sq_getr (pc := 66) dX7_change_66 fl_X7_22 rfl rfl (by decide)
    (sq_iconst (pc := 69) dX7_change_69 kc_i_4
    (sq_iload_n (pc := 70) dX7_change_70 rfl
    (sq_iadd (pc := 71) dX7_change_71
    (sq_iconst (pc := 72) dX7_change_72 kc_i_1
    (sq_iadd (pc := 73) dX7_change_73
    (sq_iload_n (pc := 74) dX7_change_74 rfl
    (sq_iast (pc := 75) dX7_change_75
    (sq_aload_n (pc := 76) dX7_change_76 rfl
    (sq_getr (pc := 77) dX7_change_77 fl_X7_22 rfl rfl (by decide)
    (sq_iconst (pc := 80) dX7_change_80 kc_i_4
    (sq_iload_n (pc := 81) dX7_change_81 rfl
    (sq_iadd (pc := 82) dX7_change_82
    (sq_iald (pc := 83) dX7_change_83
    (sq_iret rfl (pc := 84) dX7_change_84)))))))))))))))))))))))))))))))))))))))))))))))))))))))))
theorem m_m_change (G : GG) : RS kE G 2 mi_m_change r_m_change := by
  intro as M v M' h
  unfold r_m_change at h
  split at h
  · exact mc_of ok_m_change (s_m_change_0 G) (k_c1 _ rfl) (Nat.le_of_ble_eq_true rfl) rfl h
  · cases h
set_option maxHeartbeats 10000000 in
set_option maxRecDepth 20000 in
theorem s_m_wind_0 (G : GG) : Sq kE G (kF G (2) mi_m_wind) mi_m_wind 0 b_m_wind_0 := by
  unfold b_m_wind_0
  exact (sq_aload_n (pc := 0) dX7_wind_0 rfl
    (sq_callV (d := 2) (d' := 0) (mi' := mi_m_isSquare) (pc := 1) dX7_wind_1 ml_X7_151 in_m_isSquare se_m_isSquare ok_m_isSquare ar_m_isSquare (by decide) rfl (by decide) (k_ok_kF G (2) mi_m_wind) (m_m_isSquare G)
    (sq_ifne (pc := 4) dX7_wind_4 (tgt := 10) rfl
    (sq_ldc (pc := 7) dX7_wind_7 ct_X7_154
    (sq_iret rfl (pc := 9) dX7_wind_9))
    (sq_iload_n (pc := 10) dX7_wind_10 rfl
    (sq_iconst (pc := 11) dX7_wind_11 kc_i_0
    (sq_bipush (pc := 12) dX7_wind_12 kc_b_9
    (sq_callS (d := 2) (d' := 0) (mi' := mi_m_in) (pc := 14) dX7_wind_14 ml_X7_56 st_m_in ok_m_in ar_m_in (by decide) (k_ok_kF G (2) mi_m_wind) (m_m_in G)
    (sq_ifne (pc := 17) dX7_wind_17 (tgt := 23) rfl
    (sq_ldc (pc := 20) dX7_wind_20 ct_X7_69
    (sq_iret rfl (pc := 22) dX7_wind_22))
    (sq_aload_n (pc := 23) dX7_wind_23 rfl
    (sq_callV (d := 2) (d' := 1) (mi' := mi_m_note) (pc := 24) dX7_wind_24 ml_X7_155 in_m_note se_m_note ok_m_note ar_m_note (by decide) rfl (by decide) (k_ok_kF G (2) mi_m_wind) (m_m_note G)
    (sq_aload_n (pc := 27) dX7_wind_27 rfl
    (sq_getr (pc := 28) dX7_wind_28 fl_X7_22 rfl rfl (by decide)
    (sq_iconst (pc := 31) dX7_wind_31 kc_i_1
    (sq_iald (pc := 32) dX7_wind_32
    (sq_istore_n (pc := 33) dX7_wind_33 rfl
    (sq_aload_n (pc := 34) dX7_wind_34 rfl
    (sq_getr (pc := 35) dX7_wind_35 fl_X7_22 rfl rfl (by decide)
    (sq_iconst (pc := 38) dX7_wind_38 kc_i_1
    (sq_iload_n (pc := 39) dX7_wind_39 rfl
    (sq_iast (pc := 40) dX7_wind_40
    (sq_iload_n (pc := 41) dX7_wind_41 rfl
    (sq_iret rfl (pc := 42) dX7_wind_42))))))))))))))))))))))
theorem m_m_wind (G : GG) : RS kE G 2 mi_m_wind r_m_wind := by
  intro as M v M' h
  unfold r_m_wind at h
  split at h
  · exact mc_of ok_m_wind (s_m_wind_0 G) (k_c1 _ rfl) (Nat.le_of_ble_eq_true rfl) rfl h
  · cases h
set_option maxHeartbeats 10000000 in
set_option maxRecDepth 20000 in
theorem s_m_cough_0 (G : GG) : Sq kE G (kF G (2) mi_m_cough) mi_m_cough 0 b_m_cough_0 := by
  unfold b_m_cough_0
  exact (sq_aload_n (pc := 0) dX7_cough_0 rfl
    (sq_iload_n (pc := 1) dX7_cough_1 rfl
    (sq_callV (d := 2) (d' := 1) (mi' := mi_m_isOne) (pc := 2) dX7_cough_2 ml_X7_170 in_m_isOne se_m_isOne ok_m_isOne ar_m_isOne (by decide) rfl (by decide) (k_ok_kF G (2) mi_m_cough) (m_m_isOne G)
    (sq_ifne (pc := 5) dX7_cough_5 (tgt := 11) rfl
    (sq_ldc (pc := 8) dX7_cough_8 ct_X7_69
    (sq_iret rfl (pc := 10) dX7_cough_10))
    (sq_aload_n (pc := 11) dX7_cough_11 rfl
    (sq_callV (d := 2) (d' := 1) (mi' := mi_m_note) (pc := 12) dX7_cough_12 ml_X7_155 in_m_note se_m_note ok_m_note ar_m_note (by decide) rfl (by decide) (k_ok_kF G (2) mi_m_cough) (m_m_note G)
    (sq_aload_n (pc := 15) dX7_cough_15 rfl
    (sq_getr (pc := 16) dX7_cough_16 fl_X7_22 rfl rfl (by decide)
    (sq_bipush (pc := 19) dX7_cough_19 kc_b_37
    (sq_iload_n (pc := 21) dX7_cough_21 rfl
    (sq_iadd (pc := 22) dX7_cough_22
    (sq_iald (pc := 23) dX7_cough_23
    (sq_istore_n (pc := 24) dX7_cough_24 rfl
    (sq_aload_n (pc := 25) dX7_cough_25 rfl
    (sq_getr (pc := 26) dX7_cough_26 fl_X7_22 rfl rfl (by decide)
    (sq_bipush (pc := 29) dX7_cough_29 kc_b_37
    (sq_iload_n (pc := 31) dX7_cough_31 rfl
    (sq_iadd (pc := 32) dX7_cough_32
    (sq_iconst (pc := 33) dX7_cough_33 kc_i_0
    (sq_iast (pc := 34) dX7_cough_34
    (sq_aload_n (pc := 35) dX7_cough_35 rfl
    (sq_getr (pc := 36) dX7_cough_36 fl_X7_22 rfl rfl (by decide)
    (sq_bipush (pc := 39) dX7_cough_39 kc_b_42
    (sq_iload_n (pc := 41) dX7_cough_41 rfl
    (sq_iadd (pc := 42) dX7_cough_42
    (sq_iconst (pc := 43) dX7_cough_43 kc_i_0
    (sq_iast (pc := 44) dX7_cough_44
    (sq_iload_n (pc := 45) dX7_cough_45 rfl
    (sq_iret rfl (pc := 46) dX7_cough_46)))))))))))))))))))))))))))))
theorem m_m_cough (G : GG) : RS kE G 2 mi_m_cough r_m_cough := by
  intro as M v M' h
  unfold r_m_cough at h
  split at h
  · exact mc_of ok_m_cough (s_m_cough_0 G) (k_c1 _ rfl) (Nat.le_of_ble_eq_true rfl) rfl h
  · cases h
set_option maxHeartbeats 10000000 in
set_option maxRecDepth 20000 in
theorem s_m_undo_0 (G : GG) : Sq kE G (kF G (1) mi_m_undo) mi_m_undo 0 b_m_undo_0 := by
  unfold b_m_undo_0
  exact (sq_aload_n (pc := 0) dX7_undo_0 rfl
    (sq_geti (pc := 1) dX7_undo_1 fl_X7_134 rfl
    (sq_ifne (pc := 4) dX7_undo_4 (tgt := 10) rfl
    (sq_ldc (pc := 7) dX7_undo_7 ct_X7_154
    (sq_iret rfl (pc := 9) dX7_undo_9))
    (sq_aload_n (pc := 10) dX7_undo_10 rfl
    (sq_dup (pc := 11) dX7_undo_11
    (sq_geti (pc := 12) dX7_undo_12 fl_X7_134 rfl
    (sq_iconst (pc := 15) dX7_undo_15 kc_i_1
    (sq_isub (pc := 16) dX7_undo_16
    (sq_puti (pc := 17) dX7_undo_17 fl_X7_134 rfl rfl
    (sq_aload_n (pc := 20) dX7_undo_20 rfl
    (sq_getr (pc := 21) dX7_undo_21 fl_X7_38 rfl rfl (by decide)
    (sq_bipush (pc := 24) dX7_undo_24 kc_b_47
    (sq_aload_n (pc := 26) dX7_undo_26 rfl
    (sq_geti (pc := 27) dX7_undo_27 fl_X7_134 rfl
    (sq_imul (pc := 30) dX7_undo_30
    (sq_aload_n (pc := 31) dX7_undo_31 rfl
    (sq_getr (pc := 32) dX7_undo_32 fl_X7_22 rfl rfl (by decide)
    (sq_iconst (pc := 35) dX7_undo_35 kc_i_0
    (sq_callS (d := 1) (d' := 0) (mi' := mi_m_lay) (pc := 36) dX7_undo_36 ml_X7_130 st_m_lay ok_m_lay ar_m_lay (by decide) (k_ok_kF G (1) mi_m_undo) (m_m_lay G)
    (sq_aload_n (pc := 39) dX7_undo_39 rfl
    (sq_geti (pc := 40) dX7_undo_40 fl_X7_134 rfl
    (sq_iret rfl (pc := 43) dX7_undo_43))))))))))))))))))))))
theorem m_m_undo (G : GG) : RS kE G 1 mi_m_undo r_m_undo := by
  intro as M v M' h
  unfold r_m_undo at h
  split at h
  · exact mc_of ok_m_undo (s_m_undo_0 G) (k_c1 _ rfl) (Nat.le_of_ble_eq_true rfl) rfl h
  · cases h
set_option maxHeartbeats 10000000 in
set_option maxRecDepth 20000 in
theorem s_m_heardBy_34 (G : GG) {k4 : Kt Mi} (h4 : Sq kE G (kF G (1) mi_m_heardBy) mi_m_heardBy 4 k4) : Sq kE G (kF G (1) mi_m_heardBy) mi_m_heardBy 34 (b_m_heardBy_34 k4) := by
  unfold b_m_heardBy_34
  exact (sq_ior (pc := 34) dX7_heardBy_34
    (sq_istore_n (pc := 35) dX7_heardBy_35 rfl
    (sq_iinc (pc := 36) dX7_heardBy_36 rfl
    (sq_goto (pc := 39) dX7_heardBy_39 (tgt := 4) rfl h4))))
set_option maxHeartbeats 10000000 in
set_option maxRecDepth 20000 in
theorem s_m_heardBy_4 (G : GG) (n : Nat) : Sq kE G (kF G (1) mi_m_heardBy) mi_m_heardBy 4 (b_m_heardBy_4 n) := by
  induction n with
  | zero => exact sq_none
  | succ n ih =>
    unfold b_m_heardBy_4
    exact (sq_iload_n (pc := 4) dX7_heardBy_4 rfl
    (sq_aload_n (pc := 5) dX7_heardBy_5 rfl
    (sq_getr (pc := 6) dX7_heardBy_6 fl_X7_22 rfl rfl (by decide)
    (sq_iconst (pc := 9) dX7_heardBy_9 kc_i_2
    (sq_iald (pc := 10) dX7_heardBy_10
    (sq_cge (pc := 11) dX7_heardBy_11 (tgt := 42) rfl
    (sq_iload_n (pc := 42) dX7_heardBy_42 rfl
    (sq_iret rfl (pc := 43) dX7_heardBy_43))
    (sq_iload_n (pc := 14) dX7_heardBy_14 rfl
    (sq_aload_n (pc := 15) dX7_heardBy_15 rfl
    (sq_getr (pc := 16) dX7_heardBy_16 fl_X7_22 rfl rfl (by decide)
    (sq_iload_n (pc := 19) dX7_heardBy_19 rfl
    (sq_iload_n (pc := 20) dX7_heardBy_20 rfl
    (sq_callS (d := 1) (d' := 0) (mi' := mi_m_hears) (pc := 21) dX7_heardBy_21 ml_X7_143 st_m_hears ok_m_hears ar_m_hears (by decide) (k_ok_kF G (1) mi_m_heardBy) (m_m_hears G)
    (sq_ifeq (pc := 24) dX7_heardBy_24 (tgt := 33) rfl
    (sq_iconst (pc := 33) dX7_heardBy_33 kc_i_0
    (s_m_heardBy_34 G ih))
    (sq_iconst (pc := 27) dX7_heardBy_27 kc_i_1
    (sq_iload_n (pc := 28) dX7_heardBy_28 rfl
    (sq_ishl (pc := 29) dX7_heardBy_29
    (sq_goto (pc := 30) dX7_heardBy_30 (tgt := 34) rfl (s_m_heardBy_34 G ih))))))))))))))))))
set_option maxHeartbeats 10000000 in
set_option maxRecDepth 20000 in
theorem s_m_heardBy_0 (G : GG) : Sq kE G (kF G (1) mi_m_heardBy) mi_m_heardBy 0 b_m_heardBy_0 := by
  unfold b_m_heardBy_0
  exact (sq_iconst (pc := 0) dX7_heardBy_0 kc_i_0
    (sq_istore_n (pc := 1) dX7_heardBy_1 rfl
    (sq_iconst (pc := 2) dX7_heardBy_2 kc_i_0
    (sq_istore_n (pc := 3) dX7_heardBy_3 rfl
    (s_m_heardBy_4 G k_fu)))))
theorem m_m_heardBy (G : GG) : RS kE G 1 mi_m_heardBy r_m_heardBy := by
  intro as M v M' h
  unfold r_m_heardBy at h
  split at h
  · exact mc_of ok_m_heardBy (s_m_heardBy_0 G) (k_c1 _ rfl) (Nat.le_of_ble_eq_true rfl) rfl h
  · cases h
set_option maxHeartbeats 10000000 in
set_option maxRecDepth 20000 in
theorem s_m_sleeper_0 (G : GG) : Sq kE G (kF G (2) mi_m_sleeper) mi_m_sleeper 0 b_m_sleeper_0 := by
  unfold b_m_sleeper_0
  exact (sq_aload_n (pc := 0) dX7_sleeper_0 rfl
    (sq_iload_n (pc := 1) dX7_sleeper_1 rfl
    (sq_callV (d := 2) (d' := 1) (mi' := mi_m_isOne) (pc := 2) dX7_sleeper_2 ml_X7_170 in_m_isOne se_m_isOne ok_m_isOne ar_m_isOne (by decide) rfl (by decide) (k_ok_kF G (2) mi_m_sleeper) (m_m_isOne G)
    (sq_ifne (pc := 5) dX7_sleeper_5 (tgt := 11) rfl
    (sq_ldc (pc := 8) dX7_sleeper_8 ct_X7_69
    (sq_iret rfl (pc := 10) dX7_sleeper_10))
    (sq_iload_n (pc := 11) dX7_sleeper_11 rfl
    (sq_tsw (pc := 12) dX7_sleeper_12 (td := 94) rfl (by decide +kernel)
    ((k_swT_cons 36 48 ki_0_0 (by decide +kernel) (by decide +kernel) (sq_aload_n (pc := 48) dX7_sleeper_48 rfl
    (sq_getr (pc := 49) dX7_sleeper_49 fl_X7_22 rfl rfl (by decide)
    (sq_bipush (pc := 52) dX7_sleeper_52 kc_b_27
    (sq_iload_n (pc := 54) dX7_sleeper_54 rfl
    (sq_iadd (pc := 55) dX7_sleeper_55
    (sq_iald (pc := 56) dX7_sleeper_56
    (sq_iret rfl (pc := 57) dX7_sleeper_57))))))) 
    (k_swT_cons 46 58 ki_0_1 (by decide +kernel) (by decide +kernel) (sq_aload_n (pc := 58) dX7_sleeper_58 rfl
    (sq_getr (pc := 59) dX7_sleeper_59 fl_X7_22 rfl rfl (by decide)
    (sq_bipush (pc := 62) dX7_sleeper_62 kc_b_32
    (sq_iload_n (pc := 64) dX7_sleeper_64 rfl
    (sq_iadd (pc := 65) dX7_sleeper_65
    (sq_iald (pc := 66) dX7_sleeper_66
    (sq_iret rfl (pc := 67) dX7_sleeper_67))))))) 
    (k_swT_cons 56 68 ki_0_2 (by decide +kernel) (by decide +kernel) (sq_aload_n (pc := 68) dX7_sleeper_68 rfl
    (sq_getr (pc := 69) dX7_sleeper_69 fl_X7_22 rfl rfl (by decide)
    (sq_bipush (pc := 72) dX7_sleeper_72 kc_b_37
    (sq_iload_n (pc := 74) dX7_sleeper_74 rfl
    (sq_iadd (pc := 75) dX7_sleeper_75
    (sq_iald (pc := 76) dX7_sleeper_76
    (sq_iret rfl (pc := 77) dX7_sleeper_77))))))) 
    (k_swT_cons 66 78 ki_0_3 (by decide +kernel) (by decide +kernel) (sq_aload_n (pc := 78) dX7_sleeper_78 rfl
    (sq_getr (pc := 79) dX7_sleeper_79 fl_X7_22 rfl rfl (by decide)
    (sq_bipush (pc := 82) dX7_sleeper_82 kc_b_42
    (sq_iload_n (pc := 84) dX7_sleeper_84 rfl
    (sq_iadd (pc := 85) dX7_sleeper_85
    (sq_iald (pc := 86) dX7_sleeper_86
    (sq_iret rfl (pc := 87) dX7_sleeper_87))))))) 
    (k_swT_cons 76 88 ki_0_4 (by decide +kernel) (by decide +kernel) (sq_aload_n (pc := 88) dX7_sleeper_88 rfl
    (sq_iload_n (pc := 89) dX7_sleeper_89 rfl
    (sq_callV (d := 2) (d' := 1) (mi' := mi_m_heardBy) (pc := 90) dX7_sleeper_90 ml_X7_173 in_m_heardBy se_m_heardBy ok_m_heardBy ar_m_heardBy (by decide) rfl (by decide) (k_ok_kF G (2) mi_m_sleeper) (m_m_heardBy G)
    (sq_iret rfl (pc := 93) dX7_sleeper_93)))) k_swT_nil))))))
    (sq_ldc (pc := 94) dX7_sleeper_94 ct_X7_69
    (sq_iret rfl (pc := 96) dX7_sleeper_96))))))))
theorem m_m_sleeper (G : GG) : RS kE G 2 mi_m_sleeper r_m_sleeper := by
  intro as M v M' h
  unfold r_m_sleeper at h
  split at h
  · exact mc_of ok_m_sleeper (s_m_sleeper_0 G) (k_c1 _ rfl) (Nat.le_of_ble_eq_true rfl) rfl h
  · cases h
set_option maxHeartbeats 10000000 in
set_option maxRecDepth 20000 in
theorem s_m_sheep_25 (G : GG) : Sq kE G (kF G (1) mi_m_sheep) mi_m_sheep 25 (b_m_sheep_25) := by
  unfold b_m_sheep_25
  exact (sq_ldc (pc := 25) dX7_sheep_25 ct_X7_69
    (sq_iret rfl (pc := 27) dX7_sheep_27))
set_option maxHeartbeats 10000000 in
set_option maxRecDepth 20000 in
theorem s_m_sheep_104 (G : GG) : Sq kE G (kF G (1) mi_m_sheep) mi_m_sheep 104 (b_m_sheep_104) := by
  unfold b_m_sheep_104
  exact (sq_iret rfl (pc := 104) dX7_sheep_104)
set_option maxHeartbeats 10000000 in
set_option maxRecDepth 20000 in
theorem s_m_sheep_63 (G : GG) {k33 : Kt Mi} (h33 : Sq kE G (kF G (1) mi_m_sheep) mi_m_sheep 33 k33) : Sq kE G (kF G (1) mi_m_sheep) mi_m_sheep 63 (b_m_sheep_63 k33) := by
  unfold b_m_sheep_63
  exact (sq_istore_n (pc := 63) dX7_sheep_63 rfl
    (sq_iinc (pc := 64) dX7_sheep_64 rfl
    (sq_goto (pc := 67) dX7_sheep_67 (tgt := 33) rfl h33)))
set_option maxHeartbeats 10000000 in
set_option maxRecDepth 20000 in
theorem s_m_sheep_33 (G : GG) (n : Nat) : Sq kE G (kF G (1) mi_m_sheep) mi_m_sheep 33 (b_m_sheep_33 n) := by
  induction n with
  | zero => exact sq_none
  | succ n ih =>
    unfold b_m_sheep_33
    exact (sq_iload (pc := 33) dX7_sheep_33
    (sq_aload_n (pc := 35) dX7_sheep_35 rfl
    (sq_getr (pc := 36) dX7_sheep_36 fl_X7_22 rfl rfl (by decide)
    (sq_iconst (pc := 39) dX7_sheep_39 kc_i_2
    (sq_iald (pc := 40) dX7_sheep_40
    (sq_cge (pc := 41) dX7_sheep_41 (tgt := 70) rfl
    (sq_iload_n (pc := 70) dX7_sheep_70 rfl
    (sq_ifne (pc := 71) dX7_sheep_71 (tgt := 86) rfl
    (sq_aload_n (pc := 74) dX7_sheep_74 rfl
    (sq_getr (pc := 75) dX7_sheep_75 fl_X7_22 rfl rfl (by decide)
    (sq_bipush (pc := 78) dX7_sheep_78 kc_b_10
    (sq_iload_n (pc := 80) dX7_sheep_80 rfl
    (sq_iadd (pc := 81) dX7_sheep_81
    (sq_iald (pc := 82) dX7_sheep_82
    (sq_goto (pc := 83) dX7_sheep_83 (tgt := 104) rfl (s_m_sheep_104 G))))))))
    (sq_iload_n (pc := 86) dX7_sheep_86 rfl
    (sq_iconst (pc := 87) dX7_sheep_87 kc_i_1
    (sq_cne (pc := 88) dX7_sheep_88 (tgt := 103) rfl
    (sq_aload_n (pc := 91) dX7_sheep_91 rfl
    (sq_getr (pc := 92) dX7_sheep_92 fl_X7_22 rfl rfl (by decide)
    (sq_bipush (pc := 95) dX7_sheep_95 kc_b_16
    (sq_iload_n (pc := 97) dX7_sheep_97 rfl
    (sq_iadd (pc := 98) dX7_sheep_98
    (sq_iald (pc := 99) dX7_sheep_99
    (sq_goto (pc := 100) dX7_sheep_100 (tgt := 104) rfl (s_m_sheep_104 G))))))))
    (sq_iload_n (pc := 103) dX7_sheep_103 rfl
    (s_m_sheep_104 G)))))))
    (sq_aload_n (pc := 44) dX7_sheep_44 rfl
    (sq_getr (pc := 45) dX7_sheep_45 fl_X7_22 rfl rfl (by decide)
    (sq_iconst (pc := 48) dX7_sheep_48 kc_i_4
    (sq_iload (pc := 49) dX7_sheep_49
    (sq_iadd (pc := 51) dX7_sheep_51
    (sq_iald (pc := 52) dX7_sheep_52
    (sq_iload_n (pc := 53) dX7_sheep_53 rfl
    (sq_cne (pc := 54) dX7_sheep_54 (tgt := 62) rfl
    (sq_iload (pc := 57) dX7_sheep_57
    (sq_goto (pc := 59) dX7_sheep_59 (tgt := 63) rfl (s_m_sheep_63 G ih)))
    (sq_iload_n (pc := 62) dX7_sheep_62 rfl
    (s_m_sheep_63 G ih))))))))))))))))
set_option maxHeartbeats 10000000 in
set_option maxRecDepth 20000 in
theorem s_m_sheep_0 (G : GG) : Sq kE G (kF G (1) mi_m_sheep) mi_m_sheep 0 b_m_sheep_0 := by
  unfold b_m_sheep_0
  exact (sq_iload_n (pc := 0) dX7_sheep_0 rfl
    (sq_iconst (pc := 1) dX7_sheep_1 kc_i_0
    (sq_aload_n (pc := 2) dX7_sheep_2 rfl
    (sq_getr (pc := 3) dX7_sheep_3 fl_X7_22 rfl rfl (by decide)
    (sq_iconst (pc := 6) dX7_sheep_6 kc_i_2
    (sq_iald (pc := 7) dX7_sheep_7
    (sq_iconst (pc := 8) dX7_sheep_8 kc_i_1
    (sq_isub (pc := 9) dX7_sheep_9
    (sq_callS (d := 1) (d' := 0) (mi' := mi_m_in) (pc := 10) dX7_sheep_10 ml_X7_56 st_m_in ok_m_in ar_m_in (by decide) (k_ok_kF G (1) mi_m_sheep) (m_m_in G)
    (sq_ifeq (pc := 13) dX7_sheep_13 (tgt := 25) rfl
    (s_m_sheep_25 G)
    (sq_iload_n (pc := 16) dX7_sheep_16 rfl
    (sq_iconst (pc := 17) dX7_sheep_17 kc_i_0
    (sq_iconst (pc := 18) dX7_sheep_18 kc_i_2
    (sq_callS (d := 1) (d' := 0) (mi' := mi_m_in) (pc := 19) dX7_sheep_19 ml_X7_56 st_m_in ok_m_in ar_m_in (by decide) (k_ok_kF G (1) mi_m_sheep) (m_m_in G)
    (sq_ifne (pc := 22) dX7_sheep_22 (tgt := 28) rfl
    (s_m_sheep_25 G)
    (sq_iconst (pc := 28) dX7_sheep_28 kc_i_0
    (sq_istore_n (pc := 29) dX7_sheep_29 rfl
    (sq_iconst (pc := 30) dX7_sheep_30 kc_i_0
    (sq_istore (pc := 31) dX7_sheep_31
    (s_m_sheep_33 G k_fu))))))))))))))))))))
theorem m_m_sheep (G : GG) : RS kE G 1 mi_m_sheep r_m_sheep := by
  intro as M v M' h
  unfold r_m_sheep at h
  split at h
  · exact mc_of ok_m_sheep (s_m_sheep_0 G) (k_c1 _ rfl) (Nat.le_of_ble_eq_true rfl) rfl h
  · cases h
set_option maxHeartbeats 10000000 in
set_option maxRecDepth 20000 in
theorem s_m_begin_0 (G : GG) : Sq kE G (kF G (1) mi_m_begin) mi_m_begin 0 b_m_begin_0 := by
  unfold b_m_begin_0
  exact (sq_aload_n (pc := 0) dX7_begin_0 rfl
    (sq_getr (pc := 1) dX7_begin_1 fl_X7_22 rfl rfl (by decide)
    (sq_iconst (pc := 4) dX7_begin_4 kc_i_0
    (sq_aload_n (pc := 5) dX7_begin_5 rfl
    (sq_getr (pc := 6) dX7_begin_6 fl_X7_28 rfl rfl (by decide)
    (sq_iconst (pc := 9) dX7_begin_9 kc_i_0
    (sq_callS (d := 1) (d' := 0) (mi' := mi_m_lay) (pc := 10) dX7_begin_10 ml_X7_130 st_m_lay ok_m_lay ar_m_lay (by decide) (k_ok_kF G (1) mi_m_begin) (m_m_lay G)
    (sq_ret rfl (pc := 13) dX7_begin_13))))))))
theorem m_m_begin (G : GG) : RS kE G 1 mi_m_begin r_m_begin := by
  intro as M v M' h
  unfold r_m_begin at h
  split at h
  · exact mc_of ok_m_begin (s_m_begin_0 G) (k_c1 _ rfl) (Nat.le_of_ble_eq_true rfl) rfl h
  · cases h
set_option maxHeartbeats 10000000 in
set_option maxRecDepth 20000 in
theorem s_m_goOn_6 (G : GG) (n : Nat) : Sq kE G (kF G (2) mi_m_goOn) mi_m_goOn 6 (b_m_goOn_6 n) := by
  induction n with
  | zero => exact sq_none
  | succ n ih =>
    unfold b_m_goOn_6
    exact (sq_iload_n (pc := 6) dX7_goOn_6 rfl
    (sq_iload_n (pc := 7) dX7_goOn_7 rfl
    (sq_cge (pc := 8) dX7_goOn_8 (tgt := 28) rfl
    (sq_ret rfl (pc := 28) dX7_goOn_28)
    (sq_aload_n (pc := 11) dX7_goOn_11 rfl
    (sq_getr (pc := 12) dX7_goOn_12 fl_X7_28 rfl rfl (by decide)
    (sq_aload_n (pc := 15) dX7_goOn_15 rfl
    (sq_callV (d := 2) (d' := 0) (mi' := mi_m_flock) (pc := 16) dX7_goOn_16 ml_X7_158 in_m_flock se_m_flock ok_m_flock ar_m_flock (by decide) rfl (by decide) (k_ok_kF G (2) mi_m_goOn) (m_m_flock G)
    (sq_callS (d := 2) (d' := 1) (mi' := mi_m_pass) (pc := 19) dX7_goOn_19 ml_X7_162 st_m_pass ok_m_pass ar_m_pass (by decide) (k_ok_kF G (2) mi_m_goOn) (m_m_pass G)
    (sq_iinc (pc := 22) dX7_goOn_22 rfl
    (sq_goto (pc := 25) dX7_goOn_25 (tgt := 6) rfl ih))))))))))
set_option maxHeartbeats 10000000 in
set_option maxRecDepth 20000 in
theorem s_m_goOn_0 (G : GG) : Sq kE G (kF G (2) mi_m_goOn) mi_m_goOn 0 b_m_goOn_0 := by
  unfold b_m_goOn_0
  exact (sq_aload_n (pc := 0) dX7_goOn_0 rfl
    (sq_callV (d := 2) (d' := 1) (mi' := mi_m_begin) (pc := 1) dX7_goOn_1 ml_X7_176 in_m_begin se_m_begin ok_m_begin ar_m_begin (by decide) rfl (by decide) (k_ok_kF G (2) mi_m_goOn) (m_m_begin G)
    (sq_iconst (pc := 4) dX7_goOn_4 kc_i_0
    (sq_istore_n (pc := 5) dX7_goOn_5 rfl
    (s_m_goOn_6 G k_fu)))))
theorem m_m_goOn (G : GG) : RS kE G 2 mi_m_goOn r_m_goOn := by
  intro as M v M' h
  unfold r_m_goOn at h
  split at h
  · exact mc_of ok_m_goOn (s_m_goOn_0 G) (k_c1 _ rfl) (Nat.le_of_ble_eq_true rfl) rfl h
  · cases h
set_option maxHeartbeats 10000000 in
set_option maxRecDepth 20000 in
theorem s_m_off_0 (G : GG) : Sq kE G (kF G (3) mi_m_off) mi_m_off 0 b_m_off_0 := by
  unfold b_m_off_0
  exact (sq_aload_n (pc := 0) dX7_off_0 rfl
    (sq_callV (d := 3) (d' := 0) (mi' := mi_m_isSquare) (pc := 1) dX7_off_1 ml_X7_151 in_m_isSquare se_m_isSquare ok_m_isSquare ar_m_isSquare (by decide) rfl (by decide) (k_ok_kF G (3) mi_m_off) (m_m_isSquare G)
    (sq_ifne (pc := 4) dX7_off_4 (tgt := 10) rfl
    (sq_ldc (pc := 7) dX7_off_7 ct_X7_154
    (sq_iret rfl (pc := 9) dX7_off_9))
    (sq_iload_n (pc := 10) dX7_off_10 rfl
    (sq_iconst (pc := 11) dX7_off_11 kc_i_0
    (sq_bipush (pc := 12) dX7_off_12 kc_b_99
    (sq_callS (d := 3) (d' := 0) (mi' := mi_m_in) (pc := 14) dX7_off_14 ml_X7_56 st_m_in ok_m_in ar_m_in (by decide) (k_ok_kF G (3) mi_m_off) (m_m_in G)
    (sq_ifne (pc := 17) dX7_off_17 (tgt := 23) rfl
    (sq_ldc (pc := 20) dX7_off_20 ct_X7_69
    (sq_iret rfl (pc := 22) dX7_off_22))
    (sq_aload_n (pc := 23) dX7_off_23 rfl
    (sq_iload_n (pc := 24) dX7_off_24 rfl
    (sq_callV (d := 3) (d' := 2) (mi' := mi_m_goOn) (pc := 25) dX7_off_25 ml_X7_179 in_m_goOn se_m_goOn ok_m_goOn ar_m_goOn (by decide) rfl (by decide) (k_ok_kF G (3) mi_m_off) (m_m_goOn G)
    (sq_aload_n (pc := 28) dX7_off_28 rfl
    (sq_getr (pc := 29) dX7_off_29 fl_X7_28 rfl rfl (by decide)
    (sq_callS (d := 3) (d' := 0) (mi' := mi_m_offOf) (pc := 32) dX7_off_32 ml_X7_166 st_m_offOf ok_m_offOf ar_m_offOf (by decide) (k_ok_kF G (3) mi_m_off) (m_m_offOf G)
    (sq_iret rfl (pc := 35) dX7_off_35)))))))))))))))
theorem m_m_off (G : GG) : RS kE G 3 mi_m_off r_m_off := by
  intro as M v M' h
  unfold r_m_off at h
  split at h
  · exact mc_of ok_m_off (s_m_off_0 G) (k_c1 _ rfl) (Nat.le_of_ble_eq_true rfl) rfl h
  · cases h
set_option maxHeartbeats 10000000 in
set_option maxRecDepth 20000 in
theorem s_m_counted_18 (G : GG) : Sq kE G (kF G (3) mi_m_counted) mi_m_counted 18 (b_m_counted_18) := by
  unfold b_m_counted_18
  exact (sq_ldc (pc := 18) dX7_counted_18 ct_X7_69
    (sq_iret rfl (pc := 20) dX7_counted_20))
set_option maxHeartbeats 10000000 in
set_option maxRecDepth 20000 in
theorem s_m_counted_0 (G : GG) : Sq kE G (kF G (3) mi_m_counted) mi_m_counted 0 b_m_counted_0 := by
  unfold b_m_counted_0
  exact (sq_aload_n (pc := 0) dX7_counted_0 rfl
    (sq_iload_n (pc := 1) dX7_counted_1 rfl
    (sq_callV (d := 3) (d' := 1) (mi' := mi_m_isOne) (pc := 2) dX7_counted_2 ml_X7_170 in_m_isOne se_m_isOne ok_m_isOne ar_m_isOne (by decide) rfl (by decide) (k_ok_kF G (3) mi_m_counted) (m_m_isOne G)
    (sq_ifeq (pc := 5) dX7_counted_5 (tgt := 18) rfl
    (s_m_counted_18 G)
    (sq_iload_n (pc := 8) dX7_counted_8 rfl
    (sq_iconst (pc := 9) dX7_counted_9 kc_i_0
    (sq_bipush (pc := 10) dX7_counted_10 kc_b_99
    (sq_callS (d := 3) (d' := 0) (mi' := mi_m_in) (pc := 12) dX7_counted_12 ml_X7_56 st_m_in ok_m_in ar_m_in (by decide) (k_ok_kF G (3) mi_m_counted) (m_m_in G)
    (sq_ifne (pc := 15) dX7_counted_15 (tgt := 21) rfl
    (s_m_counted_18 G)
    (sq_aload_n (pc := 21) dX7_counted_21 rfl
    (sq_iload_n (pc := 22) dX7_counted_22 rfl
    (sq_callV (d := 3) (d' := 2) (mi' := mi_m_goOn) (pc := 23) dX7_counted_23 ml_X7_179 in_m_goOn se_m_goOn ok_m_goOn ar_m_goOn (by decide) rfl (by decide) (k_ok_kF G (3) mi_m_counted) (m_m_goOn G)
    (sq_aload_n (pc := 26) dX7_counted_26 rfl
    (sq_getr (pc := 27) dX7_counted_27 fl_X7_28 rfl rfl (by decide)
    (sq_bipush (pc := 30) dX7_counted_30 kc_b_37
    (sq_iload_n (pc := 32) dX7_counted_32 rfl
    (sq_iadd (pc := 33) dX7_counted_33
    (sq_iald (pc := 34) dX7_counted_34
    (sq_iret rfl (pc := 35) dX7_counted_35)))))))))))))))))))
theorem m_m_counted (G : GG) : RS kE G 3 mi_m_counted r_m_counted := by
  intro as M v M' h
  unfold r_m_counted at h
  split at h
  · exact mc_of ok_m_counted (s_m_counted_0 G) (k_c1 _ rfl) (Nat.le_of_ble_eq_true rfl) rfl h
  · cases h
set_option maxHeartbeats 10000000 in
set_option maxRecDepth 20000 in
theorem s_m_firstOf_3 (G : GG) (n : Nat) : Sq kE G (kF G (2) mi_m_firstOf) mi_m_firstOf 3 (b_m_firstOf_3 n) := by
  induction n with
  | zero => exact sq_none
  | succ n ih =>
    unfold b_m_firstOf_3
    exact (sq_iload (pc := 3) dX7_firstOf_3
    (sq_iload_n (pc := 5) dX7_firstOf_5 rfl
    (sq_cgt (pc := 6) dX7_firstOf_6 (tgt := 40) rfl
    (sq_ldc (pc := 40) dX7_firstOf_40 ct_X7_183
    (sq_iret rfl (pc := 42) dX7_firstOf_42))
    (sq_iload_n (pc := 9) dX7_firstOf_9 rfl
    (sq_aload_n (pc := 10) dX7_firstOf_10 rfl
    (sq_getr (pc := 11) dX7_firstOf_11 fl_X7_28 rfl rfl (by decide)
    (sq_callS (d := 2) (d' := 0) (mi' := mi_m_offOf) (pc := 14) dX7_firstOf_14 ml_X7_166 st_m_offOf ok_m_offOf ar_m_offOf (by decide) (k_ok_kF G (2) mi_m_firstOf) (m_m_offOf G)
    (sq_iconst (pc := 17) dX7_firstOf_17 kc_i_m1
    (sq_ixor (pc := 18) dX7_firstOf_18
    (sq_iand (pc := 19) dX7_firstOf_19
    (sq_ifne (pc := 20) dX7_firstOf_20 (tgt := 26) rfl
    (sq_iload (pc := 23) dX7_firstOf_23
    (sq_iret rfl (pc := 25) dX7_firstOf_25))
    (sq_aload_n (pc := 26) dX7_firstOf_26 rfl
    (sq_getr (pc := 27) dX7_firstOf_27 fl_X7_28 rfl rfl (by decide)
    (sq_iload_n (pc := 30) dX7_firstOf_30 rfl
    (sq_callS (d := 2) (d' := 1) (mi' := mi_m_pass) (pc := 31) dX7_firstOf_31 ml_X7_162 st_m_pass ok_m_pass ar_m_pass (by decide) (k_ok_kF G (2) mi_m_firstOf) (m_m_pass G)
    (sq_iinc (pc := 34) dX7_firstOf_34 rfl
    (sq_goto (pc := 37) dX7_firstOf_37 (tgt := 3) rfl ih)))))))))))))))))
set_option maxHeartbeats 10000000 in
set_option maxRecDepth 20000 in
theorem s_m_firstOf_0 (G : GG) : Sq kE G (kF G (2) mi_m_firstOf) mi_m_firstOf 0 b_m_firstOf_0 := by
  unfold b_m_firstOf_0
  exact (sq_iconst (pc := 0) dX7_firstOf_0 kc_i_0
    (sq_istore (pc := 1) dX7_firstOf_1
    (s_m_firstOf_3 G k_fu)))
theorem m_m_firstOf (G : GG) : RS kE G 2 mi_m_firstOf r_m_firstOf := by
  intro as M v M' h
  unfold r_m_firstOf at h
  split at h
  · exact mc_of ok_m_firstOf (s_m_firstOf_0 G) (k_c1 _ rfl) (Nat.le_of_ble_eq_true rfl) rfl h
  · cases h
set_option maxHeartbeats 10000000 in
set_option maxRecDepth 20000 in
theorem s_m_when_0 (G : GG) : Sq kE G (kF G (3) mi_m_when) mi_m_when 0 b_m_when_0 := by
  unfold b_m_when_0
  exact (sq_aload_n (pc := 0) dX7_when_0 rfl
    (sq_iload_n (pc := 1) dX7_when_1 rfl
    (sq_callV (d := 3) (d' := 1) (mi' := mi_m_isOne) (pc := 2) dX7_when_2 ml_X7_170 in_m_isOne se_m_isOne ok_m_isOne ar_m_isOne (by decide) rfl (by decide) (k_ok_kF G (3) mi_m_when) (m_m_isOne G)
    (sq_ifne (pc := 5) dX7_when_5 (tgt := 11) rfl
    (sq_ldc (pc := 8) dX7_when_8 ct_X7_69
    (sq_iret rfl (pc := 10) dX7_when_10))
    (sq_aload_n (pc := 11) dX7_when_11 rfl
    (sq_callV (d := 3) (d' := 1) (mi' := mi_m_begin) (pc := 12) dX7_when_12 ml_X7_176 in_m_begin se_m_begin ok_m_begin ar_m_begin (by decide) rfl (by decide) (k_ok_kF G (3) mi_m_when) (m_m_begin G)
    (sq_aload_n (pc := 15) dX7_when_15 rfl
    (sq_iconst (pc := 16) dX7_when_16 kc_i_1
    (sq_iload_n (pc := 17) dX7_when_17 rfl
    (sq_ishl (pc := 18) dX7_when_18
    (sq_aload_n (pc := 19) dX7_when_19 rfl
    (sq_callV (d := 3) (d' := 0) (mi' := mi_m_flock) (pc := 20) dX7_when_20 ml_X7_158 in_m_flock se_m_flock ok_m_flock ar_m_flock (by decide) rfl (by decide) (k_ok_kF G (3) mi_m_when) (m_m_flock G)
    (sq_bipush (pc := 23) dX7_when_23 kc_b_99
    (sq_callV (d := 3) (d' := 2) (mi' := mi_m_firstOf) (pc := 25) dX7_when_25 ml_X7_184 in_m_firstOf se_m_firstOf ok_m_firstOf ar_m_firstOf (by decide) rfl (by decide) (k_ok_kF G (3) mi_m_when) (m_m_firstOf G)
    (sq_iret rfl (pc := 28) dX7_when_28)))))))))))))))
theorem m_m_when (G : GG) : RS kE G 3 mi_m_when r_m_when := by
  intro as M v M' h
  unfold r_m_when at h
  split at h
  · exact mc_of ok_m_when (s_m_when_0 G) (k_c1 _ rfl) (Nat.le_of_ble_eq_true rfl) rfl h
  · cases h
set_option maxHeartbeats 10000000 in
set_option maxRecDepth 20000 in
theorem s_m_all_0 (G : GG) : Sq kE G (kF G (3) mi_m_all) mi_m_all 0 b_m_all_0 := by
  unfold b_m_all_0
  exact (sq_aload_n (pc := 0) dX7_all_0 rfl
    (sq_callV (d := 3) (d' := 0) (mi' := mi_m_isSquare) (pc := 1) dX7_all_1 ml_X7_151 in_m_isSquare se_m_isSquare ok_m_isSquare ar_m_isSquare (by decide) rfl (by decide) (k_ok_kF G (3) mi_m_all) (m_m_isSquare G)
    (sq_ifne (pc := 4) dX7_all_4 (tgt := 10) rfl
    (sq_ldc (pc := 7) dX7_all_7 ct_X7_154
    (sq_iret rfl (pc := 9) dX7_all_9))
    (sq_aload_n (pc := 10) dX7_all_10 rfl
    (sq_iload_n (pc := 11) dX7_all_11 rfl
    (sq_callV (d := 3) (d' := 1) (mi' := mi_m_isSet) (pc := 12) dX7_all_12 ml_X7_188 in_m_isSet se_m_isSet ok_m_isSet ar_m_isSet (by decide) rfl (by decide) (k_ok_kF G (3) mi_m_all) (m_m_isSet G)
    (sq_ifne (pc := 15) dX7_all_15 (tgt := 21) rfl
    (sq_ldc (pc := 18) dX7_all_18 ct_X7_69
    (sq_iret rfl (pc := 20) dX7_all_20))
    (sq_aload_n (pc := 21) dX7_all_21 rfl
    (sq_callV (d := 3) (d' := 1) (mi' := mi_m_begin) (pc := 22) dX7_all_22 ml_X7_176 in_m_begin se_m_begin ok_m_begin ar_m_begin (by decide) rfl (by decide) (k_ok_kF G (3) mi_m_all) (m_m_begin G)
    (sq_aload_n (pc := 25) dX7_all_25 rfl
    (sq_iload_n (pc := 26) dX7_all_26 rfl
    (sq_aload_n (pc := 27) dX7_all_27 rfl
    (sq_callV (d := 3) (d' := 0) (mi' := mi_m_flock) (pc := 28) dX7_all_28 ml_X7_158 in_m_flock se_m_flock ok_m_flock ar_m_flock (by decide) rfl (by decide) (k_ok_kF G (3) mi_m_all) (m_m_flock G)
    (sq_bipush (pc := 31) dX7_all_31 kc_b_99
    (sq_callV (d := 3) (d' := 2) (mi' := mi_m_firstOf) (pc := 33) dX7_all_33 ml_X7_184 in_m_firstOf se_m_firstOf ok_m_firstOf ar_m_firstOf (by decide) rfl (by decide) (k_ok_kF G (3) mi_m_all) (m_m_firstOf G)
    (sq_iret rfl (pc := 36) dX7_all_36))))))))))))))))
theorem m_m_all (G : GG) : RS kE G 3 mi_m_all r_m_all := by
  intro as M v M' h
  unfold r_m_all at h
  split at h
  · exact mc_of ok_m_all (s_m_all_0 G) (k_c1 _ rfl) (Nat.le_of_ble_eq_true rfl) rfl h
  · cases h
set_option maxHeartbeats 10000000 in
set_option maxRecDepth 20000 in
theorem s_m_layOff_6 (G : GG) (n : Nat) : Sq kE G (kF G (2) mi_m_layOff) mi_m_layOff 6 (b_m_layOff_6 n) := by
  induction n with
  | zero => exact sq_none
  | succ n ih =>
    unfold b_m_layOff_6
    exact (sq_iload_n (pc := 6) dX7_layOff_6 rfl
    (sq_bipush (pc := 7) dX7_layOff_7 kc_b_106
    (sq_cge (pc := 9) dX7_layOff_9 (tgt := 42) rfl
    (sq_ret rfl (pc := 42) dX7_layOff_42)
    (sq_aload_n (pc := 12) dX7_layOff_12 rfl
    (sq_getr (pc := 13) dX7_layOff_13 fl_X7_53 rfl rfl (by decide)
    (sq_iload_n (pc := 16) dX7_layOff_16 rfl
    (sq_aload_n (pc := 17) dX7_layOff_17 rfl
    (sq_getr (pc := 18) dX7_layOff_18 fl_X7_28 rfl rfl (by decide)
    (sq_callS (d := 2) (d' := 0) (mi' := mi_m_offOf) (pc := 21) dX7_layOff_21 ml_X7_166 st_m_offOf ok_m_offOf ar_m_offOf (by decide) (k_ok_kF G (2) mi_m_layOff) (m_m_offOf G)
    (sq_iast (pc := 24) dX7_layOff_24
    (sq_aload_n (pc := 25) dX7_layOff_25 rfl
    (sq_getr (pc := 26) dX7_layOff_26 fl_X7_28 rfl rfl (by decide)
    (sq_aload_n (pc := 29) dX7_layOff_29 rfl
    (sq_callV (d := 2) (d' := 0) (mi' := mi_m_flock) (pc := 30) dX7_layOff_30 ml_X7_158 in_m_flock se_m_flock ok_m_flock ar_m_flock (by decide) rfl (by decide) (k_ok_kF G (2) mi_m_layOff) (m_m_flock G)
    (sq_callS (d := 2) (d' := 1) (mi' := mi_m_pass) (pc := 33) dX7_layOff_33 ml_X7_162 st_m_pass ok_m_pass ar_m_pass (by decide) (k_ok_kF G (2) mi_m_layOff) (m_m_pass G)
    (sq_iinc (pc := 36) dX7_layOff_36 rfl
    (sq_goto (pc := 39) dX7_layOff_39 (tgt := 6) rfl ih)))))))))))))))))
set_option maxHeartbeats 10000000 in
set_option maxRecDepth 20000 in
theorem s_m_layOff_0 (G : GG) : Sq kE G (kF G (2) mi_m_layOff) mi_m_layOff 0 b_m_layOff_0 := by
  unfold b_m_layOff_0
  exact (sq_aload_n (pc := 0) dX7_layOff_0 rfl
    (sq_callV (d := 2) (d' := 1) (mi' := mi_m_begin) (pc := 1) dX7_layOff_1 ml_X7_176 in_m_begin se_m_begin ok_m_begin ar_m_begin (by decide) rfl (by decide) (k_ok_kF G (2) mi_m_layOff) (m_m_begin G)
    (sq_iconst (pc := 4) dX7_layOff_4 kc_i_0
    (sq_istore_n (pc := 5) dX7_layOff_5 rfl
    (s_m_layOff_6 G k_fu)))))
theorem m_m_layOff (G : GG) : RS kE G 2 mi_m_layOff r_m_layOff := by
  intro as M v M' h
  unfold r_m_layOff at h
  split at h
  · exact mc_of ok_m_layOff (s_m_layOff_0 G) (k_c1 _ rfl) (Nat.le_of_ble_eq_true rfl) rfl h
  · cases h
set_option maxHeartbeats 10000000 in
set_option maxRecDepth 20000 in
theorem s_m_never_27 (G : GG) (n : Nat) : Sq kE G (kF G (3) mi_m_never) mi_m_never 27 (b_m_never_27 n) := by
  induction n with
  | zero => exact sq_none
  | succ n ih =>
    unfold b_m_never_27
    exact (sq_iload_n (pc := 27) dX7_never_27 rfl
    (sq_bipush (pc := 28) dX7_never_28 kc_b_99
    (sq_cgt (pc := 30) dX7_never_30 (tgt := 50) rfl
    (sq_iload_n (pc := 50) dX7_never_50 rfl
    (sq_iret rfl (pc := 51) dX7_never_51))
    (sq_iload_n (pc := 33) dX7_never_33 rfl
    (sq_aload_n (pc := 34) dX7_never_34 rfl
    (sq_getr (pc := 35) dX7_never_35 fl_X7_53 rfl rfl (by decide)
    (sq_iload_n (pc := 38) dX7_never_38 rfl
    (sq_iald (pc := 39) dX7_never_39
    (sq_iconst (pc := 40) dX7_never_40 kc_i_m1
    (sq_ixor (pc := 41) dX7_never_41
    (sq_iand (pc := 42) dX7_never_42
    (sq_istore_n (pc := 43) dX7_never_43 rfl
    (sq_iinc (pc := 44) dX7_never_44 rfl
    (sq_goto (pc := 47) dX7_never_47 (tgt := 27) rfl ih))))))))))))))
set_option maxHeartbeats 10000000 in
set_option maxRecDepth 20000 in
theorem s_m_never_0 (G : GG) : Sq kE G (kF G (3) mi_m_never) mi_m_never 0 b_m_never_0 := by
  unfold b_m_never_0
  exact (sq_aload_n (pc := 0) dX7_never_0 rfl
    (sq_callV (d := 3) (d' := 0) (mi' := mi_m_isSquare) (pc := 1) dX7_never_1 ml_X7_151 in_m_isSquare se_m_isSquare ok_m_isSquare ar_m_isSquare (by decide) rfl (by decide) (k_ok_kF G (3) mi_m_never) (m_m_isSquare G)
    (sq_ifne (pc := 4) dX7_never_4 (tgt := 10) rfl
    (sq_ldc (pc := 7) dX7_never_7 ct_X7_154
    (sq_iret rfl (pc := 9) dX7_never_9))
    (sq_aload_n (pc := 10) dX7_never_10 rfl
    (sq_callV (d := 3) (d' := 2) (mi' := mi_m_layOff) (pc := 11) dX7_never_11 ml_X7_191 in_m_layOff se_m_layOff ok_m_layOff ar_m_layOff (by decide) rfl (by decide) (k_ok_kF G (3) mi_m_never) (m_m_layOff G)
    (sq_iconst (pc := 14) dX7_never_14 kc_i_1
    (sq_aload_n (pc := 15) dX7_never_15 rfl
    (sq_getr (pc := 16) dX7_never_16 fl_X7_22 rfl rfl (by decide)
    (sq_iconst (pc := 19) dX7_never_19 kc_i_3
    (sq_iald (pc := 20) dX7_never_20
    (sq_ishl (pc := 21) dX7_never_21
    (sq_iconst (pc := 22) dX7_never_22 kc_i_1
    (sq_isub (pc := 23) dX7_never_23
    (sq_istore_n (pc := 24) dX7_never_24 rfl
    (sq_iconst (pc := 25) dX7_never_25 kc_i_0
    (sq_istore_n (pc := 26) dX7_never_26 rfl
    (s_m_never_27 G k_fu)))))))))))))))))
theorem m_m_never (G : GG) : RS kE G 3 mi_m_never r_m_never := by
  intro as M v M' h
  unfold r_m_never at h
  split at h
  · exact mc_of ok_m_never (s_m_never_0 G) (k_c1 _ rfl) (Nat.le_of_ble_eq_true rfl) rfl h
  · cases h
set_option maxHeartbeats 10000000 in
set_option maxRecDepth 20000 in
theorem s_m_quiet_71 (G : GG) {k28 : Kt Mi} {k39 : Kt Mi} (h28 : Sq kE G (kF G (3) mi_m_quiet) mi_m_quiet 28 k28) (h39 : Sq kE G (kF G (3) mi_m_quiet) mi_m_quiet 39 k39) : Sq kE G (kF G (3) mi_m_quiet) mi_m_quiet 71 (b_m_quiet_71 k28 k39) := by
  unfold b_m_quiet_71
  exact (sq_istore_n (pc := 71) dX7_quiet_71 rfl
    (sq_iinc (pc := 72) dX7_quiet_72 rfl
    (sq_goto (pc := 75) dX7_quiet_75 (tgt := 39) rfl h39)))
set_option maxHeartbeats 10000000 in
set_option maxRecDepth 20000 in
theorem s_m_quiet_70 (G : GG) {k28 : Kt Mi} {k39 : Kt Mi} (h28 : Sq kE G (kF G (3) mi_m_quiet) mi_m_quiet 28 k28) (h39 : Sq kE G (kF G (3) mi_m_quiet) mi_m_quiet 39 k39) : Sq kE G (kF G (3) mi_m_quiet) mi_m_quiet 70 (b_m_quiet_70 k28 k39) := by
  unfold b_m_quiet_70
  exact (sq_iconst (pc := 70) dX7_quiet_70 kc_i_0
    (s_m_quiet_71 G h28 h39))
set_option maxHeartbeats 10000000 in
set_option maxRecDepth 20000 in
theorem s_m_quiet_39 (G : GG) {k28 : Kt Mi} (h28 : Sq kE G (kF G (3) mi_m_quiet) mi_m_quiet 28 k28) (n : Nat) : Sq kE G (kF G (3) mi_m_quiet) mi_m_quiet 39 (b_m_quiet_39 k28 n) := by
  induction n with
  | zero => exact sq_none
  | succ n ih =>
    unfold b_m_quiet_39
    exact (sq_iload (pc := 39) dX7_quiet_39
    (sq_bipush (pc := 41) dX7_quiet_41 kc_b_6
    (sq_cgt (pc := 43) dX7_quiet_43 (tgt := 78) rfl
    (sq_iload_n (pc := 78) dX7_quiet_78 rfl
    (sq_ifeq (pc := 79) dX7_quiet_79 (tgt := 84) rfl
    (sq_iinc (pc := 84) dX7_quiet_84 rfl
    (sq_goto (pc := 87) dX7_quiet_87 (tgt := 28) rfl h28))
    (sq_iload_n (pc := 82) dX7_quiet_82 rfl
    (sq_iret rfl (pc := 83) dX7_quiet_83))))
    (sq_iload_n (pc := 46) dX7_quiet_46 rfl
    (sq_ifeq (pc := 47) dX7_quiet_47 (tgt := 70) rfl
    (s_m_quiet_70 G h28 ih)
    (sq_aload_n (pc := 50) dX7_quiet_50 rfl
    (sq_getr (pc := 51) dX7_quiet_51 fl_X7_53 rfl rfl (by decide)
    (sq_iload_n (pc := 54) dX7_quiet_54 rfl
    (sq_iload (pc := 55) dX7_quiet_55
    (sq_iadd (pc := 57) dX7_quiet_57
    (sq_iald (pc := 58) dX7_quiet_58
    (sq_callS (d := 3) (d' := 0) (mi' := mi_m_bits) (pc := 59) dX7_quiet_59 ml_X7_137 st_m_bits ok_m_bits ar_m_bits (by decide) (k_ok_kF G (3) mi_m_quiet) (m_m_bits G)
    (sq_iload_n (pc := 62) dX7_quiet_62 rfl
    (sq_clt (pc := 63) dX7_quiet_63 (tgt := 70) rfl
    (s_m_quiet_70 G h28 ih)
    (sq_iconst (pc := 66) dX7_quiet_66 kc_i_1
    (sq_goto (pc := 67) dX7_quiet_67 (tgt := 71) rfl (s_m_quiet_71 G h28 ih)))))))))))))))))
set_option maxHeartbeats 10000000 in
set_option maxRecDepth 20000 in
theorem s_m_quiet_28 (G : GG) (n : Nat) : Sq kE G (kF G (3) mi_m_quiet) mi_m_quiet 28 (b_m_quiet_28 n) := by
  induction n with
  | zero => exact sq_none
  | succ n ih =>
    unfold b_m_quiet_28
    exact (sq_iload_n (pc := 28) dX7_quiet_28 rfl
    (sq_bipush (pc := 29) dX7_quiet_29 kc_b_99
    (sq_cgt (pc := 31) dX7_quiet_31 (tgt := 90) rfl
    (sq_ldc (pc := 90) dX7_quiet_90 ct_X7_183
    (sq_iret rfl (pc := 92) dX7_quiet_92))
    (sq_iconst (pc := 34) dX7_quiet_34 kc_i_1
    (sq_istore_n (pc := 35) dX7_quiet_35 rfl
    (sq_iconst (pc := 36) dX7_quiet_36 kc_i_0
    (sq_istore (pc := 37) dX7_quiet_37
    (s_m_quiet_39 G ih k_fu))))))))
set_option maxHeartbeats 10000000 in
set_option maxRecDepth 20000 in
theorem s_m_quiet_0 (G : GG) : Sq kE G (kF G (3) mi_m_quiet) mi_m_quiet 0 b_m_quiet_0 := by
  unfold b_m_quiet_0
  exact (sq_aload_n (pc := 0) dX7_quiet_0 rfl
    (sq_callV (d := 3) (d' := 0) (mi' := mi_m_isSquare) (pc := 1) dX7_quiet_1 ml_X7_151 in_m_isSquare se_m_isSquare ok_m_isSquare ar_m_isSquare (by decide) rfl (by decide) (k_ok_kF G (3) mi_m_quiet) (m_m_isSquare G)
    (sq_ifne (pc := 4) dX7_quiet_4 (tgt := 10) rfl
    (sq_ldc (pc := 7) dX7_quiet_7 ct_X7_154
    (sq_iret rfl (pc := 9) dX7_quiet_9))
    (sq_iload_n (pc := 10) dX7_quiet_10 rfl
    (sq_iconst (pc := 11) dX7_quiet_11 kc_i_0
    (sq_iconst (pc := 12) dX7_quiet_12 kc_i_5
    (sq_callS (d := 3) (d' := 0) (mi' := mi_m_in) (pc := 13) dX7_quiet_13 ml_X7_56 st_m_in ok_m_in ar_m_in (by decide) (k_ok_kF G (3) mi_m_quiet) (m_m_in G)
    (sq_ifne (pc := 16) dX7_quiet_16 (tgt := 22) rfl
    (sq_ldc (pc := 19) dX7_quiet_19 ct_X7_69
    (sq_iret rfl (pc := 21) dX7_quiet_21))
    (sq_aload_n (pc := 22) dX7_quiet_22 rfl
    (sq_callV (d := 3) (d' := 2) (mi' := mi_m_layOff) (pc := 23) dX7_quiet_23 ml_X7_191 in_m_layOff se_m_layOff ok_m_layOff ar_m_layOff (by decide) rfl (by decide) (k_ok_kF G (3) mi_m_quiet) (m_m_layOff G)
    (sq_iconst (pc := 26) dX7_quiet_26 kc_i_0
    (sq_istore_n (pc := 27) dX7_quiet_27 rfl
    (s_m_quiet_28 G k_fu)))))))))))))
theorem m_m_quiet (G : GG) : RS kE G 3 mi_m_quiet r_m_quiet := by
  intro as M v M' h
  unfold r_m_quiet at h
  split at h
  · exact mc_of ok_m_quiet (s_m_quiet_0 G) (k_c1 _ rfl) (Nat.le_of_ble_eq_true rfl) rfl h
  · cases h
set_option maxHeartbeats 10000000 in
set_option maxRecDepth 20000 in
theorem s_m_layRow_114 (G : GG) {k39 : Kt Mi} {k82 : Kt Mi} (h39 : Sq kE G (kF G (1) mi_m_layRow) mi_m_layRow 39 k39) (h82 : Sq kE G (kF G (1) mi_m_layRow) mi_m_layRow 82 k82) : Sq kE G (kF G (1) mi_m_layRow) mi_m_layRow 114 (b_m_layRow_114 k39 k82) := by
  unfold b_m_layRow_114
  exact (sq_isub (pc := 114) dX7_layRow_114
    (sq_istore (pc := 115) dX7_layRow_115
    (sq_iinc (pc := 117) dX7_layRow_117 rfl
    (sq_goto (pc := 120) dX7_layRow_120 (tgt := 82) rfl h82))))
set_option maxHeartbeats 10000000 in
set_option maxRecDepth 20000 in
theorem s_m_layRow_97 (G : GG) {k39 : Kt Mi} {k82 : Kt Mi} (h39 : Sq kE G (kF G (1) mi_m_layRow) mi_m_layRow 39 k39) (h82 : Sq kE G (kF G (1) mi_m_layRow) mi_m_layRow 82 k82) : Sq kE G (kF G (1) mi_m_layRow) mi_m_layRow 97 (b_m_layRow_97 k39 k82) := by
  unfold b_m_layRow_97
  exact (sq_iload (pc := 97) dX7_layRow_97
    (sq_iload (pc := 99) dX7_layRow_99
    (sq_iload (pc := 101) dX7_layRow_101
    (sq_callS (d := 1) (d' := 0) (mi' := mi_m_has) (pc := 103) dX7_layRow_103 ml_X7_140 st_m_has ok_m_has ar_m_has (by decide) (k_ok_kF G (1) mi_m_layRow) (m_m_has G)
    (sq_ifeq (pc := 106) dX7_layRow_106 (tgt := 113) rfl
    (sq_iconst (pc := 113) dX7_layRow_113 kc_i_1
    (s_m_layRow_114 G h39 h82))
    (sq_iconst (pc := 109) dX7_layRow_109 kc_i_0
    (sq_goto (pc := 110) dX7_layRow_110 (tgt := 114) rfl (s_m_layRow_114 G h39 h82))))))))
set_option maxHeartbeats 10000000 in
set_option maxRecDepth 20000 in
theorem s_m_layRow_82 (G : GG) {k39 : Kt Mi} (h39 : Sq kE G (kF G (1) mi_m_layRow) mi_m_layRow 39 k39) (n : Nat) : Sq kE G (kF G (1) mi_m_layRow) mi_m_layRow 82 (b_m_layRow_82 k39 n) := by
  induction n with
  | zero => exact sq_none
  | succ n ih =>
    unfold b_m_layRow_82
    exact (sq_iload (pc := 82) dX7_layRow_82
    (sq_iload (pc := 84) dX7_layRow_84
    (sq_callS (d := 1) (d' := 0) (mi' := mi_m_has) (pc := 86) dX7_layRow_86 ml_X7_140 st_m_has ok_m_has ar_m_has (by decide) (k_ok_kF G (1) mi_m_layRow) (m_m_has G)
    (sq_ifne (pc := 89) dX7_layRow_89 (tgt := 97) rfl
    (sq_iload (pc := 92) dX7_layRow_92
    (sq_ifle (pc := 94) dX7_layRow_94 (tgt := 123) rfl
    (sq_aload_n (pc := 123) dX7_layRow_123 rfl
    (sq_getr (pc := 124) dX7_layRow_124 fl_X7_47 rfl rfl (by decide)
    (sq_iload (pc := 127) dX7_layRow_127
    (sq_iload (pc := 129) dX7_layRow_129
    (sq_iast (pc := 131) dX7_layRow_131
    (sq_iload (pc := 132) dX7_layRow_132
    (sq_iconst (pc := 134) dX7_layRow_134 kc_i_1
    (sq_iload (pc := 135) dX7_layRow_135
    (sq_ishl (pc := 137) dX7_layRow_137
    (sq_ior (pc := 138) dX7_layRow_138
    (sq_istore (pc := 139) dX7_layRow_139
    (sq_iinc (pc := 141) dX7_layRow_141 rfl
    (sq_goto (pc := 144) dX7_layRow_144 (tgt := 39) rfl h39)))))))))))))
    (s_m_layRow_97 G h39 ih)))
    (s_m_layRow_97 G h39 ih)))))
set_option maxHeartbeats 10000000 in
set_option maxRecDepth 20000 in
theorem s_m_layRow_77 (G : GG) {k39 : Kt Mi} (h39 : Sq kE G (kF G (1) mi_m_layRow) mi_m_layRow 39 k39) : Sq kE G (kF G (1) mi_m_layRow) mi_m_layRow 77 (b_m_layRow_77 k39) := by
  unfold b_m_layRow_77
  exact (sq_idiv (pc := 77) dX7_layRow_77
    (sq_istore_n (pc := 78) dX7_layRow_78 rfl
    (sq_iconst (pc := 79) dX7_layRow_79 kc_i_0
    (sq_istore (pc := 80) dX7_layRow_80
    (s_m_layRow_82 G h39 k_fu)))))
set_option maxHeartbeats 10000000 in
set_option maxRecDepth 20000 in
theorem s_m_layRow_39 (G : GG) (n : Nat) : Sq kE G (kF G (1) mi_m_layRow) mi_m_layRow 39 (b_m_layRow_39 n) := by
  induction n with
  | zero => exact sq_none
  | succ n ih =>
    unfold b_m_layRow_39
    exact (sq_iload (pc := 39) dX7_layRow_39
    (sq_iload (pc := 41) dX7_layRow_41
    (sq_cge (pc := 43) dX7_layRow_43 (tgt := 147) rfl
    (sq_ret rfl (pc := 147) dX7_layRow_147)
    (sq_iload_n (pc := 46) dX7_layRow_46 rfl
    (sq_iload_n (pc := 47) dX7_layRow_47 rfl
    (sq_idiv (pc := 48) dX7_layRow_48
    (sq_istore (pc := 49) dX7_layRow_49
    (sq_iload_n (pc := 51) dX7_layRow_51 rfl
    (sq_iload_n (pc := 52) dX7_layRow_52 rfl
    (sq_irem (pc := 53) dX7_layRow_53
    (sq_istore_n (pc := 54) dX7_layRow_54 rfl
    (sq_iload_n (pc := 55) dX7_layRow_55 rfl
    (sq_iload (pc := 56) dX7_layRow_56
    (sq_iconst (pc := 58) dX7_layRow_58 kc_i_1
    (sq_isub (pc := 59) dX7_layRow_59
    (sq_iload (pc := 60) dX7_layRow_60
    (sq_isub (pc := 62) dX7_layRow_62
    (sq_ifle (pc := 63) dX7_layRow_63 (tgt := 76) rfl
    (sq_iconst (pc := 76) dX7_layRow_76 kc_i_1
    (s_m_layRow_77 G ih))
    (sq_iload (pc := 66) dX7_layRow_66
    (sq_iconst (pc := 68) dX7_layRow_68 kc_i_1
    (sq_isub (pc := 69) dX7_layRow_69
    (sq_iload (pc := 70) dX7_layRow_70
    (sq_isub (pc := 72) dX7_layRow_72
    (sq_goto (pc := 73) dX7_layRow_73 (tgt := 77) rfl (s_m_layRow_77 G ih)))))))))))))))))))))))))
set_option maxHeartbeats 10000000 in
set_option maxRecDepth 20000 in
theorem s_m_layRow_15 (G : GG) (n : Nat) : Sq kE G (kF G (1) mi_m_layRow) mi_m_layRow 15 (b_m_layRow_15 n) := by
  induction n with
  | zero => exact sq_none
  | succ n ih =>
    unfold b_m_layRow_15
    exact (sq_iload (pc := 15) dX7_layRow_15
    (sq_iload (pc := 17) dX7_layRow_17
    (sq_cge (pc := 19) dX7_layRow_19 (tgt := 33) rfl
    (sq_iconst (pc := 33) dX7_layRow_33 kc_i_0
    (sq_istore (pc := 34) dX7_layRow_34
    (sq_iconst (pc := 36) dX7_layRow_36 kc_i_0
    (sq_istore (pc := 37) dX7_layRow_37
    (s_m_layRow_39 G k_fu)))))
    (sq_iload_n (pc := 22) dX7_layRow_22 rfl
    (sq_iload (pc := 23) dX7_layRow_23
    (sq_imul (pc := 25) dX7_layRow_25
    (sq_istore_n (pc := 26) dX7_layRow_26 rfl
    (sq_iinc (pc := 27) dX7_layRow_27 rfl
    (sq_goto (pc := 30) dX7_layRow_30 (tgt := 15) rfl ih)))))))))
set_option maxHeartbeats 10000000 in
set_option maxRecDepth 20000 in
theorem s_m_layRow_0 (G : GG) : Sq kE G (kF G (1) mi_m_layRow) mi_m_layRow 0 b_m_layRow_0 := by
  unfold b_m_layRow_0
  exact (sq_iload_n (pc := 0) dX7_layRow_0 rfl
    (sq_istore_n (pc := 1) dX7_layRow_1 rfl
    (sq_iconst (pc := 2) dX7_layRow_2 kc_i_1
    (sq_istore_n (pc := 3) dX7_layRow_3 rfl
    (sq_aload_n (pc := 4) dX7_layRow_4 rfl
    (sq_getr (pc := 5) dX7_layRow_5 fl_X7_22 rfl rfl (by decide)
    (sq_iconst (pc := 8) dX7_layRow_8 kc_i_2
    (sq_iald (pc := 9) dX7_layRow_9
    (sq_istore (pc := 10) dX7_layRow_10
    (sq_iconst (pc := 12) dX7_layRow_12 kc_i_2
    (sq_istore (pc := 13) dX7_layRow_13
    (s_m_layRow_15 G k_fu))))))))))))
theorem m_m_layRow (G : GG) : RS kE G 1 mi_m_layRow r_m_layRow := by
  intro as M v M' h
  unfold r_m_layRow at h
  split at h
  · exact mc_of ok_m_layRow (s_m_layRow_0 G) (k_c1 _ rfl) (Nat.le_of_ble_eq_true rfl) rfl h
  · cases h
set_option maxHeartbeats 10000000 in
set_option maxRecDepth 20000 in
theorem s_m_order_27 (G : GG) : Sq kE G (kF G (3) mi_m_order) mi_m_order 27 (b_m_order_27) := by
  unfold b_m_order_27
  exact (sq_ldc (pc := 27) dX7_order_27 ct_X7_69
    (sq_iret rfl (pc := 29) dX7_order_29))
set_option maxHeartbeats 10000000 in
set_option maxRecDepth 20000 in
theorem s_m_order_231 (G : GG) : Sq kE G (kF G (3) mi_m_order) mi_m_order 231 (b_m_order_231) := by
  unfold b_m_order_231
  exact (sq_iret rfl (pc := 231) dX7_order_231)
set_option maxHeartbeats 10000000 in
set_option maxRecDepth 20000 in
theorem s_m_order_205 (G : GG) : Sq kE G (kF G (3) mi_m_order) mi_m_order 205 (b_m_order_205) := by
  unfold b_m_order_205
  exact (sq_iload (pc := 205) dX7_order_205
    (sq_goto (pc := 207) dX7_order_207 (tgt := 231) rfl (s_m_order_231 G)))
set_option maxHeartbeats 10000000 in
set_option maxRecDepth 20000 in
theorem s_m_order_188 (G : GG) {k64 : Kt Mi} (h64 : Sq kE G (kF G (3) mi_m_order) mi_m_order 64 k64) : Sq kE G (kF G (3) mi_m_order) mi_m_order 188 (b_m_order_188 k64) := by
  unfold b_m_order_188
  exact (sq_iinc (pc := 188) dX7_order_188 rfl
    (sq_goto (pc := 191) dX7_order_191 (tgt := 64) rfl h64))
set_option maxHeartbeats 10000000 in
set_option maxRecDepth 20000 in
theorem s_m_order_157 (G : GG) {k64 : Kt Mi} (h64 : Sq kE G (kF G (3) mi_m_order) mi_m_order 64 k64) (n : Nat) : Sq kE G (kF G (3) mi_m_order) mi_m_order 157 (b_m_order_157 k64 n) := by
  induction n with
  | zero => exact sq_none
  | succ n ih =>
    unfold b_m_order_157
    exact (sq_iload (pc := 157) dX7_order_157
    (sq_aload_n (pc := 159) dX7_order_159 rfl
    (sq_getr (pc := 160) dX7_order_160 fl_X7_22 rfl rfl (by decide)
    (sq_iconst (pc := 163) dX7_order_163 kc_i_2
    (sq_iald (pc := 164) dX7_order_164
    (sq_cge (pc := 165) dX7_order_165 (tgt := 188) rfl
    (s_m_order_188 G h64)
    (sq_aload_n (pc := 168) dX7_order_168 rfl
    (sq_getr (pc := 169) dX7_order_169 fl_X7_50 rfl rfl (by decide)
    (sq_iload (pc := 172) dX7_order_172
    (sq_aload_n (pc := 174) dX7_order_174 rfl
    (sq_getr (pc := 175) dX7_order_175 fl_X7_47 rfl rfl (by decide)
    (sq_iload (pc := 178) dX7_order_178
    (sq_iald (pc := 180) dX7_order_180
    (sq_iast (pc := 181) dX7_order_181
    (sq_iinc (pc := 182) dX7_order_182 rfl
    (sq_goto (pc := 185) dX7_order_185 (tgt := 157) rfl ih))))))))))))))))
set_option maxHeartbeats 10000000 in
set_option maxRecDepth 20000 in
theorem s_m_order_150 (G : GG) {k64 : Kt Mi} (h64 : Sq kE G (kF G (3) mi_m_order) mi_m_order 64 k64) : Sq kE G (kF G (3) mi_m_order) mi_m_order 150 (b_m_order_150 k64) := by
  unfold b_m_order_150
  exact (sq_iload (pc := 150) dX7_order_150
    (sq_istore (pc := 152) dX7_order_152
    (sq_iconst (pc := 154) dX7_order_154 kc_i_0
    (sq_istore (pc := 155) dX7_order_155
    (s_m_order_157 G h64 k_fu)))))
set_option maxHeartbeats 10000000 in
set_option maxRecDepth 20000 in
theorem s_m_order_83 (G : GG) {k64 : Kt Mi} (h64 : Sq kE G (kF G (3) mi_m_order) mi_m_order 64 k64) (n : Nat) : Sq kE G (kF G (3) mi_m_order) mi_m_order 83 (b_m_order_83 k64 n) := by
  induction n with
  | zero => exact sq_none
  | succ n ih =>
    unfold b_m_order_83
    exact (sq_iload (pc := 83) dX7_order_83
    (sq_aload_n (pc := 85) dX7_order_85 rfl
    (sq_getr (pc := 86) dX7_order_86 fl_X7_22 rfl rfl (by decide)
    (sq_iconst (pc := 89) dX7_order_89 kc_i_2
    (sq_iald (pc := 90) dX7_order_90
    (sq_cge (pc := 91) dX7_order_91 (tgt := 116) rfl
    (sq_aload_n (pc := 116) dX7_order_116 rfl
    (sq_iload_n (pc := 117) dX7_order_117 rfl
    (sq_aload_n (pc := 118) dX7_order_118 rfl
    (sq_callV (d := 3) (d' := 0) (mi' := mi_m_flock) (pc := 119) dX7_order_119 ml_X7_158 in_m_flock se_m_flock ok_m_flock ar_m_flock (by decide) rfl (by decide) (k_ok_kF G (3) mi_m_order) (m_m_flock G)
    (sq_bipush (pc := 122) dX7_order_122 kc_b_99
    (sq_callV (d := 3) (d' := 2) (mi' := mi_m_firstOf) (pc := 124) dX7_order_124 ml_X7_184 in_m_firstOf se_m_firstOf ok_m_firstOf ar_m_firstOf (by decide) rfl (by decide) (k_ok_kF G (3) mi_m_order) (m_m_firstOf G)
    (sq_istore (pc := 127) dX7_order_127
    (sq_iload (pc := 129) dX7_order_129
    (sq_ldc (pc := 131) dX7_order_131 ct_X7_183
    (sq_ceq (pc := 133) dX7_order_133 (tgt := 188) rfl
    (s_m_order_188 G h64)
    (sq_iload (pc := 136) dX7_order_136
    (sq_ldc (pc := 138) dX7_order_138 ct_X7_183
    (sq_ceq (pc := 140) dX7_order_140 (tgt := 150) rfl
    (s_m_order_150 G h64)
    (sq_iload (pc := 143) dX7_order_143
    (sq_iload (pc := 145) dX7_order_145
    (sq_cge (pc := 147) dX7_order_147 (tgt := 188) rfl
    (s_m_order_188 G h64)
    (s_m_order_150 G h64)))))))))))))))))
    (sq_aload_n (pc := 94) dX7_order_94 rfl
    (sq_getr (pc := 95) dX7_order_95 fl_X7_28 rfl rfl (by decide)
    (sq_iconst (pc := 98) dX7_order_98 kc_i_4
    (sq_iload (pc := 99) dX7_order_99
    (sq_iadd (pc := 101) dX7_order_101
    (sq_aload_n (pc := 102) dX7_order_102 rfl
    (sq_getr (pc := 103) dX7_order_103 fl_X7_47 rfl rfl (by decide)
    (sq_iload (pc := 106) dX7_order_106
    (sq_iald (pc := 108) dX7_order_108
    (sq_iast (pc := 109) dX7_order_109
    (sq_iinc (pc := 110) dX7_order_110 rfl
    (sq_goto (pc := 113) dX7_order_113 (tgt := 83) rfl ih))))))))))))))))))
set_option maxHeartbeats 10000000 in
set_option maxRecDepth 20000 in
theorem s_m_order_64 (G : GG) (n : Nat) : Sq kE G (kF G (3) mi_m_order) mi_m_order 64 (b_m_order_64 n) := by
  induction n with
  | zero => exact sq_none
  | succ n ih =>
    unfold b_m_order_64
    exact (sq_iload (pc := 64) dX7_order_64
    (sq_iload_n (pc := 66) dX7_order_66 rfl
    (sq_cge (pc := 67) dX7_order_67 (tgt := 194) rfl
    (sq_iload_n (pc := 194) dX7_order_194 rfl
    (sq_iflt (pc := 195) dX7_order_195 (tgt := 205) rfl
    (s_m_order_205 G)
    (sq_iload (pc := 198) dX7_order_198
    (sq_ldc (pc := 200) dX7_order_200 ct_X7_183
    (sq_cne (pc := 202) dX7_order_202 (tgt := 210) rfl
    (s_m_order_205 G)
    (sq_iload_n (pc := 210) dX7_order_210 rfl
    (sq_aload_n (pc := 211) dX7_order_211 rfl
    (sq_getr (pc := 212) dX7_order_212 fl_X7_22 rfl rfl (by decide)
    (sq_iconst (pc := 215) dX7_order_215 kc_i_2
    (sq_iald (pc := 216) dX7_order_216
    (sq_cge (pc := 217) dX7_order_217 (tgt := 229) rfl
    (sq_ldc (pc := 229) dX7_order_229 ct_X7_183
    (s_m_order_231 G))
    (sq_aload_n (pc := 220) dX7_order_220 rfl
    (sq_getr (pc := 221) dX7_order_221 fl_X7_50 rfl rfl (by decide)
    (sq_iload_n (pc := 224) dX7_order_224 rfl
    (sq_iald (pc := 225) dX7_order_225
    (sq_goto (pc := 226) dX7_order_226 (tgt := 231) rfl (s_m_order_231 G)))))))))))))))))
    (sq_aload_n (pc := 70) dX7_order_70 rfl
    (sq_iload (pc := 71) dX7_order_71
    (sq_callV (d := 3) (d' := 1) (mi' := mi_m_layRow) (pc := 73) dX7_order_73 ml_X7_194 in_m_layRow se_m_layRow ok_m_layRow ar_m_layRow (by decide) rfl (by decide) (k_ok_kF G (3) mi_m_order) (m_m_layRow G)
    (sq_aload_n (pc := 76) dX7_order_76 rfl
    (sq_callV (d := 3) (d' := 1) (mi' := mi_m_begin) (pc := 77) dX7_order_77 ml_X7_176 in_m_begin se_m_begin ok_m_begin ar_m_begin (by decide) rfl (by decide) (k_ok_kF G (3) mi_m_order) (m_m_begin G)
    (sq_iconst (pc := 80) dX7_order_80 kc_i_0
    (sq_istore (pc := 81) dX7_order_81
    (s_m_order_83 G ih k_fu)))))))))))
set_option maxHeartbeats 10000000 in
set_option maxRecDepth 20000 in
theorem s_m_order_35 (G : GG) (n : Nat) : Sq kE G (kF G (3) mi_m_order) mi_m_order 35 (b_m_order_35 n) := by
  induction n with
  | zero => exact sq_none
  | succ n ih =>
    unfold b_m_order_35
    exact (sq_iload (pc := 35) dX7_order_35
    (sq_aload_n (pc := 37) dX7_order_37 rfl
    (sq_getr (pc := 38) dX7_order_38 fl_X7_22 rfl rfl (by decide)
    (sq_iconst (pc := 41) dX7_order_41 kc_i_2
    (sq_iald (pc := 42) dX7_order_42
    (sq_cgt (pc := 43) dX7_order_43 (tgt := 57) rfl
    (sq_ldc (pc := 57) dX7_order_57 ct_X7_183
    (sq_istore (pc := 59) dX7_order_59
    (sq_iconst (pc := 61) dX7_order_61 kc_i_0
    (sq_istore (pc := 62) dX7_order_62
    (s_m_order_64 G k_fu)))))
    (sq_iload_n (pc := 46) dX7_order_46 rfl
    (sq_iload (pc := 47) dX7_order_47
    (sq_imul (pc := 49) dX7_order_49
    (sq_istore_n (pc := 50) dX7_order_50 rfl
    (sq_iinc (pc := 51) dX7_order_51 rfl
    (sq_goto (pc := 54) dX7_order_54 (tgt := 35) rfl ih))))))))))))
set_option maxHeartbeats 10000000 in
set_option maxRecDepth 20000 in
theorem s_m_order_0 (G : GG) : Sq kE G (kF G (3) mi_m_order) mi_m_order 0 b_m_order_0 := by
  unfold b_m_order_0
  exact (sq_aload_n (pc := 0) dX7_order_0 rfl
    (sq_callV (d := 3) (d' := 0) (mi' := mi_m_isSquare) (pc := 1) dX7_order_1 ml_X7_151 in_m_isSquare se_m_isSquare ok_m_isSquare ar_m_isSquare (by decide) rfl (by decide) (k_ok_kF G (3) mi_m_order) (m_m_isSquare G)
    (sq_ifne (pc := 4) dX7_order_4 (tgt := 10) rfl
    (sq_ldc (pc := 7) dX7_order_7 ct_X7_154
    (sq_iret rfl (pc := 9) dX7_order_9))
    (sq_aload_n (pc := 10) dX7_order_10 rfl
    (sq_iload_n (pc := 11) dX7_order_11 rfl
    (sq_callV (d := 3) (d' := 1) (mi' := mi_m_isSet) (pc := 12) dX7_order_12 ml_X7_188 in_m_isSet se_m_isSet ok_m_isSet ar_m_isSet (by decide) rfl (by decide) (k_ok_kF G (3) mi_m_order) (m_m_isSet G)
    (sq_ifeq (pc := 15) dX7_order_15 (tgt := 27) rfl
    (s_m_order_27 G)
    (sq_iload_n (pc := 18) dX7_order_18 rfl
    (sq_iconst (pc := 19) dX7_order_19 kc_i_m1
    (sq_iconst (pc := 20) dX7_order_20 kc_i_5
    (sq_callS (d := 3) (d' := 0) (mi' := mi_m_in) (pc := 21) dX7_order_21 ml_X7_56 st_m_in ok_m_in ar_m_in (by decide) (k_ok_kF G (3) mi_m_order) (m_m_in G)
    (sq_ifne (pc := 24) dX7_order_24 (tgt := 30) rfl
    (s_m_order_27 G)
    (sq_iconst (pc := 30) dX7_order_30 kc_i_1
    (sq_istore_n (pc := 31) dX7_order_31 rfl
    (sq_iconst (pc := 32) dX7_order_32 kc_i_2
    (sq_istore (pc := 33) dX7_order_33
    (s_m_order_35 G k_fu)))))))))))))))))
theorem m_m_order (G : GG) : RS kE G 3 mi_m_order r_m_order := by
  intro as M v M' h
  unfold r_m_order at h
  split at h
  · exact mc_of ok_m_order (s_m_order_0 G) (k_c1 _ rfl) (Nat.le_of_ble_eq_true rfl) rfl h
  · cases h
set_option maxHeartbeats 10000000 in
set_option maxRecDepth 20000 in
theorem s_m_fewest_37 (G : GG) : Sq kE G (kF G (3) mi_m_fewest) mi_m_fewest 37 (b_m_fewest_37) := by
  unfold b_m_fewest_37
  exact (sq_ldc (pc := 37) dX7_fewest_37 ct_X7_69
    (sq_iret rfl (pc := 39) dX7_fewest_39))
set_option maxHeartbeats 10000000 in
set_option maxRecDepth 20000 in
theorem s_m_fewest_129 (G : GG) : Sq kE G (kF G (3) mi_m_fewest) mi_m_fewest 129 (b_m_fewest_129) := by
  unfold b_m_fewest_129
  exact (sq_iret rfl (pc := 129) dX7_fewest_129)
set_option maxHeartbeats 10000000 in
set_option maxRecDepth 20000 in
theorem s_m_fewest_99 (G : GG) {k46 : Kt Mi} (h46 : Sq kE G (kF G (3) mi_m_fewest) mi_m_fewest 46 k46) : Sq kE G (kF G (3) mi_m_fewest) mi_m_fewest 99 (b_m_fewest_99 k46) := by
  unfold b_m_fewest_99
  exact (sq_iinc (pc := 99) dX7_fewest_99 rfl
    (sq_goto (pc := 102) dX7_fewest_102 (tgt := 46) rfl h46))
set_option maxHeartbeats 10000000 in
set_option maxRecDepth 20000 in
theorem s_m_fewest_97 (G : GG) {k46 : Kt Mi} (h46 : Sq kE G (kF G (3) mi_m_fewest) mi_m_fewest 46 k46) : Sq kE G (kF G (3) mi_m_fewest) mi_m_fewest 97 (b_m_fewest_97 k46) := by
  unfold b_m_fewest_97
  exact (sq_istore (pc := 97) dX7_fewest_97
    (s_m_fewest_99 G h46))
set_option maxHeartbeats 10000000 in
set_option maxRecDepth 20000 in
theorem s_m_fewest_73 (G : GG) {k46 : Kt Mi} (h46 : Sq kE G (kF G (3) mi_m_fewest) mi_m_fewest 46 k46) : Sq kE G (kF G (3) mi_m_fewest) mi_m_fewest 73 (b_m_fewest_73 k46) := by
  unfold b_m_fewest_73
  exact (sq_aload_n (pc := 73) dX7_fewest_73 rfl
    (sq_callV (d := 3) (d' := 1) (mi' := mi_m_begin) (pc := 74) dX7_fewest_74 ml_X7_176 in_m_begin se_m_begin ok_m_begin ar_m_begin (by decide) rfl (by decide) (k_ok_kF G (3) mi_m_fewest) (m_m_begin G)
    (sq_aload_n (pc := 77) dX7_fewest_77 rfl
    (sq_iload_n (pc := 78) dX7_fewest_78 rfl
    (sq_iload (pc := 79) dX7_fewest_79
    (sq_iload_n (pc := 81) dX7_fewest_81 rfl
    (sq_callV (d := 3) (d' := 2) (mi' := mi_m_firstOf) (pc := 82) dX7_fewest_82 ml_X7_184 in_m_firstOf se_m_firstOf ok_m_firstOf ar_m_firstOf (by decide) rfl (by decide) (k_ok_kF G (3) mi_m_fewest) (m_m_firstOf G)
    (sq_ldc (pc := 85) dX7_fewest_85 ct_X7_183
    (sq_cne (pc := 87) dX7_fewest_87 (tgt := 95) rfl
    (sq_iload (pc := 90) dX7_fewest_90
    (sq_goto (pc := 92) dX7_fewest_92 (tgt := 97) rfl (s_m_fewest_97 G h46)))
    (sq_iload (pc := 95) dX7_fewest_95
    (s_m_fewest_97 G h46)))))))))))
set_option maxHeartbeats 10000000 in
set_option maxRecDepth 20000 in
theorem s_m_fewest_46 (G : GG) (n : Nat) : Sq kE G (kF G (3) mi_m_fewest) mi_m_fewest 46 (b_m_fewest_46 n) := by
  induction n with
  | zero => exact sq_none
  | succ n ih =>
    unfold b_m_fewest_46
    exact (sq_iload (pc := 46) dX7_fewest_46
    (sq_aload_n (pc := 48) dX7_fewest_48 rfl
    (sq_callV (d := 3) (d' := 0) (mi' := mi_m_flock) (pc := 49) dX7_fewest_49 ml_X7_158 in_m_flock se_m_flock ok_m_flock ar_m_flock (by decide) rfl (by decide) (k_ok_kF G (3) mi_m_fewest) (m_m_flock G)
    (sq_cgt (pc := 52) dX7_fewest_52 (tgt := 105) rfl
    (sq_iload (pc := 105) dX7_fewest_105
    (sq_ifne (pc := 107) dX7_fewest_107 (tgt := 115) rfl
    (sq_ldc (pc := 110) dX7_fewest_110 ct_X7_183
    (sq_goto (pc := 112) dX7_fewest_112 (tgt := 129) rfl (s_m_fewest_129 G)))
    (sq_iload_n (pc := 115) dX7_fewest_115 rfl
    (sq_ifne (pc := 116) dX7_fewest_116 (tgt := 127) rfl
    (sq_iload (pc := 119) dX7_fewest_119
    (sq_callS (d := 3) (d' := 0) (mi' := mi_m_bits) (pc := 121) dX7_fewest_121 ml_X7_137 st_m_bits ok_m_bits ar_m_bits (by decide) (k_ok_kF G (3) mi_m_fewest) (m_m_bits G)
    (sq_goto (pc := 124) dX7_fewest_124 (tgt := 129) rfl (s_m_fewest_129 G))))
    (sq_iload (pc := 127) dX7_fewest_127
    (s_m_fewest_129 G))))))
    (sq_iload (pc := 55) dX7_fewest_55
    (sq_ifeq (pc := 57) dX7_fewest_57 (tgt := 73) rfl
    (s_m_fewest_73 G ih)
    (sq_iload (pc := 60) dX7_fewest_60
    (sq_callS (d := 3) (d' := 0) (mi' := mi_m_bits) (pc := 62) dX7_fewest_62 ml_X7_137 st_m_bits ok_m_bits ar_m_bits (by decide) (k_ok_kF G (3) mi_m_fewest) (m_m_bits G)
    (sq_iload (pc := 65) dX7_fewest_65
    (sq_callS (d := 3) (d' := 0) (mi' := mi_m_bits) (pc := 67) dX7_fewest_67 ml_X7_137 st_m_bits ok_m_bits ar_m_bits (by decide) (k_ok_kF G (3) mi_m_fewest) (m_m_bits G)
    (sq_cge (pc := 70) dX7_fewest_70 (tgt := 99) rfl
    (s_m_fewest_99 G ih)
    (s_m_fewest_73 G ih))))))))))))
set_option maxHeartbeats 10000000 in
set_option maxRecDepth 20000 in
theorem s_m_fewest_0 (G : GG) : Sq kE G (kF G (3) mi_m_fewest) mi_m_fewest 0 b_m_fewest_0 := by
  unfold b_m_fewest_0
  exact (sq_aload_n (pc := 0) dX7_fewest_0 rfl
    (sq_callV (d := 3) (d' := 0) (mi' := mi_m_isSquare) (pc := 1) dX7_fewest_1 ml_X7_151 in_m_isSquare se_m_isSquare ok_m_isSquare ar_m_isSquare (by decide) rfl (by decide) (k_ok_kF G (3) mi_m_fewest) (m_m_isSquare G)
    (sq_ifne (pc := 4) dX7_fewest_4 (tgt := 10) rfl
    (sq_ldc (pc := 7) dX7_fewest_7 ct_X7_154
    (sq_iret rfl (pc := 9) dX7_fewest_9))
    (sq_aload_n (pc := 10) dX7_fewest_10 rfl
    (sq_iload_n (pc := 11) dX7_fewest_11 rfl
    (sq_callV (d := 3) (d' := 1) (mi' := mi_m_isSet) (pc := 12) dX7_fewest_12 ml_X7_188 in_m_isSet se_m_isSet ok_m_isSet ar_m_isSet (by decide) rfl (by decide) (k_ok_kF G (3) mi_m_fewest) (m_m_isSet G)
    (sq_ifeq (pc := 15) dX7_fewest_15 (tgt := 37) rfl
    (s_m_fewest_37 G)
    (sq_iload_n (pc := 18) dX7_fewest_18 rfl
    (sq_iconst (pc := 19) dX7_fewest_19 kc_i_0
    (sq_bipush (pc := 20) dX7_fewest_20 kc_b_99
    (sq_callS (d := 3) (d' := 0) (mi' := mi_m_in) (pc := 22) dX7_fewest_22 ml_X7_56 st_m_in ok_m_in ar_m_in (by decide) (k_ok_kF G (3) mi_m_fewest) (m_m_in G)
    (sq_ifeq (pc := 25) dX7_fewest_25 (tgt := 37) rfl
    (s_m_fewest_37 G)
    (sq_iload_n (pc := 28) dX7_fewest_28 rfl
    (sq_iconst (pc := 29) dX7_fewest_29 kc_i_0
    (sq_iconst (pc := 30) dX7_fewest_30 kc_i_1
    (sq_callS (d := 3) (d' := 0) (mi' := mi_m_in) (pc := 31) dX7_fewest_31 ml_X7_56 st_m_in ok_m_in ar_m_in (by decide) (k_ok_kF G (3) mi_m_fewest) (m_m_in G)
    (sq_ifne (pc := 34) dX7_fewest_34 (tgt := 40) rfl
    (s_m_fewest_37 G)
    (sq_iconst (pc := 40) dX7_fewest_40 kc_i_0
    (sq_istore (pc := 41) dX7_fewest_41
    (sq_iconst (pc := 43) dX7_fewest_43 kc_i_1
    (sq_istore (pc := 44) dX7_fewest_44
    (s_m_fewest_46 G k_fu))))))))))))))))))))))
theorem m_m_fewest (G : GG) : RS kE G 3 mi_m_fewest r_m_fewest := by
  intro as M v M' h
  unfold r_m_fewest at h
  split at h
  · exact mc_of ok_m_fewest (s_m_fewest_0 G) (k_c1 _ rfl) (Nat.le_of_ble_eq_true rfl) rfl h
  · cases h
