/-! ===== the machine does what the functions say ===== -/
set_option maxHeartbeats 10000000 in
set_option maxRecDepth 20000 in
theorem s_Q_answer_0 (G : GG) {rg : List Value → Mi → Option (Value × Mi)} {j : Nat} (hg : RS kE G (2 * j + 2) mi_Q_give rg) : Sq kE G (kF G (2 * j + 3) mi_Q_answer) mi_Q_answer 0 (b_Q_answer_0 rg) := by
  unfold b_Q_answer_0
  exact (sq_aload_n (pc := 0) dX1_answer_0 rfl
    (sq_aload_n (pc := 1) dX1_answer_1 rfl
    (sq_iload_n (pc := 2) dX1_answer_2 rfl
    (sq_callV (d := 2 * j + 3) (d' := 0) (mi' := mi_Q_bodyFor) (pc := 3) dX1_answer_3 ml_X1_43 in_Q_bodyFor se_Q_bodyFor ok_Q_bodyFor ar_Q_bodyFor (by decide) rfl (by omega) (k_ok_kF G (2 * j + 3) mi_Q_answer) (m_Q_bodyFor G)
    (sq_iload_n (pc := 6) dX1_answer_6 rfl
    (sq_iconst (pc := 7) dX1_answer_7 kc_i_1
    (sq_iadd (pc := 8) dX1_answer_8
    (sq_callV (d := 2 * j + 3) (d' := (2 * j + 2)) (mi' := mi_Q_give) (pc := 9) dX1_answer_9 ml_X1_47 in_Q_give se_Q_give ok_Q_give ar_Q_give (by decide) rfl (by omega) (k_ok_kF G (2 * j + 3) mi_Q_answer) hg
    (sq_iret rfl (pc := 12) dX1_answer_12)))))))))
theorem m_Q_answer (G : GG) {rg : List Value → Mi → Option (Value × Mi)} {j : Nat} (hg : RS kE G (2 * j + 2) mi_Q_give rg) : RS kE G (2 * j + 3) mi_Q_answer (r_Q_answer rg) := by
  intro as M v M' h
  unfold r_Q_answer at h
  split at h
  · exact mc_of ok_Q_answer (s_Q_answer_0 G hg) (k_c1 _ rfl) (Nat.le_of_ble_eq_true rfl) rfl h
  · cases h
set_option maxHeartbeats 10000000 in
set_option maxRecDepth 20000 in
theorem s_Q_give_237 (G : GG) {rg : List Value → Mi → Option (Value × Mi)} {j : Nat} (hg : RS kE G (2 * j + 2) mi_Q_give rg) : Sq kE G (kF G (2 * j + 4) mi_Q_give) mi_Q_give 237 (b_Q_give_237 rg) := by
  unfold b_Q_give_237
  exact (sq_iconst (pc := 237) dX1_give_237 kc_i_0
    (sq_iret rfl (pc := 238) dX1_give_238))
set_option maxHeartbeats 10000000 in
set_option maxRecDepth 20000 in
theorem s_Q_give_37 (G : GG) {rg : List Value → Mi → Option (Value × Mi)} {j : Nat} (hg : RS kE G (2 * j + 2) mi_Q_give rg) : Sq kE G (kF G (2 * j + 4) mi_Q_give) mi_Q_give 37 (b_Q_give_37 rg) := by
  unfold b_Q_give_37
  exact (sq_iload_n (pc := 37) dX1_give_37 rfl
    (sq_tsw (pc := 38) dX1_give_38 (td := 237) rfl (by decide +kernel)
    ((k_swT_cons 74 112 ki_10_0 (by decide +kernel) (by decide +kernel) (sq_aload_n (pc := 112) dX1_give_112 rfl
    (sq_geti (pc := 113) dX1_give_113 fl_X1_25 rfl
    (sq_iret rfl (pc := 116) dX1_give_116))) 
    (k_swT_cons 79 117 ki_10_1 (by decide +kernel) (by decide +kernel) (sq_aload_n (pc := 117) dX1_give_117 rfl
    (sq_bipush (pc := 118) dX1_give_118 kc_b_10
    (sq_iload_n (pc := 120) dX1_give_120 rfl
    (sq_iconst (pc := 121) dX1_give_121 kc_i_1
    (sq_iadd (pc := 122) dX1_give_122
    (sq_callV (d := 2 * j + 4) (d' := (2 * j + 2)) (mi' := mi_Q_give) (pc := 123) dX1_give_123 ml_X1_47 in_Q_give se_Q_give ok_Q_give ar_Q_give (by decide) rfl (by omega) (k_ok_kF G (2 * j + 4) mi_Q_give) hg
    (sq_aload_n (pc := 126) dX1_give_126 rfl
    (sq_iconst (pc := 127) dX1_give_127 kc_i_1
    (sq_iload_n (pc := 128) dX1_give_128 rfl
    (sq_iconst (pc := 129) dX1_give_129 kc_i_1
    (sq_iadd (pc := 130) dX1_give_130
    (sq_callV (d := 2 * j + 4) (d' := (2 * j + 3)) (mi' := mi_Q_answer) (pc := 131) dX1_give_131 ml_X1_39 in_Q_answer se_Q_answer ok_Q_answer ar_Q_answer (by decide) rfl (by omega) (k_ok_kF G (2 * j + 4) mi_Q_give) (m_Q_answer G hg)
    (sq_iadd (pc := 134) dX1_give_134
    (sq_iret rfl (pc := 135) dX1_give_135)))))))))))))) 
    (k_swT_cons 98 136 ki_10_2 (by decide +kernel) (by decide +kernel) (sq_aload_n (pc := 136) dX1_give_136 rfl
    (sq_bipush (pc := 137) dX1_give_137 kc_b_11
    (sq_iload_n (pc := 139) dX1_give_139 rfl
    (sq_iconst (pc := 140) dX1_give_140 kc_i_1
    (sq_iadd (pc := 141) dX1_give_141
    (sq_callV (d := 2 * j + 4) (d' := (2 * j + 2)) (mi' := mi_Q_give) (pc := 142) dX1_give_142 ml_X1_47 in_Q_give se_Q_give ok_Q_give ar_Q_give (by decide) rfl (by omega) (k_ok_kF G (2 * j + 4) mi_Q_give) hg
    (sq_ineg (pc := 145) dX1_give_145
    (sq_iret rfl (pc := 146) dX1_give_146)))))))) 
    (k_swT_cons 109 147 ki_10_3 (by decide +kernel) (by decide +kernel) (sq_aload_n (pc := 147) dX1_give_147 rfl
    (sq_bipush (pc := 148) dX1_give_148 kc_b_10
    (sq_iload_n (pc := 150) dX1_give_150 rfl
    (sq_iconst (pc := 151) dX1_give_151 kc_i_1
    (sq_iadd (pc := 152) dX1_give_152
    (sq_callV (d := 2 * j + 4) (d' := (2 * j + 2)) (mi' := mi_Q_give) (pc := 153) dX1_give_153 ml_X1_47 in_Q_give se_Q_give ok_Q_give ar_Q_give (by decide) rfl (by omega) (k_ok_kF G (2 * j + 4) mi_Q_give) hg
    (sq_bipush (pc := 156) dX1_give_156 kc_b_100
    (sq_isub (pc := 158) dX1_give_158
    (sq_iret rfl (pc := 159) dX1_give_159))))))))) 
    (k_swT_cons 122 160 ki_10_4 (by decide +kernel) (by decide +kernel) (sq_iconst (pc := 160) dX1_give_160 kc_i_2
    (sq_aload_n (pc := 161) dX1_give_161 rfl
    (sq_bipush (pc := 162) dX1_give_162 kc_b_13
    (sq_iload_n (pc := 164) dX1_give_164 rfl
    (sq_iconst (pc := 165) dX1_give_165 kc_i_1
    (sq_iadd (pc := 166) dX1_give_166
    (sq_callV (d := 2 * j + 4) (d' := (2 * j + 2)) (mi' := mi_Q_give) (pc := 167) dX1_give_167 ml_X1_47 in_Q_give se_Q_give ok_Q_give ar_Q_give (by decide) rfl (by omega) (k_ok_kF G (2 * j + 4) mi_Q_give) hg
    (sq_imul (pc := 170) dX1_give_170
    (sq_iret rfl (pc := 171) dX1_give_171))))))))) 
    (k_swT_cons 199 237 ki_10_5 (by decide +kernel) (by decide +kernel) (s_Q_give_237 G hg) 
    (k_swT_cons 199 237 ki_10_6 (by decide +kernel) (by decide +kernel) (s_Q_give_237 G hg) 
    (k_swT_cons 199 237 ki_10_7 (by decide +kernel) (by decide +kernel) (s_Q_give_237 G hg) 
    (k_swT_cons 199 237 ki_10_8 (by decide +kernel) (by decide +kernel) (s_Q_give_237 G hg) 
    (k_swT_cons 199 237 ki_10_9 (by decide +kernel) (by decide +kernel) (s_Q_give_237 G hg) 
    (k_swT_cons 134 172 ki_10_10 (by decide +kernel) (by decide +kernel) (sq_aload_n (pc := 172) dX1_give_172 rfl
    (sq_geti (pc := 173) dX1_give_173 fl_X1_19 rfl
    (sq_iret rfl (pc := 176) dX1_give_176))) 
    (k_swT_cons 139 177 ki_10_11 (by decide +kernel) (by decide +kernel) (sq_aload_n (pc := 177) dX1_give_177 rfl
    (sq_bipush (pc := 178) dX1_give_178 kc_b_20
    (sq_iload_n (pc := 180) dX1_give_180 rfl
    (sq_iconst (pc := 181) dX1_give_181 kc_i_1
    (sq_iadd (pc := 182) dX1_give_182
    (sq_callV (d := 2 * j + 4) (d' := (2 * j + 2)) (mi' := mi_Q_give) (pc := 183) dX1_give_183 ml_X1_47 in_Q_give se_Q_give ok_Q_give ar_Q_give (by decide) rfl (by omega) (k_ok_kF G (2 * j + 4) mi_Q_give) hg
    (sq_aload_n (pc := 186) dX1_give_186 rfl
    (sq_geti (pc := 187) dX1_give_187 fl_X1_28 rfl
    (sq_iadd (pc := 190) dX1_give_190
    (sq_iret rfl (pc := 191) dX1_give_191)))))))))) 
    (k_swT_cons 154 192 ki_10_12 (by decide +kernel) (by decide +kernel) (sq_aload_n (pc := 192) dX1_give_192 rfl
    (sq_bipush (pc := 193) dX1_give_193 kc_b_21
    (sq_iload_n (pc := 195) dX1_give_195 rfl
    (sq_iconst (pc := 196) dX1_give_196 kc_i_1
    (sq_iadd (pc := 197) dX1_give_197
    (sq_callV (d := 2 * j + 4) (d' := (2 * j + 2)) (mi' := mi_Q_give) (pc := 198) dX1_give_198 ml_X1_47 in_Q_give se_Q_give ok_Q_give ar_Q_give (by decide) rfl (by omega) (k_ok_kF G (2 * j + 4) mi_Q_give) hg
    (sq_sipush (pc := 201) dX1_give_201 kc_s_1000
    (sq_isub (pc := 204) dX1_give_204
    (sq_iret rfl (pc := 205) dX1_give_205))))))))) 
    (k_swT_cons 168 206 ki_10_13 (by decide +kernel) (by decide +kernel) (sq_aload_n (pc := 206) dX1_give_206 rfl
    (sq_bipush (pc := 207) dX1_give_207 kc_b_20
    (sq_iload_n (pc := 209) dX1_give_209 rfl
    (sq_iconst (pc := 210) dX1_give_210 kc_i_1
    (sq_iadd (pc := 211) dX1_give_211
    (sq_callV (d := 2 * j + 4) (d' := (2 * j + 2)) (mi' := mi_Q_give) (pc := 212) dX1_give_212 ml_X1_47 in_Q_give se_Q_give ok_Q_give ar_Q_give (by decide) rfl (by omega) (k_ok_kF G (2 * j + 4) mi_Q_give) hg
    (sq_aload_n (pc := 215) dX1_give_215 rfl
    (sq_iconst (pc := 216) dX1_give_216 kc_i_0
    (sq_iload_n (pc := 217) dX1_give_217 rfl
    (sq_iconst (pc := 218) dX1_give_218 kc_i_1
    (sq_iadd (pc := 219) dX1_give_219
    (sq_callV (d := 2 * j + 4) (d' := (2 * j + 3)) (mi' := mi_Q_answer) (pc := 220) dX1_give_220 ml_X1_39 in_Q_answer se_Q_answer ok_Q_answer ar_Q_answer (by decide) rfl (by omega) (k_ok_kF G (2 * j + 4) mi_Q_give) (m_Q_answer G hg)
    (sq_isub (pc := 223) dX1_give_223
    (sq_iret rfl (pc := 224) dX1_give_224)))))))))))))) 
    (k_swT_cons 187 225 ki_10_14 (by decide +kernel) (by decide +kernel) (sq_iconst (pc := 225) dX1_give_225 kc_i_2
    (sq_aload_n (pc := 226) dX1_give_226 rfl
    (sq_bipush (pc := 227) dX1_give_227 kc_b_21
    (sq_iload_n (pc := 229) dX1_give_229 rfl
    (sq_iconst (pc := 230) dX1_give_230 kc_i_1
    (sq_iadd (pc := 231) dX1_give_231
    (sq_callV (d := 2 * j + 4) (d' := (2 * j + 2)) (mi' := mi_Q_give) (pc := 232) dX1_give_232 ml_X1_47 in_Q_give se_Q_give ok_Q_give ar_Q_give (by decide) rfl (by omega) (k_ok_kF G (2 * j + 4) mi_Q_give) hg
    (sq_imul (pc := 235) dX1_give_235
    (sq_iret rfl (pc := 236) dX1_give_236))))))))) k_swT_nil))))))))))))))))
    (s_Q_give_237 G hg)))
set_option maxHeartbeats 10000000 in
set_option maxRecDepth 20000 in
theorem s_Q_give_0 (G : GG) {rg : List Value → Mi → Option (Value × Mi)} {j : Nat} (hg : RS kE G (2 * j + 2) mi_Q_give rg) : Sq kE G (kF G (2 * j + 4) mi_Q_give) mi_Q_give 0 (b_Q_give_0 rg) := by
  unfold b_Q_give_0
  exact (sq_iload_n (pc := 0) dX1_give_0 rfl
    (sq_bipush (pc := 1) dX1_give_1 kc_b_12
    (sq_cle (pc := 3) dX1_give_3 (tgt := 8) rfl
    (sq_aload_n (pc := 8) dX1_give_8 rfl
    (sq_geti (pc := 9) dX1_give_9 fl_X1_15 rfl
    (sq_aload_n (pc := 12) dX1_give_12 rfl
    (sq_getr (pc := 13) dX1_give_13 fl_X1_9 rfl rfl (by decide)
    (sq_alen (pc := 16) dX1_give_16
    (sq_cge (pc := 17) dX1_give_17 (tgt := 37) rfl
    (s_Q_give_37 G hg)
    (sq_aload_n (pc := 20) dX1_give_20 rfl
    (sq_getr (pc := 21) dX1_give_21 fl_X1_9 rfl rfl (by decide)
    (sq_aload_n (pc := 24) dX1_give_24 rfl
    (sq_dup (pc := 25) dX1_give_25
    (sq_geti (pc := 26) dX1_give_26 fl_X1_15 rfl
    (sq_dup_x1 (pc := 29) dX1_give_29
    (sq_iconst (pc := 30) dX1_give_30 kc_i_1
    (sq_iadd (pc := 31) dX1_give_31
    (sq_puti (pc := 32) dX1_give_32 fl_X1_15 rfl rfl
    (sq_iload_n (pc := 35) dX1_give_35 rfl
    (sq_iast (pc := 36) dX1_give_36
    (s_Q_give_37 G hg))))))))))))))))))
    (sq_iconst (pc := 6) dX1_give_6 kc_i_0
    (sq_iret rfl (pc := 7) dX1_give_7)))))
theorem m_Q_give (G : GG) (n : Nat) : RS kE G (2 * n + 2) mi_Q_give (r_Q_give n) := by
  induction n with
  | zero => intro as M v M' h; cases h
  | succ n ih =>
    intro as M v M' h
    unfold r_Q_give at h
    split at h
    · exact mc_of (d := 2 * n + 4) ok_Q_give (s_Q_give_0 G ih) (k_c1 _ rfl) (Nat.le_of_ble_eq_true rfl) rfl h
    · cases h
set_option maxHeartbeats 10000000 in
set_option maxRecDepth 20000 in
theorem s_Q_begin_0 (G : GG) : Sq kE G (kF G (44) mi_Q_begin) mi_Q_begin 0 b_Q_begin_0 := by
  unfold b_Q_begin_0
  exact (sq_aload_n (pc := 0) dX1_begin_0 rfl
    (sq_iconst (pc := 1) dX1_begin_1 kc_i_0
    (sq_puti (pc := 2) dX1_begin_2 fl_X1_15 rfl rfl
    (sq_aload_n (pc := 5) dX1_begin_5 rfl
    (sq_iload_n (pc := 6) dX1_begin_6 rfl
    (sq_puti (pc := 7) dX1_begin_7 fl_X1_19 rfl rfl
    (sq_aload_n (pc := 10) dX1_begin_10 rfl
    (sq_aload_n (pc := 11) dX1_begin_11 rfl
    (sq_getr (pc := 12) dX1_begin_12 fl_X1_31 rfl rfl (by decide)
    (sq_iload_n (pc := 15) dX1_begin_15 rfl
    (sq_iald (pc := 16) dX1_begin_16
    (sq_puti (pc := 17) dX1_begin_17 fl_X1_22 rfl rfl
    (sq_aload_n (pc := 20) dX1_begin_20 rfl
    (sq_aload_n (pc := 21) dX1_begin_21 rfl
    (sq_getr (pc := 22) dX1_begin_22 fl_X1_35 rfl rfl (by decide)
    (sq_iload_n (pc := 25) dX1_begin_25 rfl
    (sq_iald (pc := 26) dX1_begin_26
    (sq_puti (pc := 27) dX1_begin_27 fl_X1_25 rfl rfl
    (sq_aload_n (pc := 30) dX1_begin_30 rfl
    (sq_aload_n (pc := 31) dX1_begin_31 rfl
    (sq_getr (pc := 32) dX1_begin_32 fl_X1_37 rfl rfl (by decide)
    (sq_iload_n (pc := 35) dX1_begin_35 rfl
    (sq_iald (pc := 36) dX1_begin_36
    (sq_puti (pc := 37) dX1_begin_37 fl_X1_28 rfl rfl
    (sq_aload_n (pc := 40) dX1_begin_40 rfl
    (sq_iload_n (pc := 41) dX1_begin_41 rfl
    (sq_iconst (pc := 42) dX1_begin_42 kc_i_0
    (sq_callV (d := 44) (d' := (2 * 20 + 3)) (mi' := mi_Q_answer) (pc := 43) dX1_begin_43 ml_X1_39 in_Q_answer se_Q_answer ok_Q_answer ar_Q_answer (by decide) rfl (by decide) (k_ok_kF G (44) mi_Q_begin) (m_Q_answer (j := 20) G (m_Q_give G 20))
    (sq_iret rfl (pc := 46) dX1_begin_46)))))))))))))))))))))))))))))
theorem m_Q_begin (G : GG) : RS kE G 44 mi_Q_begin r_Q_begin := by
  intro as M v M' h
  unfold r_Q_begin at h
  split at h
  · exact mc_of ok_Q_begin (s_Q_begin_0 G) (k_c1 _ rfl) (Nat.le_of_ble_eq_true rfl) rfl h
  · cases h
set_option maxHeartbeats 10000000 in
set_option maxRecDepth 20000 in
theorem s_x_ask_17 (G : GG) : Sq kE G (kF G (45) mi_x_ask) mi_x_ask 17 (b_x_ask_17) := by
  unfold b_x_ask_17
  exact (sq_ldc (pc := 17) dX6_ask_17 ct_X6_65
    (sq_iret rfl (pc := 19) dX6_ask_19))
set_option maxHeartbeats 10000000 in
set_option maxRecDepth 20000 in
theorem s_x_ask_0 (G : GG) : Sq kE G (kF G (45) mi_x_ask) mi_x_ask 0 b_x_ask_0 := by
  unfold b_x_ask_0
  exact (sq_aload_n (pc := 0) dX6_ask_0 rfl
    (sq_iload_n (pc := 1) dX6_ask_1 rfl
    (sq_callV (d := 45) (d' := 0) (mi' := mi_x_noSleeper) (pc := 2) dX6_ask_2 ml_X6_161 in_x_noSleeper se_x_noSleeper ok_x_noSleeper ar_x_noSleeper (by decide) rfl (by decide) (k_ok_kF G (45) mi_x_ask) (m_x_noSleeper G)
    (sq_ifne (pc := 5) dX6_ask_5 (tgt := 17) rfl
    (sq_iload_n (pc := 8) dX6_ask_8 rfl
    (sq_iflt (pc := 9) dX6_ask_9 (tgt := 17) rfl
    (s_x_ask_17 G)
    (sq_iload_n (pc := 12) dX6_ask_12 rfl
    (sq_iconst (pc := 13) dX6_ask_13 kc_i_2
    (sq_clt (pc := 14) dX6_ask_14 (tgt := 20) rfl
    (sq_aload_n (pc := 20) dX6_ask_20 rfl
    (sq_getr (pc := 21) dX6_ask_21 fl_X6_53 rfl rfl (by decide)
    (sq_aload_n (pc := 24) dX6_ask_24 rfl
    (sq_getr (pc := 25) dX6_ask_25 fl_X6_26 rfl rfl (by decide)
    (sq_iload_n (pc := 28) dX6_ask_28 rfl
    (sq_iload_n (pc := 29) dX6_ask_29 rfl
    (sq_callV (d := 45) (d' := 44) (mi' := mi_Q_begin) (pc := 30) dX6_ask_30 ml_X6_274 in_Q_begin se_Q_begin ok_Q_begin ar_Q_begin (by decide) rfl (by decide) (k_ok_kF G (45) mi_x_ask) (m_Q_begin G)
    (sq_iret rfl (pc := 33) dX6_ask_33))))))))
    (s_x_ask_17 G))))))
    (s_x_ask_17 G)))))
theorem m_x_ask (G : GG) : RS kE G 45 mi_x_ask r_x_ask := by
  intro as M v M' h
  unfold r_x_ask at h
  split at h
  · exact mc_of ok_x_ask (s_x_ask_0 G) (k_c1 _ rfl) (Nat.le_of_ble_eq_true rfl) rfl h
  · cases h
