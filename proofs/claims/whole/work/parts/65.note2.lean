theorem s_note_lt (n : Nat) (a : Sa) (h : Nat → Sa) (I : Mi) (hn : n < 24) (hM : MR I 54 0 a) (hA : RAm I h n) : ∃ J, r_m_note [.ref 49] I = some (.null, J) ∧ RAm J (ph a h) (n24 n) ∧ (∀ k, k ≠ 59 → k ≠ 49 → J k = I k) ∧ (∀ j, j ≠ 18 → J 49 j = I 49 j) := by
  obtain ⟨e0, he⟩ := hA
  have h24 : n ≠ 24 := by omega
  have en : n24 n = n + 1 := by rw [n24, if_neg h24]
  rw [en]
  have hl := s_lay 54 59 0 (47 * n) 47 1128 I rfl rfl (by omega) (by omega) (by omega) (by omega) (by omega)
  refine ⟨k_mu (k_mc I 54 59 0 (47 * n) 47) 49 18 (nI (n + 1)), ?_, ⟨?_, fun j hj => ?_⟩, fun k z1 z2 => ?_, fun j hj => ?_⟩
  · simp (disch := omega) only [b_m_note_49, b_m_note_0, r_m_note, o_const, o_lconst, o_iload, o_lload, o_aload, o_istore, o_astore, o_lstore, o_iinc, o_bin, o_div, o_un, o_add, o_sub, o_mul, o_and, o_or, o_xor, o_shl, o_shr, o_ushr, o_idiv, o_irem, o_neg, o_i2b, o_i2s, o_i2l, o_lor, o_lshl, o_lcmp, o_dup, o_dup_x1, o_dup2, o_ifeq, o_iflt, o_ifge, o_ifgt, o_ifle, o_ceq, o_clt, o_cge, o_cgt, o_cle, o_sw, k_pick, o_ret, o_iret, o_zret, o_lret, o_aret, o_call, o_callV, k_pop, k_push, o_geti, o_getr, o_puti, o_putz, o_iald, o_iast, o_zald, o_zast, o_alen, o_copy, o_gets, o_sald, o_salen, o_min, k_sto, k_sto2, List.getElem?_cons_zero, List.getElem?_cons_succ, List.set_cons_zero, List.set_cons_succ, List.length_cons, List.length_nil, ite_true, ite_false, ↓reduceIte, true_and, and_true, and_self, or_true, true_or, or_false, false_or, or_self, eq_self, Nat.reduceLeDiff, Nat.reduceAdd, Nat.reduceSub, Nat.reduceLT, Nat.reduceEqDiff, Nat.zero_add, Nat.add_zero, Nat.le_refl, Nat.zero_le, Bool.false_eq_true, Int.reduceLE, Int.reduceLT, Int.reduceNeg, Int.natCast_nonneg, List.length_cons, not_true_eq_false, not_false_eq_true, false_and, and_false, gt_iff_lt, ge_iff_le, k_sh0, k_sh1, k_sh2, k_sh3, k_sh4, k_sh5, k_sh6, k_sh7, k_sh8, k_sh9, k_sh10, k_sh11, k_sh12, k_sh13, k_sh14, k_sh15, k_sh16, k_sh17, k_sh18, k_sh19, k_sh20, k_sh21, k_sh22, k_sh23, k_sh24, k_sh25, k_sh26, k_sh27, k_sh28, k_sh29, k_sh30, k_sh31, k_sh32, k_sh33, k_sh34, k_sh35, k_sh36, k_sh37, k_sh38, k_sh39, k_sh40, k_sh41, k_sh42, k_sh43, k_sh44, k_sh45, k_sh46, k_sh47, k_sh48, k_sh49, k_sh50, k_sh51, k_sh52, k_sh53, k_sh54, k_sh55, k_sh56, k_sh57, k_sh58, k_sh59, k_sh60, k_sh61, k_sh62, k_sh63, k_sh64, l_0, l_1, l_2, l_3, l_4, l_5, l_6, l_7, l_8, l_9, l_10, l_11, l_12, l_13, l_14, l_16, l_20, l_21, l_22, l_23, l_24, l_27, l_31, l_32, l_37, l_40, l_42, l_44, l_47, l_48, l_57, l_59, l_60, l_63, l_64, l_94, l_97, l_99, l_100, l_102, l_105, l_106, l_108, l_110, l_112, l_113, l_116, l_120, l_122, l_128, l_144, l_255, l_320, l_720, l_1000, l_1081, l_1128, l_9999, nI_add, pk_mul, k_nor, e_I, lt_I, le_I, nI_toInt, sub_I, inb_I, nI_clamp, bI_t0, bI_t1, bI_or, decide_eq_true_eq, decide_eq_false_iff_not, tn_1, tn_2, tn_3, tm_1, tm_2, tm_3, tm_1000000, tm_1000001, tm_1000002, tm_1000003, tm_1000010, tm_1000100, Int.cast_ofNat_Int, mu_get, mc_get, e0, hl, tlt, flt, tle, fle, teq, feq, tltN, fltN, tleN, fleN, teqN, feqN]
  · rw [mu_get, if_pos ⟨rfl, rfl⟩]
  · by_cases h0 : j = 0
    · subst h0
      have hM3 : MR (k_mc I 54 59 0 (47 * n) 47) 59 (47 * n) a := MR_mc hM
      rw [show n + 1 - 1 - 0 = n by omega, show ph a h 0 = a by simp only [ph, if_true]]
      exact MR_c (k_mu_ne (by omega)) hM3
    · intro t ht
      have hx := he (j - 1) (by omega) t ht
      have ep : 47 * (n + 1 - 1 - j) + t = 47 * (n - 1 - (j - 1)) + t := by omega
      rw [k_mu_ne (by omega), mc_get, if_neg (by omega), show ph a h j = h (j - 1) by simp only [ph, h0, if_false], ← hx, ep]
  · rw [k_mu_ne z2, mc_cell _ z1]
  · rw [mu_get, if_neg (by omega), mc_cell _ (by omega)]
theorem s_note_24a (K : Mi) : b_m_note_49 [.ref 49, .int (nI 1081)] [] (k_mu K 49 18 (nI 23)) = some (.null, k_mu (k_mc (k_mu K 49 18 (nI 23)) 54 59 0 1081 47) 49 18 (nI 24)) := by
  have hl := s_lay 54 59 0 1081 47 1128 (k_mu K 49 18 (nI 23)) rfl rfl (by omega) (by omega) (by omega) (by omega) (by omega)
  simp (disch := omega) only [b_m_note_49, o_const, o_lconst, o_iload, o_lload, o_aload, o_istore, o_astore, o_lstore, o_iinc, o_bin, o_div, o_un, o_add, o_sub, o_mul, o_and, o_or, o_xor, o_shl, o_shr, o_ushr, o_idiv, o_irem, o_neg, o_i2b, o_i2s, o_i2l, o_lor, o_lshl, o_lcmp, o_dup, o_dup_x1, o_dup2, o_ifeq, o_iflt, o_ifge, o_ifgt, o_ifle, o_ceq, o_clt, o_cge, o_cgt, o_cle, o_sw, k_pick, o_ret, o_iret, o_zret, o_lret, o_aret, o_call, o_callV, k_pop, k_push, o_geti, o_getr, o_puti, o_putz, o_iald, o_iast, o_zald, o_zast, o_alen, o_copy, o_gets, o_sald, o_salen, o_min, k_sto, k_sto2, List.getElem?_cons_zero, List.getElem?_cons_succ, List.set_cons_zero, List.set_cons_succ, List.length_cons, List.length_nil, ite_true, ite_false, ↓reduceIte, true_and, and_true, and_self, or_true, true_or, or_false, false_or, or_self, eq_self, Nat.reduceLeDiff, Nat.reduceAdd, Nat.reduceSub, Nat.reduceLT, Nat.reduceEqDiff, Nat.zero_add, Nat.add_zero, Nat.le_refl, Nat.zero_le, Bool.false_eq_true, Int.reduceLE, Int.reduceLT, Int.reduceNeg, Int.natCast_nonneg, List.length_cons, not_true_eq_false, not_false_eq_true, false_and, and_false, gt_iff_lt, ge_iff_le, k_sh0, k_sh1, k_sh2, k_sh3, k_sh4, k_sh5, k_sh6, k_sh7, k_sh8, k_sh9, k_sh10, k_sh11, k_sh12, k_sh13, k_sh14, k_sh15, k_sh16, k_sh17, k_sh18, k_sh19, k_sh20, k_sh21, k_sh22, k_sh23, k_sh24, k_sh25, k_sh26, k_sh27, k_sh28, k_sh29, k_sh30, k_sh31, k_sh32, k_sh33, k_sh34, k_sh35, k_sh36, k_sh37, k_sh38, k_sh39, k_sh40, k_sh41, k_sh42, k_sh43, k_sh44, k_sh45, k_sh46, k_sh47, k_sh48, k_sh49, k_sh50, k_sh51, k_sh52, k_sh53, k_sh54, k_sh55, k_sh56, k_sh57, k_sh58, k_sh59, k_sh60, k_sh61, k_sh62, k_sh63, k_sh64, l_0, l_1, l_2, l_3, l_4, l_5, l_6, l_7, l_8, l_9, l_10, l_11, l_12, l_13, l_14, l_16, l_20, l_21, l_22, l_23, l_24, l_27, l_31, l_32, l_37, l_40, l_42, l_44, l_47, l_48, l_57, l_59, l_60, l_63, l_64, l_94, l_97, l_99, l_100, l_102, l_105, l_106, l_108, l_110, l_112, l_113, l_116, l_120, l_122, l_128, l_144, l_255, l_320, l_720, l_1000, l_1081, l_1128, l_9999, nI_add, pk_mul, k_nor, e_I, lt_I, le_I, nI_toInt, sub_I, inb_I, nI_clamp, bI_t0, bI_t1, bI_or, decide_eq_true_eq, decide_eq_false_iff_not, tn_1, tn_2, tn_3, tm_1, tm_2, tm_3, tm_1000000, tm_1000001, tm_1000002, tm_1000003, tm_1000010, tm_1000100, Int.cast_ofNat_Int, mu_get, mc_get, hl, tlt, flt, tle, fle, teq, feq, tltN, fltN, tleN, fleN, teqN, feqN, Nat.reduceMul]
theorem s_note_24b (I : Mi) (fu : Nat) (hfu : 1081 < fu) (e0 : I 49 18 = nI 24) : ∃ K, b_m_note_11 fu [.ref 49, .int (nI 0)] [] I = some (.null, k_mu (k_mc (k_mu K 49 18 (nI 23)) 54 59 0 1081 47) 49 18 (nI 24)) ∧ (∀ k, k ≠ 59 → K k = I k) ∧ (∀ i, K 59 i = if i < 1081 then I 59 (i + 47) else I 59 i) := by
  obtain ⟨K, g1, g2, g3⟩ := s_note_loop (I 59) 1081 fu 0 I (Nat.zero_add _) hfu e0 (fun i => by rw [if_neg (by omega)])
  exact ⟨K, g1.trans (s_note_24a K), g2, g3⟩
theorem s_note_24d (n : Nat) (a : Sa) (h : Nat → Sa) (I K : Mi) (hn : n = 24) (hM : MR I 54 0 a) (hA : RAm I h n) (g2 : ∀ k, k ≠ 59 → K k = I k) (g3 : ∀ i, i < 1081 → K 59 i = I 59 (i + 47)) : RAm (k_mu (k_mc (k_mu K 49 18 (nI 23)) 54 59 0 1081 47) 49 18 (nI 24)) (ph a h) n := by
  obtain ⟨e0, he⟩ := hA
  refine ⟨by rw [mu_get, if_pos ⟨rfl, rfl⟩, hn], fun j hj => ?_⟩
  by_cases h0 : j = 0
  · subst h0
    have hM2 : MR (k_mu K 49 18 (nI 23)) 54 0 a := MR_c (by rw [k_mu_ne (by omega), g2 54 (by omega)]) hM
    have hM3 : MR (k_mc (k_mu K 49 18 (nI 23)) 54 59 0 1081 47) 59 1081 a := MR_mc hM2
    have e1 : 47 * (n - 1 - 0) = 1081 := by omega
    have e2 : ph a h 0 = a := by simp only [ph, if_true]
    rw [e1, e2]
    exact MR_c (k_mu_ne (by omega)) hM3
  · intro t ht
    have hx := he (j - 1) (by omega) t ht
    have ep : 47 * (n - 1 - j) + t + 47 = 47 * (n - 1 - (j - 1)) + t := by omega
    have e2 : ph a h j = h (j - 1) := by simp only [ph, h0, if_false]
    have e3 := g3 (47 * (n - 1 - j) + t) (by omega)
    rw [e2, ← hx, ← ep, ← e3, k_mu_ne (by omega), mc_get, if_neg (by omega), k_mu_ne (by omega)]
theorem s_note_24g (I : Mi) (X Y : Kt Mi) (e0 : I 49 18 = nI 24) : (o_aload 0 (o_geti 7 18 (o_const 24 (o_ceq (o_const 0 (o_istore 1 X)) Y)))) [.ref 49, .null] [] I = X [.ref 49, .int (nI 0)] [] I := by
  simp (disch := omega) only [o_const, o_lconst, o_iload, o_lload, o_aload, o_istore, o_astore, o_lstore, o_iinc, o_bin, o_div, o_un, o_add, o_sub, o_mul, o_and, o_or, o_xor, o_shl, o_shr, o_ushr, o_idiv, o_irem, o_neg, o_i2b, o_i2s, o_i2l, o_lor, o_lshl, o_lcmp, o_dup, o_dup_x1, o_dup2, o_ifeq, o_iflt, o_ifge, o_ifgt, o_ifle, o_ceq, o_clt, o_cge, o_cgt, o_cle, o_sw, k_pick, o_ret, o_iret, o_zret, o_lret, o_aret, o_call, o_callV, k_pop, k_push, o_geti, o_getr, o_puti, o_putz, o_iald, o_iast, o_zald, o_zast, o_alen, o_copy, o_gets, o_sald, o_salen, o_min, k_sto, k_sto2, List.getElem?_cons_zero, List.getElem?_cons_succ, List.set_cons_zero, List.set_cons_succ, List.length_cons, List.length_nil, ite_true, ite_false, ↓reduceIte, true_and, and_true, and_self, or_true, true_or, or_false, false_or, or_self, eq_self, Nat.reduceLeDiff, Nat.reduceAdd, Nat.reduceSub, Nat.reduceLT, Nat.reduceEqDiff, Nat.zero_add, Nat.add_zero, Nat.le_refl, Nat.zero_le, Bool.false_eq_true, Int.reduceLE, Int.reduceLT, Int.reduceNeg, Int.natCast_nonneg, List.length_cons, not_true_eq_false, not_false_eq_true, false_and, and_false, gt_iff_lt, ge_iff_le, k_sh0, k_sh1, k_sh2, k_sh3, k_sh4, k_sh5, k_sh6, k_sh7, k_sh8, k_sh9, k_sh10, k_sh11, k_sh12, k_sh13, k_sh14, k_sh15, k_sh16, k_sh17, k_sh18, k_sh19, k_sh20, k_sh21, k_sh22, k_sh23, k_sh24, k_sh25, k_sh26, k_sh27, k_sh28, k_sh29, k_sh30, k_sh31, k_sh32, k_sh33, k_sh34, k_sh35, k_sh36, k_sh37, k_sh38, k_sh39, k_sh40, k_sh41, k_sh42, k_sh43, k_sh44, k_sh45, k_sh46, k_sh47, k_sh48, k_sh49, k_sh50, k_sh51, k_sh52, k_sh53, k_sh54, k_sh55, k_sh56, k_sh57, k_sh58, k_sh59, k_sh60, k_sh61, k_sh62, k_sh63, k_sh64, l_0, l_1, l_2, l_3, l_4, l_5, l_6, l_7, l_8, l_9, l_10, l_11, l_12, l_13, l_14, l_16, l_20, l_21, l_22, l_23, l_24, l_27, l_31, l_32, l_37, l_40, l_42, l_44, l_47, l_48, l_57, l_59, l_60, l_63, l_64, l_94, l_97, l_99, l_100, l_102, l_105, l_106, l_108, l_110, l_112, l_113, l_116, l_120, l_122, l_128, l_144, l_255, l_320, l_720, l_1000, l_1081, l_1128, l_9999, nI_add, pk_mul, k_nor, e_I, lt_I, le_I, nI_toInt, sub_I, inb_I, nI_clamp, bI_t0, bI_t1, bI_or, decide_eq_true_eq, decide_eq_false_iff_not, tn_1, tn_2, tn_3, tm_1, tm_2, tm_3, tm_1000000, tm_1000001, tm_1000002, tm_1000003, tm_1000010, tm_1000100, Int.cast_ofNat_Int, e0, tlt, flt, tle, fle, teq, feq, tltN, fltN, tleN, fleN, teqN, feqN]
theorem s_note_24c (I : Mi) (e0 : I 49 18 = nI 24) (Z : Option (Value × Mi)) (g : b_m_note_11 k_fu [.ref 49, .int (nI 0)] [] I = Z) : r_m_note [.ref 49] I = Z := by
  have h1 : r_m_note [.ref 49] I = b_m_note_0 [.ref 49, .null] [] I := by rw [r_m_note]
  rw [h1, b_m_note_0, s_note_24g I _ _ e0]
  exact g
theorem s_note_24 (n : Nat) (a : Sa) (h : Nat → Sa) (I : Mi) (hn : n = 24) (hM : MR I 54 0 a) (hA : RAm I h n) : ∃ J, r_m_note [.ref 49] I = some (.null, J) ∧ RAm J (ph a h) (n24 n) ∧ (∀ k, k ≠ 59 → k ≠ 49 → J k = I k) ∧ (∀ j, j ≠ 18 → J 49 j = I 49 j) := by
  have en : n24 n = n := by rw [n24, if_pos hn, hn]
  rw [en]
  have e0 : I 49 18 = nI 24 := by rw [hA.1, hn]
  obtain ⟨K, g1, g2, g3⟩ := s_note_24b I k_fu (Nat.lt_trans (by omega) fu_pos) e0
  refine ⟨_, s_note_24c I e0 _ g1, s_note_24d n a h I K hn hM hA g2 (fun i hi => by rw [g3 i, if_pos hi]), fun k z1 z2 => ?_, fun j hj => ?_⟩
  · rw [k_mu_ne z2, mc_cell _ z1, k_mu_ne z2, g2 k z1]
  · rw [mu_get, if_neg (by omega), mc_cell _ (by omega), mu_get, if_neg (by omega), g2 49 (by omega)]
theorem s_note (n : Nat) (a : Sa) (h : Nat → Sa) (I : Mi) (hn : n ≤ 24) (hM : MR I 54 0 a) (hA : RAm I h n) : ∃ J, r_m_note [.ref 49] I = some (.null, J) ∧ RAm J (ph a h) (n24 n) ∧ (∀ k, k ≠ 59 → k ≠ 49 → J k = I k) ∧ (∀ j, j ≠ 18 → J 49 j = I 49 j) := by
  by_cases h24 : n = 24
  · exact s_note_24 n a h I h24 hM hA
  · exact s_note_lt n a h I (by omega) hM hA
