def cgh (a : Sa) (w : Nat) : Sa := fun j => if j = 37 + w ∨ j = 42 + w then 0 else a j
theorem cgh_ne {a : Sa} {w j : Nat} (h1 : j ≠ 37 + w) (h2 : j ≠ 42 + w) : cgh a w j = a j := by
  unfold cgh
  rw [if_neg (by omega)]
theorem cgh_c {a : Sa} {w : Nat} : cgh a w (37 + w) = 0 := by
  unfold cgh
  rw [if_pos (by omega)]
theorem cgh_f {a : Sa} {w : Nat} : cgh a w (42 + w) = 0 := by
  unfold cgh
  rw [if_pos (by omega)]
theorem cgh_le {a : Sa} {w j m : Nat} (h : a j ≤ m) : cgh a w j ≤ m := by
  unfold cgh
  split <;> omega
theorem cgh_V {a : Sa} {w : Nat} (h : Va a) (hw : w < 5) : Va (cgh a w) := by
  obtain ⟨⟨y1, y2, y3, y4⟩, y5, y6⟩ := h
  refine ⟨⟨?_, fun i hi => ?_, fun i j hi hj => ?_, fun s hs => ?_⟩, ?_, ?_⟩
  · rw [cgh_ne (by omega) (by omega), cgh_ne (by omega) (by omega), cgh_ne (by omega) (by omega)]; exact y1
  · rw [cgh_ne (by omega) (by omega)] at hi
    rw [cgh_ne (by omega) (by omega), cgh_ne (by omega) (by omega), cgh_ne (by omega) (by omega), cgh_ne (by omega) (by omega)]
    exact y2 i hi
  · rw [cgh_ne (by omega) (by omega)] at hi hj
    rw [cgh_ne (by omega) (by omega), cgh_ne (by omega) (by omega)]
    exact y3 i j hi hj
  · rw [cgh_ne (by omega) (by omega)] at hs
    rw [cgh_ne (j := 22 + s) (by omega) (by omega), cgh_ne (j := 27 + s) (by omega) (by omega), cgh_ne (j := 32 + s) (by omega) (by omega)]
    obtain ⟨z1, z2, z3, z4, z5⟩ := y4 s hs
    exact ⟨z1, z2, z3, cgh_le z4, cgh_le z5⟩
  · rw [cgh_ne (by omega) (by omega)]; exact y5
  · rw [cgh_ne (by omega) (by omega), cgh_ne (by omega) (by omega), cgh_ne (by omega) (by omega), cgh_ne (by omega) (by omega)]; exact y6
theorem cgh_ob {a : Sa} {w : Nat} (h : Va a) (hw : w < a 3) : ob (cgh a w) (a 3) = clrb (ob a (a 3)) w := by
  have hb := h.1.1
  have hf : ∀ s, s < a 3 → a (42 + s) ≤ 1 := fun s hs => (h.1.2.2.2 s hs).2.2.2.2
  have hol := ob_lt (a := a) (a 3) hf
  have ho32 := Nat.lt_of_lt_of_le hol (pow5 _ hb.2.1)
  refine (ob_of hb.2.1 (clrb_lt hol) (fun s hs => ?_)).symm
  rw [clrb_bt _ ho32 w (by omega) s (by omega)]
  by_cases e : s = w
  · rw [if_pos e, e, cgh_f]
  · rw [if_neg e, cgh_ne (by omega) (by omega), ob_bt _ hb.2.1 hf s hs]
theorem op_cough (w : Int32) (I : Mi) (h : Rl I) : OpT r_x_cough r_m_cough [.int w] I := by
  obtain ⟨a, n, nx, hQ, hA, h0, h1⟩ := h.2.2.2.2.2
  obtain ⟨⟨f0, f1, f2, f3, f4⟩, fr, fs⟩ := RQ_f hQ
  obtain ⟨H, rc, rm, rv⟩ := RA_split hA
  have hb := hQ.1.1.1
  have m3 := RQ_m hQ (j := 3) (by omega)
  have ho := fun x J hJ => c_noSleeper x (a 3) J hb.2.1 hJ
  have hs := fun x J hJ => s_isOne x (a 3) J hb.2.1 hJ
  rcases in_or w (a 3) (by omega) with ⟨w, hw, rfl⟩ | hw
  · obtain ⟨K1, k1, k2, k3⟩ := c_keep n nx a H I hQ.1.1 f2 f3 f4 (fun i hi => (fr i hi).2.2) (fun s hs => (fs s hs).2.2.2) rc rv
    have hol := ob_lt (a := a) (a 3) (fun s hs => (hQ.1.1.2.2.2 s hs).2.2.2.2)
    have ho32 := Nat.lt_of_lt_of_le hol (pow5 _ hb.2.1)
    have e1 : K1 14 w = nI (a (37 + w)) := by rw [k3 14 (by omega)]; exact (fs w hw).2.2.2
    have c1 := c_startAnew 7 w K1 (Or.inl rfl) (by omega)
    have c2 := c_wake 7 w (ob a (a 3)) (k_mu K1 14 w (nI 0)) (Or.inl rfl) (by omega) ho32 (by rw [k_mu_ne (by omega), k3 7 (by omega)]; exact f4)
    have j1 : ∀ k, k < 7 ∨ 15 ≤ k → k_mu (k_mu K1 14 w (nI 0)) 7 4 (nI (clrb (ob a (a 3)) w)) k = K1 k := fun k z => by rw [k_mu_ne (by omega), k_mu_ne (by omega)]
    have jv : ∀ c j, c < 31 → k_mu (k_mu K1 14 w (nI 0)) 7 4 (nI (clrb (ob a (a 3)) w)) c j = if c = 7 ∧ j = 4 then nI (clrb (ob a (a 3)) w) else if c = 14 ∧ j = w then nI 0 else I c j := fun c j z => by rw [mu_get, mu_get, k3 c (by omega)]
    generalize eJ : k_mu (k_mu K1 14 w (nI 0)) 7 4 (nI (clrb (ob a (a 3)) w)) = J1 at c2 j1 jv
    have e54 : J1 54 = I 54 := by rw [j1 54 (by omega), k3 54 (by omega)]
    obtain ⟨K2, q1, q2, q3, q4⟩ := s_note n a H J1 hA.1.1 (MR_c e54 hQ.2.2) (RAm_c (by rw [j1 59 (by omega), k3 59 (by omega)]) (by rw [j1 49 (by omega), k3 49 (by omega)]) rm)
    have e2 : K2 54 = I 54 := by rw [q3 54 (by omega) (by omega), e54]
    have e3 : K2 54 (37 + w) = nI (a (37 + w)) := by rw [e2]; exact RQ_m hQ (by omega)
    have hs1 := hs (nI w) J1 (by rw [e54]; exact m3)
    refine ⟨nI (a (37 + w)), J1, k_mu (k_mu K2 54 (37 + w) (nI 0)) 54 (42 + w) (nI 0), ?_, ?_, ?_⟩
    · simp (disch := omega) only [b_x_cough_0, r_x_cough, o_const, o_lconst, o_iload, o_lload, o_aload, o_istore, o_astore, o_lstore, o_iinc, o_bin, o_div, o_un, o_add, o_sub, o_mul, o_and, o_or, o_xor, o_shl, o_shr, o_ushr, o_idiv, o_irem, o_neg, o_i2b, o_i2s, o_i2l, o_lor, o_lshl, o_lcmp, o_dup, o_dup_x1, o_dup2, o_ifeq, o_iflt, o_ifge, o_ifgt, o_ifle, o_ceq, o_clt, o_cge, o_cgt, o_cle, o_sw, k_pick, o_ret, o_iret, o_zret, o_lret, o_aret, o_call, o_callV, k_pop, k_push, o_geti, o_getr, o_puti, o_putz, o_iald, o_iast, o_zald, o_zast, o_alen, o_copy, o_gets, o_sald, o_salen, o_min, k_sto, k_sto2, List.getElem?_cons_zero, List.getElem?_cons_succ, List.set_cons_zero, List.set_cons_succ, List.length_cons, List.length_nil, ite_true, ite_false, ↓reduceIte, true_and, and_true, and_self, or_true, true_or, or_false, false_or, or_self, eq_self, Nat.reduceLeDiff, Nat.reduceAdd, Nat.reduceSub, Nat.reduceLT, Nat.reduceEqDiff, Nat.zero_add, Nat.add_zero, Nat.le_refl, Nat.zero_le, Bool.false_eq_true, Int.reduceLE, Int.reduceLT, Int.reduceNeg, Int.natCast_nonneg, List.length_cons, not_true_eq_false, not_false_eq_true, false_and, and_false, gt_iff_lt, ge_iff_le, k_sh0, k_sh1, k_sh2, k_sh3, k_sh4, k_sh5, k_sh6, k_sh7, k_sh8, k_sh9, k_sh10, k_sh11, k_sh12, k_sh13, k_sh14, k_sh15, k_sh16, k_sh17, k_sh18, k_sh19, k_sh20, k_sh21, k_sh22, k_sh23, k_sh24, k_sh25, k_sh26, k_sh27, k_sh28, k_sh29, k_sh30, k_sh31, k_sh32, k_sh33, k_sh34, k_sh35, k_sh36, k_sh37, k_sh38, k_sh39, k_sh40, k_sh41, k_sh42, k_sh43, k_sh44, k_sh45, k_sh46, k_sh47, k_sh48, k_sh49, k_sh50, k_sh51, k_sh52, k_sh53, k_sh54, k_sh55, k_sh56, k_sh57, k_sh58, k_sh59, k_sh60, k_sh61, k_sh62, k_sh63, k_sh64, l_0, l_1, l_2, l_3, l_4, l_5, l_6, l_7, l_8, l_9, l_10, l_11, l_12, l_13, l_14, l_16, l_20, l_21, l_22, l_23, l_24, l_27, l_31, l_32, l_37, l_40, l_42, l_44, l_47, l_48, l_57, l_59, l_60, l_63, l_64, l_94, l_97, l_99, l_100, l_102, l_105, l_106, l_108, l_110, l_112, l_113, l_116, l_120, l_122, l_128, l_144, l_255, l_320, l_720, l_1000, l_1081, l_1128, l_9999, nI_add, pk_mul, k_nor, e_I, lt_I, le_I, nI_toInt, sub_I, inb_I, nI_clamp, bI_t0, bI_t1, bI_or, decide_eq_true_eq, decide_eq_false_iff_not, tn_1, tn_2, tn_3, tm_1, tm_2, tm_3, tm_1000000, tm_1000001, tm_1000002, tm_1000003, tm_1000010, tm_1000100, Int.cast_ofNat_Int, ho _ _ f1, k1, e1, c1, c2, tlt, flt, tle, fle, teq, feq, tltN, fltN, tleN, fleN, teqN, feqN]
    · simp (disch := omega) only [b_m_cough_0, r_m_cough, o_const, o_lconst, o_iload, o_lload, o_aload, o_istore, o_astore, o_lstore, o_iinc, o_bin, o_div, o_un, o_add, o_sub, o_mul, o_and, o_or, o_xor, o_shl, o_shr, o_ushr, o_idiv, o_irem, o_neg, o_i2b, o_i2s, o_i2l, o_lor, o_lshl, o_lcmp, o_dup, o_dup_x1, o_dup2, o_ifeq, o_iflt, o_ifge, o_ifgt, o_ifle, o_ceq, o_clt, o_cge, o_cgt, o_cle, o_sw, k_pick, o_ret, o_iret, o_zret, o_lret, o_aret, o_call, o_callV, k_pop, k_push, o_geti, o_getr, o_puti, o_putz, o_iald, o_iast, o_zald, o_zast, o_alen, o_copy, o_gets, o_sald, o_salen, o_min, k_sto, k_sto2, List.getElem?_cons_zero, List.getElem?_cons_succ, List.set_cons_zero, List.set_cons_succ, List.length_cons, List.length_nil, ite_true, ite_false, ↓reduceIte, true_and, and_true, and_self, or_true, true_or, or_false, false_or, or_self, eq_self, Nat.reduceLeDiff, Nat.reduceAdd, Nat.reduceSub, Nat.reduceLT, Nat.reduceEqDiff, Nat.zero_add, Nat.add_zero, Nat.le_refl, Nat.zero_le, Bool.false_eq_true, Int.reduceLE, Int.reduceLT, Int.reduceNeg, Int.natCast_nonneg, List.length_cons, not_true_eq_false, not_false_eq_true, false_and, and_false, gt_iff_lt, ge_iff_le, k_sh0, k_sh1, k_sh2, k_sh3, k_sh4, k_sh5, k_sh6, k_sh7, k_sh8, k_sh9, k_sh10, k_sh11, k_sh12, k_sh13, k_sh14, k_sh15, k_sh16, k_sh17, k_sh18, k_sh19, k_sh20, k_sh21, k_sh22, k_sh23, k_sh24, k_sh25, k_sh26, k_sh27, k_sh28, k_sh29, k_sh30, k_sh31, k_sh32, k_sh33, k_sh34, k_sh35, k_sh36, k_sh37, k_sh38, k_sh39, k_sh40, k_sh41, k_sh42, k_sh43, k_sh44, k_sh45, k_sh46, k_sh47, k_sh48, k_sh49, k_sh50, k_sh51, k_sh52, k_sh53, k_sh54, k_sh55, k_sh56, k_sh57, k_sh58, k_sh59, k_sh60, k_sh61, k_sh62, k_sh63, k_sh64, l_0, l_1, l_2, l_3, l_4, l_5, l_6, l_7, l_8, l_9, l_10, l_11, l_12, l_13, l_14, l_16, l_20, l_21, l_22, l_23, l_24, l_27, l_31, l_32, l_37, l_40, l_42, l_44, l_47, l_48, l_57, l_59, l_60, l_63, l_64, l_94, l_97, l_99, l_100, l_102, l_105, l_106, l_108, l_110, l_112, l_113, l_116, l_120, l_122, l_128, l_144, l_255, l_320, l_720, l_1000, l_1081, l_1128, l_9999, nI_add, pk_mul, k_nor, e_I, lt_I, le_I, nI_toInt, sub_I, inb_I, nI_clamp, bI_t0, bI_t1, bI_or, decide_eq_true_eq, decide_eq_false_iff_not, tn_1, tn_2, tn_3, tm_1, tm_2, tm_3, tm_1000000, tm_1000001, tm_1000002, tm_1000003, tm_1000010, tm_1000100, Int.cast_ofNat_Int, hs1, q1, e3, tlt, flt, tle, fle, teq, feq, tltN, fltN, tleN, fleN, teqN, feqN]
    · have n2 : cgh a w 2 = a 2 := cgh_ne (by omega) (by omega)
      have n3 : cgh a w 3 = a 3 := cgh_ne (by omega) (by omega)
      refine Rl_act2 (a' := cgh a w) h hQ hA.1.1 rv h0 h1 k2 k3 j1 q2 q3 q4 (fun k z => by rw [k_mu_ne z, k_mu_ne z]) (cgh_V hQ.1 (by omega)) (mkCT (cgh_V hQ.1 (by omega)).1 ⟨?_, ?_, ?_, ?_, ?_⟩ (fun i hi => ?_) (fun s hs => ?_)) (fun j hj => ?_) n2 n3 (fun t z1 z2 => cgh_ne (by omega) (by omega))
      · rw [jv 7 0 (by omega), if_neg (by omega), if_neg (by omega), n2]; exact f0
      · rw [jv 7 1 (by omega), if_neg (by omega), if_neg (by omega), n3]; exact f1
      · rw [jv 7 2 (by omega), if_neg (by omega), if_neg (by omega), cgh_ne (by omega) (by omega)]; exact f2
      · rw [jv 7 3 (by omega), if_neg (by omega), if_neg (by omega), cgh_ne (by omega) (by omega)]; exact f3
      · rw [jv 7 4 (by omega), if_pos ⟨rfl, rfl⟩, n3, cgh_ob hQ.1 hw]
      · rw [n2] at hi
        rw [jv _ _ (by omega), jv _ _ (by omega), jv _ _ (by omega), if_neg (by omega), if_neg (by omega), if_neg (by omega), if_neg (by omega), if_neg (by omega), if_neg (by omega), cgh_ne (by omega) (by omega), cgh_ne (by omega) (by omega), cgh_ne (by omega) (by omega)]
        exact fr i hi
      · rw [n3] at hs
        obtain ⟨x1, x2, x3, x4⟩ := fs s hs
        refine ⟨?_, ?_, ?_, ?_⟩
        · rw [jv _ _ (by omega), if_neg (by omega), if_neg (by omega), cgh_ne (by omega) (by omega)]; exact x1
        · rw [jv _ _ (by omega), if_neg (by omega), if_neg (by omega), cgh_ne (by omega) (by omega)]; exact x2
        · rw [jv _ _ (by omega), if_neg (by omega), if_neg (by omega), cgh_ne (by omega) (by omega)]; exact x3
        · rw [jv _ _ (by omega), if_neg (by omega)]
          by_cases e : s = w
          · rw [if_pos ⟨rfl, e⟩, e, cgh_c]
          · rw [if_neg (by omega), cgh_ne (by omega) (by omega)]; exact x4
      · rw [mu_get, mu_get, Nat.zero_add]
        by_cases g1 : j = 42 + w
        · rw [if_pos ⟨rfl, g1⟩, g1, cgh_f]
        · rw [if_neg (by omega)]
          by_cases g2 : j = 37 + w
          · rw [if_pos ⟨rfl, g2⟩, g2, cgh_c]
          · rw [if_neg (by omega), cgh_ne g2 g1, e2]; exact RQ_m hQ hj
  · refine ⟨-1000001, I, I, ?_, ?_, h⟩
    · simp (disch := omega) only [b_x_cough_0, r_x_cough, o_const, o_lconst, o_iload, o_lload, o_aload, o_istore, o_astore, o_lstore, o_iinc, o_bin, o_div, o_un, o_add, o_sub, o_mul, o_and, o_or, o_xor, o_shl, o_shr, o_ushr, o_idiv, o_irem, o_neg, o_i2b, o_i2s, o_i2l, o_lor, o_lshl, o_lcmp, o_dup, o_dup_x1, o_dup2, o_ifeq, o_iflt, o_ifge, o_ifgt, o_ifle, o_ceq, o_clt, o_cge, o_cgt, o_cle, o_sw, k_pick, o_ret, o_iret, o_zret, o_lret, o_aret, o_call, o_callV, k_pop, k_push, o_geti, o_getr, o_puti, o_putz, o_iald, o_iast, o_zald, o_zast, o_alen, o_copy, o_gets, o_sald, o_salen, o_min, k_sto, k_sto2, List.getElem?_cons_zero, List.getElem?_cons_succ, List.set_cons_zero, List.set_cons_succ, List.length_cons, List.length_nil, ite_true, ite_false, ↓reduceIte, true_and, and_true, and_self, or_true, true_or, or_false, false_or, or_self, eq_self, Nat.reduceLeDiff, Nat.reduceAdd, Nat.reduceSub, Nat.reduceLT, Nat.reduceEqDiff, Nat.zero_add, Nat.add_zero, Nat.le_refl, Nat.zero_le, Bool.false_eq_true, Int.reduceLE, Int.reduceLT, Int.reduceNeg, Int.natCast_nonneg, List.length_cons, not_true_eq_false, not_false_eq_true, false_and, and_false, gt_iff_lt, ge_iff_le, k_sh0, k_sh1, k_sh2, k_sh3, k_sh4, k_sh5, k_sh6, k_sh7, k_sh8, k_sh9, k_sh10, k_sh11, k_sh12, k_sh13, k_sh14, k_sh15, k_sh16, k_sh17, k_sh18, k_sh19, k_sh20, k_sh21, k_sh22, k_sh23, k_sh24, k_sh25, k_sh26, k_sh27, k_sh28, k_sh29, k_sh30, k_sh31, k_sh32, k_sh33, k_sh34, k_sh35, k_sh36, k_sh37, k_sh38, k_sh39, k_sh40, k_sh41, k_sh42, k_sh43, k_sh44, k_sh45, k_sh46, k_sh47, k_sh48, k_sh49, k_sh50, k_sh51, k_sh52, k_sh53, k_sh54, k_sh55, k_sh56, k_sh57, k_sh58, k_sh59, k_sh60, k_sh61, k_sh62, k_sh63, k_sh64, l_0, l_1, l_2, l_3, l_4, l_5, l_6, l_7, l_8, l_9, l_10, l_11, l_12, l_13, l_14, l_16, l_20, l_21, l_22, l_23, l_24, l_27, l_31, l_32, l_37, l_40, l_42, l_44, l_47, l_48, l_57, l_59, l_60, l_63, l_64, l_94, l_97, l_99, l_100, l_102, l_105, l_106, l_108, l_110, l_112, l_113, l_116, l_120, l_122, l_128, l_144, l_255, l_320, l_720, l_1000, l_1081, l_1128, l_9999, nI_add, pk_mul, k_nor, e_I, lt_I, le_I, nI_toInt, sub_I, inb_I, nI_clamp, bI_t0, bI_t1, bI_or, decide_eq_true_eq, decide_eq_false_iff_not, tn_1, tn_2, tn_3, tm_1, tm_2, tm_3, tm_1000000, tm_1000001, tm_1000002, tm_1000003, tm_1000010, tm_1000100, Int.cast_ofNat_Int, ho _ _ f1, tlt, flt, tle, fle, teq, feq, tltN, fltN, tleN, fleN, teqN, feqN]
      repeat' split
      all_goals first | rfl | (exfalso; omega)
    · simp (disch := omega) only [b_m_cough_0, r_m_cough, o_const, o_lconst, o_iload, o_lload, o_aload, o_istore, o_astore, o_lstore, o_iinc, o_bin, o_div, o_un, o_add, o_sub, o_mul, o_and, o_or, o_xor, o_shl, o_shr, o_ushr, o_idiv, o_irem, o_neg, o_i2b, o_i2s, o_i2l, o_lor, o_lshl, o_lcmp, o_dup, o_dup_x1, o_dup2, o_ifeq, o_iflt, o_ifge, o_ifgt, o_ifle, o_ceq, o_clt, o_cge, o_cgt, o_cle, o_sw, k_pick, o_ret, o_iret, o_zret, o_lret, o_aret, o_call, o_callV, k_pop, k_push, o_geti, o_getr, o_puti, o_putz, o_iald, o_iast, o_zald, o_zast, o_alen, o_copy, o_gets, o_sald, o_salen, o_min, k_sto, k_sto2, List.getElem?_cons_zero, List.getElem?_cons_succ, List.set_cons_zero, List.set_cons_succ, List.length_cons, List.length_nil, ite_true, ite_false, ↓reduceIte, true_and, and_true, and_self, or_true, true_or, or_false, false_or, or_self, eq_self, Nat.reduceLeDiff, Nat.reduceAdd, Nat.reduceSub, Nat.reduceLT, Nat.reduceEqDiff, Nat.zero_add, Nat.add_zero, Nat.le_refl, Nat.zero_le, Bool.false_eq_true, Int.reduceLE, Int.reduceLT, Int.reduceNeg, Int.natCast_nonneg, List.length_cons, not_true_eq_false, not_false_eq_true, false_and, and_false, gt_iff_lt, ge_iff_le, k_sh0, k_sh1, k_sh2, k_sh3, k_sh4, k_sh5, k_sh6, k_sh7, k_sh8, k_sh9, k_sh10, k_sh11, k_sh12, k_sh13, k_sh14, k_sh15, k_sh16, k_sh17, k_sh18, k_sh19, k_sh20, k_sh21, k_sh22, k_sh23, k_sh24, k_sh25, k_sh26, k_sh27, k_sh28, k_sh29, k_sh30, k_sh31, k_sh32, k_sh33, k_sh34, k_sh35, k_sh36, k_sh37, k_sh38, k_sh39, k_sh40, k_sh41, k_sh42, k_sh43, k_sh44, k_sh45, k_sh46, k_sh47, k_sh48, k_sh49, k_sh50, k_sh51, k_sh52, k_sh53, k_sh54, k_sh55, k_sh56, k_sh57, k_sh58, k_sh59, k_sh60, k_sh61, k_sh62, k_sh63, k_sh64, l_0, l_1, l_2, l_3, l_4, l_5, l_6, l_7, l_8, l_9, l_10, l_11, l_12, l_13, l_14, l_16, l_20, l_21, l_22, l_23, l_24, l_27, l_31, l_32, l_37, l_40, l_42, l_44, l_47, l_48, l_57, l_59, l_60, l_63, l_64, l_94, l_97, l_99, l_100, l_102, l_105, l_106, l_108, l_110, l_112, l_113, l_116, l_120, l_122, l_128, l_144, l_255, l_320, l_720, l_1000, l_1081, l_1128, l_9999, nI_add, pk_mul, k_nor, e_I, lt_I, le_I, nI_toInt, sub_I, inb_I, nI_clamp, bI_t0, bI_t1, bI_or, decide_eq_true_eq, decide_eq_false_iff_not, tn_1, tn_2, tn_3, tm_1, tm_2, tm_3, tm_1000000, tm_1000001, tm_1000002, tm_1000003, tm_1000010, tm_1000100, Int.cast_ofNat_Int, hs _ _ m3, tlt, flt, tle, fle, teq, feq, tltN, fltN, tleN, fleN, teqN, feqN]
      repeat' split
      all_goals first | rfl | (exfalso; omega)
