section Whole
variable (tp : Nat → Nat) (n : Nat)
def sQ : Ps := tk1 tp n (.inl 0) 113
def sL : Ps := tk1 tp n (nm1 tp n (sQ tp n) 0 9) 59
def aZ : Sa := fun j => if j = 1 then pv tp n (sQ tp n) else 0
def bl1 (s : Ps) : Ps := match s with
  | .inl p => if tkc tp n p = 102 then .inl p else .inr (1, p)
  | .inr x => .inr x
def enS (s : Ps) : Ps := match s with
  | .inl p => if tkc tp n p = 300 then .inl p else .inr (1, p)
  | .inr x => .inr x
def pF : Ps × Sa := fk tp n 7 (bl1 tp n (sL tp n)) (aZ tp n)
def pS : Ps × Sa := sk tp n 6 (pF tp n).1 (pF tp n).2
def pE : Ps := enS tp n (pS tp n).1
end Whole
theorem c_clear_loop : ∀ (m fu s : Nat) (I : Mi), s + m = 5 → m < fu → (∀ t, t < s → I 45 t = nI 0) → ∃ J, b_S_clear_27 fu [.ref 38, .int (nI s)] [] I = some (.null, J) ∧ (∀ t, t < 5 → J 45 t = nI 0) ∧ ∀ k, k ≠ 45 → J k = I k := by
  intro m
  induction m with
  | zero =>
    intro fu s I hs hf hI
    obtain ⟨fu, rfl⟩ : ∃ f, fu = f + 1 := ⟨fu - 1, by omega⟩
    obtain rfl : s = 5 := by omega
    refine ⟨I, ?_, hI, fun _ _ => rfl⟩
    simp (disch := omega) only [b_S_clear_27, o_const, o_lconst, o_iload, o_lload, o_aload, o_istore, o_astore, o_lstore, o_iinc, o_bin, o_div, o_un, o_add, o_sub, o_mul, o_and, o_or, o_xor, o_shl, o_shr, o_ushr, o_idiv, o_irem, o_neg, o_i2b, o_i2s, o_i2l, o_lor, o_lshl, o_lcmp, o_dup, o_dup_x1, o_dup2, o_ifeq, o_iflt, o_ifge, o_ifgt, o_ifle, o_ceq, o_clt, o_cge, o_cgt, o_cle, o_sw, k_pick, o_ret, o_iret, o_zret, o_lret, o_aret, o_call, o_callV, k_pop, k_push, o_geti, o_getr, o_puti, o_putz, o_iald, o_iast, o_zald, o_zast, o_alen, o_copy, o_gets, o_sald, o_salen, o_min, k_sto, k_sto2, List.getElem?_cons_zero, List.getElem?_cons_succ, List.set_cons_zero, List.set_cons_succ, List.length_cons, List.length_nil, ite_true, ite_false, ↓reduceIte, true_and, and_true, and_self, or_true, true_or, or_false, false_or, or_self, eq_self, Nat.reduceLeDiff, Nat.reduceAdd, Nat.reduceSub, Nat.reduceLT, Nat.reduceEqDiff, Nat.zero_add, Nat.add_zero, Nat.le_refl, Nat.zero_le, Bool.false_eq_true, Int.reduceLE, Int.reduceLT, Int.reduceNeg, Int.natCast_nonneg, List.length_cons, not_true_eq_false, not_false_eq_true, false_and, and_false, gt_iff_lt, ge_iff_le, k_sh0, k_sh1, k_sh2, k_sh3, k_sh4, k_sh5, k_sh6, k_sh7, k_sh8, k_sh9, k_sh10, k_sh11, k_sh12, k_sh13, k_sh14, k_sh15, k_sh16, k_sh17, k_sh18, k_sh19, k_sh20, k_sh21, k_sh22, k_sh23, k_sh24, k_sh25, k_sh26, k_sh27, k_sh28, k_sh29, k_sh30, k_sh31, k_sh32, k_sh33, k_sh34, k_sh35, k_sh36, k_sh37, k_sh38, k_sh39, k_sh40, k_sh41, k_sh42, k_sh43, k_sh44, k_sh45, k_sh46, k_sh47, k_sh48, k_sh49, k_sh50, k_sh51, k_sh52, k_sh53, k_sh54, k_sh55, k_sh56, k_sh57, k_sh58, k_sh59, k_sh60, k_sh61, k_sh62, k_sh63, k_sh64, l_0, l_1, l_2, l_3, l_4, l_5, l_6, l_7, l_8, l_9, l_10, l_11, l_12, l_13, l_14, l_16, l_20, l_21, l_22, l_23, l_24, l_27, l_31, l_32, l_37, l_40, l_42, l_44, l_47, l_48, l_57, l_59, l_60, l_63, l_64, l_94, l_97, l_99, l_100, l_102, l_105, l_106, l_108, l_110, l_112, l_113, l_116, l_120, l_122, l_128, l_144, l_255, l_320, l_720, l_1000, l_1081, l_1128, l_9999, nI_add, pk_mul, k_nor, e_I, lt_I, le_I, nI_toInt, sub_I, inb_I, nI_clamp, bI_t0, bI_t1, bI_or, decide_eq_true_eq, decide_eq_false_iff_not, tn_1, tn_2, tn_3, tm_1, tm_2, tm_3, tm_1000000, tm_1000001, tm_1000002, tm_1000003, tm_1000010, tm_1000100, Int.cast_ofNat_Int, tlt, flt, tle, fle, teq, feq, tltN, fltN, tleN, fleN, teqN, feqN]
  | succ m ih =>
    intro fu s I hs hf hI
    obtain ⟨fu, rfl⟩ : ∃ f, fu = f + 1 := ⟨fu - 1, by omega⟩
    obtain ⟨J, g1, g2, g3⟩ := ih fu (s + 1) (k_mu I 45 s (nI 0)) (by omega) (by omega) (fun t ht => by
      rw [mu_get]
      by_cases e : t = s
      · rw [if_pos ⟨rfl, e⟩]
      · rw [if_neg (fun z => e z.2)]; exact hI t (by omega))
    refine ⟨J, ?_, g2, fun k z => by rw [g3 k z, mu_cell _ _ z]⟩
    simp (disch := omega) only [b_S_clear_27, o_const, o_lconst, o_iload, o_lload, o_aload, o_istore, o_astore, o_lstore, o_iinc, o_bin, o_div, o_un, o_add, o_sub, o_mul, o_and, o_or, o_xor, o_shl, o_shr, o_ushr, o_idiv, o_irem, o_neg, o_i2b, o_i2s, o_i2l, o_lor, o_lshl, o_lcmp, o_dup, o_dup_x1, o_dup2, o_ifeq, o_iflt, o_ifge, o_ifgt, o_ifle, o_ceq, o_clt, o_cge, o_cgt, o_cle, o_sw, k_pick, o_ret, o_iret, o_zret, o_lret, o_aret, o_call, o_callV, k_pop, k_push, o_geti, o_getr, o_puti, o_putz, o_iald, o_iast, o_zald, o_zast, o_alen, o_copy, o_gets, o_sald, o_salen, o_min, k_sto, k_sto2, List.getElem?_cons_zero, List.getElem?_cons_succ, List.set_cons_zero, List.set_cons_succ, List.length_cons, List.length_nil, ite_true, ite_false, ↓reduceIte, true_and, and_true, and_self, or_true, true_or, or_false, false_or, or_self, eq_self, Nat.reduceLeDiff, Nat.reduceAdd, Nat.reduceSub, Nat.reduceLT, Nat.reduceEqDiff, Nat.zero_add, Nat.add_zero, Nat.le_refl, Nat.zero_le, Bool.false_eq_true, Int.reduceLE, Int.reduceLT, Int.reduceNeg, Int.natCast_nonneg, List.length_cons, not_true_eq_false, not_false_eq_true, false_and, and_false, gt_iff_lt, ge_iff_le, k_sh0, k_sh1, k_sh2, k_sh3, k_sh4, k_sh5, k_sh6, k_sh7, k_sh8, k_sh9, k_sh10, k_sh11, k_sh12, k_sh13, k_sh14, k_sh15, k_sh16, k_sh17, k_sh18, k_sh19, k_sh20, k_sh21, k_sh22, k_sh23, k_sh24, k_sh25, k_sh26, k_sh27, k_sh28, k_sh29, k_sh30, k_sh31, k_sh32, k_sh33, k_sh34, k_sh35, k_sh36, k_sh37, k_sh38, k_sh39, k_sh40, k_sh41, k_sh42, k_sh43, k_sh44, k_sh45, k_sh46, k_sh47, k_sh48, k_sh49, k_sh50, k_sh51, k_sh52, k_sh53, k_sh54, k_sh55, k_sh56, k_sh57, k_sh58, k_sh59, k_sh60, k_sh61, k_sh62, k_sh63, k_sh64, l_0, l_1, l_2, l_3, l_4, l_5, l_6, l_7, l_8, l_9, l_10, l_11, l_12, l_13, l_14, l_16, l_20, l_21, l_22, l_23, l_24, l_27, l_31, l_32, l_37, l_40, l_42, l_44, l_47, l_48, l_57, l_59, l_60, l_63, l_64, l_94, l_97, l_99, l_100, l_102, l_105, l_106, l_108, l_110, l_112, l_113, l_116, l_120, l_122, l_128, l_144, l_255, l_320, l_720, l_1000, l_1081, l_1128, l_9999, nI_add, pk_mul, k_nor, e_I, lt_I, le_I, nI_toInt, sub_I, inb_I, nI_clamp, bI_t0, bI_t1, bI_or, decide_eq_true_eq, decide_eq_false_iff_not, tn_1, tn_2, tn_3, tm_1, tm_2, tm_3, tm_1000000, tm_1000001, tm_1000002, tm_1000003, tm_1000010, tm_1000100, Int.cast_ofNat_Int, tlt, flt, tle, fle, teq, feq, tltN, fltN, tleN, fleN, teqN, feqN, g1]
theorem c_clear (I : Mi) : ∃ J, r_S_clear [.ref 38] I = some (.null, J) ∧ (∀ j, j < 5 → J 38 j = nI 0) ∧ (∀ t, t < 5 → J 45 t = nI 0) ∧ ∀ k, k ≠ 45 → k ≠ 38 → J k = I k := by
  obtain ⟨J, g1, g2, g3⟩ := c_clear_loop 5 k_fu 0 (k_mu (k_mu (k_mu (k_mu (k_mu I 38 0 (nI 0)) 38 1 (nI 0)) 38 2 (nI 0)) 38 3 (nI 0)) 38 4 (nI 0)) (by omega) (by have := fu_pos; omega) (fun t ht => by omega)
  refine ⟨J, ?_, fun j hj => ?_, g2, fun k z1 z2 => by rw [g3 k z1, mu_cell _ _ z2, mu_cell _ _ z2, mu_cell _ _ z2, mu_cell _ _ z2, mu_cell _ _ z2]⟩
  · simp (disch := omega) only [b_S_clear_0, r_S_clear, o_const, o_lconst, o_iload, o_lload, o_aload, o_istore, o_astore, o_lstore, o_iinc, o_bin, o_div, o_un, o_add, o_sub, o_mul, o_and, o_or, o_xor, o_shl, o_shr, o_ushr, o_idiv, o_irem, o_neg, o_i2b, o_i2s, o_i2l, o_lor, o_lshl, o_lcmp, o_dup, o_dup_x1, o_dup2, o_ifeq, o_iflt, o_ifge, o_ifgt, o_ifle, o_ceq, o_clt, o_cge, o_cgt, o_cle, o_sw, k_pick, o_ret, o_iret, o_zret, o_lret, o_aret, o_call, o_callV, k_pop, k_push, o_geti, o_getr, o_puti, o_putz, o_iald, o_iast, o_zald, o_zast, o_alen, o_copy, o_gets, o_sald, o_salen, o_min, k_sto, k_sto2, List.getElem?_cons_zero, List.getElem?_cons_succ, List.set_cons_zero, List.set_cons_succ, List.length_cons, List.length_nil, ite_true, ite_false, ↓reduceIte, true_and, and_true, and_self, or_true, true_or, or_false, false_or, or_self, eq_self, Nat.reduceLeDiff, Nat.reduceAdd, Nat.reduceSub, Nat.reduceLT, Nat.reduceEqDiff, Nat.zero_add, Nat.add_zero, Nat.le_refl, Nat.zero_le, Bool.false_eq_true, Int.reduceLE, Int.reduceLT, Int.reduceNeg, Int.natCast_nonneg, List.length_cons, not_true_eq_false, not_false_eq_true, false_and, and_false, gt_iff_lt, ge_iff_le, k_sh0, k_sh1, k_sh2, k_sh3, k_sh4, k_sh5, k_sh6, k_sh7, k_sh8, k_sh9, k_sh10, k_sh11, k_sh12, k_sh13, k_sh14, k_sh15, k_sh16, k_sh17, k_sh18, k_sh19, k_sh20, k_sh21, k_sh22, k_sh23, k_sh24, k_sh25, k_sh26, k_sh27, k_sh28, k_sh29, k_sh30, k_sh31, k_sh32, k_sh33, k_sh34, k_sh35, k_sh36, k_sh37, k_sh38, k_sh39, k_sh40, k_sh41, k_sh42, k_sh43, k_sh44, k_sh45, k_sh46, k_sh47, k_sh48, k_sh49, k_sh50, k_sh51, k_sh52, k_sh53, k_sh54, k_sh55, k_sh56, k_sh57, k_sh58, k_sh59, k_sh60, k_sh61, k_sh62, k_sh63, k_sh64, l_0, l_1, l_2, l_3, l_4, l_5, l_6, l_7, l_8, l_9, l_10, l_11, l_12, l_13, l_14, l_16, l_20, l_21, l_22, l_23, l_24, l_27, l_31, l_32, l_37, l_40, l_42, l_44, l_47, l_48, l_57, l_59, l_60, l_63, l_64, l_94, l_97, l_99, l_100, l_102, l_105, l_106, l_108, l_110, l_112, l_113, l_116, l_120, l_122, l_128, l_144, l_255, l_320, l_720, l_1000, l_1081, l_1128, l_9999, nI_add, pk_mul, k_nor, e_I, lt_I, le_I, nI_toInt, sub_I, inb_I, nI_clamp, bI_t0, bI_t1, bI_or, decide_eq_true_eq, decide_eq_false_iff_not, tn_1, tn_2, tn_3, tm_1, tm_2, tm_3, tm_1000000, tm_1000001, tm_1000002, tm_1000003, tm_1000010, tm_1000100, Int.cast_ofNat_Int, tlt, flt, tle, fle, teq, feq, tltN, fltN, tleN, fleN, teqN, feqN, g1]
  · rw [g3 38 (by omega)]
    have : j = 0 ∨ j = 1 ∨ j = 2 ∨ j = 3 ∨ j = 4 := by omega
    rcases this with rfl | rfl | rfl | rfl | rfl <;> simp (disch := omega) only [mu_get, tlt, flt, tle, fle, teq, feq, tltN, fltN, tleN, fleN, teqN, feqN, o_const, o_lconst, o_iload, o_lload, o_aload, o_istore, o_astore, o_lstore, o_iinc, o_bin, o_div, o_un, o_add, o_sub, o_mul, o_and, o_or, o_xor, o_shl, o_shr, o_ushr, o_idiv, o_irem, o_neg, o_i2b, o_i2s, o_i2l, o_lor, o_lshl, o_lcmp, o_dup, o_dup_x1, o_dup2, o_ifeq, o_iflt, o_ifge, o_ifgt, o_ifle, o_ceq, o_clt, o_cge, o_cgt, o_cle, o_sw, k_pick, o_ret, o_iret, o_zret, o_lret, o_aret, o_call, o_callV, k_pop, k_push, o_geti, o_getr, o_puti, o_putz, o_iald, o_iast, o_zald, o_zast, o_alen, o_copy, o_gets, o_sald, o_salen, o_min, k_sto, k_sto2, List.getElem?_cons_zero, List.getElem?_cons_succ, List.set_cons_zero, List.set_cons_succ, List.length_cons, List.length_nil, ite_true, ite_false, ↓reduceIte, true_and, and_true, and_self, or_true, true_or, or_false, false_or, or_self, eq_self, Nat.reduceLeDiff, Nat.reduceAdd, Nat.reduceSub, Nat.reduceLT, Nat.reduceEqDiff, Nat.zero_add, Nat.add_zero, Nat.le_refl, Nat.zero_le, Bool.false_eq_true, Int.reduceLE, Int.reduceLT, Int.reduceNeg, Int.natCast_nonneg, List.length_cons, not_true_eq_false, not_false_eq_true, false_and, and_false, gt_iff_lt, ge_iff_le]
section Rd4
variable {tp : Nat → Nat} {n : Nat} {L : Int32}
theorem c_readLaw (I : Mi) (s : Ps) (hn : n ≤ 100) (htp : ∀ i, tp i < 256) (hR : RD tp n L I s) : ∃ K, r_D_readLaw [.ref 5, .ref 38] I = some (.null, K) ∧ RD tp n L K (tk1 tp n (nm1 tp n (tk1 tp n s 113) 0 9) 59) ∧ (∀ p', tk1 tp n (nm1 tp n (tk1 tp n s 113) 0 9) 59 = .inl p' → K 38 3 = nI (pv tp n (tk1 tp n s 113))) ∧ (∀ j, j ≠ 3 → K 38 j = I 38 j) ∧ ∀ k, k ≠ 5 → k ≠ 38 → K k = I k := by
  obtain ⟨J1, a1, a2, a3⟩ := c_take 113 s I hn htp (by omega) hR
  generalize tk1 tp n s 113 = s1 at a2
  obtain ⟨J2, v1, b1, b2, b3, b4⟩ := c_takeNumber 0 9 s1 J1 hn htp (by omega) (by omega) a2
  obtain ⟨J3, d1, d2, d3⟩ := c_take 59 _ (k_mu J2 38 3 v1) hn htp (by omega) (RD_c (s := nm1 tp n s1 0 9) (mu_cell _ _ (by omega)) (mu_cell _ _ (by omega)) b2)
  refine ⟨J3, ?_, d2, fun p' h => ?_, fun j hj => ?_, fun k z1 z2 => ?_⟩
  · simp (disch := omega) only [b_D_readLaw_0, r_D_readLaw, o_const, o_lconst, o_iload, o_lload, o_aload, o_istore, o_astore, o_lstore, o_iinc, o_bin, o_div, o_un, o_add, o_sub, o_mul, o_and, o_or, o_xor, o_shl, o_shr, o_ushr, o_idiv, o_irem, o_neg, o_i2b, o_i2s, o_i2l, o_lor, o_lshl, o_lcmp, o_dup, o_dup_x1, o_dup2, o_ifeq, o_iflt, o_ifge, o_ifgt, o_ifle, o_ceq, o_clt, o_cge, o_cgt, o_cle, o_sw, k_pick, o_ret, o_iret, o_zret, o_lret, o_aret, o_call, o_callV, k_pop, k_push, o_geti, o_getr, o_puti, o_putz, o_iald, o_iast, o_zald, o_zast, o_alen, o_copy, o_gets, o_sald, o_salen, o_min, k_sto, k_sto2, List.getElem?_cons_zero, List.getElem?_cons_succ, List.set_cons_zero, List.set_cons_succ, List.length_cons, List.length_nil, ite_true, ite_false, ↓reduceIte, true_and, and_true, and_self, or_true, true_or, or_false, false_or, or_self, eq_self, Nat.reduceLeDiff, Nat.reduceAdd, Nat.reduceSub, Nat.reduceLT, Nat.reduceEqDiff, Nat.zero_add, Nat.add_zero, Nat.le_refl, Nat.zero_le, Bool.false_eq_true, Int.reduceLE, Int.reduceLT, Int.reduceNeg, Int.natCast_nonneg, List.length_cons, not_true_eq_false, not_false_eq_true, false_and, and_false, gt_iff_lt, ge_iff_le, k_sh0, k_sh1, k_sh2, k_sh3, k_sh4, k_sh5, k_sh6, k_sh7, k_sh8, k_sh9, k_sh10, k_sh11, k_sh12, k_sh13, k_sh14, k_sh15, k_sh16, k_sh17, k_sh18, k_sh19, k_sh20, k_sh21, k_sh22, k_sh23, k_sh24, k_sh25, k_sh26, k_sh27, k_sh28, k_sh29, k_sh30, k_sh31, k_sh32, k_sh33, k_sh34, k_sh35, k_sh36, k_sh37, k_sh38, k_sh39, k_sh40, k_sh41, k_sh42, k_sh43, k_sh44, k_sh45, k_sh46, k_sh47, k_sh48, k_sh49, k_sh50, k_sh51, k_sh52, k_sh53, k_sh54, k_sh55, k_sh56, k_sh57, k_sh58, k_sh59, k_sh60, k_sh61, k_sh62, k_sh63, k_sh64, l_0, l_1, l_2, l_3, l_4, l_5, l_6, l_7, l_8, l_9, l_10, l_11, l_12, l_13, l_14, l_16, l_20, l_21, l_22, l_23, l_24, l_27, l_31, l_32, l_37, l_40, l_42, l_44, l_47, l_48, l_57, l_59, l_60, l_63, l_64, l_94, l_97, l_99, l_100, l_102, l_105, l_106, l_108, l_110, l_112, l_113, l_116, l_120, l_122, l_128, l_144, l_255, l_320, l_720, l_1000, l_1081, l_1128, l_9999, nI_add, pk_mul, k_nor, e_I, lt_I, le_I, nI_toInt, sub_I, inb_I, nI_clamp, bI_t0, bI_t1, bI_or, decide_eq_true_eq, decide_eq_false_iff_not, tn_1, tn_2, tn_3, tm_1, tm_2, tm_3, tm_1000000, tm_1000001, tm_1000002, tm_1000003, tm_1000010, tm_1000100, Int.cast_ofNat_Int, a1, b1, d1, tlt, flt, tle, fle, teq, feq, tltN, fltN, tleN, fleN, teqN, feqN]
  · obtain ⟨p, hp, -⟩ := tk1_l h
    rw [d3 38 (by omega), mu_get, if_pos ⟨rfl, rfl⟩, b3 _ hp]
  · rw [d3 38 (by omega), mu_get, if_neg (fun z => hj z.2), b4 38 (by omega), a3 38 (by omega)]
  · rw [d3 k z1, mu_cell _ _ z2, b4 k z1, a3 k z1]
theorem c_readFlock (I : Mi) (s : Ps) (a : Sa) (hn : n ≤ 100) (htp : ∀ i, tp i < 256) (hR : RD tp n L I s) (hT : ∀ p, s = .inl p → TS I a ∧ a 2 ≤ 6) : ∃ J, r_D_readFlock [.ref 5, .ref 38] I = some (.null, J) ∧ RD tp n L J (fk tp n 7 (bl1 tp n s) a).1 ∧ (∀ p, (fk tp n 7 (bl1 tp n s) a).1 = .inl p → TS J (fk tp n 7 (bl1 tp n s) a).2 ∧ (fk tp n 7 (bl1 tp n s) a).2 2 ≤ 6) ∧ ∀ k, k ≠ 5 → k < 38 ∨ 46 ≤ k → J k = I k := by
  cases s with
  | inr x =>
    have b1 := hR.1
    have eb := c_blame2 1 I b1
    obtain ⟨J, g1, g2, g3, g4⟩ := c_readFlock_loop (tp := tp) (n := n) (L := L) hn htp 7 k_fu 0 I (.inr x) a (by omega) (by have := fu_pos; omega) hR (fun p h => by cases h)
    refine ⟨J, ?_, g2, g3, g4⟩
    by_cases q : (I 5 7).toInt = 102
    · simp (disch := omega) only [b_D_readFlock_70, b_D_readFlock_64, b_D_readFlock_14, b_D_readFlock_0, r_D_readFlock, o_const, o_lconst, o_iload, o_lload, o_aload, o_istore, o_astore, o_lstore, o_iinc, o_bin, o_div, o_un, o_add, o_sub, o_mul, o_and, o_or, o_xor, o_shl, o_shr, o_ushr, o_idiv, o_irem, o_neg, o_i2b, o_i2s, o_i2l, o_lor, o_lshl, o_lcmp, o_dup, o_dup_x1, o_dup2, o_ifeq, o_iflt, o_ifge, o_ifgt, o_ifle, o_ceq, o_clt, o_cge, o_cgt, o_cle, o_sw, k_pick, o_ret, o_iret, o_zret, o_lret, o_aret, o_call, o_callV, k_pop, k_push, o_geti, o_getr, o_puti, o_putz, o_iald, o_iast, o_zald, o_zast, o_alen, o_copy, o_gets, o_sald, o_salen, o_min, k_sto, k_sto2, List.getElem?_cons_zero, List.getElem?_cons_succ, List.set_cons_zero, List.set_cons_succ, List.length_cons, List.length_nil, ite_true, ite_false, ↓reduceIte, true_and, and_true, and_self, or_true, true_or, or_false, false_or, or_self, eq_self, Nat.reduceLeDiff, Nat.reduceAdd, Nat.reduceSub, Nat.reduceLT, Nat.reduceEqDiff, Nat.zero_add, Nat.add_zero, Nat.le_refl, Nat.zero_le, Bool.false_eq_true, Int.reduceLE, Int.reduceLT, Int.reduceNeg, Int.natCast_nonneg, List.length_cons, not_true_eq_false, not_false_eq_true, false_and, and_false, gt_iff_lt, ge_iff_le, k_sh0, k_sh1, k_sh2, k_sh3, k_sh4, k_sh5, k_sh6, k_sh7, k_sh8, k_sh9, k_sh10, k_sh11, k_sh12, k_sh13, k_sh14, k_sh15, k_sh16, k_sh17, k_sh18, k_sh19, k_sh20, k_sh21, k_sh22, k_sh23, k_sh24, k_sh25, k_sh26, k_sh27, k_sh28, k_sh29, k_sh30, k_sh31, k_sh32, k_sh33, k_sh34, k_sh35, k_sh36, k_sh37, k_sh38, k_sh39, k_sh40, k_sh41, k_sh42, k_sh43, k_sh44, k_sh45, k_sh46, k_sh47, k_sh48, k_sh49, k_sh50, k_sh51, k_sh52, k_sh53, k_sh54, k_sh55, k_sh56, k_sh57, k_sh58, k_sh59, k_sh60, k_sh61, k_sh62, k_sh63, k_sh64, l_0, l_1, l_2, l_3, l_4, l_5, l_6, l_7, l_8, l_9, l_10, l_11, l_12, l_13, l_14, l_16, l_20, l_21, l_22, l_23, l_24, l_27, l_31, l_32, l_37, l_40, l_42, l_44, l_47, l_48, l_57, l_59, l_60, l_63, l_64, l_94, l_97, l_99, l_100, l_102, l_105, l_106, l_108, l_110, l_112, l_113, l_116, l_120, l_122, l_128, l_144, l_255, l_320, l_720, l_1000, l_1081, l_1128, l_9999, nI_add, pk_mul, k_nor, e_I, lt_I, le_I, nI_toInt, sub_I, inb_I, nI_clamp, bI_t0, bI_t1, bI_or, decide_eq_true_eq, decide_eq_false_iff_not, tn_1, tn_2, tn_3, tm_1, tm_2, tm_3, tm_1000000, tm_1000001, tm_1000002, tm_1000003, tm_1000010, tm_1000100, Int.cast_ofNat_Int, q, tlt, flt, tle, fle, teq, feq, tltN, fltN, tleN, fleN, teqN, feqN, g1]
    · simp (disch := omega) only [b_D_readFlock_70, b_D_readFlock_64, b_D_readFlock_14, b_D_readFlock_0, r_D_readFlock, o_const, o_lconst, o_iload, o_lload, o_aload, o_istore, o_astore, o_lstore, o_iinc, o_bin, o_div, o_un, o_add, o_sub, o_mul, o_and, o_or, o_xor, o_shl, o_shr, o_ushr, o_idiv, o_irem, o_neg, o_i2b, o_i2s, o_i2l, o_lor, o_lshl, o_lcmp, o_dup, o_dup_x1, o_dup2, o_ifeq, o_iflt, o_ifge, o_ifgt, o_ifle, o_ceq, o_clt, o_cge, o_cgt, o_cle, o_sw, k_pick, o_ret, o_iret, o_zret, o_lret, o_aret, o_call, o_callV, k_pop, k_push, o_geti, o_getr, o_puti, o_putz, o_iald, o_iast, o_zald, o_zast, o_alen, o_copy, o_gets, o_sald, o_salen, o_min, k_sto, k_sto2, List.getElem?_cons_zero, List.getElem?_cons_succ, List.set_cons_zero, List.set_cons_succ, List.length_cons, List.length_nil, ite_true, ite_false, ↓reduceIte, true_and, and_true, and_self, or_true, true_or, or_false, false_or, or_self, eq_self, Nat.reduceLeDiff, Nat.reduceAdd, Nat.reduceSub, Nat.reduceLT, Nat.reduceEqDiff, Nat.zero_add, Nat.add_zero, Nat.le_refl, Nat.zero_le, Bool.false_eq_true, Int.reduceLE, Int.reduceLT, Int.reduceNeg, Int.natCast_nonneg, List.length_cons, not_true_eq_false, not_false_eq_true, false_and, and_false, gt_iff_lt, ge_iff_le, k_sh0, k_sh1, k_sh2, k_sh3, k_sh4, k_sh5, k_sh6, k_sh7, k_sh8, k_sh9, k_sh10, k_sh11, k_sh12, k_sh13, k_sh14, k_sh15, k_sh16, k_sh17, k_sh18, k_sh19, k_sh20, k_sh21, k_sh22, k_sh23, k_sh24, k_sh25, k_sh26, k_sh27, k_sh28, k_sh29, k_sh30, k_sh31, k_sh32, k_sh33, k_sh34, k_sh35, k_sh36, k_sh37, k_sh38, k_sh39, k_sh40, k_sh41, k_sh42, k_sh43, k_sh44, k_sh45, k_sh46, k_sh47, k_sh48, k_sh49, k_sh50, k_sh51, k_sh52, k_sh53, k_sh54, k_sh55, k_sh56, k_sh57, k_sh58, k_sh59, k_sh60, k_sh61, k_sh62, k_sh63, k_sh64, l_0, l_1, l_2, l_3, l_4, l_5, l_6, l_7, l_8, l_9, l_10, l_11, l_12, l_13, l_14, l_16, l_20, l_21, l_22, l_23, l_24, l_27, l_31, l_32, l_37, l_40, l_42, l_44, l_47, l_48, l_57, l_59, l_60, l_63, l_64, l_94, l_97, l_99, l_100, l_102, l_105, l_106, l_108, l_110, l_112, l_113, l_116, l_120, l_122, l_128, l_144, l_255, l_320, l_720, l_1000, l_1081, l_1128, l_9999, nI_add, pk_mul, k_nor, e_I, lt_I, le_I, nI_toInt, sub_I, inb_I, nI_clamp, bI_t0, bI_t1, bI_or, decide_eq_true_eq, decide_eq_false_iff_not, tn_1, tn_2, tn_3, tm_1, tm_2, tm_3, tm_1000000, tm_1000001, tm_1000002, tm_1000003, tm_1000010, tm_1000100, Int.cast_ofNat_Int, q, eb, tlt, flt, tle, fle, teq, feq, tltN, fltN, tleN, fleN, teqN, feqN, g1]
  | inl p =>
    have hG := hR
    obtain ⟨⟨g1, g2, g9⟩, ⟨g3, g4, g5, g6⟩, g7⟩ := hG
    simp only [bl1]
    by_cases q : tkc tp n p = 102
    · rw [if_pos q]
      rw [q, cK_s (by omega)] at g5
      obtain ⟨J, r1, r2, r3, r4⟩ := c_readFlock_loop (tp := tp) (n := n) (L := L) hn htp 7 k_fu 0 I (.inl p) a (by omega) (by have := fu_pos; omega) hR hT
      refine ⟨J, ?_, r2, r3, r4⟩
      simp (disch := omega) only [b_D_readFlock_70, b_D_readFlock_64, b_D_readFlock_14, b_D_readFlock_0, r_D_readFlock, o_const, o_lconst, o_iload, o_lload, o_aload, o_istore, o_astore, o_lstore, o_iinc, o_bin, o_div, o_un, o_add, o_sub, o_mul, o_and, o_or, o_xor, o_shl, o_shr, o_ushr, o_idiv, o_irem, o_neg, o_i2b, o_i2s, o_i2l, o_lor, o_lshl, o_lcmp, o_dup, o_dup_x1, o_dup2, o_ifeq, o_iflt, o_ifge, o_ifgt, o_ifle, o_ceq, o_clt, o_cge, o_cgt, o_cle, o_sw, k_pick, o_ret, o_iret, o_zret, o_lret, o_aret, o_call, o_callV, k_pop, k_push, o_geti, o_getr, o_puti, o_putz, o_iald, o_iast, o_zald, o_zast, o_alen, o_copy, o_gets, o_sald, o_salen, o_min, k_sto, k_sto2, List.getElem?_cons_zero, List.getElem?_cons_succ, List.set_cons_zero, List.set_cons_succ, List.length_cons, List.length_nil, ite_true, ite_false, ↓reduceIte, true_and, and_true, and_self, or_true, true_or, or_false, false_or, or_self, eq_self, Nat.reduceLeDiff, Nat.reduceAdd, Nat.reduceSub, Nat.reduceLT, Nat.reduceEqDiff, Nat.zero_add, Nat.add_zero, Nat.le_refl, Nat.zero_le, Bool.false_eq_true, Int.reduceLE, Int.reduceLT, Int.reduceNeg, Int.natCast_nonneg, List.length_cons, not_true_eq_false, not_false_eq_true, false_and, and_false, gt_iff_lt, ge_iff_le, k_sh0, k_sh1, k_sh2, k_sh3, k_sh4, k_sh5, k_sh6, k_sh7, k_sh8, k_sh9, k_sh10, k_sh11, k_sh12, k_sh13, k_sh14, k_sh15, k_sh16, k_sh17, k_sh18, k_sh19, k_sh20, k_sh21, k_sh22, k_sh23, k_sh24, k_sh25, k_sh26, k_sh27, k_sh28, k_sh29, k_sh30, k_sh31, k_sh32, k_sh33, k_sh34, k_sh35, k_sh36, k_sh37, k_sh38, k_sh39, k_sh40, k_sh41, k_sh42, k_sh43, k_sh44, k_sh45, k_sh46, k_sh47, k_sh48, k_sh49, k_sh50, k_sh51, k_sh52, k_sh53, k_sh54, k_sh55, k_sh56, k_sh57, k_sh58, k_sh59, k_sh60, k_sh61, k_sh62, k_sh63, k_sh64, l_0, l_1, l_2, l_3, l_4, l_5, l_6, l_7, l_8, l_9, l_10, l_11, l_12, l_13, l_14, l_16, l_20, l_21, l_22, l_23, l_24, l_27, l_31, l_32, l_37, l_40, l_42, l_44, l_47, l_48, l_57, l_59, l_60, l_63, l_64, l_94, l_97, l_99, l_100, l_102, l_105, l_106, l_108, l_110, l_112, l_113, l_116, l_120, l_122, l_128, l_144, l_255, l_320, l_720, l_1000, l_1081, l_1128, l_9999, nI_add, pk_mul, k_nor, e_I, lt_I, le_I, nI_toInt, sub_I, inb_I, nI_clamp, bI_t0, bI_t1, bI_or, decide_eq_true_eq, decide_eq_false_iff_not, tn_1, tn_2, tn_3, tm_1, tm_2, tm_3, tm_1000000, tm_1000001, tm_1000002, tm_1000003, tm_1000010, tm_1000100, Int.cast_ofNat_Int, g5, tlt, flt, tle, fle, teq, feq, tltN, fltN, tleN, fleN, teqN, feqN, r1]
    · rw [if_neg q]
      have hne := cK_ne (tkc_b (n := n) htp p) (d := 102) (by omega) q
      rw [← g5] at hne
      have eb := c_blame 1 I g1
      have hB : RD tp n L (k_mu (k_mu (k_mu I 5 4 (nI 1)) 5 2 (nI 1)) 5 3 (I 5 6)) (.inr (1, p)) := BD_bl (n := n) (f := 1) g4 g2
      have hfr : ∀ k, k ≠ 5 → k_mu (k_mu (k_mu I 5 4 (nI 1)) 5 2 (nI 1)) 5 3 (I 5 6) k = I k := fun k z => by rw [mu_cell _ _ z, mu_cell _ _ z, mu_cell _ _ z]
      generalize k_mu (k_mu (k_mu I 5 4 (nI 1)) 5 2 (nI 1)) 5 3 (I 5 6) = K at eb hB hfr
      obtain ⟨J, r1, r2, r3, r4⟩ := c_readFlock_loop (tp := tp) (n := n) (L := L) hn htp 7 k_fu 0 K (.inr (1, p)) a (by omega) (by have := fu_pos; omega) hB (fun p h => by cases h)
      refine ⟨J, ?_, r2, r3, fun k z1 z2 => by rw [r4 k z1 z2, hfr k z1]⟩
      simp (disch := omega) only [b_D_readFlock_70, b_D_readFlock_64, b_D_readFlock_14, b_D_readFlock_0, r_D_readFlock, o_const, o_lconst, o_iload, o_lload, o_aload, o_istore, o_astore, o_lstore, o_iinc, o_bin, o_div, o_un, o_add, o_sub, o_mul, o_and, o_or, o_xor, o_shl, o_shr, o_ushr, o_idiv, o_irem, o_neg, o_i2b, o_i2s, o_i2l, o_lor, o_lshl, o_lcmp, o_dup, o_dup_x1, o_dup2, o_ifeq, o_iflt, o_ifge, o_ifgt, o_ifle, o_ceq, o_clt, o_cge, o_cgt, o_cle, o_sw, k_pick, o_ret, o_iret, o_zret, o_lret, o_aret, o_call, o_callV, k_pop, k_push, o_geti, o_getr, o_puti, o_putz, o_iald, o_iast, o_zald, o_zast, o_alen, o_copy, o_gets, o_sald, o_salen, o_min, k_sto, k_sto2, List.getElem?_cons_zero, List.getElem?_cons_succ, List.set_cons_zero, List.set_cons_succ, List.length_cons, List.length_nil, ite_true, ite_false, ↓reduceIte, true_and, and_true, and_self, or_true, true_or, or_false, false_or, or_self, eq_self, Nat.reduceLeDiff, Nat.reduceAdd, Nat.reduceSub, Nat.reduceLT, Nat.reduceEqDiff, Nat.zero_add, Nat.add_zero, Nat.le_refl, Nat.zero_le, Bool.false_eq_true, Int.reduceLE, Int.reduceLT, Int.reduceNeg, Int.natCast_nonneg, List.length_cons, not_true_eq_false, not_false_eq_true, false_and, and_false, gt_iff_lt, ge_iff_le, k_sh0, k_sh1, k_sh2, k_sh3, k_sh4, k_sh5, k_sh6, k_sh7, k_sh8, k_sh9, k_sh10, k_sh11, k_sh12, k_sh13, k_sh14, k_sh15, k_sh16, k_sh17, k_sh18, k_sh19, k_sh20, k_sh21, k_sh22, k_sh23, k_sh24, k_sh25, k_sh26, k_sh27, k_sh28, k_sh29, k_sh30, k_sh31, k_sh32, k_sh33, k_sh34, k_sh35, k_sh36, k_sh37, k_sh38, k_sh39, k_sh40, k_sh41, k_sh42, k_sh43, k_sh44, k_sh45, k_sh46, k_sh47, k_sh48, k_sh49, k_sh50, k_sh51, k_sh52, k_sh53, k_sh54, k_sh55, k_sh56, k_sh57, k_sh58, k_sh59, k_sh60, k_sh61, k_sh62, k_sh63, k_sh64, l_0, l_1, l_2, l_3, l_4, l_5, l_6, l_7, l_8, l_9, l_10, l_11, l_12, l_13, l_14, l_16, l_20, l_21, l_22, l_23, l_24, l_27, l_31, l_32, l_37, l_40, l_42, l_44, l_47, l_48, l_57, l_59, l_60, l_63, l_64, l_94, l_97, l_99, l_100, l_102, l_105, l_106, l_108, l_110, l_112, l_113, l_116, l_120, l_122, l_128, l_144, l_255, l_320, l_720, l_1000, l_1081, l_1128, l_9999, nI_add, pk_mul, k_nor, e_I, lt_I, le_I, nI_toInt, sub_I, inb_I, nI_clamp, bI_t0, bI_t1, bI_or, decide_eq_true_eq, decide_eq_false_iff_not, tn_1, tn_2, tn_3, tm_1, tm_2, tm_3, tm_1000000, tm_1000001, tm_1000002, tm_1000003, tm_1000010, tm_1000100, Int.cast_ofNat_Int, hne, eb, tlt, flt, tle, fle, teq, feq, tltN, fltN, tleN, fleN, teqN, feqN, r1]
/-- what a square that is read looks like -/
def PV (a : Sa) : Prop := (a 0 = 0 ∧ a 1 ≤ 9 ∧ a 2 ≤ 6 ∧ a 3 ≤ 5) ∧ (∀ i, i < a 2 → a (4 + i) = i ∧ a (10 + i) ≤ 9 ∧ a (16 + i) ≤ 3) ∧ (∀ s, s < a 3 → (1 ≤ a (22 + s) ∧ a (22 + s) ≤ 5) ∧ (1 ≤ a (27 + s) ∧ a (27 + s) ≤ 60) ∧ a (32 + s) ≤ 1) ∧ (∀ s, s < 5 → a (37 + s) = 0 ∧ a (42 + s) = 0)
theorem fk_V : ∀ m s a, (∀ p, s = .inl p → PV a ∧ a 3 = 0 ∧ 7 ≤ a 2 + m) → ∀ p, (fk tp n m s a).1 = .inl p → PV (fk tp n m s a).2 ∧ (fk tp n m s a).2 3 = 0 ∧ a 2 ≤ (fk tp n m s a).2 2 ∧ tkc tp n p ≠ 102 ∧ (∀ p0, s = .inl p0 → tkc tp n p0 = 102 → 0 < (fk tp n m s a).2 2) := by
  intro m
  induction m with
  | zero =>
    intro s a h p hp
    have h1 := h p hp
    have := h1.1.1.2.2.1
    omega
  | succ m ih =>
    intro s a h p hp
    cases s with
    | inr x => cases hp
    | inl p0 =>
      obtain ⟨hV, h3, h7⟩ := h p0 rfl
      simp only [fk] at hp ⊢
      by_cases q : tkc tp n p0 = 102
      · rw [if_pos q] at hp ⊢
        by_cases q6 : a 2 = 6
        · rw [if_pos q6] at hp; cases hp
        · rw [if_neg q6] at hp ⊢
          have u2 : shp tp n a (.inl (tkn tp n p0)) 2 = a 2 + 1 := if_pos rfl
          have u : ∀ j, j ≠ 2 → j ≠ 4 + a 2 → j ≠ 10 + a 2 → j ≠ 16 + a 2 → shp tp n a (.inl (tkn tp n p0)) j = a j := fun j z1 z2 z3 z4 => by
            unfold shp
            rw [if_neg z1, if_neg z2, if_neg z3, if_neg z4]
          obtain ⟨⟨v0, v1, v2, v3⟩, vr, vs, vz⟩ := hV
          have r := ih (pr tp n (.inl (tkn tp n p0)) 0 9 3) (shp tp n a (.inl (tkn tp n p0))) (fun p' hp' => by
            obtain ⟨x1, x2, -⟩ := pr_l hp'
            refine ⟨⟨⟨by rw [u 0 (by omega) (by omega) (by omega) (by omega)]; exact v0, by rw [u 1 (by omega) (by omega) (by omega) (by omega)]; exact v1, by rw [u2]; omega, by rw [u 3 (by omega) (by omega) (by omega) (by omega)]; exact v3⟩, fun i hi => ?_, fun t ht => ?_, fun t ht => ?_⟩, by rw [u 3 (by omega) (by omega) (by omega) (by omega)]; exact h3, by rw [u2]; omega⟩
            · rw [u2] at hi
              by_cases e : i = a 2
              · subst e
                refine ⟨?_, ?_, ?_⟩
                · unfold shp; rw [if_neg (by omega), if_pos rfl]
                · unfold shp; rw [if_neg (by omega), if_neg (by omega), if_pos rfl]; exact x1.2
                · unfold shp; rw [if_neg (by omega), if_neg (by omega), if_neg (by omega), if_pos rfl]; exact x2
              · rw [u (10 + i) (by omega) (by omega) (by omega) (by omega), u (16 + i) (by omega) (by omega) (by omega) (by omega), u (4 + i) (by omega) (by omega) (by omega) (by omega)]
                exact vr i (by omega)
            · rw [u 3 (by omega) (by omega) (by omega) (by omega)] at ht
              omega
            · rw [u (37 + t) (by omega) (by omega) (by omega) (by omega), u (42 + t) (by omega) (by omega) (by omega) (by omega)]
              exact vz t ht) p hp
          rw [u2] at r
          exact ⟨r.1, r.2.1, by omega, r.2.2.2.1, fun _ _ _ => by omega⟩
      · rw [if_neg q] at hp ⊢
        cases hp
        exact ⟨hV, h3, Nat.le_refl _, q, fun p1 h1 h2 => by cases h1; exact absurd h2 q⟩
theorem sk_V : ∀ m s a, (∀ p, s = .inl p → PV a ∧ 6 ≤ a 3 + m) → ∀ p, (sk tp n m s a).1 = .inl p → PV (sk tp n m s a).2 ∧ (sk tp n m s a).2 2 = a 2 ∧ kd (tkc tp n p) = 0 := by
  intro m
  induction m with
  | zero =>
    intro s a h p hp
    have h1 := h p hp
    have := h1.1.1.2.2.2
    omega
  | succ m ih =>
    intro s a h p hp
    cases s with
    | inr x => cases hp
    | inl p0 =>
      obtain ⟨hV, h7⟩ := h p0 rfl
      simp only [sk] at hp ⊢
      have hkl := kd_le (tkc tp n p0)
      by_cases q : kd (tkc tp n p0) = 0
      · rw [if_pos q] at hp ⊢
        cases hp
        exact ⟨hV, rfl, q⟩
      · rw [if_neg q] at hp ⊢
        by_cases q6 : a 3 = 5
        · rw [if_pos q6] at hp; cases hp
        · rw [if_neg q6] at hp ⊢
          have u3 : slp tp n a (kd (tkc tp n p0)) (.inl (tkn tp n p0)) 3 = a 3 + 1 := if_pos rfl
          obtain ⟨⟨v0, v1, v2, v3⟩, vr, vs, vz⟩ := hV
          have u : ∀ j, j ≠ 3 → j ≠ 22 + a 3 → j ≠ 27 + a 3 → j ≠ 32 + a 3 → slp tp n a (kd (tkc tp n p0)) (.inl (tkn tp n p0)) j = a j := fun j z1 z2 z3 z4 => by
            unfold slp
            rw [if_neg z1, if_neg z2, if_neg z3, if_neg z4]
          have u2 := u 2 (by omega) (by omega) (by omega) (by omega)
          have r := ih (pr tp n (.inl (tkn tp n p0)) 1 60 1) (slp tp n a (kd (tkc tp n p0)) (.inl (tkn tp n p0))) (fun p' hp' => by
            obtain ⟨x1, x2, -⟩ := pr_l hp'
            refine ⟨⟨⟨by rw [u 0 (by omega) (by omega) (by omega) (by omega)]; exact v0, by rw [u 1 (by omega) (by omega) (by omega) (by omega)]; exact v1, by rw [u2]; omega, by rw [u3]; omega⟩, fun i hi => ?_, fun t ht => ?_, fun t ht => ?_⟩, by rw [u3]; omega⟩
            · rw [u2] at hi
              rw [u (10 + i) (by omega) (by omega) (by omega) (by omega), u (16 + i) (by omega) (by omega) (by omega) (by omega), u (4 + i) (by omega) (by omega) (by omega) (by omega)]
              exact vr i hi
            · rw [u3] at ht
              by_cases e : t = a 3
              · subst e
                refine ⟨?_, ?_, ?_⟩
                · unfold slp; rw [if_neg (by omega), if_pos rfl]; omega
                · unfold slp; rw [if_neg (by omega), if_neg (by omega), if_pos rfl]; exact x1
                · unfold slp; rw [if_neg (by omega), if_neg (by omega), if_neg (by omega), if_pos rfl]; exact x2
              · rw [u (22 + t) (by omega) (by omega) (by omega) (by omega), u (27 + t) (by omega) (by omega) (by omega) (by omega), u (32 + t) (by omega) (by omega) (by omega) (by omega)]
                exact vs t (by omega)
            · rw [u (37 + t) (by omega) (by omega) (by omega) (by omega), u (42 + t) (by omega) (by omega) (by omega) (by omega)]
              exact vz t ht) p hp
          rw [u2] at r
          exact r
theorem aZ_V {p : Nat} (h : sL tp n = .inl p) : PV (aZ tp n) := by
  obtain ⟨p1, h1, -⟩ := tk1_l h
  obtain ⟨p2, h2, -, hb, -⟩ := nm1_l h1
  have e : aZ tp n 1 ≤ 9 := by
    show pv tp n (sQ tp n) ≤ 9
    rw [h2]; exact hb.2
  exact ⟨⟨rfl, e, Nat.zero_le _, Nat.zero_le _⟩, fun i hi => absurd hi (Nat.not_lt_zero _), fun s hs => absurd hs (Nat.not_lt_zero _), fun s hs => ⟨by unfold aZ; rw [if_neg (by omega)], by unfold aZ; rw [if_neg (by omega)]⟩⟩
theorem pF_V {p : Nat} (h : (pF tp n).1 = .inl p) : PV (pF tp n).2 ∧ (pF tp n).2 3 = 0 ∧ 0 < (pF tp n).2 2 ∧ tkc tp n p ≠ 102 := by
  have hL : ∀ p, bl1 tp n (sL tp n) = .inl p → sL tp n = .inl p ∧ tkc tp n p = 102 := by
    intro p hp
    generalize sL tp n = s at hp
    cases s with
    | inr x => cases hp
    | inl p0 =>
      simp only [bl1] at hp
      split at hp
      · next q => cases hp; exact ⟨rfl, q⟩
      · cases hp
  have r := fk_V (tp := tp) (n := n) 7 (bl1 tp n (sL tp n)) (aZ tp n) (fun p hp => ⟨aZ_V (hL p hp).1, rfl, Nat.le_refl _⟩) p h
  refine ⟨r.1, r.2.1, ?_, r.2.2.2.1⟩
  cases hb : bl1 tp n (sL tp n) with
  | inr x =>
    unfold pF at h
    rw [hb] at h
    cases h
  | inl p0 => exact r.2.2.2.2 p0 hb (hL p0 hb).2
theorem pS_V {p : Nat} (h : (pS tp n).1 = .inl p) : PV (pS tp n).2 ∧ 0 < (pS tp n).2 2 := by
  have r := sk_V (tp := tp) (n := n) 6 (pF tp n).1 (pF tp n).2 (fun p hp => ⟨(pF_V hp).1, by omega⟩) p h
  refine ⟨r.1, ?_⟩
  cases hb : (pF tp n).1 with
  | inr x =>
    unfold pS at h
    rw [hb] at h
    cases h
  | inl p0 =>
    have : (pS tp n).2 2 = (pF tp n).2 2 := r.2.1
    rw [this]
    exact (pF_V hb).2.2.1
theorem c_reads (I : Mi) (hn : n ≤ 100) (htp : ∀ i, tp i < 256) (ht : TPc tp n I) : ∃ J, (∀ p, pE tp n = .inl p → r_D_reads [.ref 5, .ref 38] I = some (.int (nI 1), J) ∧ TS J (pS tp n).2 ∧ J 5 2 = I 5 2) ∧ (∀ f q, pE tp n = .inr (f, q) → r_D_reads [.ref 5, .ref 38] I = some (.int (nI 0), J) ∧ J 5 2 = nI f ∧ J 5 3 = nI q ∧ q ≤ n) ∧ J 5 1 = nI 0 ∧ ∀ k, k ≠ 5 → k < 38 ∨ 46 ≤ k → J k = I k := by
  obtain ⟨J0, a1, a2, a3, a4⟩ := c_clear I
  obtain ⟨J1, l1, l2, l3, l4, l5, l6⟩ := c_look (tp := tp) (n := n) 0 (k_mu (k_mu J0 5 4 (nI 0)) 5 5 (nI 0)) hn htp (by omega) (by rw [mu_get, if_pos ⟨rfl, rfl⟩]) ⟨by rw [mu_get, if_neg (by omega), mu_get, if_neg (by omega), a4 5 (by omega) (by omega)]; exact ht.1, fun i hi => by rw [mu_cell _ _ (by omega), mu_cell _ _ (by omega), a4 6 (by omega) (by omega)]; exact ht.2 i hi⟩
  have hc1 : ∀ k, k ≠ 5 → J1 k = J0 k := fun k z => by rw [l6.1 k z, mu_cell _ _ z, mu_cell _ _ z]
  have R1 : RD tp n (I 5 2) J1 (.inl 0) := ⟨⟨by rw [l6.2 4 (by omega), mu_get, if_neg (by omega), mu_get, if_pos ⟨rfl, rfl⟩], Nat.zero_le _, by rw [l6.2 2 (by omega), mu_get, if_neg (by omega), mu_get, if_neg (by omega), a4 5 (by omega) (by omega)]⟩, ⟨l2, l3, l4, l5⟩, TPc_f l6 ⟨by rw [mu_get, if_neg (by omega), mu_get, if_neg (by omega), a4 5 (by omega) (by omega)]; exact ht.1, fun i hi => by rw [mu_cell _ _ (by omega), mu_cell _ _ (by omega), a4 6 (by omega) (by omega)]; exact ht.2 i hi⟩⟩
  obtain ⟨J2, b1, b2, b3, b4, b5⟩ := c_readLaw J1 (.inl 0) hn htp R1
  have eL : tk1 tp n (nm1 tp n (tk1 tp n (.inl 0) 113) 0 9) 59 = sL tp n := rfl
  rw [eL] at b2 b3
  obtain ⟨J3, d1, d2, d3, d4⟩ := c_readFlock J2 (sL tp n) (aZ tp n) hn htp b2 (fun p hp => ⟨⟨⟨by rw [b4 0 (by omega), hc1 38 (by omega), a2 0 (by omega)]; rfl, by rw [b4 1 (by omega), hc1 38 (by omega), a2 1 (by omega)]; rfl, by rw [b4 2 (by omega), hc1 38 (by omega), a2 2 (by omega)], by rw [b3 p hp]; rfl, by rw [b4 4 (by omega), hc1 38 (by omega), a2 4 (by omega)]⟩, fun i hi => absurd hi (Nat.not_lt_zero _), fun s hs => absurd hs (Nat.not_lt_zero _), fun t ht => by rw [b5 45 (by omega) (by omega), hc1 45 (by omega)]; exact a3 t ht⟩, Nat.zero_le _⟩)
  rw [show fk tp n 7 (bl1 tp n (sL tp n)) (aZ tp n) = pF tp n from rfl] at d2 d3
  obtain ⟨J4, e1, e2, e3, e4⟩ := c_readSleepers_loop (tp := tp) (n := n) (L := I 5 2) hn htp 6 k_fu 0 J3 (pF tp n).1 (pF tp n).2 (by omega) (by have := fu_pos; omega) d2 (fun p hp => ⟨(d3 p hp).1, (pF_V hp).1.1.2.2.2, (d3 p hp).2⟩)
  rw [show sk tp n 6 (pF tp n).1 (pF tp n).2 = pS tp n from rfl] at e2 e3
  have fr : ∀ k, k ≠ 5 → k < 38 ∨ 46 ≤ k → J4 k = I k := fun k z1 z2 => by rw [e4 k z1 z2, d4 k z1 z2, b5 k z1 (by omega), hc1 k z1, a4 k (by omega) (by omega)]
  have eS : r_D_readSleepers [.ref 5, .ref 38] J3 = some (.null, J4) := by
    simp (disch := omega) only [b_D_readSleepers_55, b_D_readSleepers_49, b_D_readSleepers_0, r_D_readSleepers, o_const, o_lconst, o_iload, o_lload, o_aload, o_istore, o_astore, o_lstore, o_iinc, o_bin, o_div, o_un, o_add, o_sub, o_mul, o_and, o_or, o_xor, o_shl, o_shr, o_ushr, o_idiv, o_irem, o_neg, o_i2b, o_i2s, o_i2l, o_lor, o_lshl, o_lcmp, o_dup, o_dup_x1, o_dup2, o_ifeq, o_iflt, o_ifge, o_ifgt, o_ifle, o_ceq, o_clt, o_cge, o_cgt, o_cle, o_sw, k_pick, o_ret, o_iret, o_zret, o_lret, o_aret, o_call, o_callV, k_pop, k_push, o_geti, o_getr, o_puti, o_putz, o_iald, o_iast, o_zald, o_zast, o_alen, o_copy, o_gets, o_sald, o_salen, o_min, k_sto, k_sto2, List.getElem?_cons_zero, List.getElem?_cons_succ, List.set_cons_zero, List.set_cons_succ, List.length_cons, List.length_nil, ite_true, ite_false, ↓reduceIte, true_and, and_true, and_self, or_true, true_or, or_false, false_or, or_self, eq_self, Nat.reduceLeDiff, Nat.reduceAdd, Nat.reduceSub, Nat.reduceLT, Nat.reduceEqDiff, Nat.zero_add, Nat.add_zero, Nat.le_refl, Nat.zero_le, Bool.false_eq_true, Int.reduceLE, Int.reduceLT, Int.reduceNeg, Int.natCast_nonneg, List.length_cons, not_true_eq_false, not_false_eq_true, false_and, and_false, gt_iff_lt, ge_iff_le, k_sh0, k_sh1, k_sh2, k_sh3, k_sh4, k_sh5, k_sh6, k_sh7, k_sh8, k_sh9, k_sh10, k_sh11, k_sh12, k_sh13, k_sh14, k_sh15, k_sh16, k_sh17, k_sh18, k_sh19, k_sh20, k_sh21, k_sh22, k_sh23, k_sh24, k_sh25, k_sh26, k_sh27, k_sh28, k_sh29, k_sh30, k_sh31, k_sh32, k_sh33, k_sh34, k_sh35, k_sh36, k_sh37, k_sh38, k_sh39, k_sh40, k_sh41, k_sh42, k_sh43, k_sh44, k_sh45, k_sh46, k_sh47, k_sh48, k_sh49, k_sh50, k_sh51, k_sh52, k_sh53, k_sh54, k_sh55, k_sh56, k_sh57, k_sh58, k_sh59, k_sh60, k_sh61, k_sh62, k_sh63, k_sh64, l_0, l_1, l_2, l_3, l_4, l_5, l_6, l_7, l_8, l_9, l_10, l_11, l_12, l_13, l_14, l_16, l_20, l_21, l_22, l_23, l_24, l_27, l_31, l_32, l_37, l_40, l_42, l_44, l_47, l_48, l_57, l_59, l_60, l_63, l_64, l_94, l_97, l_99, l_100, l_102, l_105, l_106, l_108, l_110, l_112, l_113, l_116, l_120, l_122, l_128, l_144, l_255, l_320, l_720, l_1000, l_1081, l_1128, l_9999, nI_add, pk_mul, k_nor, e_I, lt_I, le_I, nI_toInt, sub_I, inb_I, nI_clamp, bI_t0, bI_t1, bI_or, decide_eq_true_eq, decide_eq_false_iff_not, tn_1, tn_2, tn_3, tm_1, tm_2, tm_3, tm_1000000, tm_1000001, tm_1000002, tm_1000003, tm_1000010, tm_1000100, Int.cast_ofNat_Int, tlt, flt, tle, fle, teq, feq, tltN, fltN, tleN, fleN, teqN, feqN, e1]
  clear e1
  cases hS : (pS tp n).1 with
  | inr x =>
    rw [hS] at e2
    obtain ⟨c1, c2, c3, c4⟩ := e2
    have eb := c_blame2 1 J4 c1
    have hE : pE tp n = .inr x := by unfold pE; rw [hS]; rfl
    have x4 : k_mu J4 5 1 (nI 0) 5 4 = nI 1 := by rw [mu_get, if_neg (by omega)]; exact c1
    refine ⟨k_mu J4 5 1 (nI 0), fun p hp => (by rw [hE] at hp; cases hp), fun f q hq => ?_, by rw [mu_get, if_pos ⟨rfl, rfl⟩], fun k z1 z2 => by rw [mu_cell _ _ z1]; exact fr k z1 z2⟩
    rw [hE] at hq
    cases hq
    refine ⟨?_, by rw [mu_get, if_neg (by omega)]; exact c2, by rw [mu_get, if_neg (by omega)]; exact c3, c4⟩
    by_cases q : (J4 5 7).toInt = -1
    · simp (disch := omega) only [b_D_reads_63, b_D_reads_46, b_D_reads_0, r_D_reads, o_const, o_lconst, o_iload, o_lload, o_aload, o_istore, o_astore, o_lstore, o_iinc, o_bin, o_div, o_un, o_add, o_sub, o_mul, o_and, o_or, o_xor, o_shl, o_shr, o_ushr, o_idiv, o_irem, o_neg, o_i2b, o_i2s, o_i2l, o_lor, o_lshl, o_lcmp, o_dup, o_dup_x1, o_dup2, o_ifeq, o_iflt, o_ifge, o_ifgt, o_ifle, o_ceq, o_clt, o_cge, o_cgt, o_cle, o_sw, k_pick, o_ret, o_iret, o_zret, o_lret, o_aret, o_call, o_callV, k_pop, k_push, o_geti, o_getr, o_puti, o_putz, o_iald, o_iast, o_zald, o_zast, o_alen, o_copy, o_gets, o_sald, o_salen, o_min, k_sto, k_sto2, List.getElem?_cons_zero, List.getElem?_cons_succ, List.set_cons_zero, List.set_cons_succ, List.length_cons, List.length_nil, ite_true, ite_false, ↓reduceIte, true_and, and_true, and_self, or_true, true_or, or_false, false_or, or_self, eq_self, Nat.reduceLeDiff, Nat.reduceAdd, Nat.reduceSub, Nat.reduceLT, Nat.reduceEqDiff, Nat.zero_add, Nat.add_zero, Nat.le_refl, Nat.zero_le, Bool.false_eq_true, Int.reduceLE, Int.reduceLT, Int.reduceNeg, Int.natCast_nonneg, List.length_cons, not_true_eq_false, not_false_eq_true, false_and, and_false, gt_iff_lt, ge_iff_le, k_sh0, k_sh1, k_sh2, k_sh3, k_sh4, k_sh5, k_sh6, k_sh7, k_sh8, k_sh9, k_sh10, k_sh11, k_sh12, k_sh13, k_sh14, k_sh15, k_sh16, k_sh17, k_sh18, k_sh19, k_sh20, k_sh21, k_sh22, k_sh23, k_sh24, k_sh25, k_sh26, k_sh27, k_sh28, k_sh29, k_sh30, k_sh31, k_sh32, k_sh33, k_sh34, k_sh35, k_sh36, k_sh37, k_sh38, k_sh39, k_sh40, k_sh41, k_sh42, k_sh43, k_sh44, k_sh45, k_sh46, k_sh47, k_sh48, k_sh49, k_sh50, k_sh51, k_sh52, k_sh53, k_sh54, k_sh55, k_sh56, k_sh57, k_sh58, k_sh59, k_sh60, k_sh61, k_sh62, k_sh63, k_sh64, l_0, l_1, l_2, l_3, l_4, l_5, l_6, l_7, l_8, l_9, l_10, l_11, l_12, l_13, l_14, l_16, l_20, l_21, l_22, l_23, l_24, l_27, l_31, l_32, l_37, l_40, l_42, l_44, l_47, l_48, l_57, l_59, l_60, l_63, l_64, l_94, l_97, l_99, l_100, l_102, l_105, l_106, l_108, l_110, l_112, l_113, l_116, l_120, l_122, l_128, l_144, l_255, l_320, l_720, l_1000, l_1081, l_1128, l_9999, nI_add, pk_mul, k_nor, e_I, lt_I, le_I, nI_toInt, sub_I, inb_I, nI_clamp, bI_t0, bI_t1, bI_or, decide_eq_true_eq, decide_eq_false_iff_not, tn_1, tn_2, tn_3, tm_1, tm_2, tm_3, tm_1000000, tm_1000001, tm_1000002, tm_1000003, tm_1000010, tm_1000100, Int.cast_ofNat_Int, a1, l1, b1, d1, eS, q, x4, tlt, flt, tle, fle, teq, feq, tltN, fltN, tleN, fleN, teqN, feqN]
    · simp (disch := omega) only [b_D_reads_63, b_D_reads_46, b_D_reads_0, r_D_reads, o_const, o_lconst, o_iload, o_lload, o_aload, o_istore, o_astore, o_lstore, o_iinc, o_bin, o_div, o_un, o_add, o_sub, o_mul, o_and, o_or, o_xor, o_shl, o_shr, o_ushr, o_idiv, o_irem, o_neg, o_i2b, o_i2s, o_i2l, o_lor, o_lshl, o_lcmp, o_dup, o_dup_x1, o_dup2, o_ifeq, o_iflt, o_ifge, o_ifgt, o_ifle, o_ceq, o_clt, o_cge, o_cgt, o_cle, o_sw, k_pick, o_ret, o_iret, o_zret, o_lret, o_aret, o_call, o_callV, k_pop, k_push, o_geti, o_getr, o_puti, o_putz, o_iald, o_iast, o_zald, o_zast, o_alen, o_copy, o_gets, o_sald, o_salen, o_min, k_sto, k_sto2, List.getElem?_cons_zero, List.getElem?_cons_succ, List.set_cons_zero, List.set_cons_succ, List.length_cons, List.length_nil, ite_true, ite_false, ↓reduceIte, true_and, and_true, and_self, or_true, true_or, or_false, false_or, or_self, eq_self, Nat.reduceLeDiff, Nat.reduceAdd, Nat.reduceSub, Nat.reduceLT, Nat.reduceEqDiff, Nat.zero_add, Nat.add_zero, Nat.le_refl, Nat.zero_le, Bool.false_eq_true, Int.reduceLE, Int.reduceLT, Int.reduceNeg, Int.natCast_nonneg, List.length_cons, not_true_eq_false, not_false_eq_true, false_and, and_false, gt_iff_lt, ge_iff_le, k_sh0, k_sh1, k_sh2, k_sh3, k_sh4, k_sh5, k_sh6, k_sh7, k_sh8, k_sh9, k_sh10, k_sh11, k_sh12, k_sh13, k_sh14, k_sh15, k_sh16, k_sh17, k_sh18, k_sh19, k_sh20, k_sh21, k_sh22, k_sh23, k_sh24, k_sh25, k_sh26, k_sh27, k_sh28, k_sh29, k_sh30, k_sh31, k_sh32, k_sh33, k_sh34, k_sh35, k_sh36, k_sh37, k_sh38, k_sh39, k_sh40, k_sh41, k_sh42, k_sh43, k_sh44, k_sh45, k_sh46, k_sh47, k_sh48, k_sh49, k_sh50, k_sh51, k_sh52, k_sh53, k_sh54, k_sh55, k_sh56, k_sh57, k_sh58, k_sh59, k_sh60, k_sh61, k_sh62, k_sh63, k_sh64, l_0, l_1, l_2, l_3, l_4, l_5, l_6, l_7, l_8, l_9, l_10, l_11, l_12, l_13, l_14, l_16, l_20, l_21, l_22, l_23, l_24, l_27, l_31, l_32, l_37, l_40, l_42, l_44, l_47, l_48, l_57, l_59, l_60, l_63, l_64, l_94, l_97, l_99, l_100, l_102, l_105, l_106, l_108, l_110, l_112, l_113, l_116, l_120, l_122, l_128, l_144, l_255, l_320, l_720, l_1000, l_1081, l_1128, l_9999, nI_add, pk_mul, k_nor, e_I, lt_I, le_I, nI_toInt, sub_I, inb_I, nI_clamp, bI_t0, bI_t1, bI_or, decide_eq_true_eq, decide_eq_false_iff_not, tn_1, tn_2, tn_3, tm_1, tm_2, tm_3, tm_1000000, tm_1000001, tm_1000002, tm_1000003, tm_1000010, tm_1000100, Int.cast_ofNat_Int, a1, l1, b1, d1, eS, q, eb, x4, tlt, flt, tle, fle, teq, feq, tltN, fltN, tleN, fleN, teqN, feqN]
  | inl p =>
    have hTS := e3 p hS
    rw [hS] at e2
    obtain ⟨⟨g1, g2, g9⟩, ⟨g3, g4, g5, g6⟩, g7⟩ := e2
    by_cases q : tkc tp n p = 300
    · have hE : pE tp n = .inl p := by
        unfold pE; rw [hS]; simp only [enS]; rw [if_pos q]
      rw [q, show cK 300 = -nI 1 from rfl] at g5
      have x4 : k_mu J4 5 1 (nI 0) 5 4 = nI 0 := by rw [mu_get, if_neg (by omega)]; exact g1
      refine ⟨k_mu J4 5 1 (nI 0), fun p hp => ⟨?_, ?_, by rw [mu_get, if_neg (by omega)]; exact g9⟩, fun f q hq => (by rw [hE] at hq; cases hq), by rw [mu_get, if_pos ⟨rfl, rfl⟩], fun k z1 z2 => by rw [mu_cell _ _ z1]; exact fr k z1 z2⟩
      · simp (disch := omega) only [b_D_reads_63, b_D_reads_46, b_D_reads_0, r_D_reads, o_const, o_lconst, o_iload, o_lload, o_aload, o_istore, o_astore, o_lstore, o_iinc, o_bin, o_div, o_un, o_add, o_sub, o_mul, o_and, o_or, o_xor, o_shl, o_shr, o_ushr, o_idiv, o_irem, o_neg, o_i2b, o_i2s, o_i2l, o_lor, o_lshl, o_lcmp, o_dup, o_dup_x1, o_dup2, o_ifeq, o_iflt, o_ifge, o_ifgt, o_ifle, o_ceq, o_clt, o_cge, o_cgt, o_cle, o_sw, k_pick, o_ret, o_iret, o_zret, o_lret, o_aret, o_call, o_callV, k_pop, k_push, o_geti, o_getr, o_puti, o_putz, o_iald, o_iast, o_zald, o_zast, o_alen, o_copy, o_gets, o_sald, o_salen, o_min, k_sto, k_sto2, List.getElem?_cons_zero, List.getElem?_cons_succ, List.set_cons_zero, List.set_cons_succ, List.length_cons, List.length_nil, ite_true, ite_false, ↓reduceIte, true_and, and_true, and_self, or_true, true_or, or_false, false_or, or_self, eq_self, Nat.reduceLeDiff, Nat.reduceAdd, Nat.reduceSub, Nat.reduceLT, Nat.reduceEqDiff, Nat.zero_add, Nat.add_zero, Nat.le_refl, Nat.zero_le, Bool.false_eq_true, Int.reduceLE, Int.reduceLT, Int.reduceNeg, Int.natCast_nonneg, List.length_cons, not_true_eq_false, not_false_eq_true, false_and, and_false, gt_iff_lt, ge_iff_le, k_sh0, k_sh1, k_sh2, k_sh3, k_sh4, k_sh5, k_sh6, k_sh7, k_sh8, k_sh9, k_sh10, k_sh11, k_sh12, k_sh13, k_sh14, k_sh15, k_sh16, k_sh17, k_sh18, k_sh19, k_sh20, k_sh21, k_sh22, k_sh23, k_sh24, k_sh25, k_sh26, k_sh27, k_sh28, k_sh29, k_sh30, k_sh31, k_sh32, k_sh33, k_sh34, k_sh35, k_sh36, k_sh37, k_sh38, k_sh39, k_sh40, k_sh41, k_sh42, k_sh43, k_sh44, k_sh45, k_sh46, k_sh47, k_sh48, k_sh49, k_sh50, k_sh51, k_sh52, k_sh53, k_sh54, k_sh55, k_sh56, k_sh57, k_sh58, k_sh59, k_sh60, k_sh61, k_sh62, k_sh63, k_sh64, l_0, l_1, l_2, l_3, l_4, l_5, l_6, l_7, l_8, l_9, l_10, l_11, l_12, l_13, l_14, l_16, l_20, l_21, l_22, l_23, l_24, l_27, l_31, l_32, l_37, l_40, l_42, l_44, l_47, l_48, l_57, l_59, l_60, l_63, l_64, l_94, l_97, l_99, l_100, l_102, l_105, l_106, l_108, l_110, l_112, l_113, l_116, l_120, l_122, l_128, l_144, l_255, l_320, l_720, l_1000, l_1081, l_1128, l_9999, nI_add, pk_mul, k_nor, e_I, lt_I, le_I, nI_toInt, sub_I, inb_I, nI_clamp, bI_t0, bI_t1, bI_or, decide_eq_true_eq, decide_eq_false_iff_not, tn_1, tn_2, tn_3, tm_1, tm_2, tm_3, tm_1000000, tm_1000001, tm_1000002, tm_1000003, tm_1000010, tm_1000100, Int.cast_ofNat_Int, a1, l1, b1, d1, eS, g5, x4, tlt, flt, tle, fle, teq, feq, tltN, fltN, tleN, fleN, teqN, feqN]
      · unfold TS at hTS ⊢
        rw [mu_cell _ _ (by omega), mu_cell _ _ (by omega), mu_cell _ _ (by omega), mu_cell _ _ (by omega), mu_cell _ _ (by omega), mu_cell _ _ (by omega), mu_cell _ _ (by omega), mu_cell _ _ (by omega)]
        exact hTS
    · have hE : pE tp n = .inr (1, p) := by
        unfold pE; rw [hS]; simp only [enS]; rw [if_neg q]
      have hne : ¬ (cK (tkc tp n p)).toInt = -1 := by
        have hb := tkc_b (n := n) htp p
        rw [cK_I (by omega)]
        repeat' split
        all_goals omega
      rw [← g5] at hne
      have eb := c_blame 1 J4 g1
      have hB := BD_bl (n := n) (f := 1) g4 g2
      have hfr : ∀ k, k ≠ 5 → k_mu (k_mu (k_mu J4 5 4 (nI 1)) 5 2 (nI 1)) 5 3 (J4 5 6) k = J4 k := fun k z => by rw [mu_cell _ _ z, mu_cell _ _ z, mu_cell _ _ z]
      generalize k_mu (k_mu (k_mu J4 5 4 (nI 1)) 5 2 (nI 1)) 5 3 (J4 5 6) = K at eb hB hfr
      obtain ⟨c1, c2, c3, c4⟩ := hB
      have x4 : k_mu K 5 1 (nI 0) 5 4 = nI 1 := by rw [mu_get, if_neg (by omega)]; exact c1
      refine ⟨k_mu K 5 1 (nI 0), fun p hp => (by rw [hE] at hp; cases hp), fun f q hq => ?_, by rw [mu_get, if_pos ⟨rfl, rfl⟩], fun k z1 z2 => by rw [mu_cell _ _ z1, hfr k z1]; exact fr k z1 z2⟩
      rw [hE] at hq
      cases hq
      refine ⟨?_, by rw [mu_get, if_neg (by omega)]; exact c2, by rw [mu_get, if_neg (by omega)]; exact c3, c4⟩
      simp (disch := omega) only [b_D_reads_63, b_D_reads_46, b_D_reads_0, r_D_reads, o_const, o_lconst, o_iload, o_lload, o_aload, o_istore, o_astore, o_lstore, o_iinc, o_bin, o_div, o_un, o_add, o_sub, o_mul, o_and, o_or, o_xor, o_shl, o_shr, o_ushr, o_idiv, o_irem, o_neg, o_i2b, o_i2s, o_i2l, o_lor, o_lshl, o_lcmp, o_dup, o_dup_x1, o_dup2, o_ifeq, o_iflt, o_ifge, o_ifgt, o_ifle, o_ceq, o_clt, o_cge, o_cgt, o_cle, o_sw, k_pick, o_ret, o_iret, o_zret, o_lret, o_aret, o_call, o_callV, k_pop, k_push, o_geti, o_getr, o_puti, o_putz, o_iald, o_iast, o_zald, o_zast, o_alen, o_copy, o_gets, o_sald, o_salen, o_min, k_sto, k_sto2, List.getElem?_cons_zero, List.getElem?_cons_succ, List.set_cons_zero, List.set_cons_succ, List.length_cons, List.length_nil, ite_true, ite_false, ↓reduceIte, true_and, and_true, and_self, or_true, true_or, or_false, false_or, or_self, eq_self, Nat.reduceLeDiff, Nat.reduceAdd, Nat.reduceSub, Nat.reduceLT, Nat.reduceEqDiff, Nat.zero_add, Nat.add_zero, Nat.le_refl, Nat.zero_le, Bool.false_eq_true, Int.reduceLE, Int.reduceLT, Int.reduceNeg, Int.natCast_nonneg, List.length_cons, not_true_eq_false, not_false_eq_true, false_and, and_false, gt_iff_lt, ge_iff_le, k_sh0, k_sh1, k_sh2, k_sh3, k_sh4, k_sh5, k_sh6, k_sh7, k_sh8, k_sh9, k_sh10, k_sh11, k_sh12, k_sh13, k_sh14, k_sh15, k_sh16, k_sh17, k_sh18, k_sh19, k_sh20, k_sh21, k_sh22, k_sh23, k_sh24, k_sh25, k_sh26, k_sh27, k_sh28, k_sh29, k_sh30, k_sh31, k_sh32, k_sh33, k_sh34, k_sh35, k_sh36, k_sh37, k_sh38, k_sh39, k_sh40, k_sh41, k_sh42, k_sh43, k_sh44, k_sh45, k_sh46, k_sh47, k_sh48, k_sh49, k_sh50, k_sh51, k_sh52, k_sh53, k_sh54, k_sh55, k_sh56, k_sh57, k_sh58, k_sh59, k_sh60, k_sh61, k_sh62, k_sh63, k_sh64, l_0, l_1, l_2, l_3, l_4, l_5, l_6, l_7, l_8, l_9, l_10, l_11, l_12, l_13, l_14, l_16, l_20, l_21, l_22, l_23, l_24, l_27, l_31, l_32, l_37, l_40, l_42, l_44, l_47, l_48, l_57, l_59, l_60, l_63, l_64, l_94, l_97, l_99, l_100, l_102, l_105, l_106, l_108, l_110, l_112, l_113, l_116, l_120, l_122, l_128, l_144, l_255, l_320, l_720, l_1000, l_1081, l_1128, l_9999, nI_add, pk_mul, k_nor, e_I, lt_I, le_I, nI_toInt, sub_I, inb_I, nI_clamp, bI_t0, bI_t1, bI_or, decide_eq_true_eq, decide_eq_false_iff_not, tn_1, tn_2, tn_3, tm_1, tm_2, tm_3, tm_1000000, tm_1000001, tm_1000002, tm_1000003, tm_1000010, tm_1000100, Int.cast_ofNat_Int, a1, l1, b1, d1, eS, hne, eb, x4, tlt, flt, tle, fle, teq, feq, tltN, fltN, tleN, fleN, teqN, feqN]
end Rd4
