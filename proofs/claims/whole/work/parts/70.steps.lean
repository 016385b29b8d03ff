theorem CT_f {I : Mi} {a : Sa} (hv : Vs a) (hC : CT I 7 a (rws a) 31) : (I 7 0 = nI (a 2) ∧ I 7 1 = nI (a 3) ∧ I 7 2 = nI (a 0) ∧ I 7 3 = nI (a 1) ∧ I 7 4 = nI (ob a (a 3))) ∧ (∀ i, i < a 2 → I 10 i = nI (a (4 + i))) ∧ (∀ s, s < a 3 → I 14 s = nI (a (37 + s))) := by
  have ho := CT_off hv.1.2.1 hC
  obtain ⟨⟨c0, c1, c2, c3⟩, cr, cf, cs, o, ho', eo, cd⟩ := hC
  rw [rws_len] at c0 cr
  refine ⟨⟨c0, c1, c2, c3, ho⟩, fun i hi => ?_, fun s hs => ?_⟩
  · have := cr i hi
    rw [rws_get hi] at this
    exact this
  · have := hv.1
    exact (cd s hs (bt31 s (by omega))).1
theorem rws_itr {rw' : List Nat} {a : Sa} (h : a 2 ≤ 6) (t : Nat) : rws (itr rw' a t) = rws a := by
  unfold rws
  rw [itr_st (by omega) (by omega)]
  exact List.map_congr_left (fun i hi => by
    have := List.mem_range.mp hi
    exact itr_st (by omega) (by omega) t)
def hst (rw' : List Nat) (a : Sa) (H : Nat → Sa) : Nat → Nat → Sa
  | 0 => H
  | t + 1 => ph (itr rw' a t) (hst rw' a H t)
def nst (n : Nat) : Nat → Nat
  | 0 => n
  | t + 1 => n24 (nst n t)
def xst (nx : Nat) : Nat → Nat
  | 0 => nx
  | t + 1 => (xst nx t + 1) % 24
theorem nst_le {n : Nat} (h : n ≤ 24) : ∀ t, nst n t ≤ 24 := by
  intro t
  induction t with
  | zero => exact h
  | succ t ih => simp only [nst, n24]; split <;> omega
theorem itr_Va {rw' : List Nat} {a : Sa} (hv : Va a) (h2 : 0 < a 2) {t : Nat} (ht : a 0 + t ≤ 9999) : Va (itr rw' a t) :=
  ⟨itr_V hv.1 t, by rw [itr_0]; exact ht, fun q => by rw [itr_st (by omega) (by omega)] at q; omega⟩
theorem hst_v {rw' : List Nat} {a : Sa} {H : Nat → Sa} {n : Nat} (hv : Va a) (h2 : 0 < a 2) (hn : n ≤ 24) (rv : RAv a H n) : ∀ t, a 0 + t ≤ 9999 → RAv (itr rw' a t) (hst rw' a H t) (nst n t) := by
  intro t
  induction t with
  | zero => intro _; exact rv
  | succ t ih =>
    intro ht
    refine RAv_ph (nst_le hn t) (itr_Va hv h2 (by omega)) ?_ ?_ (fun u z1 z2 => ?_) (ih (by omega))
    · rw [itr_st (by omega) (by omega), itr_st (by omega) (by omega)]
    · rw [itr_st (by omega) (by omega), itr_st (by omega) (by omega)]
    · rw [itr_st (by omega) (by omega), itr_st (by omega) (by omega)]
theorem c_steps_loop (d : Nat) (a : Sa) (H : Nat → Sa) (n nx : Nat) (hv : Va a) (h2 : 0 < a 2) (hd : d ≤ 24) (ha : a 0 + d ≤ 9999) (hn : n ≤ 24) (rv : RAv a H n) : ∀ (m fu t : Nat) (I : Mi), t + m = d → m < fu → CT I 7 (itr (rws a) a t) (rws a) 31 → RAc I (hst (rws a) a H t) (nst n t) (xst nx t) → ∃ J, b_x_steps_44 fu [.ref 0, .int (nI d), .int (nI t)] [] I = some (.int (nI (ob (itr (rws a) a d) (a 3))), J) ∧ CT J 7 (itr (rws a) a d) (rws a) 31 ∧ RAc J (hst (rws a) a H d) (nst n d) (xst nx d) ∧ ∀ k, k < 7 ∨ (15 ≤ k ∧ k < 31) ∨ 37 ≤ k → J k = I k := by
  have hb := hv.1.1
  intro m
  induction m with
  | zero =>
    intro fu t I ht hf hC hA
    obtain ⟨fu, rfl⟩ : ∃ f, fu = f + 1 := ⟨fu - 1, by omega⟩
    obtain rfl : t = d := by omega
    have e4 := CT_off (by rw [itr_st (by omega) (by omega)]; exact hb.2.1) hC
    rw [itr_st (by omega) (by omega)] at e4
    refine ⟨I, ?_, hC, hA, fun _ _ => rfl⟩
    simp (disch := omega) only [b_x_steps_44, o_const, o_lconst, o_iload, o_lload, o_aload, o_istore, o_astore, o_lstore, o_iinc, o_bin, o_div, o_un, o_add, o_sub, o_mul, o_and, o_or, o_xor, o_shl, o_shr, o_ushr, o_idiv, o_irem, o_neg, o_i2b, o_i2s, o_i2l, o_lor, o_lshl, o_lcmp, o_dup, o_dup_x1, o_dup2, o_ifeq, o_iflt, o_ifge, o_ifgt, o_ifle, o_ceq, o_clt, o_cge, o_cgt, o_cle, o_sw, k_pick, o_ret, o_iret, o_zret, o_lret, o_aret, o_call, o_callV, k_pop, k_push, o_geti, o_getr, o_puti, o_putz, o_iald, o_iast, o_zald, o_zast, o_alen, o_copy, o_gets, o_sald, o_salen, o_min, k_sto, k_sto2, List.getElem?_cons_zero, List.getElem?_cons_succ, List.set_cons_zero, List.set_cons_succ, List.length_cons, List.length_nil, ite_true, ite_false, ↓reduceIte, true_and, and_true, and_self, or_true, true_or, or_false, false_or, or_self, eq_self, Nat.reduceLeDiff, Nat.reduceAdd, Nat.reduceSub, Nat.reduceLT, Nat.reduceEqDiff, Nat.zero_add, Nat.add_zero, Nat.le_refl, Nat.zero_le, Bool.false_eq_true, Int.reduceLE, Int.reduceLT, Int.reduceNeg, Int.natCast_nonneg, List.length_cons, not_true_eq_false, not_false_eq_true, false_and, and_false, gt_iff_lt, ge_iff_le, k_sh0, k_sh1, k_sh2, k_sh3, k_sh4, k_sh5, k_sh6, k_sh7, k_sh8, k_sh9, k_sh10, k_sh11, k_sh12, k_sh13, k_sh14, k_sh15, k_sh16, k_sh17, k_sh18, k_sh19, k_sh20, k_sh21, k_sh22, k_sh23, k_sh24, k_sh25, k_sh26, k_sh27, k_sh28, k_sh29, k_sh30, k_sh31, k_sh32, k_sh33, k_sh34, k_sh35, k_sh36, k_sh37, k_sh38, k_sh39, k_sh40, k_sh41, k_sh42, k_sh43, k_sh44, k_sh45, k_sh46, k_sh47, k_sh48, k_sh49, k_sh50, k_sh51, k_sh52, k_sh53, k_sh54, k_sh55, k_sh56, k_sh57, k_sh58, k_sh59, k_sh60, k_sh61, k_sh62, k_sh63, k_sh64, l_0, l_1, l_2, l_3, l_4, l_5, l_6, l_7, l_8, l_9, l_10, l_11, l_12, l_13, l_14, l_16, l_20, l_21, l_22, l_23, l_24, l_27, l_31, l_32, l_37, l_40, l_42, l_44, l_47, l_48, l_57, l_59, l_60, l_63, l_64, l_94, l_97, l_99, l_100, l_102, l_105, l_106, l_108, l_110, l_112, l_113, l_116, l_120, l_122, l_128, l_144, l_255, l_320, l_720, l_1000, l_1081, l_1128, l_9999, nI_add, pk_mul, k_nor, e_I, lt_I, le_I, nI_toInt, sub_I, inb_I, nI_clamp, bI_t0, bI_t1, bI_or, decide_eq_true_eq, decide_eq_false_iff_not, tn_1, tn_2, tn_3, tm_1, tm_2, tm_3, tm_1000000, tm_1000001, tm_1000002, tm_1000003, tm_1000010, tm_1000100, Int.cast_ofNat_Int, e4, tlt, flt, tle, fle, teq, feq, tltN, fltN, tleN, fleN, teqN, feqN]
  | succ m ih =>
    intro fu t I ht hf hC hA
    obtain ⟨fu, rfl⟩ : ∃ f, fu = f + 1 := ⟨fu - 1, by omega⟩
    have hr := rws_itr (rw' := rws a) (a := a) hb.1 t
    have hVt := itr_V (rw' := rws a) hv.1 t
    obtain ⟨⟨f0, f1, f2, f3, f4⟩, fr, fs⟩ := CT_f hVt (by rw [hr]; exact hC)
    obtain ⟨K1, k1, k2, k3⟩ := c_keep _ _ _ _ I hVt f2 f3 f4 fr fs hA (hst_v hv h2 hn rv t (by omega))
    obtain ⟨J1, r1, r2, r3, r4⟩ := c_goOn 7 31 (itr (rws a) a t) (rws a) K1 (Or.inl rfl) (by omega) hVt (by rw [itr_0]; omega) (by rw [rws_len]; exact h2) (by rw [rws_len]; exact hb.1) (fun f hf => by
      rw [itr_st (by omega) (by omega)]
      obtain ⟨i, hi, rfl⟩ := rws_mem hf
      exact (hv.1.2.1 i hi).1) (CT_c (fun k z1 z2 => k3 k (by omega)) hC)
    obtain ⟨J, g1, g2, g3, g4⟩ := ih fu (t + 1) J1 (by omega) (by omega) r2 (RAc_c (fun k z1 z2 => r3 k (by omega) (by omega)) k2)
    refine ⟨J, ?_, g2, g3, fun k z => by rw [g4 k z, r3 k (by omega) (by omega), k3 k (by omega)]⟩
    simp (disch := omega) only [b_x_steps_44, o_const, o_lconst, o_iload, o_lload, o_aload, o_istore, o_astore, o_lstore, o_iinc, o_bin, o_div, o_un, o_add, o_sub, o_mul, o_and, o_or, o_xor, o_shl, o_shr, o_ushr, o_idiv, o_irem, o_neg, o_i2b, o_i2s, o_i2l, o_lor, o_lshl, o_lcmp, o_dup, o_dup_x1, o_dup2, o_ifeq, o_iflt, o_ifge, o_ifgt, o_ifle, o_ceq, o_clt, o_cge, o_cgt, o_cle, o_sw, k_pick, o_ret, o_iret, o_zret, o_lret, o_aret, o_call, o_callV, k_pop, k_push, o_geti, o_getr, o_puti, o_putz, o_iald, o_iast, o_zald, o_zast, o_alen, o_copy, o_gets, o_sald, o_salen, o_min, k_sto, k_sto2, List.getElem?_cons_zero, List.getElem?_cons_succ, List.set_cons_zero, List.set_cons_succ, List.length_cons, List.length_nil, ite_true, ite_false, ↓reduceIte, true_and, and_true, and_self, or_true, true_or, or_false, false_or, or_self, eq_self, Nat.reduceLeDiff, Nat.reduceAdd, Nat.reduceSub, Nat.reduceLT, Nat.reduceEqDiff, Nat.zero_add, Nat.add_zero, Nat.le_refl, Nat.zero_le, Bool.false_eq_true, Int.reduceLE, Int.reduceLT, Int.reduceNeg, Int.natCast_nonneg, List.length_cons, not_true_eq_false, not_false_eq_true, false_and, and_false, gt_iff_lt, ge_iff_le, k_sh0, k_sh1, k_sh2, k_sh3, k_sh4, k_sh5, k_sh6, k_sh7, k_sh8, k_sh9, k_sh10, k_sh11, k_sh12, k_sh13, k_sh14, k_sh15, k_sh16, k_sh17, k_sh18, k_sh19, k_sh20, k_sh21, k_sh22, k_sh23, k_sh24, k_sh25, k_sh26, k_sh27, k_sh28, k_sh29, k_sh30, k_sh31, k_sh32, k_sh33, k_sh34, k_sh35, k_sh36, k_sh37, k_sh38, k_sh39, k_sh40, k_sh41, k_sh42, k_sh43, k_sh44, k_sh45, k_sh46, k_sh47, k_sh48, k_sh49, k_sh50, k_sh51, k_sh52, k_sh53, k_sh54, k_sh55, k_sh56, k_sh57, k_sh58, k_sh59, k_sh60, k_sh61, k_sh62, k_sh63, k_sh64, l_0, l_1, l_2, l_3, l_4, l_5, l_6, l_7, l_8, l_9, l_10, l_11, l_12, l_13, l_14, l_16, l_20, l_21, l_22, l_23, l_24, l_27, l_31, l_32, l_37, l_40, l_42, l_44, l_47, l_48, l_57, l_59, l_60, l_63, l_64, l_94, l_97, l_99, l_100, l_102, l_105, l_106, l_108, l_110, l_112, l_113, l_116, l_120, l_122, l_128, l_144, l_255, l_320, l_720, l_1000, l_1081, l_1128, l_9999, nI_add, pk_mul, k_nor, e_I, lt_I, le_I, nI_toInt, sub_I, inb_I, nI_clamp, bI_t0, bI_t1, bI_or, decide_eq_true_eq, decide_eq_false_iff_not, tn_1, tn_2, tn_3, tm_1, tm_2, tm_3, tm_1000000, tm_1000001, tm_1000002, tm_1000003, tm_1000010, tm_1000100, Int.cast_ofNat_Int, k1, r1, tlt, flt, tle, fle, teq, feq, tltN, fltN, tleN, fleN, teqN, feqN, g1]
theorem s_steps_loop (d : Nat) (a : Sa) (H : Nat → Sa) (n : Nat) (hv : Va a) (h2 : 0 < a 2) (hd : d ≤ 24) (ha : a 0 + d ≤ 9999) (hn : n ≤ 24) : ∀ (m fu t : Nat) (I : Mi), t + m = d → m < fu → MR I 54 0 (itr (rws a) a t) → RAm I (hst (rws a) a H t) (nst n t) → ∃ J, b_m_steps_42 fu [.ref 49, .int (nI d), .int (nI t)] [] I = some (.int (nI (ob (itr (rws a) a d) (a 3))), J) ∧ MR J 54 0 (itr (rws a) a d) ∧ RAm J (hst (rws a) a H d) (nst n d) ∧ (∀ k, k ≠ 54 → k ≠ 59 → k ≠ 49 → J k = I k) ∧ (∀ j, j ≠ 18 → J 49 j = I 49 j) := by
  have hb := hv.1.1
  intro m
  induction m with
  | zero =>
    intro fu t I ht hf hM hA
    obtain ⟨fu, rfl⟩ : ∃ f, fu = f + 1 := ⟨fu - 1, by omega⟩
    obtain rfl : t = d := by omega
    have e4 := s_offOf 54 (itr (rws a) a t) I rfl (itr_V hv.1 t) hM
    rw [itr_st (by omega) (by omega)] at e4
    refine ⟨I, ?_, hM, hA, fun _ _ _ _ => rfl, fun _ _ => rfl⟩
    simp (disch := omega) only [b_m_steps_42, o_const, o_lconst, o_iload, o_lload, o_aload, o_istore, o_astore, o_lstore, o_iinc, o_bin, o_div, o_un, o_add, o_sub, o_mul, o_and, o_or, o_xor, o_shl, o_shr, o_ushr, o_idiv, o_irem, o_neg, o_i2b, o_i2s, o_i2l, o_lor, o_lshl, o_lcmp, o_dup, o_dup_x1, o_dup2, o_ifeq, o_iflt, o_ifge, o_ifgt, o_ifle, o_ceq, o_clt, o_cge, o_cgt, o_cle, o_sw, k_pick, o_ret, o_iret, o_zret, o_lret, o_aret, o_call, o_callV, k_pop, k_push, o_geti, o_getr, o_puti, o_putz, o_iald, o_iast, o_zald, o_zast, o_alen, o_copy, o_gets, o_sald, o_salen, o_min, k_sto, k_sto2, List.getElem?_cons_zero, List.getElem?_cons_succ, List.set_cons_zero, List.set_cons_succ, List.length_cons, List.length_nil, ite_true, ite_false, ↓reduceIte, true_and, and_true, and_self, or_true, true_or, or_false, false_or, or_self, eq_self, Nat.reduceLeDiff, Nat.reduceAdd, Nat.reduceSub, Nat.reduceLT, Nat.reduceEqDiff, Nat.zero_add, Nat.add_zero, Nat.le_refl, Nat.zero_le, Bool.false_eq_true, Int.reduceLE, Int.reduceLT, Int.reduceNeg, Int.natCast_nonneg, List.length_cons, not_true_eq_false, not_false_eq_true, false_and, and_false, gt_iff_lt, ge_iff_le, k_sh0, k_sh1, k_sh2, k_sh3, k_sh4, k_sh5, k_sh6, k_sh7, k_sh8, k_sh9, k_sh10, k_sh11, k_sh12, k_sh13, k_sh14, k_sh15, k_sh16, k_sh17, k_sh18, k_sh19, k_sh20, k_sh21, k_sh22, k_sh23, k_sh24, k_sh25, k_sh26, k_sh27, k_sh28, k_sh29, k_sh30, k_sh31, k_sh32, k_sh33, k_sh34, k_sh35, k_sh36, k_sh37, k_sh38, k_sh39, k_sh40, k_sh41, k_sh42, k_sh43, k_sh44, k_sh45, k_sh46, k_sh47, k_sh48, k_sh49, k_sh50, k_sh51, k_sh52, k_sh53, k_sh54, k_sh55, k_sh56, k_sh57, k_sh58, k_sh59, k_sh60, k_sh61, k_sh62, k_sh63, k_sh64, l_0, l_1, l_2, l_3, l_4, l_5, l_6, l_7, l_8, l_9, l_10, l_11, l_12, l_13, l_14, l_16, l_20, l_21, l_22, l_23, l_24, l_27, l_31, l_32, l_37, l_40, l_42, l_44, l_47, l_48, l_57, l_59, l_60, l_63, l_64, l_94, l_97, l_99, l_100, l_102, l_105, l_106, l_108, l_110, l_112, l_113, l_116, l_120, l_122, l_128, l_144, l_255, l_320, l_720, l_1000, l_1081, l_1128, l_9999, nI_add, pk_mul, k_nor, e_I, lt_I, le_I, nI_toInt, sub_I, inb_I, nI_clamp, bI_t0, bI_t1, bI_or, decide_eq_true_eq, decide_eq_false_iff_not, tn_1, tn_2, tn_3, tm_1, tm_2, tm_3, tm_1000000, tm_1000001, tm_1000002, tm_1000003, tm_1000010, tm_1000100, Int.cast_ofNat_Int, e4, tlt, flt, tle, fle, teq, feq, tltN, fltN, tleN, fleN, teqN, feqN]
  | succ m ih =>
    intro fu t I ht hf hM hA
    obtain ⟨fu, rfl⟩ : ∃ f, fu = f + 1 := ⟨fu - 1, by omega⟩
    have hr := rws_itr (rw' := rws a) (a := a) hb.1 t
    have hVt := itr_V (rw' := rws a) hv.1 t
    have i2 : itr (rws a) a t 2 = a 2 := itr_st (by omega) (by omega) t
    obtain ⟨K, q1, q2, q3, q4⟩ := s_note _ _ _ I (nst_le hn t) hM hA
    have hMK : MR K 54 0 (itr (rws a) a t) := MR_c (q3 54 (by omega) (by omega)) hM
    have e2 : K 54 2 = nI (a 2) := by have := hMK 2 (by omega); rw [i2] at this; exact this
    have hfl := s_flock (a 2) K hb.1 e2
    have hpw := Nat.one_le_two_pow (n := a 2)
    obtain ⟨J1, p1, p2, p3⟩ := s_pass 54 (2 ^ (a 2) - 1) (itr (rws a) a t) K rfl hVt (by rw [itr_0]; omega) (by rw [i2]; omega) (by rw [pcn_full _ hb.1]; exact h2) hMK
    have hpf := pre_full hVt
    rw [i2] at hpf
    rw [i2, hpf, hr] at p3
    obtain ⟨J, g1, g2, g3, g4, g5⟩ := ih fu (t + 1) J1 (by omega) (by omega) p3 (RAm_c (p2 59 (by omega)) (by rw [p2 49 (by omega)]) q2)
    refine ⟨J, ?_, g2, g3, fun k z1 z2 z3 => by rw [g4 k z1 z2 z3, p2 k z1, q3 k z2 z3], fun j hj => by rw [g5 j hj, p2 49 (by omega), q4 j hj]⟩
    simp (disch := omega) only [b_m_steps_42, o_const, o_lconst, o_iload, o_lload, o_aload, o_istore, o_astore, o_lstore, o_iinc, o_bin, o_div, o_un, o_add, o_sub, o_mul, o_and, o_or, o_xor, o_shl, o_shr, o_ushr, o_idiv, o_irem, o_neg, o_i2b, o_i2s, o_i2l, o_lor, o_lshl, o_lcmp, o_dup, o_dup_x1, o_dup2, o_ifeq, o_iflt, o_ifge, o_ifgt, o_ifle, o_ceq, o_clt, o_cge, o_cgt, o_cle, o_sw, k_pick, o_ret, o_iret, o_zret, o_lret, o_aret, o_call, o_callV, k_pop, k_push, o_geti, o_getr, o_puti, o_putz, o_iald, o_iast, o_zald, o_zast, o_alen, o_copy, o_gets, o_sald, o_salen, o_min, k_sto, k_sto2, List.getElem?_cons_zero, List.getElem?_cons_succ, List.set_cons_zero, List.set_cons_succ, List.length_cons, List.length_nil, ite_true, ite_false, ↓reduceIte, true_and, and_true, and_self, or_true, true_or, or_false, false_or, or_self, eq_self, Nat.reduceLeDiff, Nat.reduceAdd, Nat.reduceSub, Nat.reduceLT, Nat.reduceEqDiff, Nat.zero_add, Nat.add_zero, Nat.le_refl, Nat.zero_le, Bool.false_eq_true, Int.reduceLE, Int.reduceLT, Int.reduceNeg, Int.natCast_nonneg, List.length_cons, not_true_eq_false, not_false_eq_true, false_and, and_false, gt_iff_lt, ge_iff_le, k_sh0, k_sh1, k_sh2, k_sh3, k_sh4, k_sh5, k_sh6, k_sh7, k_sh8, k_sh9, k_sh10, k_sh11, k_sh12, k_sh13, k_sh14, k_sh15, k_sh16, k_sh17, k_sh18, k_sh19, k_sh20, k_sh21, k_sh22, k_sh23, k_sh24, k_sh25, k_sh26, k_sh27, k_sh28, k_sh29, k_sh30, k_sh31, k_sh32, k_sh33, k_sh34, k_sh35, k_sh36, k_sh37, k_sh38, k_sh39, k_sh40, k_sh41, k_sh42, k_sh43, k_sh44, k_sh45, k_sh46, k_sh47, k_sh48, k_sh49, k_sh50, k_sh51, k_sh52, k_sh53, k_sh54, k_sh55, k_sh56, k_sh57, k_sh58, k_sh59, k_sh60, k_sh61, k_sh62, k_sh63, k_sh64, l_0, l_1, l_2, l_3, l_4, l_5, l_6, l_7, l_8, l_9, l_10, l_11, l_12, l_13, l_14, l_16, l_20, l_21, l_22, l_23, l_24, l_27, l_31, l_32, l_37, l_40, l_42, l_44, l_47, l_48, l_57, l_59, l_60, l_63, l_64, l_94, l_97, l_99, l_100, l_102, l_105, l_106, l_108, l_110, l_112, l_113, l_116, l_120, l_122, l_128, l_144, l_255, l_320, l_720, l_1000, l_1081, l_1128, l_9999, nI_add, pk_mul, k_nor, e_I, lt_I, le_I, nI_toInt, sub_I, inb_I, nI_clamp, bI_t0, bI_t1, bI_or, decide_eq_true_eq, decide_eq_false_iff_not, tn_1, tn_2, tn_3, tm_1, tm_2, tm_3, tm_1000000, tm_1000001, tm_1000002, tm_1000003, tm_1000010, tm_1000100, Int.cast_ofNat_Int, q1, hfl, p1, tlt, flt, tle, fle, teq, feq, tltN, fltN, tleN, fleN, teqN, feqN, g1]
