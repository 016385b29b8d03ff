theorem mult_next {n t t0 : Nat} (h0 : t0 % n = 0) (h : t % n = 0) (h1 : t0 < t) (h2 : t ≤ t0 + n) : t = t0 + n := by
  obtain ⟨k, rfl⟩ := Nat.dvd_of_mod_eq_zero h
  obtain ⟨j, rfl⟩ := Nat.dvd_of_mod_eq_zero h0
  have hj : j < k := Nat.lt_of_mul_lt_mul_left h1
  have : n * (j + 1) ≤ n * k := Nat.mul_le_mul_left n hj
  rw [Nat.mul_add, Nat.mul_one] at this
  omega
/-- what the class keeps of the rounds before t -/
def SI (rw' : List Nat) (a : Sa) (W : Nat) (L : Int64) (t : Nat) : Prop := (∀ i, i < t → ¬ aof (itr rw' a i) W) ∧ ((t = 0 ∧ L = -1) ∨ ∃ t0, t0 < t ∧ t ≤ t0 + rw'.length ∧ t0 % rw'.length = 0 ∧ L = lk (wm (itr rw' a t0) W (a 3)))
theorem c_soonest_loop (W l : Nat) (a : Sa) (rw' : List Nat) (hv : Vs a) (hW : W < 2 ^ (a 3)) (hl : l ≤ 99) (h0 : a 0 < 2 ^ 19) (hn : 0 < rw'.length) (hn6 : rw'.length ≤ 6) (hm : ∀ f, f ∈ rw' → f < a 2) : ∀ (m fu t : Nat) (I : Mi) (L : Int64) (z6 z7 : Value), ((z6 = .null ∧ z7 = .null) ∨ ∃ x, z6 = .long x ∧ z7 = .retAddr 0) → t + m = l + 1 → m < fu → CT I 38 (itr rw' a t) rw' W → SI rw' a W L t → ∃ J t', b_F_soonest_21 fu [.ref 37, .int (nI W), .int (nI l), .long L, .retAddr 0, .int (nI t), z6, z7] [] I = some (.int (fo rw' a W m t), J) ∧ CT J 38 (itr rw' a t') rw' W ∧ FrT 38 I J := by
  have hb := hv.1
  have hW32 := Nat.lt_of_lt_of_le hW (pow5 _ hb.2.1)
  intro m
  induction m with
  | zero =>
    intro fu t I L z6 z7 hz ht hf hC hS
    obtain ⟨fu, rfl⟩ : ∃ f, fu = f + 1 := ⟨fu - 1, by omega⟩
    refine ⟨I, t, ?_, hC, FrT.rf⟩
    simp (disch := omega) only [b_F_soonest_21, fo, o_const, o_lconst, o_iload, o_lload, o_aload, o_istore, o_astore, o_lstore, o_iinc, o_bin, o_div, o_un, o_add, o_sub, o_mul, o_and, o_or, o_xor, o_shl, o_shr, o_ushr, o_idiv, o_irem, o_neg, o_i2b, o_i2s, o_i2l, o_lor, o_lshl, o_lcmp, o_dup, o_dup_x1, o_dup2, o_ifeq, o_iflt, o_ifge, o_ifgt, o_ifle, o_ceq, o_clt, o_cge, o_cgt, o_cle, o_sw, k_pick, o_ret, o_iret, o_zret, o_lret, o_aret, o_call, o_callV, k_pop, k_push, o_geti, o_getr, o_puti, o_putz, o_iald, o_iast, o_zald, o_zast, o_alen, o_copy, o_gets, o_sald, o_salen, o_min, k_sto, k_sto2, List.getElem?_cons_zero, List.getElem?_cons_succ, List.set_cons_zero, List.set_cons_succ, List.length_cons, List.length_nil, ite_true, ite_false, ↓reduceIte, true_and, and_true, and_self, or_true, true_or, or_false, false_or, or_self, eq_self, Nat.reduceLeDiff, Nat.reduceAdd, Nat.reduceSub, Nat.reduceLT, Nat.reduceEqDiff, Nat.zero_add, Nat.add_zero, Nat.le_refl, Nat.zero_le, Bool.false_eq_true, Int.reduceLE, Int.reduceLT, Int.reduceNeg, Int.natCast_nonneg, List.length_cons, not_true_eq_false, not_false_eq_true, false_and, and_false, gt_iff_lt, ge_iff_le, k_sh0, k_sh1, k_sh2, k_sh3, k_sh4, k_sh5, k_sh6, k_sh7, k_sh8, k_sh9, k_sh10, k_sh11, k_sh12, k_sh13, k_sh14, k_sh15, k_sh16, k_sh17, k_sh18, k_sh19, k_sh20, k_sh21, k_sh22, k_sh23, k_sh24, k_sh25, k_sh26, k_sh27, k_sh28, k_sh29, k_sh30, k_sh31, k_sh32, k_sh33, k_sh34, k_sh35, k_sh36, k_sh37, k_sh38, k_sh39, k_sh40, k_sh41, k_sh42, k_sh43, k_sh44, k_sh45, k_sh46, k_sh47, k_sh48, k_sh49, k_sh50, k_sh51, k_sh52, k_sh53, k_sh54, k_sh55, k_sh56, k_sh57, k_sh58, k_sh59, k_sh60, k_sh61, k_sh62, k_sh63, k_sh64, l_0, l_1, l_2, l_3, l_4, l_5, l_6, l_7, l_8, l_9, l_10, l_11, l_12, l_13, l_14, l_16, l_20, l_21, l_22, l_23, l_24, l_27, l_31, l_32, l_37, l_40, l_42, l_44, l_47, l_48, l_57, l_59, l_60, l_63, l_64, l_94, l_97, l_99, l_100, l_102, l_105, l_106, l_108, l_110, l_112, l_113, l_116, l_120, l_122, l_128, l_144, l_255, l_320, l_720, l_1000, l_1081, l_1128, l_9999, nI_add, pk_mul, k_nor, e_I, lt_I, le_I, nI_toInt, sub_I, inb_I, nI_clamp, bI_t0, bI_t1, bI_or, decide_eq_true_eq, decide_eq_false_iff_not, tn_1, tn_2, tn_3, tm_1, tm_2, tm_3, tm_1000000, tm_1000001, tm_1000002, tm_1000003, tm_1000010, tm_1000100, Int.cast_ofNat_Int, tlt, flt, tle, fle, teq, feq, tltN, fltN, tleN, fleN, teqN, feqN]
  | succ m ih =>
    intro fu t I L z6 z7 hz ht hf hC hS
    obtain ⟨fu, rfl⟩ : ∃ f, fu = f + 1 := ⟨fu - 1, by omega⟩
    have i3 : itr rw' a t 3 = a 3 := itr_st (by omega) (by omega) t
    have hVt := itr_V (rw' := rw') hv t
    have hC2 := hC
    obtain ⟨⟨c0, c1, c2, c3⟩, cr, cf, cs, o, ho, eo, cd⟩ := hC2
    rw [i3] at ho
    have ho32 := Nat.lt_of_lt_of_le ho (pow5 _ hb.2.1)
    have hlv := lv_aof (x := itr rw' a t) (o := o) (W := W) (by rw [i3]; exact hb.2.1) ho32 (by rw [i3]; exact hW) (fun s hs hb' => (cd s hs hb').2)
    have hand := lv_e o ho32 W hW32
    have hvlt := lvw_lt o ho32 W hW32
    generalize lv o W = v at hlv hand hvlt
    by_cases hq : aof (itr rw' a t) W
    · have hvW : v = W := hlv.mpr hq
      subst hvW
      refine ⟨I, t, ?_, hC, FrT.rf⟩
      rw [fo, if_pos (aofb_iff.mpr hq)]
      simp (disch := omega) only [b_F_soonest_21, o_const, o_lconst, o_iload, o_lload, o_aload, o_istore, o_astore, o_lstore, o_iinc, o_bin, o_div, o_un, o_add, o_sub, o_mul, o_and, o_or, o_xor, o_shl, o_shr, o_ushr, o_idiv, o_irem, o_neg, o_i2b, o_i2s, o_i2l, o_lor, o_lshl, o_lcmp, o_dup, o_dup_x1, o_dup2, o_ifeq, o_iflt, o_ifge, o_ifgt, o_ifle, o_ceq, o_clt, o_cge, o_cgt, o_cle, o_sw, k_pick, o_ret, o_iret, o_zret, o_lret, o_aret, o_call, o_callV, k_pop, k_push, o_geti, o_getr, o_puti, o_putz, o_iald, o_iast, o_zald, o_zast, o_alen, o_copy, o_gets, o_sald, o_salen, o_min, k_sto, k_sto2, List.getElem?_cons_zero, List.getElem?_cons_succ, List.set_cons_zero, List.set_cons_succ, List.length_cons, List.length_nil, ite_true, ite_false, ↓reduceIte, true_and, and_true, and_self, or_true, true_or, or_false, false_or, or_self, eq_self, Nat.reduceLeDiff, Nat.reduceAdd, Nat.reduceSub, Nat.reduceLT, Nat.reduceEqDiff, Nat.zero_add, Nat.add_zero, Nat.le_refl, Nat.zero_le, Bool.false_eq_true, Int.reduceLE, Int.reduceLT, Int.reduceNeg, Int.natCast_nonneg, List.length_cons, not_true_eq_false, not_false_eq_true, false_and, and_false, gt_iff_lt, ge_iff_le, k_sh0, k_sh1, k_sh2, k_sh3, k_sh4, k_sh5, k_sh6, k_sh7, k_sh8, k_sh9, k_sh10, k_sh11, k_sh12, k_sh13, k_sh14, k_sh15, k_sh16, k_sh17, k_sh18, k_sh19, k_sh20, k_sh21, k_sh22, k_sh23, k_sh24, k_sh25, k_sh26, k_sh27, k_sh28, k_sh29, k_sh30, k_sh31, k_sh32, k_sh33, k_sh34, k_sh35, k_sh36, k_sh37, k_sh38, k_sh39, k_sh40, k_sh41, k_sh42, k_sh43, k_sh44, k_sh45, k_sh46, k_sh47, k_sh48, k_sh49, k_sh50, k_sh51, k_sh52, k_sh53, k_sh54, k_sh55, k_sh56, k_sh57, k_sh58, k_sh59, k_sh60, k_sh61, k_sh62, k_sh63, k_sh64, l_0, l_1, l_2, l_3, l_4, l_5, l_6, l_7, l_8, l_9, l_10, l_11, l_12, l_13, l_14, l_16, l_20, l_21, l_22, l_23, l_24, l_27, l_31, l_32, l_37, l_40, l_42, l_44, l_47, l_48, l_57, l_59, l_60, l_63, l_64, l_94, l_97, l_99, l_100, l_102, l_105, l_106, l_108, l_110, l_112, l_113, l_116, l_120, l_122, l_128, l_144, l_255, l_320, l_720, l_1000, l_1081, l_1128, l_9999, nI_add, pk_mul, k_nor, e_I, lt_I, le_I, nI_toInt, sub_I, inb_I, nI_clamp, bI_t0, bI_t1, bI_or, decide_eq_true_eq, decide_eq_false_iff_not, tn_1, tn_2, tn_3, tm_1, tm_2, tm_3, tm_1000000, tm_1000001, tm_1000002, tm_1000003, tm_1000010, tm_1000100, Int.cast_ofNat_Int, eo, hand, tlt, flt, tle, fle, teq, feq, tltN, fltN, tleN, fleN, teqN, feqN]
    · have hvW : v ≠ W := fun e => hq (hlv.mp e)
      have hrem := remn rw'.length hn6 hn t (by omega)
      rw [fo, if_neg (fun e => hq (aofb_iff.mp e))]
      have hnone : ∀ i, i < t + 1 → ¬ aof (itr rw' a i) W := fun i hi => by
        by_cases e : i = t
        · rw [e]; exact hq
        · exact hS.1 i (by omega)
      obtain ⟨J1, r1, r2, r3, r4⟩ := c_goOn 38 W (itr rw' a t) rw' I (Or.inr (Or.inr (Or.inr rfl))) hW32 hVt (by rw [itr_0]; omega) hn hn6 (fun f hf => by rw [itr_st (by omega) (by omega)]; exact hm f hf) hC
      by_cases hr : t % rw'.length = 0
      · have hwm := c_whatMatters W (itr rw' a t) rw' I hW32 hVt hC
        rw [i3] at hwm
        have hlt : ∀ u, wm (itr rw' a u) W (a 3) < 2 ^ 60 := fun u => by
          have h1 := wm_lt (a := itr rw' a u) (W := W) (a 3) (fun s hs => ((itr_V (rw' := rw') hv u).2.2.2 s (by rw [itr_st (by omega) (by omega)]; exact hs)).2.2.2.1)
          have h2 : 256 ^ (a 3) ≤ 256 ^ 5 := Nat.pow_le_pow_right (by omega) hb.2.1
          omega
        by_cases hL : lk (wm (itr rw' a t) W (a 3)) = L
        · rcases hS.2 with ⟨-, hL2⟩ | ⟨t0, g1, g2, g3, g4⟩
          · exact absurd (hL.trans hL2) (lk_m1 (hlt t))
          · have et := mult_next g3 hr g1 g2
            have hw2 := lk_inj (hlt t) (hlt t0) (hL.trans g4)
            have hk := wm_inj (a 3) (fun s hs => ((itr_V (rw' := rw') hv t0).2.2.2 s (by rw [itr_st (by omega) (by omega)]; exact hs)).2.2.2.1) (fun s hs => (hVt.2.2.2 s (by rw [i3]; exact hs)).2.2.2.1) hw2.symm
            rw [et] at hk
            have hper := per_off hv hn (fun f hf => by have := hm f hf; omega) hk (fun i hi => hS.1 (t0 + i) (by omega))
            rw [fo_none m (t + 1) (fun i hi => by
              have := hper (i - t0)
              rw [show t0 + (i - t0) = i by omega] at this
              exact this)]
            have hcmp := lg_eq hL
            refine ⟨I, t, ?_, hC, FrT.rf⟩
            rw [hr] at hrem
            rcases hz with ⟨rfl, rfl⟩ | ⟨x, rfl, rfl⟩ <;> simp (disch := omega) only [b_F_soonest_21, o_const, o_lconst, o_iload, o_lload, o_aload, o_istore, o_astore, o_lstore, o_iinc, o_bin, o_div, o_un, o_add, o_sub, o_mul, o_and, o_or, o_xor, o_shl, o_shr, o_ushr, o_idiv, o_irem, o_neg, o_i2b, o_i2s, o_i2l, o_lor, o_lshl, o_lcmp, o_dup, o_dup_x1, o_dup2, o_ifeq, o_iflt, o_ifge, o_ifgt, o_ifle, o_ceq, o_clt, o_cge, o_cgt, o_cle, o_sw, k_pick, o_ret, o_iret, o_zret, o_lret, o_aret, o_call, o_callV, k_pop, k_push, o_geti, o_getr, o_puti, o_putz, o_iald, o_iast, o_zald, o_zast, o_alen, o_copy, o_gets, o_sald, o_salen, o_min, k_sto, k_sto2, List.getElem?_cons_zero, List.getElem?_cons_succ, List.set_cons_zero, List.set_cons_succ, List.length_cons, List.length_nil, ite_true, ite_false, ↓reduceIte, true_and, and_true, and_self, or_true, true_or, or_false, false_or, or_self, eq_self, Nat.reduceLeDiff, Nat.reduceAdd, Nat.reduceSub, Nat.reduceLT, Nat.reduceEqDiff, Nat.zero_add, Nat.add_zero, Nat.le_refl, Nat.zero_le, Bool.false_eq_true, Int.reduceLE, Int.reduceLT, Int.reduceNeg, Int.natCast_nonneg, List.length_cons, not_true_eq_false, not_false_eq_true, false_and, and_false, gt_iff_lt, ge_iff_le, k_sh0, k_sh1, k_sh2, k_sh3, k_sh4, k_sh5, k_sh6, k_sh7, k_sh8, k_sh9, k_sh10, k_sh11, k_sh12, k_sh13, k_sh14, k_sh15, k_sh16, k_sh17, k_sh18, k_sh19, k_sh20, k_sh21, k_sh22, k_sh23, k_sh24, k_sh25, k_sh26, k_sh27, k_sh28, k_sh29, k_sh30, k_sh31, k_sh32, k_sh33, k_sh34, k_sh35, k_sh36, k_sh37, k_sh38, k_sh39, k_sh40, k_sh41, k_sh42, k_sh43, k_sh44, k_sh45, k_sh46, k_sh47, k_sh48, k_sh49, k_sh50, k_sh51, k_sh52, k_sh53, k_sh54, k_sh55, k_sh56, k_sh57, k_sh58, k_sh59, k_sh60, k_sh61, k_sh62, k_sh63, k_sh64, l_0, l_1, l_2, l_3, l_4, l_5, l_6, l_7, l_8, l_9, l_10, l_11, l_12, l_13, l_14, l_16, l_20, l_21, l_22, l_23, l_24, l_27, l_31, l_32, l_37, l_40, l_42, l_44, l_47, l_48, l_57, l_59, l_60, l_63, l_64, l_94, l_97, l_99, l_100, l_102, l_105, l_106, l_108, l_110, l_112, l_113, l_116, l_120, l_122, l_128, l_144, l_255, l_320, l_720, l_1000, l_1081, l_1128, l_9999, nI_add, pk_mul, k_nor, e_I, lt_I, le_I, nI_toInt, sub_I, inb_I, nI_clamp, bI_t0, bI_t1, bI_or, decide_eq_true_eq, decide_eq_false_iff_not, tn_1, tn_2, tn_3, tm_1, tm_2, tm_3, tm_1000000, tm_1000001, tm_1000002, tm_1000003, tm_1000010, tm_1000100, Int.cast_ofNat_Int, eo, hand, c0, hrem, hwm, hcmp, tlt, flt, tle, fle, teq, feq, tltN, fltN, tleN, fleN, teqN, feqN]
        · have hcmp := lg_ne hL
          obtain ⟨J, t', g1, g2, g3⟩ := ih fu (t + 1) J1 (lk (wm (itr rw' a t) W (a 3))) (.long (lk (wm (itr rw' a t) W (a 3)))) (.retAddr 0) (Or.inr ⟨_, rfl, rfl⟩) (by omega) (by omega) r2 ⟨hnone, Or.inr ⟨t, by omega, by omega, hr, rfl⟩⟩
          refine ⟨J, t', ?_, g2, FrT.tr ⟨r3, r4⟩ g3⟩
          rw [hr] at hrem
          have hcc : ¬ (lg_cmp (lk (wm (itr rw' a t) W (a 3))) L).toInt = 0 := fun q => hcmp (Int32.toInt_inj.mp (by rw [q]; decide +kernel))
          rcases hz with ⟨rfl, rfl⟩ | ⟨x, rfl, rfl⟩ <;> simp (disch := omega) only [b_F_soonest_21, b_F_soonest_79, b_F_soonest_0, r_F_soonest, o_const, o_lconst, o_iload, o_lload, o_aload, o_istore, o_astore, o_lstore, o_iinc, o_bin, o_div, o_un, o_add, o_sub, o_mul, o_and, o_or, o_xor, o_shl, o_shr, o_ushr, o_idiv, o_irem, o_neg, o_i2b, o_i2s, o_i2l, o_lor, o_lshl, o_lcmp, o_dup, o_dup_x1, o_dup2, o_ifeq, o_iflt, o_ifge, o_ifgt, o_ifle, o_ceq, o_clt, o_cge, o_cgt, o_cle, o_sw, k_pick, o_ret, o_iret, o_zret, o_lret, o_aret, o_call, o_callV, k_pop, k_push, o_geti, o_getr, o_puti, o_putz, o_iald, o_iast, o_zald, o_zast, o_alen, o_copy, o_gets, o_sald, o_salen, o_min, k_sto, k_sto2, List.getElem?_cons_zero, List.getElem?_cons_succ, List.set_cons_zero, List.set_cons_succ, List.length_cons, List.length_nil, ite_true, ite_false, ↓reduceIte, true_and, and_true, and_self, or_true, true_or, or_false, false_or, or_self, eq_self, Nat.reduceLeDiff, Nat.reduceAdd, Nat.reduceSub, Nat.reduceLT, Nat.reduceEqDiff, Nat.zero_add, Nat.add_zero, Nat.le_refl, Nat.zero_le, Bool.false_eq_true, Int.reduceLE, Int.reduceLT, Int.reduceNeg, Int.natCast_nonneg, List.length_cons, not_true_eq_false, not_false_eq_true, false_and, and_false, gt_iff_lt, ge_iff_le, k_sh0, k_sh1, k_sh2, k_sh3, k_sh4, k_sh5, k_sh6, k_sh7, k_sh8, k_sh9, k_sh10, k_sh11, k_sh12, k_sh13, k_sh14, k_sh15, k_sh16, k_sh17, k_sh18, k_sh19, k_sh20, k_sh21, k_sh22, k_sh23, k_sh24, k_sh25, k_sh26, k_sh27, k_sh28, k_sh29, k_sh30, k_sh31, k_sh32, k_sh33, k_sh34, k_sh35, k_sh36, k_sh37, k_sh38, k_sh39, k_sh40, k_sh41, k_sh42, k_sh43, k_sh44, k_sh45, k_sh46, k_sh47, k_sh48, k_sh49, k_sh50, k_sh51, k_sh52, k_sh53, k_sh54, k_sh55, k_sh56, k_sh57, k_sh58, k_sh59, k_sh60, k_sh61, k_sh62, k_sh63, k_sh64, l_0, l_1, l_2, l_3, l_4, l_5, l_6, l_7, l_8, l_9, l_10, l_11, l_12, l_13, l_14, l_16, l_20, l_21, l_22, l_23, l_24, l_27, l_31, l_32, l_37, l_40, l_42, l_44, l_47, l_48, l_57, l_59, l_60, l_63, l_64, l_94, l_97, l_99, l_100, l_102, l_105, l_106, l_108, l_110, l_112, l_113, l_116, l_120, l_122, l_128, l_144, l_255, l_320, l_720, l_1000, l_1081, l_1128, l_9999, nI_add, pk_mul, k_nor, e_I, lt_I, le_I, nI_toInt, sub_I, inb_I, nI_clamp, bI_t0, bI_t1, bI_or, decide_eq_true_eq, decide_eq_false_iff_not, tn_1, tn_2, tn_3, tm_1, tm_2, tm_3, tm_1000000, tm_1000001, tm_1000002, tm_1000003, tm_1000010, tm_1000100, Int.cast_ofNat_Int, eo, hand, c0, hrem, hwm, hcc, r1, tlt, flt, tle, fle, teq, feq, tltN, fltN, tleN, fleN, teqN, feqN, g1]
      · obtain ⟨J, t', g1, g2, g3⟩ := ih fu (t + 1) J1 L z6 z7 hz (by omega) (by omega) r2 ⟨hnone, by
          rcases hS.2 with ⟨rfl, -⟩ | ⟨t0, g1, g2, g3, g4⟩
          · exact absurd (Nat.zero_mod _) hr
          · refine Or.inr ⟨t0, by omega, ?_, g3, g4⟩
            by_cases e : t = t0 + rw'.length
            · rw [e, Nat.add_mod_right] at hr
              exact absurd g3 hr
            · omega⟩
        refine ⟨J, t', ?_, g2, FrT.tr ⟨r3, r4⟩ g3⟩
        have hr0 : 0 < t % rw'.length := by omega
        have hr1 : t % rw'.length < rw'.length := Nat.mod_lt _ hn
        generalize t % rw'.length = tm at hrem hr0 hr1
        rcases hz with ⟨rfl, rfl⟩ | ⟨x, rfl, rfl⟩ <;> simp (disch := omega) only [b_F_soonest_21, b_F_soonest_79, b_F_soonest_0, r_F_soonest, o_const, o_lconst, o_iload, o_lload, o_aload, o_istore, o_astore, o_lstore, o_iinc, o_bin, o_div, o_un, o_add, o_sub, o_mul, o_and, o_or, o_xor, o_shl, o_shr, o_ushr, o_idiv, o_irem, o_neg, o_i2b, o_i2s, o_i2l, o_lor, o_lshl, o_lcmp, o_dup, o_dup_x1, o_dup2, o_ifeq, o_iflt, o_ifge, o_ifgt, o_ifle, o_ceq, o_clt, o_cge, o_cgt, o_cle, o_sw, k_pick, o_ret, o_iret, o_zret, o_lret, o_aret, o_call, o_callV, k_pop, k_push, o_geti, o_getr, o_puti, o_putz, o_iald, o_iast, o_zald, o_zast, o_alen, o_copy, o_gets, o_sald, o_salen, o_min, k_sto, k_sto2, List.getElem?_cons_zero, List.getElem?_cons_succ, List.set_cons_zero, List.set_cons_succ, List.length_cons, List.length_nil, ite_true, ite_false, ↓reduceIte, true_and, and_true, and_self, or_true, true_or, or_false, false_or, or_self, eq_self, Nat.reduceLeDiff, Nat.reduceAdd, Nat.reduceSub, Nat.reduceLT, Nat.reduceEqDiff, Nat.zero_add, Nat.add_zero, Nat.le_refl, Nat.zero_le, Bool.false_eq_true, Int.reduceLE, Int.reduceLT, Int.reduceNeg, Int.natCast_nonneg, List.length_cons, not_true_eq_false, not_false_eq_true, false_and, and_false, gt_iff_lt, ge_iff_le, k_sh0, k_sh1, k_sh2, k_sh3, k_sh4, k_sh5, k_sh6, k_sh7, k_sh8, k_sh9, k_sh10, k_sh11, k_sh12, k_sh13, k_sh14, k_sh15, k_sh16, k_sh17, k_sh18, k_sh19, k_sh20, k_sh21, k_sh22, k_sh23, k_sh24, k_sh25, k_sh26, k_sh27, k_sh28, k_sh29, k_sh30, k_sh31, k_sh32, k_sh33, k_sh34, k_sh35, k_sh36, k_sh37, k_sh38, k_sh39, k_sh40, k_sh41, k_sh42, k_sh43, k_sh44, k_sh45, k_sh46, k_sh47, k_sh48, k_sh49, k_sh50, k_sh51, k_sh52, k_sh53, k_sh54, k_sh55, k_sh56, k_sh57, k_sh58, k_sh59, k_sh60, k_sh61, k_sh62, k_sh63, k_sh64, l_0, l_1, l_2, l_3, l_4, l_5, l_6, l_7, l_8, l_9, l_10, l_11, l_12, l_13, l_14, l_16, l_20, l_21, l_22, l_23, l_24, l_27, l_31, l_32, l_37, l_40, l_42, l_44, l_47, l_48, l_57, l_59, l_60, l_63, l_64, l_94, l_97, l_99, l_100, l_102, l_105, l_106, l_108, l_110, l_112, l_113, l_116, l_120, l_122, l_128, l_144, l_255, l_320, l_720, l_1000, l_1081, l_1128, l_9999, nI_add, pk_mul, k_nor, e_I, lt_I, le_I, nI_toInt, sub_I, inb_I, nI_clamp, bI_t0, bI_t1, bI_or, decide_eq_true_eq, decide_eq_false_iff_not, tn_1, tn_2, tn_3, tm_1, tm_2, tm_3, tm_1000000, tm_1000001, tm_1000002, tm_1000003, tm_1000010, tm_1000100, Int.cast_ofNat_Int, eo, hand, c0, hrem, r1, tlt, flt, tle, fle, teq, feq, tltN, fltN, tleN, fleN, teqN, feqN, g1]
