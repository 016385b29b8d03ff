section Sq2
variable {tp : Nat → Nat} {n : Nat}
theorem MR_aZ {I : Mi} (h : MR I 55 0 (fun _ => 0)) : MR (k_mu I 55 1 (nI (pv tp n (sQ tp n)))) 55 0 (aZ tp n) := by
  intro j hj
  rw [Nat.zero_add, mu_get]
  unfold aZ
  by_cases e : j = 1
  · rw [if_pos ⟨rfl, e⟩, if_pos e]
  · rw [if_neg (fun z => e z.2), if_neg e]
    have := h j hj
    rw [Nat.zero_add] at this
    exact this
/-- behind the zeros -/
theorem s_isRead_mid (fu : Nat) (I : Mi) (hn : n ≤ 100) (htp : ∀ i, tp i < 256) (ht : TPm tp n I) (hM : MR I 55 0 (fun _ => 0)) : ∃ J, b_m_isRead_2 (fu + 1) [.ref 49, .int (nI 47)] [] I = some (.int (bI (isl (pE tp n))), J) ∧ (∀ q, pE tp n = .inl q → MR J 55 0 (pS tp n).2) ∧ (∀ f q, pE tp n = .inr (f, q) → J 49 10 = nI f ∧ J 49 7 = nI q) ∧ FrM I J := by
  have fr0 : FrM I (k_mu I 49 6 (nI 0)) := ⟨fun k z1 _ => mu_cell _ _ z1, fun i z => by rw [mu_get, if_neg (by omega)]⟩
  have m0 : MD tp n (k_mu I 49 6 (nI 0)) 0 := ⟨by rw [mu_get, if_pos ⟨rfl, rfl⟩], Nat.zero_le _, TPm_m fr0 ht⟩
  obtain ⟨J1, a1, a2, a3, a4⟩ := s_isSign 113 0 _ hn htp (by omega) m0
  have stopE : ∀ x, sL tp n = .inr x → pE tp n = .inr x := by
    intro x hx
    unfold pE pS pF
    rw [hx]
    show enS tp n (sk tp n 6 (fk tp n 7 (.inr x) (aZ tp n)).1 (fk tp n 7 (.inr x) (aZ tp n)).2).1 = .inr x
    rw [fk_r]
    simp only [sk_r]
    rfl
  rw [show tk1 tp n (.inl 0) 113 = sQ tp n from rfl] at a1 a2
  cases hQ : sQ tp n with
  | inr x =>
    have hE := stopE x (by unfold sL; rw [hQ]; rfl)
    rw [hQ] at a1 a2
    rw [show bI (isl (.inr x)) = nI 0 from rfl] at a1
    refine ⟨J1, ?_, fun q h => (by rw [hE] at h; cases h), fun f q h => (by rw [hE] at h; cases h; exact a2), FrM.tr fr0 a3⟩
    rw [hE, show bI (isl (.inr x)) = nI 0 from rfl]
    simp (disch := omega) only [b_m_isRead_2, b_m_isRead_45, o_const, o_lconst, o_iload, o_lload, o_aload, o_istore, o_astore, o_lstore, o_iinc, o_bin, o_div, o_un, o_add, o_sub, o_mul, o_and, o_or, o_xor, o_shl, o_shr, o_ushr, o_idiv, o_irem, o_neg, o_i2b, o_i2s, o_i2l, o_lor, o_lshl, o_lcmp, o_dup, o_dup_x1, o_dup2, o_ifeq, o_iflt, o_ifge, o_ifgt, o_ifle, o_ceq, o_clt, o_cge, o_cgt, o_cle, o_sw, k_pick, o_ret, o_iret, o_zret, o_lret, o_aret, o_call, o_callV, k_pop, k_push, o_geti, o_getr, o_puti, o_putz, o_iald, o_iast, o_zald, o_zast, o_alen, o_copy, o_gets, o_sald, o_salen, o_min, k_sto, k_sto2, List.getElem?_cons_zero, List.getElem?_cons_succ, List.set_cons_zero, List.set_cons_succ, List.length_cons, List.length_nil, ite_true, ite_false, ↓reduceIte, true_and, and_true, and_self, or_true, true_or, or_false, false_or, or_self, eq_self, Nat.reduceLeDiff, Nat.reduceAdd, Nat.reduceSub, Nat.reduceLT, Nat.reduceEqDiff, Nat.zero_add, Nat.add_zero, Nat.le_refl, Nat.zero_le, Bool.false_eq_true, Int.reduceLE, Int.reduceLT, Int.reduceNeg, Int.natCast_nonneg, List.length_cons, not_true_eq_false, not_false_eq_true, false_and, and_false, gt_iff_lt, ge_iff_le, k_sh0, k_sh1, k_sh2, k_sh3, k_sh4, k_sh5, k_sh6, k_sh7, k_sh8, k_sh9, k_sh10, k_sh11, k_sh12, k_sh13, k_sh14, k_sh15, k_sh16, k_sh17, k_sh18, k_sh19, k_sh20, k_sh21, k_sh22, k_sh23, k_sh24, k_sh25, k_sh26, k_sh27, k_sh28, k_sh29, k_sh30, k_sh31, k_sh32, k_sh33, k_sh34, k_sh35, k_sh36, k_sh37, k_sh38, k_sh39, k_sh40, k_sh41, k_sh42, k_sh43, k_sh44, k_sh45, k_sh46, k_sh47, k_sh48, k_sh49, k_sh50, k_sh51, k_sh52, k_sh53, k_sh54, k_sh55, k_sh56, k_sh57, k_sh58, k_sh59, k_sh60, k_sh61, k_sh62, k_sh63, k_sh64, l_0, l_1, l_2, l_3, l_4, l_5, l_6, l_7, l_8, l_9, l_10, l_11, l_12, l_13, l_14, l_16, l_20, l_21, l_22, l_23, l_24, l_27, l_31, l_32, l_37, l_40, l_42, l_44, l_47, l_48, l_57, l_59, l_60, l_63, l_64, l_94, l_97, l_99, l_100, l_102, l_105, l_106, l_108, l_110, l_112, l_113, l_116, l_120, l_122, l_128, l_144, l_255, l_320, l_720, l_1000, l_1081, l_1128, l_9999, nI_add, pk_mul, k_nor, e_I, lt_I, le_I, nI_toInt, sub_I, inb_I, nI_clamp, bI_t0, bI_t1, bI_or, decide_eq_true_eq, decide_eq_false_iff_not, tn_1, tn_2, tn_3, tm_1, tm_2, tm_3, tm_1000000, tm_1000001, tm_1000002, tm_1000003, tm_1000010, tm_1000100, Int.cast_ofNat_Int, a1, tlt, flt, tle, fle, teq, feq, tltN, fltN, tleN, fleN, teqN, feqN]
  | inl p1 =>
    rw [hQ] at a1 a2
    rw [show bI (isl (.inl p1)) = nI 1 from rfl] at a1
    obtain ⟨J2, b1, b2, b3, b4, b5⟩ := s_isNumber 0 9 p1 J1 hn htp (by omega) (by omega) a2
    cases hN : nm1 tp n (.inl p1) 0 9 with
    | inr x =>
      have hE := stopE x (by unfold sL; rw [hQ, hN]; rfl)
      rw [hN] at b1 b2
      rw [show bI (isl (.inr x)) = nI 0 from rfl] at b1
      refine ⟨J2, ?_, fun q h => (by rw [hE] at h; cases h), fun f q h => (by rw [hE] at h; cases h; exact b2), FrM.tr fr0 (FrM.tr a3 b4)⟩
      rw [hE, show bI (isl (.inr x)) = nI 0 from rfl]
      simp (disch := omega) only [b_m_isRead_2, b_m_isRead_45, o_const, o_lconst, o_iload, o_lload, o_aload, o_istore, o_astore, o_lstore, o_iinc, o_bin, o_div, o_un, o_add, o_sub, o_mul, o_and, o_or, o_xor, o_shl, o_shr, o_ushr, o_idiv, o_irem, o_neg, o_i2b, o_i2s, o_i2l, o_lor, o_lshl, o_lcmp, o_dup, o_dup_x1, o_dup2, o_ifeq, o_iflt, o_ifge, o_ifgt, o_ifle, o_ceq, o_clt, o_cge, o_cgt, o_cle, o_sw, k_pick, o_ret, o_iret, o_zret, o_lret, o_aret, o_call, o_callV, k_pop, k_push, o_geti, o_getr, o_puti, o_putz, o_iald, o_iast, o_zald, o_zast, o_alen, o_copy, o_gets, o_sald, o_salen, o_min, k_sto, k_sto2, List.getElem?_cons_zero, List.getElem?_cons_succ, List.set_cons_zero, List.set_cons_succ, List.length_cons, List.length_nil, ite_true, ite_false, ↓reduceIte, true_and, and_true, and_self, or_true, true_or, or_false, false_or, or_self, eq_self, Nat.reduceLeDiff, Nat.reduceAdd, Nat.reduceSub, Nat.reduceLT, Nat.reduceEqDiff, Nat.zero_add, Nat.add_zero, Nat.le_refl, Nat.zero_le, Bool.false_eq_true, Int.reduceLE, Int.reduceLT, Int.reduceNeg, Int.natCast_nonneg, List.length_cons, not_true_eq_false, not_false_eq_true, false_and, and_false, gt_iff_lt, ge_iff_le, k_sh0, k_sh1, k_sh2, k_sh3, k_sh4, k_sh5, k_sh6, k_sh7, k_sh8, k_sh9, k_sh10, k_sh11, k_sh12, k_sh13, k_sh14, k_sh15, k_sh16, k_sh17, k_sh18, k_sh19, k_sh20, k_sh21, k_sh22, k_sh23, k_sh24, k_sh25, k_sh26, k_sh27, k_sh28, k_sh29, k_sh30, k_sh31, k_sh32, k_sh33, k_sh34, k_sh35, k_sh36, k_sh37, k_sh38, k_sh39, k_sh40, k_sh41, k_sh42, k_sh43, k_sh44, k_sh45, k_sh46, k_sh47, k_sh48, k_sh49, k_sh50, k_sh51, k_sh52, k_sh53, k_sh54, k_sh55, k_sh56, k_sh57, k_sh58, k_sh59, k_sh60, k_sh61, k_sh62, k_sh63, k_sh64, l_0, l_1, l_2, l_3, l_4, l_5, l_6, l_7, l_8, l_9, l_10, l_11, l_12, l_13, l_14, l_16, l_20, l_21, l_22, l_23, l_24, l_27, l_31, l_32, l_37, l_40, l_42, l_44, l_47, l_48, l_57, l_59, l_60, l_63, l_64, l_94, l_97, l_99, l_100, l_102, l_105, l_106, l_108, l_110, l_112, l_113, l_116, l_120, l_122, l_128, l_144, l_255, l_320, l_720, l_1000, l_1081, l_1128, l_9999, nI_add, pk_mul, k_nor, e_I, lt_I, le_I, nI_toInt, sub_I, inb_I, nI_clamp, bI_t0, bI_t1, bI_or, decide_eq_true_eq, decide_eq_false_iff_not, tn_1, tn_2, tn_3, tm_1, tm_2, tm_3, tm_1000000, tm_1000001, tm_1000002, tm_1000003, tm_1000010, tm_1000100, Int.cast_ofNat_Int, a1, b1, tlt, flt, tle, fle, teq, feq, tltN, fltN, tleN, fleN, teqN, feqN]
    | inl p2 =>
      have e9 := b3 p2 hN
      rw [← hQ] at e9
      rw [hN] at b1 b2
      rw [show bI (isl (.inl p2)) = nI 1 from rfl] at b1
      have hM2 : MR (k_mu J2 55 1 (nI (pv tp n (sQ tp n)))) 55 0 (aZ tp n) := MR_aZ (MR_c (by rw [b5, a4, mu_cell _ _ (by omega)]) hM)
      have mB : MD tp n (k_mu J2 55 1 (nI (pv tp n (sQ tp n)))) p2 := ⟨by rw [mu_cell _ _ (by omega)]; exact b2.1, b2.2.1, TPm_m FrM.mu b2.2.2⟩
      obtain ⟨J3, d1, d2, d3, d4⟩ := s_isSign 59 p2 _ hn htp (by omega) mB
      have eL : sL tp n = tk1 tp n (.inl p2) 59 := by unfold sL; rw [hQ, hN]
      rw [← eL] at d1 d2
      cases hL : sL tp n with
      | inr x =>
        have hE := stopE x hL
        rw [hL] at d1 d2
        rw [show bI (isl (.inr x)) = nI 0 from rfl] at d1
        refine ⟨J3, ?_, fun q h => (by rw [hE] at h; cases h), fun f q h => (by rw [hE] at h; cases h; exact d2), FrM.tr fr0 (FrM.tr a3 (FrM.tr b4 (FrM.tr FrM.mu d3)))⟩
        rw [hE, show bI (isl (.inr x)) = nI 0 from rfl]
        simp (disch := omega) only [b_m_isRead_2, b_m_isRead_45, o_const, o_lconst, o_iload, o_lload, o_aload, o_istore, o_astore, o_lstore, o_iinc, o_bin, o_div, o_un, o_add, o_sub, o_mul, o_and, o_or, o_xor, o_shl, o_shr, o_ushr, o_idiv, o_irem, o_neg, o_i2b, o_i2s, o_i2l, o_lor, o_lshl, o_lcmp, o_dup, o_dup_x1, o_dup2, o_ifeq, o_iflt, o_ifge, o_ifgt, o_ifle, o_ceq, o_clt, o_cge, o_cgt, o_cle, o_sw, k_pick, o_ret, o_iret, o_zret, o_lret, o_aret, o_call, o_callV, k_pop, k_push, o_geti, o_getr, o_puti, o_putz, o_iald, o_iast, o_zald, o_zast, o_alen, o_copy, o_gets, o_sald, o_salen, o_min, k_sto, k_sto2, List.getElem?_cons_zero, List.getElem?_cons_succ, List.set_cons_zero, List.set_cons_succ, List.length_cons, List.length_nil, ite_true, ite_false, ↓reduceIte, true_and, and_true, and_self, or_true, true_or, or_false, false_or, or_self, eq_self, Nat.reduceLeDiff, Nat.reduceAdd, Nat.reduceSub, Nat.reduceLT, Nat.reduceEqDiff, Nat.zero_add, Nat.add_zero, Nat.le_refl, Nat.zero_le, Bool.false_eq_true, Int.reduceLE, Int.reduceLT, Int.reduceNeg, Int.natCast_nonneg, List.length_cons, not_true_eq_false, not_false_eq_true, false_and, and_false, gt_iff_lt, ge_iff_le, k_sh0, k_sh1, k_sh2, k_sh3, k_sh4, k_sh5, k_sh6, k_sh7, k_sh8, k_sh9, k_sh10, k_sh11, k_sh12, k_sh13, k_sh14, k_sh15, k_sh16, k_sh17, k_sh18, k_sh19, k_sh20, k_sh21, k_sh22, k_sh23, k_sh24, k_sh25, k_sh26, k_sh27, k_sh28, k_sh29, k_sh30, k_sh31, k_sh32, k_sh33, k_sh34, k_sh35, k_sh36, k_sh37, k_sh38, k_sh39, k_sh40, k_sh41, k_sh42, k_sh43, k_sh44, k_sh45, k_sh46, k_sh47, k_sh48, k_sh49, k_sh50, k_sh51, k_sh52, k_sh53, k_sh54, k_sh55, k_sh56, k_sh57, k_sh58, k_sh59, k_sh60, k_sh61, k_sh62, k_sh63, k_sh64, l_0, l_1, l_2, l_3, l_4, l_5, l_6, l_7, l_8, l_9, l_10, l_11, l_12, l_13, l_14, l_16, l_20, l_21, l_22, l_23, l_24, l_27, l_31, l_32, l_37, l_40, l_42, l_44, l_47, l_48, l_57, l_59, l_60, l_63, l_64, l_94, l_97, l_99, l_100, l_102, l_105, l_106, l_108, l_110, l_112, l_113, l_116, l_120, l_122, l_128, l_144, l_255, l_320, l_720, l_1000, l_1081, l_1128, l_9999, nI_add, pk_mul, k_nor, e_I, lt_I, le_I, nI_toInt, sub_I, inb_I, nI_clamp, bI_t0, bI_t1, bI_or, decide_eq_true_eq, decide_eq_false_iff_not, tn_1, tn_2, tn_3, tm_1, tm_2, tm_3, tm_1000000, tm_1000001, tm_1000002, tm_1000003, tm_1000010, tm_1000100, Int.cast_ofNat_Int, a1, b1, e9, d1, tlt, flt, tle, fle, teq, feq, tltN, fltN, tleN, fleN, teqN, feqN]
      | inl p3 =>
        rw [hL] at d1 d2
        rw [show bI (isl (.inl p3)) = nI 1 from rfl] at d1
        obtain ⟨k1, k2, k3⟩ := d2
        obtain ⟨J4, l1, l2, l3, l4, l5, l6⟩ := s_next (tp := tp) (n := n) p3 J3 hn htp k2 k1 k3
        have hM4 : MR J4 55 0 (aZ tp n) := MR_c (by rw [l6.1 55 (by omega), d4]) hM2
        have key : (rl tp n 20 p3 (aZ tp n)).1 = pE tp n ∧ ∀ q, pE tp n = .inl q → (rl tp n 20 p3 (aZ tp n)).2 = (pS tp n).2 := by
          unfold pE pS pF
          rw [hL]
          simp only [bl1]
          by_cases q : tkc tp n p3 = 102
          · rw [if_pos q]
            exact rl_A 7 p3 (aZ tp n) 20 rfl (Nat.zero_le _) (Nat.le_refl _) (Or.inr q) (by omega)
          · rw [if_neg q, fk_r]
            simp only [sk_r]
            have e : itm tp n p3 (aZ tp n) = (.inr (1, p3), aZ tp n) := by
              unfold itm
              rw [if_neg (fun z => q z.1), if_pos (Or.inr (show aZ tp n 2 = 0 from rfl))]
            rw [rl, if_neg (fun z => z.2 rfl), e]
            exact ⟨rfl, fun q h => by cases h⟩
        have done : ∀ q, (rl tp n 20 p3 (aZ tp n)).1 = .inl q → tkc tp n q = 300 ∧ (rl tp n 20 p3 (aZ tp n)).2 2 ≠ 0 := by
          intro q hq
          rw [key.1] at hq
          rw [key.2 q hq]
          unfold pE at hq
          cases hS : (pS tp n).1 with
          | inr x => rw [hS] at hq; cases hq
          | inl p5 =>
            rw [hS] at hq
            simp only [enS] at hq
            split at hq
            · next h3 =>
              cases hq
              have := (pS_V hS).2
              exact ⟨h3, by omega⟩
            · cases hq
        obtain ⟨J5, v1, v2, v3, v4⟩ := s_isRead_loop (tp := tp) (n := n) hn htp (.int (nI 47)) 20 k_fu p3 (aZ tp n) J4 (by have := fu_pos; omega) (Nat.zero_le _) (Nat.zero_le _) ⟨l2, l3, l4, k2, TPm_f l6 k3⟩ hM4 done
        rw [key.1] at v1 v2 v3
        refine ⟨J5, ?_, fun q h => by rw [← key.2 q h]; exact v2 q h, v3, FrM.tr fr0 (FrM.tr a3 (FrM.tr b4 (FrM.tr FrM.mu (FrM.tr d3 (FrM.tr (FrM.n l6) v4)))))⟩
        simp (disch := omega) only [b_m_isRead_2, b_m_isRead_45, o_const, o_lconst, o_iload, o_lload, o_aload, o_istore, o_astore, o_lstore, o_iinc, o_bin, o_div, o_un, o_add, o_sub, o_mul, o_and, o_or, o_xor, o_shl, o_shr, o_ushr, o_idiv, o_irem, o_neg, o_i2b, o_i2s, o_i2l, o_lor, o_lshl, o_lcmp, o_dup, o_dup_x1, o_dup2, o_ifeq, o_iflt, o_ifge, o_ifgt, o_ifle, o_ceq, o_clt, o_cge, o_cgt, o_cle, o_sw, k_pick, o_ret, o_iret, o_zret, o_lret, o_aret, o_call, o_callV, k_pop, k_push, o_geti, o_getr, o_puti, o_putz, o_iald, o_iast, o_zald, o_zast, o_alen, o_copy, o_gets, o_sald, o_salen, o_min, k_sto, k_sto2, List.getElem?_cons_zero, List.getElem?_cons_succ, List.set_cons_zero, List.set_cons_succ, List.length_cons, List.length_nil, ite_true, ite_false, ↓reduceIte, true_and, and_true, and_self, or_true, true_or, or_false, false_or, or_self, eq_self, Nat.reduceLeDiff, Nat.reduceAdd, Nat.reduceSub, Nat.reduceLT, Nat.reduceEqDiff, Nat.zero_add, Nat.add_zero, Nat.le_refl, Nat.zero_le, Bool.false_eq_true, Int.reduceLE, Int.reduceLT, Int.reduceNeg, Int.natCast_nonneg, List.length_cons, not_true_eq_false, not_false_eq_true, false_and, and_false, gt_iff_lt, ge_iff_le, k_sh0, k_sh1, k_sh2, k_sh3, k_sh4, k_sh5, k_sh6, k_sh7, k_sh8, k_sh9, k_sh10, k_sh11, k_sh12, k_sh13, k_sh14, k_sh15, k_sh16, k_sh17, k_sh18, k_sh19, k_sh20, k_sh21, k_sh22, k_sh23, k_sh24, k_sh25, k_sh26, k_sh27, k_sh28, k_sh29, k_sh30, k_sh31, k_sh32, k_sh33, k_sh34, k_sh35, k_sh36, k_sh37, k_sh38, k_sh39, k_sh40, k_sh41, k_sh42, k_sh43, k_sh44, k_sh45, k_sh46, k_sh47, k_sh48, k_sh49, k_sh50, k_sh51, k_sh52, k_sh53, k_sh54, k_sh55, k_sh56, k_sh57, k_sh58, k_sh59, k_sh60, k_sh61, k_sh62, k_sh63, k_sh64, l_0, l_1, l_2, l_3, l_4, l_5, l_6, l_7, l_8, l_9, l_10, l_11, l_12, l_13, l_14, l_16, l_20, l_21, l_22, l_23, l_24, l_27, l_31, l_32, l_37, l_40, l_42, l_44, l_47, l_48, l_57, l_59, l_60, l_63, l_64, l_94, l_97, l_99, l_100, l_102, l_105, l_106, l_108, l_110, l_112, l_113, l_116, l_120, l_122, l_128, l_144, l_255, l_320, l_720, l_1000, l_1081, l_1128, l_9999, nI_add, pk_mul, k_nor, e_I, lt_I, le_I, nI_toInt, sub_I, inb_I, nI_clamp, bI_t0, bI_t1, bI_or, decide_eq_true_eq, decide_eq_false_iff_not, tn_1, tn_2, tn_3, tm_1, tm_2, tm_3, tm_1000000, tm_1000001, tm_1000002, tm_1000003, tm_1000010, tm_1000100, Int.cast_ofNat_Int, a1, b1, e9, d1, l1, tlt, flt, tle, fle, teq, feq, tltN, fltN, tleN, fleN, teqN, feqN, v1]
theorem s_isRead (I : Mi) (hn : n ≤ 100) (htp : ∀ i, tp i < 256) (ht : TPm tp n I) : ∃ J, r_m_isRead [.ref 49] I = some (.int (bI (isl (pE tp n))), J) ∧ (∀ q, pE tp n = .inl q → MR J 55 0 (pS tp n).2) ∧ (∀ f q, pE tp n = .inr (f, q) → J 49 10 = nI f ∧ J 49 7 = nI q) ∧ FrM I J := by
  have key : ∀ (m fu k : Nat) (I : Mi), k + m = 47 → m < fu → (∀ j, j < k → I 55 j = nI 0) → TPm tp n I → ∃ J, b_m_isRead_2 fu [.ref 49, .int (nI k)] [] I = some (.int (bI (isl (pE tp n))), J) ∧ (∀ q, pE tp n = .inl q → MR J 55 0 (pS tp n).2) ∧ (∀ f q, pE tp n = .inr (f, q) → J 49 10 = nI f ∧ J 49 7 = nI q) ∧ FrM I J := by
    intro m
    induction m with
    | zero =>
      intro fu k I hk hf hI ht
      obtain ⟨fu, rfl⟩ : ∃ f, fu = f + 1 := ⟨fu - 1, by omega⟩
      obtain rfl : k = 47 := by omega
      exact s_isRead_mid fu I hn htp ht (fun j hj => by rw [Nat.zero_add]; exact hI j hj)
    | succ m ih =>
      intro fu k I hk hf hI ht
      obtain ⟨fu, rfl⟩ : ∃ f, fu = f + 1 := ⟨fu - 1, by omega⟩
      obtain ⟨J, g1, g2, g3, g4⟩ := ih fu (k + 1) (k_mu I 55 k (nI 0)) (by omega) (by omega) (fun j hj => by
        rw [mu_get]
        by_cases e : j = k
        · rw [if_pos ⟨rfl, e⟩]
        · rw [if_neg (fun z => e z.2)]; exact hI j (by omega)) (TPm_m FrM.mu ht)
      refine ⟨J, ?_, g2, g3, FrM.tr FrM.mu g4⟩
      generalize bI (isl (pE tp n)) = x at g1 ⊢
      simp (disch := omega) only [b_m_isRead_2, o_const, o_lconst, o_iload, o_lload, o_aload, o_istore, o_astore, o_lstore, o_iinc, o_bin, o_div, o_un, o_add, o_sub, o_mul, o_and, o_or, o_xor, o_shl, o_shr, o_ushr, o_idiv, o_irem, o_neg, o_i2b, o_i2s, o_i2l, o_lor, o_lshl, o_lcmp, o_dup, o_dup_x1, o_dup2, o_ifeq, o_iflt, o_ifge, o_ifgt, o_ifle, o_ceq, o_clt, o_cge, o_cgt, o_cle, o_sw, k_pick, o_ret, o_iret, o_zret, o_lret, o_aret, o_call, o_callV, k_pop, k_push, o_geti, o_getr, o_puti, o_putz, o_iald, o_iast, o_zald, o_zast, o_alen, o_copy, o_gets, o_sald, o_salen, o_min, k_sto, k_sto2, List.getElem?_cons_zero, List.getElem?_cons_succ, List.set_cons_zero, List.set_cons_succ, List.length_cons, List.length_nil, ite_true, ite_false, ↓reduceIte, true_and, and_true, and_self, or_true, true_or, or_false, false_or, or_self, eq_self, Nat.reduceLeDiff, Nat.reduceAdd, Nat.reduceSub, Nat.reduceLT, Nat.reduceEqDiff, Nat.zero_add, Nat.add_zero, Nat.le_refl, Nat.zero_le, Bool.false_eq_true, Int.reduceLE, Int.reduceLT, Int.reduceNeg, Int.natCast_nonneg, List.length_cons, not_true_eq_false, not_false_eq_true, false_and, and_false, gt_iff_lt, ge_iff_le, k_sh0, k_sh1, k_sh2, k_sh3, k_sh4, k_sh5, k_sh6, k_sh7, k_sh8, k_sh9, k_sh10, k_sh11, k_sh12, k_sh13, k_sh14, k_sh15, k_sh16, k_sh17, k_sh18, k_sh19, k_sh20, k_sh21, k_sh22, k_sh23, k_sh24, k_sh25, k_sh26, k_sh27, k_sh28, k_sh29, k_sh30, k_sh31, k_sh32, k_sh33, k_sh34, k_sh35, k_sh36, k_sh37, k_sh38, k_sh39, k_sh40, k_sh41, k_sh42, k_sh43, k_sh44, k_sh45, k_sh46, k_sh47, k_sh48, k_sh49, k_sh50, k_sh51, k_sh52, k_sh53, k_sh54, k_sh55, k_sh56, k_sh57, k_sh58, k_sh59, k_sh60, k_sh61, k_sh62, k_sh63, k_sh64, l_0, l_1, l_2, l_3, l_4, l_5, l_6, l_7, l_8, l_9, l_10, l_11, l_12, l_13, l_14, l_16, l_20, l_21, l_22, l_23, l_24, l_27, l_31, l_32, l_37, l_40, l_42, l_44, l_47, l_48, l_57, l_59, l_60, l_63, l_64, l_94, l_97, l_99, l_100, l_102, l_105, l_106, l_108, l_110, l_112, l_113, l_116, l_120, l_122, l_128, l_144, l_255, l_320, l_720, l_1000, l_1081, l_1128, l_9999, nI_add, pk_mul, k_nor, e_I, lt_I, le_I, nI_toInt, sub_I, inb_I, nI_clamp, bI_t0, bI_t1, bI_or, decide_eq_true_eq, decide_eq_false_iff_not, tn_1, tn_2, tn_3, tm_1, tm_2, tm_3, tm_1000000, tm_1000001, tm_1000002, tm_1000003, tm_1000010, tm_1000100, Int.cast_ofNat_Int, tlt, flt, tle, fle, teq, feq, tltN, fltN, tleN, fleN, teqN, feqN, g1]
  obtain ⟨J, g1, g2⟩ := key 47 k_fu 0 I (by omega) (by have := fu_pos; omega) (fun j hj => by omega) ht
  refine ⟨J, ?_, g2⟩
  generalize bI (isl (pE tp n)) = x at g1 ⊢
  simp (disch := omega) only [r_m_isRead, b_m_isRead_0, o_const, o_lconst, o_iload, o_lload, o_aload, o_istore, o_astore, o_lstore, o_iinc, o_bin, o_div, o_un, o_add, o_sub, o_mul, o_and, o_or, o_xor, o_shl, o_shr, o_ushr, o_idiv, o_irem, o_neg, o_i2b, o_i2s, o_i2l, o_lor, o_lshl, o_lcmp, o_dup, o_dup_x1, o_dup2, o_ifeq, o_iflt, o_ifge, o_ifgt, o_ifle, o_ceq, o_clt, o_cge, o_cgt, o_cle, o_sw, k_pick, o_ret, o_iret, o_zret, o_lret, o_aret, o_call, o_callV, k_pop, k_push, o_geti, o_getr, o_puti, o_putz, o_iald, o_iast, o_zald, o_zast, o_alen, o_copy, o_gets, o_sald, o_salen, o_min, k_sto, k_sto2, List.getElem?_cons_zero, List.getElem?_cons_succ, List.set_cons_zero, List.set_cons_succ, List.length_cons, List.length_nil, ite_true, ite_false, ↓reduceIte, true_and, and_true, and_self, or_true, true_or, or_false, false_or, or_self, eq_self, Nat.reduceLeDiff, Nat.reduceAdd, Nat.reduceSub, Nat.reduceLT, Nat.reduceEqDiff, Nat.zero_add, Nat.add_zero, Nat.le_refl, Nat.zero_le, Bool.false_eq_true, Int.reduceLE, Int.reduceLT, Int.reduceNeg, Int.natCast_nonneg, List.length_cons, not_true_eq_false, not_false_eq_true, false_and, and_false, gt_iff_lt, ge_iff_le, k_sh0, k_sh1, k_sh2, k_sh3, k_sh4, k_sh5, k_sh6, k_sh7, k_sh8, k_sh9, k_sh10, k_sh11, k_sh12, k_sh13, k_sh14, k_sh15, k_sh16, k_sh17, k_sh18, k_sh19, k_sh20, k_sh21, k_sh22, k_sh23, k_sh24, k_sh25, k_sh26, k_sh27, k_sh28, k_sh29, k_sh30, k_sh31, k_sh32, k_sh33, k_sh34, k_sh35, k_sh36, k_sh37, k_sh38, k_sh39, k_sh40, k_sh41, k_sh42, k_sh43, k_sh44, k_sh45, k_sh46, k_sh47, k_sh48, k_sh49, k_sh50, k_sh51, k_sh52, k_sh53, k_sh54, k_sh55, k_sh56, k_sh57, k_sh58, k_sh59, k_sh60, k_sh61, k_sh62, k_sh63, k_sh64, l_0, l_1, l_2, l_3, l_4, l_5, l_6, l_7, l_8, l_9, l_10, l_11, l_12, l_13, l_14, l_16, l_20, l_21, l_22, l_23, l_24, l_27, l_31, l_32, l_37, l_40, l_42, l_44, l_47, l_48, l_57, l_59, l_60, l_63, l_64, l_94, l_97, l_99, l_100, l_102, l_105, l_106, l_108, l_110, l_112, l_113, l_116, l_120, l_122, l_128, l_144, l_255, l_320, l_720, l_1000, l_1081, l_1128, l_9999, nI_add, pk_mul, k_nor, e_I, lt_I, le_I, nI_toInt, sub_I, inb_I, nI_clamp, bI_t0, bI_t1, bI_or, decide_eq_true_eq, decide_eq_false_iff_not, tn_1, tn_2, tn_3, tm_1, tm_2, tm_3, tm_1000000, tm_1000001, tm_1000002, tm_1000003, tm_1000010, tm_1000100, Int.cast_ofNat_Int, tlt, flt, tle, fle, teq, feq, tltN, fltN, tleN, fleN, teqN, feqN, g1]
end Sq2
theorem PV_Va {a : Sa} (h : PV a) (h2 : 0 < a 2) : Va a := by
  obtain ⟨⟨v0, v1, v2, v3⟩, vr, vs, vz⟩ := h
  refine ⟨⟨⟨v2, v3, v1⟩, fun i hi => ?_, fun i j hi hj e => ?_, fun s hs => ?_⟩, by omega, fun z => by omega⟩
  · have := vr i hi
    omega
  · have := vr i hi
    have := vr j hj
    omega
  · have := vs s hs
    have := vz s (by omega)
    omega
theorem TS_CT {I : Mi} {a : Sa} (h : PV a) (h2 : 0 < a 2) (t : TS I a) : CT I 38 a (rws a) 31 := by
  have hV := PV_Va h h2
  obtain ⟨⟨t0, t1, t2, t3, t4⟩, tr, ts, tz⟩ := t
  have hob : ob a (a 3) = 0 := by
    have : ∀ k, k ≤ 5 → ob a k = 0 := by
      intro k
      induction k with
      | zero => intro _; rfl
      | succ k ih =>
        intro hk
        simp only [ob]
        rw [ih (by omega), (h.2.2.2 k (by omega)).2]; simp
    exact this _ h.1.2.2.2
  refine mkCT hV.1 ⟨t0, t1, by rw [h.1.1]; exact t2, t3, by rw [hob]; exact t4⟩ tr (fun s hs => ?_)
  have := h.1.2.2.2
  obtain ⟨x1, x2, x3⟩ := ts s hs
  exact ⟨x1, x2, x3, by rw [(h.2.2.2 s (by omega)).1]; exact tz s (by omega)⟩
theorem op_square (I : Mi) (h : Rl I) : OpT r_x_square r_m_square [] I := by
  obtain ⟨n, hn, e1, e2, et⟩ := h.2.2.1
  obtain ⟨a, nn, nx, hQ, hA, h0, h1⟩ := h.2.2.2.2.2
  -- the tape as numbers
  obtain ⟨tp, htp, htc⟩ : ∃ tp : Nat → Nat, (∀ i, tp i < 256) ∧ ∀ i, i < n → I 6 i = nI (tp i) := by
    refine ⟨fun i => if h : i < n then Classical.choose (et i h).2 else 0, fun i => ?_, fun i hi => ?_⟩
    · by_cases q : i < n
      · show (if h : i < n then Classical.choose (et i h).2 else 0) < 256
        rw [dif_pos q]
        exact (Classical.choose_spec (et i q).2).1
      · show (if h : i < n then Classical.choose (et i h).2 else 0) < 256
        rw [dif_neg q]; decide
    · show _ = nI (if h : i < n then Classical.choose (et i h).2 else 0)
      rw [dif_pos hi]
      exact (Classical.choose_spec (et i hi).2).2
  have htm : ∀ i, i < n → I 53 i = nI (tp i) := fun i hi => by rw [← (et i hi).1]; exact htc i hi
  obtain ⟨J1, c1, c2, c3, c4⟩ := c_reads (tp := tp) (n := n) I hn htp ⟨e1, htc⟩
  cases hE : pE tp n with
  | inr x =>
    obtain ⟨f, q⟩ := x
    obtain ⟨r1, r2, r3, r4⟩ := c2 f q hE
    obtain ⟨J2, s1, s2, s3, s4⟩ := s_isRead (tp := tp) (n := n) J1 hn htp ⟨by rw [c4 49 (by omega) (by omega)]; exact e2, fun i hi => by rw [c4 53 (by omega) (by omega)]; exact htm i hi⟩
    rw [hE, show bI (isl (.inr (f, q))) = nI 0 from rfl] at s1
    obtain ⟨x1, x2⟩ := s3 f q hE
    have y7 : k_mu (k_mu J2 49 4 (nI 0)) 49 11 (nI f) 49 7 = nI q := by rw [mu_get, if_neg (by omega), mu_get, if_neg (by omega)]; exact x2
    have y10 : k_mu J2 49 4 (nI 0) 49 10 = nI f := by rw [mu_get, if_neg (by omega)]; exact x1
    refine ⟨-1000100 - nI q, J1, k_mu (k_mu J2 49 4 (nI 0)) 49 11 (nI f), ?_, ?_, ?_⟩
    · simp (disch := omega) only [b_x_square_0, r_x_square, o_const, o_lconst, o_iload, o_lload, o_aload, o_istore, o_astore, o_lstore, o_iinc, o_bin, o_div, o_un, o_add, o_sub, o_mul, o_and, o_or, o_xor, o_shl, o_shr, o_ushr, o_idiv, o_irem, o_neg, o_i2b, o_i2s, o_i2l, o_lor, o_lshl, o_lcmp, o_dup, o_dup_x1, o_dup2, o_ifeq, o_iflt, o_ifge, o_ifgt, o_ifle, o_ceq, o_clt, o_cge, o_cgt, o_cle, o_sw, k_pick, o_ret, o_iret, o_zret, o_lret, o_aret, o_call, o_callV, k_pop, k_push, o_geti, o_getr, o_puti, o_putz, o_iald, o_iast, o_zald, o_zast, o_alen, o_copy, o_gets, o_sald, o_salen, o_min, k_sto, k_sto2, List.getElem?_cons_zero, List.getElem?_cons_succ, List.set_cons_zero, List.set_cons_succ, List.length_cons, List.length_nil, ite_true, ite_false, ↓reduceIte, true_and, and_true, and_self, or_true, true_or, or_false, false_or, or_self, eq_self, Nat.reduceLeDiff, Nat.reduceAdd, Nat.reduceSub, Nat.reduceLT, Nat.reduceEqDiff, Nat.zero_add, Nat.add_zero, Nat.le_refl, Nat.zero_le, Bool.false_eq_true, Int.reduceLE, Int.reduceLT, Int.reduceNeg, Int.natCast_nonneg, List.length_cons, not_true_eq_false, not_false_eq_true, false_and, and_false, gt_iff_lt, ge_iff_le, k_sh0, k_sh1, k_sh2, k_sh3, k_sh4, k_sh5, k_sh6, k_sh7, k_sh8, k_sh9, k_sh10, k_sh11, k_sh12, k_sh13, k_sh14, k_sh15, k_sh16, k_sh17, k_sh18, k_sh19, k_sh20, k_sh21, k_sh22, k_sh23, k_sh24, k_sh25, k_sh26, k_sh27, k_sh28, k_sh29, k_sh30, k_sh31, k_sh32, k_sh33, k_sh34, k_sh35, k_sh36, k_sh37, k_sh38, k_sh39, k_sh40, k_sh41, k_sh42, k_sh43, k_sh44, k_sh45, k_sh46, k_sh47, k_sh48, k_sh49, k_sh50, k_sh51, k_sh52, k_sh53, k_sh54, k_sh55, k_sh56, k_sh57, k_sh58, k_sh59, k_sh60, k_sh61, k_sh62, k_sh63, k_sh64, l_0, l_1, l_2, l_3, l_4, l_5, l_6, l_7, l_8, l_9, l_10, l_11, l_12, l_13, l_14, l_16, l_20, l_21, l_22, l_23, l_24, l_27, l_31, l_32, l_37, l_40, l_42, l_44, l_47, l_48, l_57, l_59, l_60, l_63, l_64, l_94, l_97, l_99, l_100, l_102, l_105, l_106, l_108, l_110, l_112, l_113, l_116, l_120, l_122, l_128, l_144, l_255, l_320, l_720, l_1000, l_1081, l_1128, l_9999, nI_add, pk_mul, k_nor, e_I, lt_I, le_I, nI_toInt, sub_I, inb_I, nI_clamp, bI_t0, bI_t1, bI_or, decide_eq_true_eq, decide_eq_false_iff_not, tn_1, tn_2, tn_3, tm_1, tm_2, tm_3, tm_1000000, tm_1000001, tm_1000002, tm_1000003, tm_1000010, tm_1000100, Int.cast_ofNat_Int, r1, r3, tlt, flt, tle, fle, teq, feq, tltN, fltN, tleN, fleN, teqN, feqN]
    · simp (disch := omega) only [b_m_square_0, r_m_square, o_const, o_lconst, o_iload, o_lload, o_aload, o_istore, o_astore, o_lstore, o_iinc, o_bin, o_div, o_un, o_add, o_sub, o_mul, o_and, o_or, o_xor, o_shl, o_shr, o_ushr, o_idiv, o_irem, o_neg, o_i2b, o_i2s, o_i2l, o_lor, o_lshl, o_lcmp, o_dup, o_dup_x1, o_dup2, o_ifeq, o_iflt, o_ifge, o_ifgt, o_ifle, o_ceq, o_clt, o_cge, o_cgt, o_cle, o_sw, k_pick, o_ret, o_iret, o_zret, o_lret, o_aret, o_call, o_callV, k_pop, k_push, o_geti, o_getr, o_puti, o_putz, o_iald, o_iast, o_zald, o_zast, o_alen, o_copy, o_gets, o_sald, o_salen, o_min, k_sto, k_sto2, List.getElem?_cons_zero, List.getElem?_cons_succ, List.set_cons_zero, List.set_cons_succ, List.length_cons, List.length_nil, ite_true, ite_false, ↓reduceIte, true_and, and_true, and_self, or_true, true_or, or_false, false_or, or_self, eq_self, Nat.reduceLeDiff, Nat.reduceAdd, Nat.reduceSub, Nat.reduceLT, Nat.reduceEqDiff, Nat.zero_add, Nat.add_zero, Nat.le_refl, Nat.zero_le, Bool.false_eq_true, Int.reduceLE, Int.reduceLT, Int.reduceNeg, Int.natCast_nonneg, List.length_cons, not_true_eq_false, not_false_eq_true, false_and, and_false, gt_iff_lt, ge_iff_le, k_sh0, k_sh1, k_sh2, k_sh3, k_sh4, k_sh5, k_sh6, k_sh7, k_sh8, k_sh9, k_sh10, k_sh11, k_sh12, k_sh13, k_sh14, k_sh15, k_sh16, k_sh17, k_sh18, k_sh19, k_sh20, k_sh21, k_sh22, k_sh23, k_sh24, k_sh25, k_sh26, k_sh27, k_sh28, k_sh29, k_sh30, k_sh31, k_sh32, k_sh33, k_sh34, k_sh35, k_sh36, k_sh37, k_sh38, k_sh39, k_sh40, k_sh41, k_sh42, k_sh43, k_sh44, k_sh45, k_sh46, k_sh47, k_sh48, k_sh49, k_sh50, k_sh51, k_sh52, k_sh53, k_sh54, k_sh55, k_sh56, k_sh57, k_sh58, k_sh59, k_sh60, k_sh61, k_sh62, k_sh63, k_sh64, l_0, l_1, l_2, l_3, l_4, l_5, l_6, l_7, l_8, l_9, l_10, l_11, l_12, l_13, l_14, l_16, l_20, l_21, l_22, l_23, l_24, l_27, l_31, l_32, l_37, l_40, l_42, l_44, l_47, l_48, l_57, l_59, l_60, l_63, l_64, l_94, l_97, l_99, l_100, l_102, l_105, l_106, l_108, l_110, l_112, l_113, l_116, l_120, l_122, l_128, l_144, l_255, l_320, l_720, l_1000, l_1081, l_1128, l_9999, nI_add, pk_mul, k_nor, e_I, lt_I, le_I, nI_toInt, sub_I, inb_I, nI_clamp, bI_t0, bI_t1, bI_or, decide_eq_true_eq, decide_eq_false_iff_not, tn_1, tn_2, tn_3, tm_1, tm_2, tm_3, tm_1000000, tm_1000001, tm_1000002, tm_1000003, tm_1000010, tm_1000100, Int.cast_ofNat_Int, s1, y10, y7, tlt, flt, tle, fle, teq, feq, tltN, fltN, tleN, fleN, teqN, feqN]
    · have g : ∀ k, k ≠ 5 → k ≠ 49 → k ≠ 55 → k < 38 ∨ 46 ≤ k → k_mu (k_mu J2 49 4 (nI 0)) 49 11 (nI f) k = I k := fun k z1 z2 z3 z4 => by rw [mu_cell _ _ z2, mu_cell _ _ z2, s4.1 k z2 z3, c4 k z1 z4]
      have g5 : k_mu (k_mu J2 49 4 (nI 0)) 49 11 (nI f) 5 = J1 5 := by rw [mu_cell _ _ (by omega), mu_cell _ _ (by omega), s4.1 5 (by omega) (by omega)]
      have g49 : ∀ j, j ≠ 4 → j ≠ 11 → j < 6 ∨ 10 < j → k_mu (k_mu J2 49 4 (nI 0)) 49 11 (nI f) 49 j = I 49 j := fun j z1 z2 z3 => by rw [mu_get, if_neg (fun z => z2 z.2), mu_get, if_neg (fun z => z1 z.2), s4.2 j z3, c4 49 (by omega) (by omega)]
      obtain ⟨r1, r2', r3', r4', r5, r6⟩ := h
      refine ⟨RlR_c (g 2 (by omega) (by omega) (by omega) (by omega)) (g 3 (by omega) (by omega) (by omega) (by omega)) (g 4 (by omega) (by omega) (by omega) (by omega)) (g 50 (by omega) (by omega) (by omega) (by omega)) (g 51 (by omega) (by omega) (by omega) (by omega)) (g 52 (by omega) (by omega) (by omega) (by omega)) r1, ?_, ⟨0, by omega, ?_, ?_, fun i hi => by omega⟩, ?_, RlX_c (by rw [g 47 (by omega) (by omega) (by omega) (by omega)]) (g49 20 (by omega) (by omega) (by omega)) (g 48 (by omega) (by omega) (by omega) (by omega)) (g 60 (by omega) (by omega) (by omega) (by omega)) r5, RlQ_c (fun k z1 z2 => g k (by omega) (by omega) (by omega) (by omega)) (g 54 (by omega) (by omega) (by omega) (by omega)) (g 57 (by omega) (by omega) (by omega) (by omega)) (g 58 (by omega) (by omega) (by omega) (by omega)) (g 59 (by omega) (by omega) (by omega) (by omega)) (g49 18 (by omega) (by omega) (by omega)) r6⟩
      · rw [g 0 (by omega) (by omega) (by omega) (by omega), g49 3 (by omega) (by omega) (by omega)]; exact r2'
      · rw [g5]; exact c3
      · rw [mu_get, if_neg (by omega), mu_get, if_pos ⟨rfl, rfl⟩]
      · rw [g5, mu_get, if_pos ⟨rfl, rfl⟩]; exact r2
  | inl q =>
    obtain ⟨r1, r2, r3⟩ := c1 q hE
    obtain ⟨p5, hS⟩ : ∃ p5, (pS tp n).1 = .inl p5 := by
      cases hS : (pS tp n).1 with
      | inl p5 => exact ⟨p5, rfl⟩
      | inr x => unfold pE at hE; rw [hS] at hE; cases hE
    obtain ⟨hPV, hP2⟩ := pS_V hS
    have hV := PV_Va hPV hP2
    have hCT := TS_CT hPV hP2 r2
    have hbc := c_become_eq 7 38 J1 (Or.inl rfl) (Or.inr (Or.inr (Or.inr rfl))) (by omega)
    have hX : ∀ k, k ≠ 5 → k < 7 ∨ (15 ≤ k ∧ k < 38 ∧ k ≠ 31) ∨ 46 ≤ k → k_mu (becM J1 7 38) 31 0 (nI 0) k = I k := fun k z1 z2 => by rw [mu_cell _ _ (by omega), becM_fr (by omega), c4 k z1 (by omega)]
    obtain ⟨J2, s1, s2, s3, s4⟩ := s_isRead (tp := tp) (n := n) (k_mu (becM J1 7 38) 31 0 (nI 0)) hn htp ⟨by rw [hX 49 (by omega) (by omega)]; exact e2, fun i hi => by rw [hX 53 (by omega) (by omega)]; exact htm i hi⟩
    have hM2 := s2 q hE
    rw [hE, show bI (isl (.inl q)) = nI 1 from rfl] at s1
    generalize (pS tp n).2 = b at hPV hP2 hV hCT r2 hM2
    have hCX : CT (becM J1 7 38) 7 b (rws b) 31 := becM_CT (by omega) hV.1 hCT
    have x1 : k_mu (becM J1 7 38) 31 0 (nI 0) 7 1 = nI (b 3) := by rw [mu_cell _ _ (by omega)]; exact hCX.1.2.1
    have hl := s_lay 55 54 0 0 47 47 (k_mu J2 49 4 (nI 0)) rfl rfl (by omega) (by omega) (by omega) (by omega) (by omega)
    have hM3 : MR (k_mc (k_mu J2 49 4 (nI 0)) 55 54 0 0 47) 54 0 b := MR_mc (MR_c (mu_cell _ _ (by omega)) hM2)
    have x3 : k_mu (k_mc (k_mu J2 49 4 (nI 0)) 55 54 0 0 47) 49 18 (nI 0) 54 3 = nI (b 3) := by
      rw [mu_cell _ _ (by omega)]
      exact hM3 3 (by omega)
    refine ⟨nI (b 3), k_mu (becM J1 7 38) 31 0 (nI 0), k_mu (k_mc (k_mu J2 49 4 (nI 0)) 55 54 0 0 47) 49 18 (nI 0), ?_, ?_, ?_⟩
    · simp (disch := omega) only [b_x_square_0, r_x_square, b_A_forget_0, r_A_forget, o_const, o_lconst, o_iload, o_lload, o_aload, o_istore, o_astore, o_lstore, o_iinc, o_bin, o_div, o_un, o_add, o_sub, o_mul, o_and, o_or, o_xor, o_shl, o_shr, o_ushr, o_idiv, o_irem, o_neg, o_i2b, o_i2s, o_i2l, o_lor, o_lshl, o_lcmp, o_dup, o_dup_x1, o_dup2, o_ifeq, o_iflt, o_ifge, o_ifgt, o_ifle, o_ceq, o_clt, o_cge, o_cgt, o_cle, o_sw, k_pick, o_ret, o_iret, o_zret, o_lret, o_aret, o_call, o_callV, k_pop, k_push, o_geti, o_getr, o_puti, o_putz, o_iald, o_iast, o_zald, o_zast, o_alen, o_copy, o_gets, o_sald, o_salen, o_min, k_sto, k_sto2, List.getElem?_cons_zero, List.getElem?_cons_succ, List.set_cons_zero, List.set_cons_succ, List.length_cons, List.length_nil, ite_true, ite_false, ↓reduceIte, true_and, and_true, and_self, or_true, true_or, or_false, false_or, or_self, eq_self, Nat.reduceLeDiff, Nat.reduceAdd, Nat.reduceSub, Nat.reduceLT, Nat.reduceEqDiff, Nat.zero_add, Nat.add_zero, Nat.le_refl, Nat.zero_le, Bool.false_eq_true, Int.reduceLE, Int.reduceLT, Int.reduceNeg, Int.natCast_nonneg, List.length_cons, not_true_eq_false, not_false_eq_true, false_and, and_false, gt_iff_lt, ge_iff_le, k_sh0, k_sh1, k_sh2, k_sh3, k_sh4, k_sh5, k_sh6, k_sh7, k_sh8, k_sh9, k_sh10, k_sh11, k_sh12, k_sh13, k_sh14, k_sh15, k_sh16, k_sh17, k_sh18, k_sh19, k_sh20, k_sh21, k_sh22, k_sh23, k_sh24, k_sh25, k_sh26, k_sh27, k_sh28, k_sh29, k_sh30, k_sh31, k_sh32, k_sh33, k_sh34, k_sh35, k_sh36, k_sh37, k_sh38, k_sh39, k_sh40, k_sh41, k_sh42, k_sh43, k_sh44, k_sh45, k_sh46, k_sh47, k_sh48, k_sh49, k_sh50, k_sh51, k_sh52, k_sh53, k_sh54, k_sh55, k_sh56, k_sh57, k_sh58, k_sh59, k_sh60, k_sh61, k_sh62, k_sh63, k_sh64, l_0, l_1, l_2, l_3, l_4, l_5, l_6, l_7, l_8, l_9, l_10, l_11, l_12, l_13, l_14, l_16, l_20, l_21, l_22, l_23, l_24, l_27, l_31, l_32, l_37, l_40, l_42, l_44, l_47, l_48, l_57, l_59, l_60, l_63, l_64, l_94, l_97, l_99, l_100, l_102, l_105, l_106, l_108, l_110, l_112, l_113, l_116, l_120, l_122, l_128, l_144, l_255, l_320, l_720, l_1000, l_1081, l_1128, l_9999, nI_add, pk_mul, k_nor, e_I, lt_I, le_I, nI_toInt, sub_I, inb_I, nI_clamp, bI_t0, bI_t1, bI_or, decide_eq_true_eq, decide_eq_false_iff_not, tn_1, tn_2, tn_3, tm_1, tm_2, tm_3, tm_1000000, tm_1000001, tm_1000002, tm_1000003, tm_1000010, tm_1000100, Int.cast_ofNat_Int, r1, hbc, x1, tlt, flt, tle, fle, teq, feq, tltN, fltN, tleN, fleN, teqN, feqN]
    · simp (disch := omega) only [b_m_square_0, r_m_square, o_const, o_lconst, o_iload, o_lload, o_aload, o_istore, o_astore, o_lstore, o_iinc, o_bin, o_div, o_un, o_add, o_sub, o_mul, o_and, o_or, o_xor, o_shl, o_shr, o_ushr, o_idiv, o_irem, o_neg, o_i2b, o_i2s, o_i2l, o_lor, o_lshl, o_lcmp, o_dup, o_dup_x1, o_dup2, o_ifeq, o_iflt, o_ifge, o_ifgt, o_ifle, o_ceq, o_clt, o_cge, o_cgt, o_cle, o_sw, k_pick, o_ret, o_iret, o_zret, o_lret, o_aret, o_call, o_callV, k_pop, k_push, o_geti, o_getr, o_puti, o_putz, o_iald, o_iast, o_zald, o_zast, o_alen, o_copy, o_gets, o_sald, o_salen, o_min, k_sto, k_sto2, List.getElem?_cons_zero, List.getElem?_cons_succ, List.set_cons_zero, List.set_cons_succ, List.length_cons, List.length_nil, ite_true, ite_false, ↓reduceIte, true_and, and_true, and_self, or_true, true_or, or_false, false_or, or_self, eq_self, Nat.reduceLeDiff, Nat.reduceAdd, Nat.reduceSub, Nat.reduceLT, Nat.reduceEqDiff, Nat.zero_add, Nat.add_zero, Nat.le_refl, Nat.zero_le, Bool.false_eq_true, Int.reduceLE, Int.reduceLT, Int.reduceNeg, Int.natCast_nonneg, List.length_cons, not_true_eq_false, not_false_eq_true, false_and, and_false, gt_iff_lt, ge_iff_le, k_sh0, k_sh1, k_sh2, k_sh3, k_sh4, k_sh5, k_sh6, k_sh7, k_sh8, k_sh9, k_sh10, k_sh11, k_sh12, k_sh13, k_sh14, k_sh15, k_sh16, k_sh17, k_sh18, k_sh19, k_sh20, k_sh21, k_sh22, k_sh23, k_sh24, k_sh25, k_sh26, k_sh27, k_sh28, k_sh29, k_sh30, k_sh31, k_sh32, k_sh33, k_sh34, k_sh35, k_sh36, k_sh37, k_sh38, k_sh39, k_sh40, k_sh41, k_sh42, k_sh43, k_sh44, k_sh45, k_sh46, k_sh47, k_sh48, k_sh49, k_sh50, k_sh51, k_sh52, k_sh53, k_sh54, k_sh55, k_sh56, k_sh57, k_sh58, k_sh59, k_sh60, k_sh61, k_sh62, k_sh63, k_sh64, l_0, l_1, l_2, l_3, l_4, l_5, l_6, l_7, l_8, l_9, l_10, l_11, l_12, l_13, l_14, l_16, l_20, l_21, l_22, l_23, l_24, l_27, l_31, l_32, l_37, l_40, l_42, l_44, l_47, l_48, l_57, l_59, l_60, l_63, l_64, l_94, l_97, l_99, l_100, l_102, l_105, l_106, l_108, l_110, l_112, l_113, l_116, l_120, l_122, l_128, l_144, l_255, l_320, l_720, l_1000, l_1081, l_1128, l_9999, nI_add, pk_mul, k_nor, e_I, lt_I, le_I, nI_toInt, sub_I, inb_I, nI_clamp, bI_t0, bI_t1, bI_or, decide_eq_true_eq, decide_eq_false_iff_not, tn_1, tn_2, tn_3, tm_1, tm_2, tm_3, tm_1000000, tm_1000001, tm_1000002, tm_1000003, tm_1000010, tm_1000100, Int.cast_ofNat_Int, s1, hl, x3, tlt, flt, tle, fle, teq, feq, tltN, fltN, tleN, fleN, teqN, feqN]
    · have g : ∀ k, k ≠ 49 → k ≠ 54 → k ≠ 55 → k_mu (k_mc (k_mu J2 49 4 (nI 0)) 55 54 0 0 47) 49 18 (nI 0) k = k_mu (becM J1 7 38) 31 0 (nI 0) k := fun k z1 z2 z3 => by rw [mu_cell _ _ z1, mc_cell _ z2, mu_cell _ _ z1, s4.1 k z1 z3]
      have gI : ∀ k, k ≠ 5 → k ≠ 49 → k ≠ 54 → k ≠ 55 → k < 7 ∨ (15 ≤ k ∧ k < 38 ∧ k ≠ 31) ∨ 46 ≤ k → k_mu (k_mc (k_mu J2 49 4 (nI 0)) 55 54 0 0 47) 49 18 (nI 0) k = I k := fun k z1 z2 z3 z4 z5 => by rw [g k z2 z3 z4, hX k z1 z5]
      have g5 : k_mu (k_mc (k_mu J2 49 4 (nI 0)) 55 54 0 0 47) 49 18 (nI 0) 5 = J1 5 := by rw [g 5 (by omega) (by omega) (by omega), mu_cell _ _ (by omega), becM_fr (by omega)]
      have g49 : ∀ j, j ≠ 4 → j ≠ 18 → j < 6 ∨ 10 < j → k_mu (k_mc (k_mu J2 49 4 (nI 0)) 55 54 0 0 47) 49 18 (nI 0) 49 j = I 49 j := fun j z1 z2 z3 => by rw [mu_get, if_neg (fun z => z2 z.2), mc_cell _ (by omega), mu_get, if_neg (fun z => z1 z.2), s4.2 j z3, hX 49 (by omega) (by omega)]
      obtain ⟨r1', r2', r3', r4', r5, r6⟩ := h
      have hnx := hA.1
      refine ⟨RlR_c (gI 2 (by omega) (by omega) (by omega) (by omega) (by omega)) (gI 3 (by omega) (by omega) (by omega) (by omega) (by omega)) (gI 4 (by omega) (by omega) (by omega) (by omega) (by omega)) (gI 50 (by omega) (by omega) (by omega) (by omega) (by omega)) (gI 51 (by omega) (by omega) (by omega) (by omega) (by omega)) (gI 52 (by omega) (by omega) (by omega) (by omega) (by omega)) r1', ?_, ⟨0, by omega, ?_, ?_, fun i hi => by omega⟩, ?_, RlX_c (by rw [gI 47 (by omega) (by omega) (by omega) (by omega) (by omega)]) (g49 20 (by omega) (by omega) (by omega)) (gI 48 (by omega) (by omega) (by omega) (by omega) (by omega)) (gI 60 (by omega) (by omega) (by omega) (by omega) (by omega)) r5, ⟨b, 0, nx, ⟨hV, ?_, ?_⟩, ⟨⟨by omega, hnx.2.1, ?_, ?_, ?_⟩, fun j hj => by omega⟩, RI_c (gI 58 (by omega) (by omega) (by omega) (by omega) (by omega)) (gI 57 (by omega) (by omega) (by omega) (by omega) (by omega)) (fun k z1 z2 => gI k (by omega) (by omega) (by omega) (by omega) (by omega)) h0, RI_c (gI 58 (by omega) (by omega) (by omega) (by omega) (by omega)) (gI 57 (by omega) (by omega) (by omega) (by omega) (by omega)) (fun k z1 z2 => gI k (by omega) (by omega) (by omega) (by omega) (by omega)) h1⟩⟩
      · rw [gI 0 (by omega) (by omega) (by omega) (by omega) (by omega), g49 3 (by omega) (by omega) (by omega)]; exact r2'
      · rw [g5]; exact c3
      · rw [mu_get, if_neg (by omega), mc_cell _ (by omega), mu_get, if_pos ⟨rfl, rfl⟩]
      · rw [g5, r3, g49 11 (by omega) (by omega) (by omega)]; exact r4'
      · exact CT_c (fun k z1 z2 => by rw [g k (by omega) (by omega) (by omega), mu_cell _ _ (by omega)]) hCX
      · exact MR_c (mu_cell _ _ (by omega)) hM3
      · rw [g 31 (by omega) (by omega) (by omega), mu_get, if_pos ⟨rfl, rfl⟩]
      · rw [g 31 (by omega) (by omega) (by omega), mu_get, if_neg (by omega), becM_fr (by omega), c4 31 (by omega) (by omega)]; exact hnx.2.2.2.1
      · rw [mu_get, if_pos ⟨rfl, rfl⟩]
