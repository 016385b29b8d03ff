section Eqv
variable {tp : Nat → Nat} {n : Nat}
theorem itm_b {p : Nat} {a : Sa} (h2 : a 2 ≤ 6) (h3 : a 3 ≤ 5) : (itm tp n p a).2 2 ≤ 6 ∧ (itm tp n p a).2 3 ≤ 5 := by
  unfold itm
  split
  · split
    · exact ⟨h2, h3⟩
    · refine ⟨?_, ?_⟩
      · show shp tp n a (.inl (tkn tp n p)) 2 ≤ 6
        unfold shp
        rw [if_pos rfl]; omega
      · show shp tp n a (.inl (tkn tp n p)) 3 ≤ 5
        unfold shp
        repeat' split
        all_goals omega
  · split
    · exact ⟨h2, h3⟩
    · split
      · exact ⟨h2, h3⟩
      · refine ⟨?_, ?_⟩
        · show slp tp n a (kd (tkc tp n p)) (.inl (tkn tp n p)) 2 ≤ 6
          unfold slp
          rw [if_neg (by omega), if_neg (by omega), if_neg (by omega), if_neg (by omega)]; exact h2
        · show slp tp n a (kd (tkc tp n p)) (.inl (tkn tp n p)) 3 ≤ 5
          unfold slp
          rw [if_pos rfl]; omega
theorem sk_r {m : Nat} {x : Nat × Nat} {a : Sa} : sk tp n m (.inr x) a = (.inr x, a) := by cases m <;> rfl
theorem fk_r {m : Nat} {x : Nat × Nat} {a : Sa} : fk tp n m (.inr x) a = (.inr x, a) := by cases m <;> rfl
theorem rl_B : ∀ m p a M, 0 < a 2 → a 2 ≤ 6 → a 3 ≤ 5 → 6 ≤ a 3 + m → (tkc tp n p ≠ 102 ∨ 0 < a 3) → m < M → (rl tp n M p a).1 = enS tp n (sk tp n m (.inl p) a).1 ∧ ∀ q, enS tp n (sk tp n m (.inl p) a).1 = .inl q → (rl tp n M p a).2 = (sk tp n m (.inl p) a).2 := by
  intro m
  induction m with
  | zero => intro p a M h2 h26 h3 h6; omega
  | succ m ih =>
    intro p a M h2 h26 h3 h6 hor hM
    obtain ⟨M, rfl⟩ : ∃ k, M = k + 1 := ⟨M - 1, by omega⟩
    have hno : ¬ (tkc tp n p = 102 ∧ a 3 = 0) := fun z => by omega
    simp only [rl, sk]
    by_cases qk : kd (tkc tp n p) = 0
    · rw [if_pos qk]
      simp only [enS]
      by_cases q3 : tkc tp n p = 300
      · rw [if_pos ⟨q3, by omega⟩, if_pos q3]
        exact ⟨rfl, fun _ _ => rfl⟩
      · rw [if_neg (fun z => q3 z.1), if_neg q3]
        have e : itm tp n p a = (.inr (1, p), a) := by unfold itm; rw [if_neg hno, if_pos (Or.inl qk)]
        rw [e]
        exact ⟨rfl, fun q h => by cases h⟩
    · rw [if_neg qk]
      have q3 : ¬ tkc tp n p = 300 := fun z => qk (by rw [z]; rfl)
      rw [if_neg (fun z => q3 z.1)]
      by_cases q5 : a 3 = 5
      · rw [if_pos q5]
        have e : itm tp n p a = (.inr (3, p), a) := by unfold itm; rw [if_neg hno, if_neg (fun z => by omega), if_pos q5]
        rw [e]
        exact ⟨rfl, fun q h => by cases h⟩
      · rw [if_neg q5]
        have e : itm tp n p a = (pr tp n (.inl (tkn tp n p)) 1 60 1, slp tp n a (kd (tkc tp n p)) (.inl (tkn tp n p))) := by unfold itm; rw [if_neg hno, if_neg (fun z => by omega), if_neg q5]
        rw [e]
        have u3 : slp tp n a (kd (tkc tp n p)) (.inl (tkn tp n p)) 3 = a 3 + 1 := if_pos rfl
        have u2 : slp tp n a (kd (tkc tp n p)) (.inl (tkn tp n p)) 2 = a 2 := by
          unfold slp
          rw [if_neg (by omega), if_neg (by omega), if_neg (by omega), if_neg (by omega)]
        cases hP : pr tp n (.inl (tkn tp n p)) 1 60 1 with
        | inr x =>
          rw [sk_r]
          exact ⟨rfl, fun q h => by cases h⟩
        | inl p' => exact ih p' (slp tp n a (kd (tkc tp n p)) (.inl (tkn tp n p))) M (by rw [u2]; exact h2) (by rw [u2]; exact h26) (by rw [u3]; omega) (by rw [u3]; omega) (Or.inr (by rw [u3]; omega)) (by omega)
theorem rl_A : ∀ m p a M, a 3 = 0 → a 2 ≤ 6 → 7 ≤ a 2 + m → (0 < a 2 ∨ tkc tp n p = 102) → m + 7 ≤ M → (rl tp n M p a).1 = enS tp n (sk tp n 6 (fk tp n m (.inl p) a).1 (fk tp n m (.inl p) a).2).1 ∧ ∀ q, enS tp n (sk tp n 6 (fk tp n m (.inl p) a).1 (fk tp n m (.inl p) a).2).1 = .inl q → (rl tp n M p a).2 = (sk tp n 6 (fk tp n m (.inl p) a).1 (fk tp n m (.inl p) a).2).2 := by
  intro m
  induction m with
  | zero => intro p a M h3 h2 h7; omega
  | succ m ih =>
    intro p a M h3 h2 h7 hor hM
    simp only [fk]
    by_cases q : tkc tp n p = 102
    · rw [if_pos q]
      obtain ⟨M, rfl⟩ : ∃ k, M = k + 1 := ⟨M - 1, by omega⟩
      simp only [rl]
      rw [if_neg (fun z => by omega)]
      by_cases q6 : a 2 = 6
      · rw [if_pos q6]
        have e : itm tp n p a = (.inr (3, p), a) := by unfold itm; rw [if_pos ⟨q, h3⟩, if_pos q6]
        rw [e, sk_r]
        exact ⟨rfl, fun q h => by cases h⟩
      · rw [if_neg q6]
        have e : itm tp n p a = (pr tp n (.inl (tkn tp n p)) 0 9 3, shp tp n a (.inl (tkn tp n p))) := by unfold itm; rw [if_pos ⟨q, h3⟩, if_neg q6]
        rw [e]
        have u2 : shp tp n a (.inl (tkn tp n p)) 2 = a 2 + 1 := if_pos rfl
        have u3 : shp tp n a (.inl (tkn tp n p)) 3 = a 3 := by
          unfold shp
          rw [if_neg (by omega), if_neg (by omega), if_neg (by omega), if_neg (by omega)]
        cases hP : pr tp n (.inl (tkn tp n p)) 0 9 3 with
        | inr x =>
          rw [fk_r]
          simp only [sk_r]
          exact ⟨rfl, fun q h => by cases h⟩
        | inl p' => exact ih p' (shp tp n a (.inl (tkn tp n p))) M (by rw [u3]; exact h3) (by rw [u2]; omega) (by rw [u2]; omega) (Or.inl (by rw [u2]; omega)) (by omega)
    · rw [if_neg q]
      exact rl_B 6 p a M (by omega) h2 (by omega) (by omega) (Or.inl q) (by omega)
theorem s_isRead_loop (hn : n ≤ 100) (htp : ∀ i, tp i < 256) (Z : Value) : ∀ (m fu p : Nat) (a : Sa) (I : Mi), m < fu → a 2 ≤ 6 → a 3 ≤ 5 → MT tp n I p → MR I 55 0 a → (∀ q, (rl tp n m p a).1 = .inl q → tkc tp n q = 300 ∧ (rl tp n m p a).2 2 ≠ 0) → ∃ J, b_m_isRead_72 fu [.ref 49, Z] [] I = some (.int (bI (isl (rl tp n m p a).1)), J) ∧ (∀ q, (rl tp n m p a).1 = .inl q → MR J 55 0 (rl tp n m p a).2) ∧ (∀ f q, (rl tp n m p a).1 = .inr (f, q) → J 49 10 = nI f ∧ J 49 7 = nI q) ∧ FrM I J := by
  intro m
  induction m with
  | zero =>
    intro fu p a I hf h2 h3 hT hM hE
    obtain ⟨fu, rfl⟩ : ∃ f, fu = f + 1 := ⟨fu - 1, by omega⟩
    have hE := hE p rfl
    have m2 : I 55 2 = nI (a 2) := hM 2 (by omega)
    have t3 := hT.2.2.1
    rw [hE.1, show mK 300 = -nI 2 from rfl] at t3
    have h20 : a 2 ≠ 0 := hE.2
    refine ⟨I, ?_, fun _ _ => hM, fun f q h => (by cases h), FrM.rf⟩
    rw [show bI (isl (rl tp n 0 p a).1) = nI 1 from rfl]
    simp (disch := omega) only [b_m_isRead_72, o_const, o_lconst, o_iload, o_lload, o_aload, o_istore, o_astore, o_lstore, o_iinc, o_bin, o_div, o_un, o_add, o_sub, o_mul, o_and, o_or, o_xor, o_shl, o_shr, o_ushr, o_idiv, o_irem, o_neg, o_i2b, o_i2s, o_i2l, o_lor, o_lshl, o_lcmp, o_dup, o_dup_x1, o_dup2, o_ifeq, o_iflt, o_ifge, o_ifgt, o_ifle, o_ceq, o_clt, o_cge, o_cgt, o_cle, o_sw, k_pick, o_ret, o_iret, o_zret, o_lret, o_aret, o_call, o_callV, k_pop, k_push, o_geti, o_getr, o_puti, o_putz, o_iald, o_iast, o_zald, o_zast, o_alen, o_copy, o_gets, o_sald, o_salen, o_min, k_sto, k_sto2, List.getElem?_cons_zero, List.getElem?_cons_succ, List.set_cons_zero, List.set_cons_succ, List.length_cons, List.length_nil, ite_true, ite_false, ↓reduceIte, true_and, and_true, and_self, or_true, true_or, or_false, false_or, or_self, eq_self, Nat.reduceLeDiff, Nat.reduceAdd, Nat.reduceSub, Nat.reduceLT, Nat.reduceEqDiff, Nat.zero_add, Nat.add_zero, Nat.le_refl, Nat.zero_le, Bool.false_eq_true, Int.reduceLE, Int.reduceLT, Int.reduceNeg, Int.natCast_nonneg, List.length_cons, not_true_eq_false, not_false_eq_true, false_and, and_false, gt_iff_lt, ge_iff_le, k_sh0, k_sh1, k_sh2, k_sh3, k_sh4, k_sh5, k_sh6, k_sh7, k_sh8, k_sh9, k_sh10, k_sh11, k_sh12, k_sh13, k_sh14, k_sh15, k_sh16, k_sh17, k_sh18, k_sh19, k_sh20, k_sh21, k_sh22, k_sh23, k_sh24, k_sh25, k_sh26, k_sh27, k_sh28, k_sh29, k_sh30, k_sh31, k_sh32, k_sh33, k_sh34, k_sh35, k_sh36, k_sh37, k_sh38, k_sh39, k_sh40, k_sh41, k_sh42, k_sh43, k_sh44, k_sh45, k_sh46, k_sh47, k_sh48, k_sh49, k_sh50, k_sh51, k_sh52, k_sh53, k_sh54, k_sh55, k_sh56, k_sh57, k_sh58, k_sh59, k_sh60, k_sh61, k_sh62, k_sh63, k_sh64, l_0, l_1, l_2, l_3, l_4, l_5, l_6, l_7, l_8, l_9, l_10, l_11, l_12, l_13, l_14, l_16, l_20, l_21, l_22, l_23, l_24, l_27, l_31, l_32, l_37, l_40, l_42, l_44, l_47, l_48, l_57, l_59, l_60, l_63, l_64, l_94, l_97, l_99, l_100, l_102, l_105, l_106, l_108, l_110, l_112, l_113, l_116, l_120, l_122, l_128, l_144, l_255, l_320, l_720, l_1000, l_1081, l_1128, l_9999, nI_add, pk_mul, k_nor, e_I, lt_I, le_I, nI_toInt, sub_I, inb_I, nI_clamp, bI_t0, bI_t1, bI_or, decide_eq_true_eq, decide_eq_false_iff_not, tn_1, tn_2, tn_3, tm_1, tm_2, tm_3, tm_1000000, tm_1000001, tm_1000002, tm_1000003, tm_1000010, tm_1000100, Int.cast_ofNat_Int, t3, m2, tlt, flt, tle, fle, teq, feq, tltN, fltN, tleN, fleN, teqN, feqN]
  | succ m ih =>
    intro fu p a I hf h2 h3 hT hM hE
    obtain ⟨fu, rfl⟩ : ∃ f, fu = f + 1 := ⟨fu - 1, by omega⟩
    have m2 : I 55 2 = nI (a 2) := hM 2 (by omega)
    have t3 := hT.2.2.1
    have htl := tkc_lt (n := n) htp p
    simp only [rl] at hE ⊢
    by_cases q : tkc tp n p = 300 ∧ a 2 ≠ 0
    · rw [if_pos q]
      rw [q.1, show mK 300 = -nI 2 from rfl] at t3
      refine ⟨I, ?_, fun _ _ => hM, fun f q h => (by cases h), FrM.rf⟩
      rw [show bI (isl ((.inl p, a) : Ps × Sa).1) = nI 1 from rfl]
      have := q.2
      simp (disch := omega) only [b_m_isRead_72, o_const, o_lconst, o_iload, o_lload, o_aload, o_istore, o_astore, o_lstore, o_iinc, o_bin, o_div, o_un, o_add, o_sub, o_mul, o_and, o_or, o_xor, o_shl, o_shr, o_ushr, o_idiv, o_irem, o_neg, o_i2b, o_i2s, o_i2l, o_lor, o_lshl, o_lcmp, o_dup, o_dup_x1, o_dup2, o_ifeq, o_iflt, o_ifge, o_ifgt, o_ifle, o_ceq, o_clt, o_cge, o_cgt, o_cle, o_sw, k_pick, o_ret, o_iret, o_zret, o_lret, o_aret, o_call, o_callV, k_pop, k_push, o_geti, o_getr, o_puti, o_putz, o_iald, o_iast, o_zald, o_zast, o_alen, o_copy, o_gets, o_sald, o_salen, o_min, k_sto, k_sto2, List.getElem?_cons_zero, List.getElem?_cons_succ, List.set_cons_zero, List.set_cons_succ, List.length_cons, List.length_nil, ite_true, ite_false, ↓reduceIte, true_and, and_true, and_self, or_true, true_or, or_false, false_or, or_self, eq_self, Nat.reduceLeDiff, Nat.reduceAdd, Nat.reduceSub, Nat.reduceLT, Nat.reduceEqDiff, Nat.zero_add, Nat.add_zero, Nat.le_refl, Nat.zero_le, Bool.false_eq_true, Int.reduceLE, Int.reduceLT, Int.reduceNeg, Int.natCast_nonneg, List.length_cons, not_true_eq_false, not_false_eq_true, false_and, and_false, gt_iff_lt, ge_iff_le, k_sh0, k_sh1, k_sh2, k_sh3, k_sh4, k_sh5, k_sh6, k_sh7, k_sh8, k_sh9, k_sh10, k_sh11, k_sh12, k_sh13, k_sh14, k_sh15, k_sh16, k_sh17, k_sh18, k_sh19, k_sh20, k_sh21, k_sh22, k_sh23, k_sh24, k_sh25, k_sh26, k_sh27, k_sh28, k_sh29, k_sh30, k_sh31, k_sh32, k_sh33, k_sh34, k_sh35, k_sh36, k_sh37, k_sh38, k_sh39, k_sh40, k_sh41, k_sh42, k_sh43, k_sh44, k_sh45, k_sh46, k_sh47, k_sh48, k_sh49, k_sh50, k_sh51, k_sh52, k_sh53, k_sh54, k_sh55, k_sh56, k_sh57, k_sh58, k_sh59, k_sh60, k_sh61, k_sh62, k_sh63, k_sh64, l_0, l_1, l_2, l_3, l_4, l_5, l_6, l_7, l_8, l_9, l_10, l_11, l_12, l_13, l_14, l_16, l_20, l_21, l_22, l_23, l_24, l_27, l_31, l_32, l_37, l_40, l_42, l_44, l_47, l_48, l_57, l_59, l_60, l_63, l_64, l_94, l_97, l_99, l_100, l_102, l_105, l_106, l_108, l_110, l_112, l_113, l_116, l_120, l_122, l_128, l_144, l_255, l_320, l_720, l_1000, l_1081, l_1128, l_9999, nI_add, pk_mul, k_nor, e_I, lt_I, le_I, nI_toInt, sub_I, inb_I, nI_clamp, bI_t0, bI_t1, bI_or, decide_eq_true_eq, decide_eq_false_iff_not, tn_1, tn_2, tn_3, tm_1, tm_2, tm_3, tm_1000000, tm_1000001, tm_1000002, tm_1000003, tm_1000010, tm_1000100, Int.cast_ofNat_Int, t3, m2, tlt, flt, tle, fle, teq, feq, tltN, fltN, tleN, fleN, teqN, feqN]
    · rw [if_neg q] at hE ⊢
      obtain ⟨J, r1, r2, r3, r4⟩ := s_isItem p a I hn htp h2 h3 hT hM
      have hb := itm_b (tp := tp) (n := n) (p := p) h2 h3
      have go : ∀ X, b_m_isRead_90 (b_m_isRead_72 fu) [.ref 49, Z] [] I = X → b_m_isRead_72 (fu + 1) [.ref 49, Z] [] I = X := by
        intro X hX
        by_cases q3 : tkc tp n p = 300
        · have h20 : a 2 = 0 := Classical.byContradiction fun z => q ⟨q3, z⟩
          rw [q3, show mK 300 = -nI 2 from rfl] at t3
          simp (disch := omega) only [b_m_isRead_72, o_const, o_lconst, o_iload, o_lload, o_aload, o_istore, o_astore, o_lstore, o_iinc, o_bin, o_div, o_un, o_add, o_sub, o_mul, o_and, o_or, o_xor, o_shl, o_shr, o_ushr, o_idiv, o_irem, o_neg, o_i2b, o_i2s, o_i2l, o_lor, o_lshl, o_lcmp, o_dup, o_dup_x1, o_dup2, o_ifeq, o_iflt, o_ifge, o_ifgt, o_ifle, o_ceq, o_clt, o_cge, o_cgt, o_cle, o_sw, k_pick, o_ret, o_iret, o_zret, o_lret, o_aret, o_call, o_callV, k_pop, k_push, o_geti, o_getr, o_puti, o_putz, o_iald, o_iast, o_zald, o_zast, o_alen, o_copy, o_gets, o_sald, o_salen, o_min, k_sto, k_sto2, List.getElem?_cons_zero, List.getElem?_cons_succ, List.set_cons_zero, List.set_cons_succ, List.length_cons, List.length_nil, ite_true, ite_false, ↓reduceIte, true_and, and_true, and_self, or_true, true_or, or_false, false_or, or_self, eq_self, Nat.reduceLeDiff, Nat.reduceAdd, Nat.reduceSub, Nat.reduceLT, Nat.reduceEqDiff, Nat.zero_add, Nat.add_zero, Nat.le_refl, Nat.zero_le, Bool.false_eq_true, Int.reduceLE, Int.reduceLT, Int.reduceNeg, Int.natCast_nonneg, List.length_cons, not_true_eq_false, not_false_eq_true, false_and, and_false, gt_iff_lt, ge_iff_le, k_sh0, k_sh1, k_sh2, k_sh3, k_sh4, k_sh5, k_sh6, k_sh7, k_sh8, k_sh9, k_sh10, k_sh11, k_sh12, k_sh13, k_sh14, k_sh15, k_sh16, k_sh17, k_sh18, k_sh19, k_sh20, k_sh21, k_sh22, k_sh23, k_sh24, k_sh25, k_sh26, k_sh27, k_sh28, k_sh29, k_sh30, k_sh31, k_sh32, k_sh33, k_sh34, k_sh35, k_sh36, k_sh37, k_sh38, k_sh39, k_sh40, k_sh41, k_sh42, k_sh43, k_sh44, k_sh45, k_sh46, k_sh47, k_sh48, k_sh49, k_sh50, k_sh51, k_sh52, k_sh53, k_sh54, k_sh55, k_sh56, k_sh57, k_sh58, k_sh59, k_sh60, k_sh61, k_sh62, k_sh63, k_sh64, l_0, l_1, l_2, l_3, l_4, l_5, l_6, l_7, l_8, l_9, l_10, l_11, l_12, l_13, l_14, l_16, l_20, l_21, l_22, l_23, l_24, l_27, l_31, l_32, l_37, l_40, l_42, l_44, l_47, l_48, l_57, l_59, l_60, l_63, l_64, l_94, l_97, l_99, l_100, l_102, l_105, l_106, l_108, l_110, l_112, l_113, l_116, l_120, l_122, l_128, l_144, l_255, l_320, l_720, l_1000, l_1081, l_1128, l_9999, nI_add, pk_mul, k_nor, e_I, lt_I, le_I, nI_toInt, sub_I, inb_I, nI_clamp, bI_t0, bI_t1, bI_or, decide_eq_true_eq, decide_eq_false_iff_not, tn_1, tn_2, tn_3, tm_1, tm_2, tm_3, tm_1000000, tm_1000001, tm_1000002, tm_1000003, tm_1000010, tm_1000100, Int.cast_ofNat_Int, t3, m2, tlt, flt, tle, fle, teq, feq, tltN, fltN, tleN, fleN, teqN, feqN, hX]
        · have hne : ¬ (mK (tkc tp n p)).toInt = -2 := by
            rw [mK_I htl]
            repeat' split
            all_goals omega
          rw [← t3] at hne
          simp (disch := omega) only [b_m_isRead_72, o_const, o_lconst, o_iload, o_lload, o_aload, o_istore, o_astore, o_lstore, o_iinc, o_bin, o_div, o_un, o_add, o_sub, o_mul, o_and, o_or, o_xor, o_shl, o_shr, o_ushr, o_idiv, o_irem, o_neg, o_i2b, o_i2s, o_i2l, o_lor, o_lshl, o_lcmp, o_dup, o_dup_x1, o_dup2, o_ifeq, o_iflt, o_ifge, o_ifgt, o_ifle, o_ceq, o_clt, o_cge, o_cgt, o_cle, o_sw, k_pick, o_ret, o_iret, o_zret, o_lret, o_aret, o_call, o_callV, k_pop, k_push, o_geti, o_getr, o_puti, o_putz, o_iald, o_iast, o_zald, o_zast, o_alen, o_copy, o_gets, o_sald, o_salen, o_min, k_sto, k_sto2, List.getElem?_cons_zero, List.getElem?_cons_succ, List.set_cons_zero, List.set_cons_succ, List.length_cons, List.length_nil, ite_true, ite_false, ↓reduceIte, true_and, and_true, and_self, or_true, true_or, or_false, false_or, or_self, eq_self, Nat.reduceLeDiff, Nat.reduceAdd, Nat.reduceSub, Nat.reduceLT, Nat.reduceEqDiff, Nat.zero_add, Nat.add_zero, Nat.le_refl, Nat.zero_le, Bool.false_eq_true, Int.reduceLE, Int.reduceLT, Int.reduceNeg, Int.natCast_nonneg, List.length_cons, not_true_eq_false, not_false_eq_true, false_and, and_false, gt_iff_lt, ge_iff_le, k_sh0, k_sh1, k_sh2, k_sh3, k_sh4, k_sh5, k_sh6, k_sh7, k_sh8, k_sh9, k_sh10, k_sh11, k_sh12, k_sh13, k_sh14, k_sh15, k_sh16, k_sh17, k_sh18, k_sh19, k_sh20, k_sh21, k_sh22, k_sh23, k_sh24, k_sh25, k_sh26, k_sh27, k_sh28, k_sh29, k_sh30, k_sh31, k_sh32, k_sh33, k_sh34, k_sh35, k_sh36, k_sh37, k_sh38, k_sh39, k_sh40, k_sh41, k_sh42, k_sh43, k_sh44, k_sh45, k_sh46, k_sh47, k_sh48, k_sh49, k_sh50, k_sh51, k_sh52, k_sh53, k_sh54, k_sh55, k_sh56, k_sh57, k_sh58, k_sh59, k_sh60, k_sh61, k_sh62, k_sh63, k_sh64, l_0, l_1, l_2, l_3, l_4, l_5, l_6, l_7, l_8, l_9, l_10, l_11, l_12, l_13, l_14, l_16, l_20, l_21, l_22, l_23, l_24, l_27, l_31, l_32, l_37, l_40, l_42, l_44, l_47, l_48, l_57, l_59, l_60, l_63, l_64, l_94, l_97, l_99, l_100, l_102, l_105, l_106, l_108, l_110, l_112, l_113, l_116, l_120, l_122, l_128, l_144, l_255, l_320, l_720, l_1000, l_1081, l_1128, l_9999, nI_add, pk_mul, k_nor, e_I, lt_I, le_I, nI_toInt, sub_I, inb_I, nI_clamp, bI_t0, bI_t1, bI_or, decide_eq_true_eq, decide_eq_false_iff_not, tn_1, tn_2, tn_3, tm_1, tm_2, tm_3, tm_1000000, tm_1000001, tm_1000002, tm_1000003, tm_1000010, tm_1000100, Int.cast_ofNat_Int, hne, tlt, flt, tle, fle, teq, feq, tltN, fltN, tleN, fleN, teqN, feqN, hX]
      cases hI : (itm tp n p a).1 with
      | inr x =>
        rw [hI] at r1 r2
        rw [show bI (isl (.inr x)) = nI 0 from rfl] at r1
        refine ⟨J, go _ ?_, fun q h => (by cases h), fun f q h => (by cases h; exact r2), r4⟩
        rw [show bI (isl ((.inr x, (itm tp n p a).2) : Ps × Sa).1) = nI 0 from rfl]
        simp (disch := omega) only [b_m_isRead_90, o_const, o_lconst, o_iload, o_lload, o_aload, o_istore, o_astore, o_lstore, o_iinc, o_bin, o_div, o_un, o_add, o_sub, o_mul, o_and, o_or, o_xor, o_shl, o_shr, o_ushr, o_idiv, o_irem, o_neg, o_i2b, o_i2s, o_i2l, o_lor, o_lshl, o_lcmp, o_dup, o_dup_x1, o_dup2, o_ifeq, o_iflt, o_ifge, o_ifgt, o_ifle, o_ceq, o_clt, o_cge, o_cgt, o_cle, o_sw, k_pick, o_ret, o_iret, o_zret, o_lret, o_aret, o_call, o_callV, k_pop, k_push, o_geti, o_getr, o_puti, o_putz, o_iald, o_iast, o_zald, o_zast, o_alen, o_copy, o_gets, o_sald, o_salen, o_min, k_sto, k_sto2, List.getElem?_cons_zero, List.getElem?_cons_succ, List.set_cons_zero, List.set_cons_succ, List.length_cons, List.length_nil, ite_true, ite_false, ↓reduceIte, true_and, and_true, and_self, or_true, true_or, or_false, false_or, or_self, eq_self, Nat.reduceLeDiff, Nat.reduceAdd, Nat.reduceSub, Nat.reduceLT, Nat.reduceEqDiff, Nat.zero_add, Nat.add_zero, Nat.le_refl, Nat.zero_le, Bool.false_eq_true, Int.reduceLE, Int.reduceLT, Int.reduceNeg, Int.natCast_nonneg, List.length_cons, not_true_eq_false, not_false_eq_true, false_and, and_false, gt_iff_lt, ge_iff_le, k_sh0, k_sh1, k_sh2, k_sh3, k_sh4, k_sh5, k_sh6, k_sh7, k_sh8, k_sh9, k_sh10, k_sh11, k_sh12, k_sh13, k_sh14, k_sh15, k_sh16, k_sh17, k_sh18, k_sh19, k_sh20, k_sh21, k_sh22, k_sh23, k_sh24, k_sh25, k_sh26, k_sh27, k_sh28, k_sh29, k_sh30, k_sh31, k_sh32, k_sh33, k_sh34, k_sh35, k_sh36, k_sh37, k_sh38, k_sh39, k_sh40, k_sh41, k_sh42, k_sh43, k_sh44, k_sh45, k_sh46, k_sh47, k_sh48, k_sh49, k_sh50, k_sh51, k_sh52, k_sh53, k_sh54, k_sh55, k_sh56, k_sh57, k_sh58, k_sh59, k_sh60, k_sh61, k_sh62, k_sh63, k_sh64, l_0, l_1, l_2, l_3, l_4, l_5, l_6, l_7, l_8, l_9, l_10, l_11, l_12, l_13, l_14, l_16, l_20, l_21, l_22, l_23, l_24, l_27, l_31, l_32, l_37, l_40, l_42, l_44, l_47, l_48, l_57, l_59, l_60, l_63, l_64, l_94, l_97, l_99, l_100, l_102, l_105, l_106, l_108, l_110, l_112, l_113, l_116, l_120, l_122, l_128, l_144, l_255, l_320, l_720, l_1000, l_1081, l_1128, l_9999, nI_add, pk_mul, k_nor, e_I, lt_I, le_I, nI_toInt, sub_I, inb_I, nI_clamp, bI_t0, bI_t1, bI_or, decide_eq_true_eq, decide_eq_false_iff_not, tn_1, tn_2, tn_3, tm_1, tm_2, tm_3, tm_1000000, tm_1000001, tm_1000002, tm_1000003, tm_1000010, tm_1000100, Int.cast_ofNat_Int, r1, tlt, flt, tle, fle, teq, feq, tltN, fltN, tleN, fleN, teqN, feqN]
      | inl p' =>
        rw [hI] at hE
        have hM' := r3 p' hI
        rw [hI] at r1 r2
        rw [show bI (isl (.inl p')) = nI 1 from rfl] at r1
        obtain ⟨k1, k2, k3⟩ := r2
        obtain ⟨J2, l1, l2, l3, l4, l5, l6⟩ := s_next (tp := tp) (n := n) p' J hn htp k2 k1 k3
        obtain ⟨J3, v1, v2, v3, v4⟩ := ih fu p' (itm tp n p a).2 J2 (by omega) hb.1 hb.2 ⟨l2, l3, l4, k2, TPm_f l6 k3⟩ (MR_c (l6.1 55 (by omega)) hM') hE
        refine ⟨J3, go _ ?_, v2, v3, FrM.tr r4 (FrM.tr (FrM.n l6) v4)⟩
        simp (disch := omega) only [b_m_isRead_90, o_const, o_lconst, o_iload, o_lload, o_aload, o_istore, o_astore, o_lstore, o_iinc, o_bin, o_div, o_un, o_add, o_sub, o_mul, o_and, o_or, o_xor, o_shl, o_shr, o_ushr, o_idiv, o_irem, o_neg, o_i2b, o_i2s, o_i2l, o_lor, o_lshl, o_lcmp, o_dup, o_dup_x1, o_dup2, o_ifeq, o_iflt, o_ifge, o_ifgt, o_ifle, o_ceq, o_clt, o_cge, o_cgt, o_cle, o_sw, k_pick, o_ret, o_iret, o_zret, o_lret, o_aret, o_call, o_callV, k_pop, k_push, o_geti, o_getr, o_puti, o_putz, o_iald, o_iast, o_zald, o_zast, o_alen, o_copy, o_gets, o_sald, o_salen, o_min, k_sto, k_sto2, List.getElem?_cons_zero, List.getElem?_cons_succ, List.set_cons_zero, List.set_cons_succ, List.length_cons, List.length_nil, ite_true, ite_false, ↓reduceIte, true_and, and_true, and_self, or_true, true_or, or_false, false_or, or_self, eq_self, Nat.reduceLeDiff, Nat.reduceAdd, Nat.reduceSub, Nat.reduceLT, Nat.reduceEqDiff, Nat.zero_add, Nat.add_zero, Nat.le_refl, Nat.zero_le, Bool.false_eq_true, Int.reduceLE, Int.reduceLT, Int.reduceNeg, Int.natCast_nonneg, List.length_cons, not_true_eq_false, not_false_eq_true, false_and, and_false, gt_iff_lt, ge_iff_le, k_sh0, k_sh1, k_sh2, k_sh3, k_sh4, k_sh5, k_sh6, k_sh7, k_sh8, k_sh9, k_sh10, k_sh11, k_sh12, k_sh13, k_sh14, k_sh15, k_sh16, k_sh17, k_sh18, k_sh19, k_sh20, k_sh21, k_sh22, k_sh23, k_sh24, k_sh25, k_sh26, k_sh27, k_sh28, k_sh29, k_sh30, k_sh31, k_sh32, k_sh33, k_sh34, k_sh35, k_sh36, k_sh37, k_sh38, k_sh39, k_sh40, k_sh41, k_sh42, k_sh43, k_sh44, k_sh45, k_sh46, k_sh47, k_sh48, k_sh49, k_sh50, k_sh51, k_sh52, k_sh53, k_sh54, k_sh55, k_sh56, k_sh57, k_sh58, k_sh59, k_sh60, k_sh61, k_sh62, k_sh63, k_sh64, l_0, l_1, l_2, l_3, l_4, l_5, l_6, l_7, l_8, l_9, l_10, l_11, l_12, l_13, l_14, l_16, l_20, l_21, l_22, l_23, l_24, l_27, l_31, l_32, l_37, l_40, l_42, l_44, l_47, l_48, l_57, l_59, l_60, l_63, l_64, l_94, l_97, l_99, l_100, l_102, l_105, l_106, l_108, l_110, l_112, l_113, l_116, l_120, l_122, l_128, l_144, l_255, l_320, l_720, l_1000, l_1081, l_1128, l_9999, nI_add, pk_mul, k_nor, e_I, lt_I, le_I, nI_toInt, sub_I, inb_I, nI_clamp, bI_t0, bI_t1, bI_or, decide_eq_true_eq, decide_eq_false_iff_not, tn_1, tn_2, tn_3, tm_1, tm_2, tm_3, tm_1000000, tm_1000001, tm_1000002, tm_1000003, tm_1000010, tm_1000100, Int.cast_ofNat_Int, r1, l1, tlt, flt, tle, fle, teq, feq, tltN, fltN, tleN, fleN, teqN, feqN, v1]
theorem s_zero_loop (X : Mi → Option (Value × Mi)) : ∀ (m fu k : Nat) (I : Mi), k + m = 47 → m < fu → (∀ j, j < k → I 55 j = nI 0) → (∀ (f : Nat) (J : Mi), MR J 55 0 (fun _ => 0) → (∀ k, k ≠ 55 → J k = I k) → b_m_isRead_2 (f + 1) [.ref 49, .int (nI 47)] [] J = X J) → ∃ J, b_m_isRead_2 fu [.ref 49, .int (nI k)] [] I = X J ∧ MR J 55 0 (fun _ => 0) ∧ ∀ k, k ≠ 55 → J k = I k := by
  intro m
  induction m with
  | zero =>
    intro fu k I hk hf hI hX
    obtain ⟨fu, rfl⟩ : ∃ f, fu = f + 1 := ⟨fu - 1, by omega⟩
    obtain rfl : k = 47 := by omega
    have hM : MR I 55 0 (fun _ => 0) := fun j hj => by rw [Nat.zero_add]; exact hI j hj
    exact ⟨I, hX fu I hM (fun _ _ => rfl), hM, fun _ _ => rfl⟩
  | succ m ih =>
    intro fu k I hk hf hI hX
    obtain ⟨fu, rfl⟩ : ∃ f, fu = f + 1 := ⟨fu - 1, by omega⟩
    obtain ⟨J, g1, g2, g3⟩ := ih fu (k + 1) (k_mu I 55 k (nI 0)) (by omega) (by omega) (fun j hj => by
      rw [mu_get]
      by_cases e : j = k
      · rw [if_pos ⟨rfl, e⟩]
      · rw [if_neg (fun z => e z.2)]; exact hI j (by omega)) (fun f J h1 h2 => hX f J h1 (fun k z => by rw [h2 k z, mu_cell _ _ z]))
    refine ⟨J, ?_, g2, fun k z => by rw [g3 k z, mu_cell _ _ z]⟩
    rw [← g1]
    generalize X J = x at g1 ⊢
    simp (disch := omega) only [b_m_isRead_2, o_const, o_lconst, o_iload, o_lload, o_aload, o_istore, o_astore, o_lstore, o_iinc, o_bin, o_div, o_un, o_add, o_sub, o_mul, o_and, o_or, o_xor, o_shl, o_shr, o_ushr, o_idiv, o_irem, o_neg, o_i2b, o_i2s, o_i2l, o_lor, o_lshl, o_lcmp, o_dup, o_dup_x1, o_dup2, o_ifeq, o_iflt, o_ifge, o_ifgt, o_ifle, o_ceq, o_clt, o_cge, o_cgt, o_cle, o_sw, k_pick, o_ret, o_iret, o_zret, o_lret, o_aret, o_call, o_callV, k_pop, k_push, o_geti, o_getr, o_puti, o_putz, o_iald, o_iast, o_zald, o_zast, o_alen, o_copy, o_gets, o_sald, o_salen, o_min, k_sto, k_sto2, List.getElem?_cons_zero, List.getElem?_cons_succ, List.set_cons_zero, List.set_cons_succ, List.length_cons, List.length_nil, ite_true, ite_false, ↓reduceIte, true_and, and_true, and_self, or_true, true_or, or_false, false_or, or_self, eq_self, Nat.reduceLeDiff, Nat.reduceAdd, Nat.reduceSub, Nat.reduceLT, Nat.reduceEqDiff, Nat.zero_add, Nat.add_zero, Nat.le_refl, Nat.zero_le, Bool.false_eq_true, Int.reduceLE, Int.reduceLT, Int.reduceNeg, Int.natCast_nonneg, List.length_cons, not_true_eq_false, not_false_eq_true, false_and, and_false, gt_iff_lt, ge_iff_le, k_sh0, k_sh1, k_sh2, k_sh3, k_sh4, k_sh5, k_sh6, k_sh7, k_sh8, k_sh9, k_sh10, k_sh11, k_sh12, k_sh13, k_sh14, k_sh15, k_sh16, k_sh17, k_sh18, k_sh19, k_sh20, k_sh21, k_sh22, k_sh23, k_sh24, k_sh25, k_sh26, k_sh27, k_sh28, k_sh29, k_sh30, k_sh31, k_sh32, k_sh33, k_sh34, k_sh35, k_sh36, k_sh37, k_sh38, k_sh39, k_sh40, k_sh41, k_sh42, k_sh43, k_sh44, k_sh45, k_sh46, k_sh47, k_sh48, k_sh49, k_sh50, k_sh51, k_sh52, k_sh53, k_sh54, k_sh55, k_sh56, k_sh57, k_sh58, k_sh59, k_sh60, k_sh61, k_sh62, k_sh63, k_sh64, l_0, l_1, l_2, l_3, l_4, l_5, l_6, l_7, l_8, l_9, l_10, l_11, l_12, l_13, l_14, l_16, l_20, l_21, l_22, l_23, l_24, l_27, l_31, l_32, l_37, l_40, l_42, l_44, l_47, l_48, l_57, l_59, l_60, l_63, l_64, l_94, l_97, l_99, l_100, l_102, l_105, l_106, l_108, l_110, l_112, l_113, l_116, l_120, l_122, l_128, l_144, l_255, l_320, l_720, l_1000, l_1081, l_1128, l_9999, nI_add, pk_mul, k_nor, e_I, lt_I, le_I, nI_toInt, sub_I, inb_I, nI_clamp, bI_t0, bI_t1, bI_or, decide_eq_true_eq, decide_eq_false_iff_not, tn_1, tn_2, tn_3, tm_1, tm_2, tm_3, tm_1000000, tm_1000001, tm_1000002, tm_1000003, tm_1000010, tm_1000100, Int.cast_ofNat_Int, tlt, flt, tle, fle, teq, feq, tltN, fltN, tleN, fleN, teqN, feqN]
end Eqv
