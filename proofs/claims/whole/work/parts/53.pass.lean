/-! ===== sums over a row of all sheep ===== -/
def sm (g : Nat → Nat) : Nat → Nat
  | 0 => 0
  | n + 1 => sm g n + g n
theorem sm_congr {g h : Nat → Nat} : ∀ n, (∀ i, i < n → g i = h i) → sm g n = sm h n := by
  intro n
  induction n with
  | zero => intro _; rfl
  | succ n ih => intro q; simp only [sm]; rw [ih (fun i hi => q i (by omega)), q n (by omega)]
theorem sm_zero (n : Nat) : sm (fun _ => 0) n = 0 := by
  induction n with
  | zero => rfl
  | succ n ih => simp only [sm]; omega
theorem sm_one (n : Nat) : sm (fun _ => 1) n = n := by
  induction n with
  | zero => rfl
  | succ n ih => simp only [sm]; omega
theorem sm_add (g h : Nat → Nat) (n : Nat) : sm (fun i => g i + h i) n = sm g n + sm h n := by
  induction n with
  | zero => rfl
  | succ n ih => simp only [sm]; omega
theorem sm_pick (g : Nat → Nat) (k : Nat) : ∀ N, sm (fun f => if f = k then g f else 0) N = if k < N then g k else 0 := by
  intro N
  induction N with
  | zero => simp [sm]
  | succ N ih =>
    simp only [sm, ih]
    by_cases h : k < N
    · rw [if_pos h, if_neg (by omega), if_pos (by omega)]; rfl
    · by_cases h2 : N = k
      · subst h2
        rw [if_neg h, if_pos rfl, if_pos (by omega)]; omega
      · rw [if_neg h, if_neg h2, if_neg (by omega)]
def ct (r : Nat → Nat) (f : Nat) : Nat → Nat
  | 0 => 0
  | n + 1 => ct r f n + (if f = r n then 1 else 0)
theorem sm_ct (r g : Nat → Nat) (N : Nat) : ∀ n, (∀ i, i < n → r i < N) → sm (fun i => g (r i)) n = sm (fun f => g f * ct r f n) N := by
  intro n
  induction n with
  | zero =>
    intro _
    rw [sm_congr (g := fun f => g f * ct r f 0) (h := fun _ => 0) N (fun f _ => Nat.mul_zero _), sm_zero]
    rfl
  | succ n ih =>
    intro h
    rw [sm_congr (g := fun f => g f * ct r f (n + 1)) (h := fun f => g f * ct r f n + (if f = r n then g f else 0)) N (fun f _ => by
      simp only [ct, Nat.mul_add]
      split <;> simp), sm_add, sm_pick, if_pos (h n (by omega)), ← ih (fun i hi => h i (by omega))]
    rfl
theorem ct_zero {r : Nat → Nat} {f : Nat} : ∀ n, (∀ i, i < n → r i ≠ f) → ct r f n = 0 := by
  intro n
  induction n with
  | zero => intro _; rfl
  | succ n ih =>
    intro h
    simp only [ct]
    rw [ih (fun i hi => h i (by omega)), if_neg (fun q => h n (by omega) q.symm)]
theorem ct_le {r : Nat → Nat} {f : Nat} : ∀ n, (∀ i j, i < n → j < n → r i = r j → i = j) → ct r f n ≤ 1 := by
  intro n
  induction n with
  | zero => intro _; exact Nat.zero_le _
  | succ n ih =>
    intro h
    simp only [ct]
    by_cases q : f = r n
    · rw [ct_zero n (fun i hi e => by have := h i n (by omega) (by omega) (e.trans q); omega), if_pos q]
      exact Nat.le_refl _
    · rw [if_neg q]
      exact ih (fun i j hi hj => h i j (by omega) (by omega))
theorem sm_le {g h : Nat → Nat} : ∀ n, (∀ i, i < n → g i ≤ h i) → sm g n ≤ sm h n := by
  intro n
  induction n with
  | zero => intro _; exact Nat.le_refl _
  | succ n ih => intro q; simp only [sm]; have := ih (fun i hi => q i (by omega)); have := q n (by omega); omega
theorem sm_all1 {g : Nat → Nat} : ∀ n, (∀ i, i < n → g i ≤ 1) → sm g n = n → ∀ i, i < n → g i = 1 := by
  intro n
  induction n with
  | zero => intro _ _ i hi; omega
  | succ n ih =>
    intro h e i hi
    simp only [sm] at e
    have h1 := sm_le (g := g) (h := fun _ => 1) n (fun i hi => h i (by omega))
    rw [sm_one] at h1
    have h2 := h n (by omega)
    rcases Nat.lt_or_ge i n with q | q
    · exact ih (fun i hi => h i (by omega)) (by omega) i q
    · rw [show i = n by omega]; omega
theorem ct_one {r : Nat → Nat} {n f : Nat} (hlt : ∀ i, i < n → r i < n) (hinj : ∀ i j, i < n → j < n → r i = r j → i = j) (hf : f < n) : ct r f n = 1 := by
  refine sm_all1 (g := fun f => ct r f n) n (fun i _ => ct_le n hinj) ?_ f hf
  have h := sm_ct r (fun _ => 1) n n hlt
  rw [sm_one] at h
  rw [sm_congr (g := fun f => ct r f n) (h := fun f => 1 * ct r f n) n (fun i _ => (Nat.one_mul _).symm)]
  exact h.symm
theorem perm_sum {r : Nat → Nat} {n : Nat} (hlt : ∀ i, i < n → r i < n) (hinj : ∀ i j, i < n → j < n → r i = r j → i = j) (g : Nat → Nat) : sm (fun i => g (r i)) n = sm g n := by
  rw [sm_ct r g n n hlt]
  exact sm_congr n (fun f hf => by rw [ct_one hlt hinj hf, Nat.mul_one])
theorem perm_surj {r : Nat → Nat} {n f : Nat} (hlt : ∀ i, i < n → r i < n) (hinj : ∀ i j, i < n → j < n → r i = r j → i = j) (hf : f < n) : ∃ i, i < n ∧ r i = f := by
  rcases Classical.em (∃ i, i < n ∧ r i = f) with h | h
  · exact h
  · have h1 := ct_one hlt hinj hf
    rw [ct_zero n (fun i hi e => h ⟨i, hi, e⟩)] at h1
    omega
theorem pcn_sm (x n : Nat) : pcn x n = sm (bt x) n := by
  induction n with
  | zero => rfl
  | succ n ih => simp only [pcn, sm, ih]
theorem pcn_hi : ∀ n, n ≤ 6 → ∀ x, x < 2 ^ n → pcn x 6 = pcn x n := by decide +kernel
theorem pre_sm (a : Sa) (T : Nat) : ∀ j, (pre a T j).length = sm (fun i => bt T (a (4 + i))) j := by
  intro j
  induction j with
  | zero => rfl
  | succ j ih =>
    simp only [pre, sm, List.length_append, ih]
    have := bt_le T (a (4 + j))
    split
    · next h => rw [h]; rfl
    · next h => simp; omega
theorem pre_count {a : Sa} (hv : Vs a) {T : Nat} (hT : T < 2 ^ (a 2)) : (pre a T (a 2)).length = pcn T 6 := by
  rw [pre_sm, perm_sum (r := fun i => a (4 + i)) (fun i hi => (hv.2.1 i hi).1) hv.2.2.1 (bt T), ← pcn_sm, pcn_hi _ hv.1.1 T hT]
/-- which sheep goes by -/
def pk (rw : List Nat) (a : Sa) : Nat := rw.getD (a 0 % rw.length) 0
theorem pk_mem {rw : List Nat} {a : Sa} (h : 0 < rw.length) : pk rw a ∈ rw := by
  unfold pk
  rw [List.getD_eq_getElem?_getD, List.getElem?_eq_getElem (Nat.mod_lt _ h)]
  exact List.getElem_mem _
theorem pow_le64 : ∀ n, n ≤ 6 → 2 ^ n ≤ 64 := by decide +kernel
theorem s_pass (c T : Nat) (a : Sa) (I : Mi) (hc : k_sh c = (0, 47)) (hv : Vs a) (h0 : a 0 < 2 ^ 20) (hT : T < 2 ^ (a 2)) (hT0 : 0 < pcn T 6) (hM : MR I c 0 a) : ∃ J, r_m_pass [.ref c, .int (nI T)] I = some (.null, J) ∧ (∀ k, k ≠ c → J k = I k) ∧ MR J c 0 (stp a (pk (pre a T (a 2)) a)) := by
  have hb := hv.1
  have hT6 : T < 64 := Nat.lt_of_lt_of_le hT (pow_le64 _ hb.1)
  have hlen := pre_count hv hT
  have hp6 := pcn_le T 6
  have e0 := hM 0 (by omega)
  rw [Nat.zero_add] at e0
  have hmod : a 0 % pcn T 6 < pcn T 6 := Nat.mod_lt _ hT0
  obtain ⟨P', h1⟩ := s_pass_loop1 c T (a 0 % pcn T 6) a I hc hv hT6 (by omega) hM (a 2) k_fu 0 (nI (a 0 % pcn T 6)) (by omega) (by have := fu_pos; omega) (by rw [nI_toInt (by omega)]; simp [pre])
  have hpk : (pre a T (a 2)).getD (a 0 % pcn T 6) 0 = pk (pre a T (a 2)) a := by unfold pk; rw [hlen]
  rw [hpk] at h1
  have hmem := pk_mem (a := a) (by rw [hlen]; exact hT0 : 0 < (pre a T (a 2)).length)
  obtain ⟨i, hi, hfi, -⟩ := pre_mem _ hmem
  generalize hfe : pk (pre a T (a 2)) a = f at h1 hmem hfi ⊢
  have hfl : f < a 2 := by rw [hfi]; exact (hv.2.1 i hi).1
  have hff := hv.2.1 f hfl
  obtain ⟨J, g1, g2, g3⟩ := s_pass_loop2 c f T P' a hc (by omega) hv ⟨hff.2.1, hff.2.2⟩ (a 3) k_fu 0 .null (k_mu I c 0 (nI (a 0 + 1))) (Or.inl rfl) (by omega) (by have := fu_pos; omega) (fun j hj => by
    rw [Nat.zero_add, mu_get]
    by_cases q : j = 0
    · subst q
      rw [if_pos ⟨rfl, rfl⟩]; rfl
    · rw [if_neg (fun z => q z.2), stpw_id (by omega) (by omega) (by omega)]
      have := hM j hj
      rw [Nat.zero_add] at this
      exact this)
  refine ⟨J, ?_, fun k hk => (g2 k hk).trans (k_mu_ne hk), g3⟩
  have e2 := hM 2 (by omega)
  rw [Nat.zero_add] at e2
  have h1' : b_m_pass_14 k_fu [Value.ref c, Value.int (nI T), Value.int (nI (a 0 % pcn T 6)), Value.int (nI 0), Value.int (nI 0), Value.null] [] I = some (.null, J) := by
    have : (pre a T 0).getD (a 0 % pcn T 6) 0 = 0 := rfl
    rw [this] at h1
    rw [h1]
    simp (disch := omega) only [b_m_pass_14, o_const, o_lconst, o_iload, o_lload, o_aload, o_istore, o_astore, o_lstore, o_iinc, o_bin, o_div, o_un, o_add, o_sub, o_mul, o_and, o_or, o_xor, o_shl, o_shr, o_ushr, o_idiv, o_irem, o_neg, o_i2b, o_i2s, o_i2l, o_lor, o_lshl, o_lcmp, o_dup, o_dup_x1, o_dup2, o_ifeq, o_iflt, o_ifge, o_ifgt, o_ifle, o_ceq, o_clt, o_cge, o_cgt, o_cle, o_sw, k_pick, o_ret, o_iret, o_zret, o_lret, o_aret, o_call, o_callV, k_pop, k_push, o_geti, o_getr, o_puti, o_putz, o_iald, o_iast, o_zald, o_zast, o_alen, o_copy, o_gets, o_sald, o_salen, o_min, k_sto, k_sto2, List.getElem?_cons_zero, List.getElem?_cons_succ, List.set_cons_zero, List.set_cons_succ, List.length_cons, List.length_nil, ite_true, ite_false, ↓reduceIte, true_and, and_true, and_self, or_true, true_or, or_false, false_or, or_self, eq_self, Nat.reduceLeDiff, Nat.reduceAdd, Nat.reduceSub, Nat.reduceLT, Nat.reduceEqDiff, Nat.zero_add, Nat.add_zero, Nat.le_refl, Nat.zero_le, Bool.false_eq_true, Int.reduceLE, Int.reduceLT, Int.reduceNeg, Int.natCast_nonneg, List.length_cons, not_true_eq_false, not_false_eq_true, false_and, and_false, gt_iff_lt, ge_iff_le, hc, l_0, l_1, l_2, l_3, l_4, l_5, l_6, l_7, l_8, l_9, l_10, l_11, l_12, l_13, l_14, l_16, l_20, l_21, l_22, l_23, l_24, l_27, l_31, l_32, l_37, l_40, l_42, l_44, l_47, l_48, l_57, l_59, l_60, l_63, l_64, l_94, l_97, l_99, l_100, l_102, l_105, l_106, l_108, l_110, l_112, l_113, l_116, l_120, l_122, l_128, l_144, l_255, l_320, l_720, l_1000, l_1081, l_1128, l_9999, nI_add, pk_mul, k_nor, e_I, lt_I, le_I, nI_toInt, sub_I, inb_I, nI_clamp, bI_t0, bI_t1, bI_or, decide_eq_true_eq, decide_eq_false_iff_not, tn_1, tn_2, tn_3, tm_1, tm_2, tm_3, tm_1000000, tm_1000001, tm_1000002, tm_1000003, tm_1000010, tm_1000100, Int.cast_ofNat_Int, e0, e2, tlt, flt, tle, fle, teq, feq, tltN, fltN, tleN, fleN, teqN, feqN, g1]
  simp (disch := omega) only [b_m_pass_186, b_m_pass_152, b_m_pass_151, b_m_pass_127, b_m_pass_126, b_m_pass_53, b_m_pass_49, b_m_pass_0, r_m_pass, o_const, o_lconst, o_iload, o_lload, o_aload, o_istore, o_astore, o_lstore, o_iinc, o_bin, o_div, o_un, o_add, o_sub, o_mul, o_and, o_or, o_xor, o_shl, o_shr, o_ushr, o_idiv, o_irem, o_neg, o_i2b, o_i2s, o_i2l, o_lor, o_lshl, o_lcmp, o_dup, o_dup_x1, o_dup2, o_ifeq, o_iflt, o_ifge, o_ifgt, o_ifle, o_ceq, o_clt, o_cge, o_cgt, o_cle, o_sw, k_pick, o_ret, o_iret, o_zret, o_lret, o_aret, o_call, o_callV, k_pop, k_push, o_geti, o_getr, o_puti, o_putz, o_iald, o_iast, o_zald, o_zast, o_alen, o_copy, o_gets, o_sald, o_salen, o_min, k_sto, k_sto2, List.getElem?_cons_zero, List.getElem?_cons_succ, List.set_cons_zero, List.set_cons_succ, List.length_cons, List.length_nil, ite_true, ite_false, ↓reduceIte, true_and, and_true, and_self, or_true, true_or, or_false, false_or, or_self, eq_self, Nat.reduceLeDiff, Nat.reduceAdd, Nat.reduceSub, Nat.reduceLT, Nat.reduceEqDiff, Nat.zero_add, Nat.add_zero, Nat.le_refl, Nat.zero_le, Bool.false_eq_true, Int.reduceLE, Int.reduceLT, Int.reduceNeg, Int.natCast_nonneg, List.length_cons, not_true_eq_false, not_false_eq_true, false_and, and_false, gt_iff_lt, ge_iff_le, hc, l_0, l_1, l_2, l_3, l_4, l_5, l_6, l_7, l_8, l_9, l_10, l_11, l_12, l_13, l_14, l_16, l_20, l_21, l_22, l_23, l_24, l_27, l_31, l_32, l_37, l_40, l_42, l_44, l_47, l_48, l_57, l_59, l_60, l_63, l_64, l_94, l_97, l_99, l_100, l_102, l_105, l_106, l_108, l_110, l_112, l_113, l_116, l_120, l_122, l_128, l_144, l_255, l_320, l_720, l_1000, l_1081, l_1128, l_9999, nI_add, pk_mul, k_nor, e_I, lt_I, le_I, nI_toInt, sub_I, inb_I, nI_clamp, bI_t0, bI_t1, bI_or, decide_eq_true_eq, decide_eq_false_iff_not, tn_1, tn_2, tn_3, tm_1, tm_2, tm_3, tm_1000000, tm_1000001, tm_1000002, tm_1000003, tm_1000010, tm_1000100, Int.cast_ofNat_Int, e0, s_bits, pk_rem, tlt, flt, tle, fle, teq, feq, tltN, fltN, tleN, fleN, teqN, feqN, h1']
theorem s_offOf_loop (c : Nat) (a : Sa) (I : Mi) (hc : k_sh c = (0, 47)) (hn : a 3 ≤ 5) (hb : ∀ s, s < a 3 → a (42 + s) ≤ 1) (hM : MR I c 0 a) : ∀ (m fu j : Nat), j + m = a 3 → m < fu → b_m_offOf_4 fu [.ref c, .int (nI (ob a j)), .int (nI j)] [] I = some (.int (nI (ob a (a 3))), I) := by
  have e3 := hM 3 (by omega)
  rw [Nat.zero_add] at e3
  intro m
  induction m with
  | zero =>
    intro fu j hj hf
    obtain ⟨fu, rfl⟩ : ∃ f, fu = f + 1 := ⟨fu - 1, by omega⟩
    obtain rfl : j = a 3 := by omega
    simp (disch := omega) only [b_m_offOf_4, o_const, o_lconst, o_iload, o_lload, o_aload, o_istore, o_astore, o_lstore, o_iinc, o_bin, o_div, o_un, o_add, o_sub, o_mul, o_and, o_or, o_xor, o_shl, o_shr, o_ushr, o_idiv, o_irem, o_neg, o_i2b, o_i2s, o_i2l, o_lor, o_lshl, o_lcmp, o_dup, o_dup_x1, o_dup2, o_ifeq, o_iflt, o_ifge, o_ifgt, o_ifle, o_ceq, o_clt, o_cge, o_cgt, o_cle, o_sw, k_pick, o_ret, o_iret, o_zret, o_lret, o_aret, o_call, o_callV, k_pop, k_push, o_geti, o_getr, o_puti, o_putz, o_iald, o_iast, o_zald, o_zast, o_alen, o_copy, o_gets, o_sald, o_salen, o_min, k_sto, k_sto2, List.getElem?_cons_zero, List.getElem?_cons_succ, List.set_cons_zero, List.set_cons_succ, List.length_cons, List.length_nil, ite_true, ite_false, ↓reduceIte, true_and, and_true, and_self, or_true, true_or, or_false, false_or, or_self, eq_self, Nat.reduceLeDiff, Nat.reduceAdd, Nat.reduceSub, Nat.reduceLT, Nat.reduceEqDiff, Nat.zero_add, Nat.add_zero, Nat.le_refl, Nat.zero_le, Bool.false_eq_true, Int.reduceLE, Int.reduceLT, Int.reduceNeg, Int.natCast_nonneg, List.length_cons, not_true_eq_false, not_false_eq_true, false_and, and_false, gt_iff_lt, ge_iff_le, hc, l_0, l_1, l_2, l_3, l_4, l_5, l_6, l_7, l_8, l_9, l_10, l_11, l_12, l_13, l_14, l_16, l_20, l_21, l_22, l_23, l_24, l_27, l_31, l_32, l_37, l_40, l_42, l_44, l_47, l_48, l_57, l_59, l_60, l_63, l_64, l_94, l_97, l_99, l_100, l_102, l_105, l_106, l_108, l_110, l_112, l_113, l_116, l_120, l_122, l_128, l_144, l_255, l_320, l_720, l_1000, l_1081, l_1128, l_9999, nI_add, pk_mul, k_nor, e_I, lt_I, le_I, nI_toInt, sub_I, inb_I, nI_clamp, bI_t0, bI_t1, bI_or, decide_eq_true_eq, decide_eq_false_iff_not, tn_1, tn_2, tn_3, tm_1, tm_2, tm_3, tm_1000000, tm_1000001, tm_1000002, tm_1000003, tm_1000010, tm_1000100, Int.cast_ofNat_Int, e3, tlt, flt, tle, fle, teq, feq, tltN, fltN, tleN, fleN, teqN, feqN]
  | succ m ih =>
    intro fu j hj hf
    obtain ⟨fu, rfl⟩ : ∃ f, fu = f + 1 := ⟨fu - 1, by omega⟩
    have e := ih fu (j + 1) (by omega) (by omega)
    have e4 := hM (42 + j) (by omega)
    rw [Nat.zero_add] at e4
    have h1 := hb j (by omega)
    have h2 := ob_lt (a := a) j (fun s hs => hb s (by omega))
    have h3 := orb j (by omega) (ob a j) h2 (a (42 + j)) h1
    rw [show ob a (j + 1) = ob a j + a (42 + j) * 2 ^ j from rfl] at e
    simp (disch := omega) only [b_m_offOf_4, o_const, o_lconst, o_iload, o_lload, o_aload, o_istore, o_astore, o_lstore, o_iinc, o_bin, o_div, o_un, o_add, o_sub, o_mul, o_and, o_or, o_xor, o_shl, o_shr, o_ushr, o_idiv, o_irem, o_neg, o_i2b, o_i2s, o_i2l, o_lor, o_lshl, o_lcmp, o_dup, o_dup_x1, o_dup2, o_ifeq, o_iflt, o_ifge, o_ifgt, o_ifle, o_ceq, o_clt, o_cge, o_cgt, o_cle, o_sw, k_pick, o_ret, o_iret, o_zret, o_lret, o_aret, o_call, o_callV, k_pop, k_push, o_geti, o_getr, o_puti, o_putz, o_iald, o_iast, o_zald, o_zast, o_alen, o_copy, o_gets, o_sald, o_salen, o_min, k_sto, k_sto2, List.getElem?_cons_zero, List.getElem?_cons_succ, List.set_cons_zero, List.set_cons_succ, List.length_cons, List.length_nil, ite_true, ite_false, ↓reduceIte, true_and, and_true, and_self, or_true, true_or, or_false, false_or, or_self, eq_self, Nat.reduceLeDiff, Nat.reduceAdd, Nat.reduceSub, Nat.reduceLT, Nat.reduceEqDiff, Nat.zero_add, Nat.add_zero, Nat.le_refl, Nat.zero_le, Bool.false_eq_true, Int.reduceLE, Int.reduceLT, Int.reduceNeg, Int.natCast_nonneg, List.length_cons, not_true_eq_false, not_false_eq_true, false_and, and_false, gt_iff_lt, ge_iff_le, hc, l_0, l_1, l_2, l_3, l_4, l_5, l_6, l_7, l_8, l_9, l_10, l_11, l_12, l_13, l_14, l_16, l_20, l_21, l_22, l_23, l_24, l_27, l_31, l_32, l_37, l_40, l_42, l_44, l_47, l_48, l_57, l_59, l_60, l_63, l_64, l_94, l_97, l_99, l_100, l_102, l_105, l_106, l_108, l_110, l_112, l_113, l_116, l_120, l_122, l_128, l_144, l_255, l_320, l_720, l_1000, l_1081, l_1128, l_9999, nI_add, pk_mul, k_nor, e_I, lt_I, le_I, nI_toInt, sub_I, inb_I, nI_clamp, bI_t0, bI_t1, bI_or, decide_eq_true_eq, decide_eq_false_iff_not, tn_1, tn_2, tn_3, tm_1, tm_2, tm_3, tm_1000000, tm_1000001, tm_1000002, tm_1000003, tm_1000010, tm_1000100, Int.cast_ofNat_Int, e3, e4, tlt, flt, tle, fle, teq, feq, tltN, fltN, tleN, fleN, teqN, feqN, h3, e]
theorem s_offOf (c : Nat) (a : Sa) (I : Mi) (hc : k_sh c = (0, 47)) (hv : Vs a) (hM : MR I c 0 a) : r_m_offOf [.ref c] I = some (.int (nI (ob a (a 3))), I) := by
  have e := s_offOf_loop c a I hc hv.1.2.1 (fun s hs => (hv.2.2.2 s hs).2.2.2.2) hM (a 3) k_fu 0 (by omega) (by have := fu_pos; have := hv.1; omega)
  rw [show ob a 0 = 0 from rfl] at e
  simp only [b_m_offOf_0, r_m_offOf, o_const, o_lconst, o_iload, o_lload, o_aload, o_istore, o_astore, o_lstore, o_iinc, o_bin, o_div, o_un, o_add, o_sub, o_mul, o_and, o_or, o_xor, o_shl, o_shr, o_ushr, o_idiv, o_irem, o_neg, o_i2b, o_i2s, o_i2l, o_lor, o_lshl, o_lcmp, o_dup, o_dup_x1, o_dup2, o_ifeq, o_iflt, o_ifge, o_ifgt, o_ifle, o_ceq, o_clt, o_cge, o_cgt, o_cle, o_sw, k_pick, o_ret, o_iret, o_zret, o_lret, o_aret, o_call, o_callV, k_pop, k_push, o_geti, o_getr, o_puti, o_putz, o_iald, o_iast, o_zald, o_zast, o_alen, o_copy, o_gets, o_sald, o_salen, o_min, k_sto, k_sto2, List.getElem?_cons_zero, List.getElem?_cons_succ, List.set_cons_zero, List.set_cons_succ, List.length_cons, List.length_nil, ite_true, ite_false, ↓reduceIte, true_and, and_true, and_self, or_true, true_or, or_false, false_or, or_self, eq_self, Nat.reduceLeDiff, Nat.reduceAdd, Nat.reduceSub, Nat.reduceLT, Nat.reduceEqDiff, Nat.zero_add, Nat.add_zero, Nat.le_refl, Nat.zero_le, Bool.false_eq_true, Int.reduceLE, Int.reduceLT, Int.reduceNeg, Int.natCast_nonneg, List.length_cons, not_true_eq_false, not_false_eq_true, false_and, and_false, gt_iff_lt, ge_iff_le, l_0, l_1, l_2, l_3, l_4, l_5, l_6, l_7, l_8, l_9, l_10, l_11, l_12, l_13, l_14, l_16, l_20, l_21, l_22, l_23, l_24, l_27, l_31, l_32, l_37, l_40, l_42, l_44, l_47, l_48, l_57, l_59, l_60, l_63, l_64, l_94, l_97, l_99, l_100, l_102, l_105, l_106, l_108, l_110, l_112, l_113, l_116, l_120, l_122, l_128, l_144, l_255, l_320, l_720, l_1000, l_1081, l_1128, l_9999, nI_add, pk_mul, e]
theorem pow_sub1 (k : Nat) : nI (2 ^ k) - nI 1 = nI (2 ^ k - 1) := pk_sub (Nat.one_le_two_pow)
theorem s_flock (n : Nat) (I : Mi) (hn : n ≤ 6) (h : I 54 2 = nI n) : r_m_flock [.ref 49] I = some (.int (nI (2 ^ n - 1)), I) := by
  simp (disch := omega) only [b_m_flock_0, r_m_flock, o_const, o_lconst, o_iload, o_lload, o_aload, o_istore, o_astore, o_lstore, o_iinc, o_bin, o_div, o_un, o_add, o_sub, o_mul, o_and, o_or, o_xor, o_shl, o_shr, o_ushr, o_idiv, o_irem, o_neg, o_i2b, o_i2s, o_i2l, o_lor, o_lshl, o_lcmp, o_dup, o_dup_x1, o_dup2, o_ifeq, o_iflt, o_ifge, o_ifgt, o_ifle, o_ceq, o_clt, o_cge, o_cgt, o_cle, o_sw, k_pick, o_ret, o_iret, o_zret, o_lret, o_aret, o_call, o_callV, k_pop, k_push, o_geti, o_getr, o_puti, o_putz, o_iald, o_iast, o_zald, o_zast, o_alen, o_copy, o_gets, o_sald, o_salen, o_min, k_sto, k_sto2, List.getElem?_cons_zero, List.getElem?_cons_succ, List.set_cons_zero, List.set_cons_succ, List.length_cons, List.length_nil, ite_true, ite_false, ↓reduceIte, true_and, and_true, and_self, or_true, true_or, or_false, false_or, or_self, eq_self, Nat.reduceLeDiff, Nat.reduceAdd, Nat.reduceSub, Nat.reduceLT, Nat.reduceEqDiff, Nat.zero_add, Nat.add_zero, Nat.le_refl, Nat.zero_le, Bool.false_eq_true, Int.reduceLE, Int.reduceLT, Int.reduceNeg, Int.natCast_nonneg, List.length_cons, not_true_eq_false, not_false_eq_true, false_and, and_false, gt_iff_lt, ge_iff_le, k_sh0, k_sh1, k_sh2, k_sh3, k_sh4, k_sh5, k_sh6, k_sh7, k_sh8, k_sh9, k_sh10, k_sh11, k_sh12, k_sh13, k_sh14, k_sh15, k_sh16, k_sh17, k_sh18, k_sh19, k_sh20, k_sh21, k_sh22, k_sh23, k_sh24, k_sh25, k_sh26, k_sh27, k_sh28, k_sh29, k_sh30, k_sh31, k_sh32, k_sh33, k_sh34, k_sh35, k_sh36, k_sh37, k_sh38, k_sh39, k_sh40, k_sh41, k_sh42, k_sh43, k_sh44, k_sh45, k_sh46, k_sh47, k_sh48, k_sh49, k_sh50, k_sh51, k_sh52, k_sh53, k_sh54, k_sh55, k_sh56, k_sh57, k_sh58, k_sh59, k_sh60, k_sh61, k_sh62, k_sh63, k_sh64, l_0, l_1, l_2, l_3, l_4, l_5, l_6, l_7, l_8, l_9, l_10, l_11, l_12, l_13, l_14, l_16, l_20, l_21, l_22, l_23, l_24, l_27, l_31, l_32, l_37, l_40, l_42, l_44, l_47, l_48, l_57, l_59, l_60, l_63, l_64, l_94, l_97, l_99, l_100, l_102, l_105, l_106, l_108, l_110, l_112, l_113, l_116, l_120, l_122, l_128, l_144, l_255, l_320, l_720, l_1000, l_1081, l_1128, l_9999, nI_add, pk_mul, k_nor, e_I, lt_I, le_I, nI_toInt, sub_I, inb_I, nI_clamp, bI_t0, bI_t1, bI_or, decide_eq_true_eq, decide_eq_false_iff_not, tn_1, tn_2, tn_3, tm_1, tm_2, tm_3, tm_1000000, tm_1000001, tm_1000002, tm_1000003, tm_1000010, tm_1000100, Int.cast_ofNat_Int, h, shl1, pow_sub1, tlt, flt, tle, fle, teq, feq, tltN, fltN, tleN, fleN, teqN, feqN]
/-- a stretch laid over another -/
theorem mc_succ (I : Mi) {c1 c2 o1 o2 j : Nat} (hc : c1 ≠ c2) : k_mu (k_mc I c1 c2 o1 o2 j) c2 (o2 + j) (I c1 (o1 + j)) = k_mc I c1 c2 o1 o2 (j + 1) := by
  funext k i
  simp only [mu_get, mc_get]
  by_cases h1 : k = c2
  · by_cases h2 : i = o2 + j
    · rw [if_pos ⟨h1, h2⟩, if_pos ⟨h1, by omega, by omega⟩, h2, Nat.add_sub_cancel_left]
    · rw [if_neg (fun q => h2 q.2)]
      by_cases h3 : o2 ≤ i ∧ i < o2 + j
      · rw [if_pos ⟨h1, h3⟩, if_pos ⟨h1, by omega, by omega⟩]
      · rw [if_neg (fun q => h3 q.2), if_neg (fun q => by omega)]
  · rw [if_neg (fun q => h1 q.1), if_neg (fun q => h1 q.1), if_neg (fun q => h1 q.1)]
theorem s_lay_loop (c1 c2 o1 o2 n1 n2 : Nat) (I : Mi) (h1 : k_sh c1 = (0, n1)) (h2 : k_sh c2 = (0, n2)) (hc : c1 ≠ c2) (b1 : o1 + 47 ≤ n1) (b2 : o2 + 47 ≤ n2) (hn1 : n1 < 2000) (hn2 : n2 < 2000) : ∀ (m fu j : Nat), j + m = 47 → m < fu → b_m_lay_3 fu [.ref c1, .int (nI o1), .ref c2, .int (nI o2), .int (nI j)] [] (k_mc I c1 c2 o1 o2 j) = some (.null, k_mc I c1 c2 o1 o2 47) := by
  intro m
  induction m with
  | zero =>
    intro fu j hj hf
    obtain ⟨fu, rfl⟩ : ∃ f, fu = f + 1 := ⟨fu - 1, by omega⟩
    obtain rfl : j = 47 := by omega
    simp (disch := omega) only [b_m_lay_3, o_const, o_lconst, o_iload, o_lload, o_aload, o_istore, o_astore, o_lstore, o_iinc, o_bin, o_div, o_un, o_add, o_sub, o_mul, o_and, o_or, o_xor, o_shl, o_shr, o_ushr, o_idiv, o_irem, o_neg, o_i2b, o_i2s, o_i2l, o_lor, o_lshl, o_lcmp, o_dup, o_dup_x1, o_dup2, o_ifeq, o_iflt, o_ifge, o_ifgt, o_ifle, o_ceq, o_clt, o_cge, o_cgt, o_cle, o_sw, k_pick, o_ret, o_iret, o_zret, o_lret, o_aret, o_call, o_callV, k_pop, k_push, o_geti, o_getr, o_puti, o_putz, o_iald, o_iast, o_zald, o_zast, o_alen, o_copy, o_gets, o_sald, o_salen, o_min, k_sto, k_sto2, List.getElem?_cons_zero, List.getElem?_cons_succ, List.set_cons_zero, List.set_cons_succ, List.length_cons, List.length_nil, ite_true, ite_false, ↓reduceIte, true_and, and_true, and_self, or_true, true_or, or_false, false_or, or_self, eq_self, Nat.reduceLeDiff, Nat.reduceAdd, Nat.reduceSub, Nat.reduceLT, Nat.reduceEqDiff, Nat.zero_add, Nat.add_zero, Nat.le_refl, Nat.zero_le, Bool.false_eq_true, Int.reduceLE, Int.reduceLT, Int.reduceNeg, Int.natCast_nonneg, List.length_cons, not_true_eq_false, not_false_eq_true, false_and, and_false, gt_iff_lt, ge_iff_le, l_0, l_1, l_2, l_3, l_4, l_5, l_6, l_7, l_8, l_9, l_10, l_11, l_12, l_13, l_14, l_16, l_20, l_21, l_22, l_23, l_24, l_27, l_31, l_32, l_37, l_40, l_42, l_44, l_47, l_48, l_57, l_59, l_60, l_63, l_64, l_94, l_97, l_99, l_100, l_102, l_105, l_106, l_108, l_110, l_112, l_113, l_116, l_120, l_122, l_128, l_144, l_255, l_320, l_720, l_1000, l_1081, l_1128, l_9999, nI_add, pk_mul, k_nor, e_I, lt_I, le_I, nI_toInt, sub_I, inb_I, nI_clamp, bI_t0, bI_t1, bI_or, decide_eq_true_eq, decide_eq_false_iff_not, tn_1, tn_2, tn_3, tm_1, tm_2, tm_3, tm_1000000, tm_1000001, tm_1000002, tm_1000003, tm_1000010, tm_1000100, Int.cast_ofNat_Int, tlt, flt, tle, fle, teq, feq, tltN, fltN, tleN, fleN, teqN, feqN]
  | succ m ih =>
    intro fu j hj hf
    obtain ⟨fu, rfl⟩ : ∃ f, fu = f + 1 := ⟨fu - 1, by omega⟩
    have e := ih fu (j + 1) (by omega) (by omega)
    have e2 : k_mc I c1 c2 o1 o2 j c1 (o1 + j) = I c1 (o1 + j) := by rw [mc_cell I hc]
    rw [← mc_succ I hc] at e
    simp (disch := omega) only [b_m_lay_3, o_const, o_lconst, o_iload, o_lload, o_aload, o_istore, o_astore, o_lstore, o_iinc, o_bin, o_div, o_un, o_add, o_sub, o_mul, o_and, o_or, o_xor, o_shl, o_shr, o_ushr, o_idiv, o_irem, o_neg, o_i2b, o_i2s, o_i2l, o_lor, o_lshl, o_lcmp, o_dup, o_dup_x1, o_dup2, o_ifeq, o_iflt, o_ifge, o_ifgt, o_ifle, o_ceq, o_clt, o_cge, o_cgt, o_cle, o_sw, k_pick, o_ret, o_iret, o_zret, o_lret, o_aret, o_call, o_callV, k_pop, k_push, o_geti, o_getr, o_puti, o_putz, o_iald, o_iast, o_zald, o_zast, o_alen, o_copy, o_gets, o_sald, o_salen, o_min, k_sto, k_sto2, List.getElem?_cons_zero, List.getElem?_cons_succ, List.set_cons_zero, List.set_cons_succ, List.length_cons, List.length_nil, ite_true, ite_false, ↓reduceIte, true_and, and_true, and_self, or_true, true_or, or_false, false_or, or_self, eq_self, Nat.reduceLeDiff, Nat.reduceAdd, Nat.reduceSub, Nat.reduceLT, Nat.reduceEqDiff, Nat.zero_add, Nat.add_zero, Nat.le_refl, Nat.zero_le, Bool.false_eq_true, Int.reduceLE, Int.reduceLT, Int.reduceNeg, Int.natCast_nonneg, List.length_cons, not_true_eq_false, not_false_eq_true, false_and, and_false, gt_iff_lt, ge_iff_le, h1, h2, l_0, l_1, l_2, l_3, l_4, l_5, l_6, l_7, l_8, l_9, l_10, l_11, l_12, l_13, l_14, l_16, l_20, l_21, l_22, l_23, l_24, l_27, l_31, l_32, l_37, l_40, l_42, l_44, l_47, l_48, l_57, l_59, l_60, l_63, l_64, l_94, l_97, l_99, l_100, l_102, l_105, l_106, l_108, l_110, l_112, l_113, l_116, l_120, l_122, l_128, l_144, l_255, l_320, l_720, l_1000, l_1081, l_1128, l_9999, nI_add, pk_mul, k_nor, e_I, lt_I, le_I, nI_toInt, sub_I, inb_I, nI_clamp, bI_t0, bI_t1, bI_or, decide_eq_true_eq, decide_eq_false_iff_not, tn_1, tn_2, tn_3, tm_1, tm_2, tm_3, tm_1000000, tm_1000001, tm_1000002, tm_1000003, tm_1000010, tm_1000100, Int.cast_ofNat_Int, tlt, flt, tle, fle, teq, feq, tltN, fltN, tleN, fleN, teqN, feqN, e2, e]
theorem mc_zero (I : Mi) (c1 c2 o1 o2 : Nat) : k_mc I c1 c2 o1 o2 0 = I := by
  funext k i
  simp only [mc_get]
  rw [if_neg (fun q => by omega)]
theorem s_lay (c1 c2 o1 o2 n1 n2 : Nat) (I : Mi) (h1 : k_sh c1 = (0, n1)) (h2 : k_sh c2 = (0, n2)) (hc : c1 ≠ c2) (b1 : o1 + 47 ≤ n1) (b2 : o2 + 47 ≤ n2) (hn1 : n1 < 2000) (hn2 : n2 < 2000) : r_m_lay [.ref c1, .int (nI o1), .ref c2, .int (nI o2)] I = some (.null, k_mc I c1 c2 o1 o2 47) := by
  have e := s_lay_loop c1 c2 o1 o2 n1 n2 I h1 h2 hc b1 b2 hn1 hn2 47 k_fu 0 rfl (by have := fu_pos; omega)
  rw [mc_zero] at e
  simp only [b_m_lay_0, r_m_lay, o_const, o_lconst, o_iload, o_lload, o_aload, o_istore, o_astore, o_lstore, o_iinc, o_bin, o_div, o_un, o_add, o_sub, o_mul, o_and, o_or, o_xor, o_shl, o_shr, o_ushr, o_idiv, o_irem, o_neg, o_i2b, o_i2s, o_i2l, o_lor, o_lshl, o_lcmp, o_dup, o_dup_x1, o_dup2, o_ifeq, o_iflt, o_ifge, o_ifgt, o_ifle, o_ceq, o_clt, o_cge, o_cgt, o_cle, o_sw, k_pick, o_ret, o_iret, o_zret, o_lret, o_aret, o_call, o_callV, k_pop, k_push, o_geti, o_getr, o_puti, o_putz, o_iald, o_iast, o_zald, o_zast, o_alen, o_copy, o_gets, o_sald, o_salen, o_min, k_sto, k_sto2, List.getElem?_cons_zero, List.getElem?_cons_succ, List.set_cons_zero, List.set_cons_succ, List.length_cons, List.length_nil, ite_true, ite_false, ↓reduceIte, true_and, and_true, and_self, or_true, true_or, or_false, false_or, or_self, eq_self, Nat.reduceLeDiff, Nat.reduceAdd, Nat.reduceSub, Nat.reduceLT, Nat.reduceEqDiff, Nat.zero_add, Nat.add_zero, Nat.le_refl, Nat.zero_le, Bool.false_eq_true, Int.reduceLE, Int.reduceLT, Int.reduceNeg, Int.natCast_nonneg, List.length_cons, not_true_eq_false, not_false_eq_true, false_and, and_false, gt_iff_lt, ge_iff_le, l_0, l_1, l_2, l_3, l_4, l_5, l_6, l_7, l_8, l_9, l_10, l_11, l_12, l_13, l_14, l_16, l_20, l_21, l_22, l_23, l_24, l_27, l_31, l_32, l_37, l_40, l_42, l_44, l_47, l_48, l_57, l_59, l_60, l_63, l_64, l_94, l_97, l_99, l_100, l_102, l_105, l_106, l_108, l_110, l_112, l_113, l_116, l_120, l_122, l_128, l_144, l_255, l_320, l_720, l_1000, l_1081, l_1128, l_9999, nI_add, pk_mul, e]
theorem s_begin (I : Mi) : r_m_begin [.ref 49] I = some (.null, k_mc I 54 56 0 0 47) := by
  have e := s_lay 54 56 0 0 47 47 I rfl rfl (by decide) (by decide) (by decide) (by decide) (by decide)
  simp only [b_m_begin_0, r_m_begin, o_const, o_lconst, o_iload, o_lload, o_aload, o_istore, o_astore, o_lstore, o_iinc, o_bin, o_div, o_un, o_add, o_sub, o_mul, o_and, o_or, o_xor, o_shl, o_shr, o_ushr, o_idiv, o_irem, o_neg, o_i2b, o_i2s, o_i2l, o_lor, o_lshl, o_lcmp, o_dup, o_dup_x1, o_dup2, o_ifeq, o_iflt, o_ifge, o_ifgt, o_ifle, o_ceq, o_clt, o_cge, o_cgt, o_cle, o_sw, k_pick, o_ret, o_iret, o_zret, o_lret, o_aret, o_call, o_callV, k_pop, k_push, o_geti, o_getr, o_puti, o_putz, o_iald, o_iast, o_zald, o_zast, o_alen, o_copy, o_gets, o_sald, o_salen, o_min, k_sto, k_sto2, List.getElem?_cons_zero, List.getElem?_cons_succ, List.set_cons_zero, List.set_cons_succ, List.length_cons, List.length_nil, ite_true, ite_false, ↓reduceIte, true_and, and_true, and_self, or_true, true_or, or_false, false_or, or_self, eq_self, Nat.reduceLeDiff, Nat.reduceAdd, Nat.reduceSub, Nat.reduceLT, Nat.reduceEqDiff, Nat.zero_add, Nat.add_zero, Nat.le_refl, Nat.zero_le, Bool.false_eq_true, Int.reduceLE, Int.reduceLT, Int.reduceNeg, Int.natCast_nonneg, List.length_cons, not_true_eq_false, not_false_eq_true, false_and, and_false, gt_iff_lt, ge_iff_le, k_sh0, k_sh1, k_sh2, k_sh3, k_sh4, k_sh5, k_sh6, k_sh7, k_sh8, k_sh9, k_sh10, k_sh11, k_sh12, k_sh13, k_sh14, k_sh15, k_sh16, k_sh17, k_sh18, k_sh19, k_sh20, k_sh21, k_sh22, k_sh23, k_sh24, k_sh25, k_sh26, k_sh27, k_sh28, k_sh29, k_sh30, k_sh31, k_sh32, k_sh33, k_sh34, k_sh35, k_sh36, k_sh37, k_sh38, k_sh39, k_sh40, k_sh41, k_sh42, k_sh43, k_sh44, k_sh45, k_sh46, k_sh47, k_sh48, k_sh49, k_sh50, k_sh51, k_sh52, k_sh53, k_sh54, k_sh55, k_sh56, k_sh57, k_sh58, k_sh59, k_sh60, k_sh61, k_sh62, k_sh63, k_sh64, l_0, l_1, l_2, l_3, l_4, l_5, l_6, l_7, l_8, l_9, l_10, l_11, l_12, l_13, l_14, l_16, l_20, l_21, l_22, l_23, l_24, l_27, l_31, l_32, l_37, l_40, l_42, l_44, l_47, l_48, l_57, l_59, l_60, l_63, l_64, l_94, l_97, l_99, l_100, l_102, l_105, l_106, l_108, l_110, l_112, l_113, l_116, l_120, l_122, l_128, l_144, l_255, l_320, l_720, l_1000, l_1081, l_1128, l_9999, nI_add, pk_mul, e]
theorem MR_mc {I : Mi} {c1 c2 o1 o2 : Nat} {a : Sa} (h : MR I c1 o1 a) : MR (k_mc I c1 c2 o1 o2 47) c2 o2 a := by
  intro j hj
  rw [mc_get, if_pos ⟨rfl, by omega, by omega⟩, Nat.add_sub_cancel_left]
  exact h j hj
