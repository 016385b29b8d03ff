/-! ===== order ===== -/
def ff (rw' : List Nat) (a : Sa) (W : Nat) : Nat → Nat → Nat
  | 0, t => t
  | m + 1, t => if aofb (itr rw' a t) W = true then t else ff rw' a W m (t + 1)
theorem ff_b {rw' : List Nat} {a : Sa} {W : Nat} : ∀ m t, t ≤ ff rw' a W m t ∧ ff rw' a W m t ≤ t + m := by
  intro m
  induction m with
  | zero => intro t; simp only [ff]; omega
  | succ m ih =>
    intro t
    have := ih (t + 1)
    simp only [ff]
    split <;> omega
theorem fo_ff {rw' : List Nat} {a : Sa} {W : Nat} : ∀ m t, t + m ≤ 100 → fo rw' a W m t = if ff rw' a W (100 - t) t < t + m then nI (ff rw' a W (100 - t) t) else -1000000 := by
  intro m
  induction m with
  | zero =>
    intro t ht
    have := ff_b (rw' := rw') (a := a) (W := W) (100 - t) t
    rw [if_neg (by omega)]; rfl
  | succ m ih =>
    intro t ht
    rw [fo, show 100 - t = (100 - (t + 1)) + 1 by omega, ff]
    split
    · rw [if_pos (by omega)]
    · rw [ih (t + 1) (by omega), show t + 1 + m = t + (m + 1) by omega]
theorem fo_f0 {rw' : List Nat} {a : Sa} {W m : Nat} (h : m ≤ 100) : fo rw' a W m 0 = if ff rw' a W 100 0 < m then nI (ff rw' a W 100 0) else -1000000 := by
  have := fo_ff (rw' := rw') (a := a) (W := W) m 0 (by omega)
  rw [Nat.zero_add, Nat.sub_zero] at this
  exact this
theorem stp_cg {x y : Sa} {f : Nat} (h : ∀ j, ¬ (4 ≤ j ∧ j < 10) → y j = x j) : ∀ j, ¬ (4 ≤ j ∧ j < 10) → stp y f j = stp x f j := by
  intro j hj
  unfold stp nf nc cn hr
  simp (disch := omega) only [h]
theorem itr_cg {rw' : List Nat} {x y : Sa} (h : ∀ j, ¬ (4 ≤ j ∧ j < 10) → y j = x j) : ∀ t j, ¬ (4 ≤ j ∧ j < 10) → itr rw' y t j = itr rw' x t j := by
  intro t
  induction t with
  | zero => exact h
  | succ t ih =>
    intro j hj
    have e : pk rw' (itr rw' y t) = pk rw' (itr rw' x t) := by unfold pk; rw [ih 0 (by omega)]
    rw [itr, itr, e]
    exact stp_cg ih j hj
theorem fo_cg {rw' : List Nat} {x y : Sa} {W : Nat} (h : ∀ j, ¬ (4 ≤ j ∧ j < 10) → y j = x j) : ∀ m t, fo rw' y W m t = fo rw' x W m t := by
  intro m
  induction m with
  | zero => intro t; rfl
  | succ m ih =>
    intro t
    have e : aofb (itr rw' y t) W = aofb (itr rw' x t) W := by
      unfold aofb
      have hi := itr_cg (rw' := rw') h t
      simp (disch := omega) only [hi]
    rw [fo, fo, e, ih]
def bv (a : Sa) (W N : Nat) : Nat → Nat
  | 0 => 100
  | c + 1 => if ff (dcd N c) a W 100 0 < bv a W N c then ff (dcd N c) a W 100 0 else bv a W N c
def bl (a : Sa) (W N : Nat) : Nat → List Nat
  | 0 => []
  | c + 1 => if ff (dcd N c) a W 100 0 < bv a W N c then dcd N c else bl a W N c
theorem bv_le (a : Sa) (W N : Nat) : ∀ c, bv a W N c ≤ 100 := by
  intro c
  induction c with
  | zero => exact Nat.le_refl _
  | succ c ih => simp only [bv]; split <;> omega
theorem bv_0 {a : Sa} {W N c : Nat} (h : bv a W N c = 0) : ∀ d, bv a W N (c + d) = 0 ∧ bl a W N (c + d) = bl a W N c := by
  intro d
  induction d with
  | zero => exact ⟨h, rfl⟩
  | succ d ih =>
    rw [← Nat.add_assoc]
    simp only [bv, bl]
    rw [ih.1, if_neg (by omega), if_neg (by omega)]
    exact ⟨rfl, ih.2⟩
def nbI (b : Nat) : Int32 := if b = 100 then -1000000 else nI b
theorem sub1_mI (k : Nat) : nI k - nI 1 = mI k := by
  rw [← mI_d, Int32.sub_eq_add_neg]
theorem gt0_mem {l : List Nat} {N : Nat} (h : okP N l) : ∀ f, f ∈ l → f < N := by
  intro f hf
  obtain ⟨i, hi, rfl⟩ := List.getElem_of_mem hf
  have := h.2.1 i (by rw [← h.1]; exact hi)
  unfold gt0 at this
  rw [List.getD_eq_getElem?_getD, List.getElem?_eq_getElem hi] at this
  exact this
theorem gt0_lt {l : List Nat} {N : Nat} (h : okP N l) (hN : N ≤ 6) : ∀ k, gt0 l k < 64 := by
  intro k
  by_cases q : k < N
  · have := h.2.1 k q; omega
  · unfold gt0
    rw [List.getD_eq_getElem?_getD, List.getElem?_eq_none (by rw [h.1]; omega)]
    decide
theorem c_best_loop (a : Sa) (I : Mi) (W : Nat) (hQ : RQ I a) (h2 : 0 < a 2) (hW : W < 2 ^ (a 3)) : ∀ (m fu c : Nat) (z6 : Value) (J : Mi), (z6 = .null ∨ ∃ x, z6 = .int x) → c + (m + 1) = fac (a 2) → m < fu → TIb I J → TIw I J → TIk 9 I J → J 38 0 = nI (a 2) → RW J (dcd (a 2) c) → (bv a W (a 2) c < 100 → ∀ i, i < a 2 → J 46 i = nI (gt0 (bl a W (a 2) c) i)) → ∃ K, b_F_bestOrder_22 fu [.ref 37, .ref 7, .int (nI W), .int (nbI (bv a W (a 2) c)), .int (mI (bv a W (a 2) c)), .int (nI c), z6] [] J = some (.int (nbI (bv a W (a 2) (fac (a 2)))), K) ∧ TIb I K ∧ (bv a W (a 2) (fac (a 2)) < 100 → ∀ i, i < a 2 → K 46 i = nI (gt0 (bl a W (a 2) (fac (a 2))) i)) := by
  have hb := hQ.1.1.1
  have hb0 := hQ.1.2.1
  obtain ⟨⟨f0, f1, f2, f3, f4⟩, fr, fs⟩ := RQ_f hQ
  have hfac := fac_le (a 2) hb.1
  -- one order, up to the next one
  have one : ∀ (fu c : Nat) (z6 : Value) (J : Mi), (z6 = .null ∨ ∃ x, z6 = .int x) → c < fac (a 2) → 0 < bv a W (a 2) c → TIb I J → TIw I J → TIk 9 I J → J 38 0 = nI (a 2) → RW J (dcd (a 2) c) → (bv a W (a 2) c < 100 → ∀ i, i < a 2 → J 46 i = nI (gt0 (bl a W (a 2) c) i)) → ∃ (K : Mi) (y : Int32), (∀ X, b_F_bestOrder_86 (b_F_bestOrder_22 fu) [.ref 37, .ref 7, .int (nI W), .int (nbI (bv a W (a 2) (c + 1))), .int (mI (bv a W (a 2) (c + 1))), .int (nI c), .int y] [] K = X → b_F_bestOrder_22 (fu + 1) [.ref 37, .ref 7, .int (nI W), .int (nbI (bv a W (a 2) c)), .int (mI (bv a W (a 2) c)), .int (nI c), z6] [] J = X) ∧ TIb I K ∧ TIw I K ∧ TIk 9 I K ∧ K 38 0 = nI (a 2) ∧ RW K (dcd (a 2) c) ∧ (bv a W (a 2) (c + 1) < 100 → ∀ i, i < a 2 → K 46 i = nI (gt0 (bl a W (a 2) (c + 1)) i)) := by
    intro fu c z6 J hz hc hb1 tb tw tk e0 hR hB
    have hok := okB_P (lay_chk (a 2) hb.1 h2 c hc).2.1
    have hbv := bv_le a W (a 2) c
    have gb := TIb_f (gb_f (J := J)) tb
    have gw := TIw_f (gb_f (J := J)) tw
    have gk := TIk_f (gb_f (J := J)) tk
    have gd := TId_gb tb
    have g0 : gbM J 38 7 38 0 = nI (a 2) := by rw [gbM_q (by omega) (by omega)]; exact e0
    have g41 : gbM J 38 7 41 = J 41 := gbM_fr (by omega) (by omega)
    have hC : CT (gbM J 38 7) 38 a (dcd (a 2) c) 31 := mkT hQ gb gd (fun _ _ _ => rfl) (by rw [hok.1]; exact g0) (fun i hi => by rw [g41]; exact hR i hi) (by rw [gw]; exact f3) (fun s hs => by rw [gk s (by omega) (by omega)]; exact (fs s hs).1) (gt0_mem hok)
    obtain ⟨J1, t', r1, r2, r3⟩ := c_soonest W (bv a W (a 2) c - 1) a (dcd (a 2) c) (gbM J 38 7) hQ.1.1 hW (by omega) (by omega) (by rw [hok.1]; exact h2) (by rw [hok.1]; exact hb.1) (gt0_mem hok) (CT_W hb.2.1 hC)
    rw [show bv a W (a 2) c - 1 + 1 = bv a W (a 2) c by omega, fo_f0 hbv] at r1
    have x0 : J1 38 0 = nI (a 2) := by rw [r3.2 0 (by omega) (by omega)]; exact g0
    have x41 : J1 41 = J 41 := by rw [r3.1 41 (by omega) (by omega)]; exact g41
    have x46 : J1 46 = J 46 := by rw [r3.1 46 (by omega) (by omega), gbM_fr (by omega) (by omega)]
    have hmI : mI (bv a W (a 2) c) = nI (bv a W (a 2) c - 1) := by unfold mI; rw [if_neg (by omega)]
    have e1 : bv a W (a 2) (c + 1) = if ff (dcd (a 2) c) a W 100 0 < bv a W (a 2) c then ff (dcd (a 2) c) a W 100 0 else bv a W (a 2) c := rfl
    have e2 : bl a W (a 2) (c + 1) = if ff (dcd (a 2) c) a W 100 0 < bv a W (a 2) c then dcd (a 2) c else bl a W (a 2) c := rfl
    rw [hmI, e1, e2]
    generalize ff (dcd (a 2) c) a W 100 0 = t at r1
    by_cases q : t < bv a W (a 2) c
    · rw [if_pos q] at r1
      rw [if_pos q, if_pos q]
      refine ⟨k_mc J1 41 46 0 0 6, nI t, fun X hX => ?_, ?_, ?_, ?_, ?_, ?_, fun _ i hi => ?_⟩
      · have hnb : nbI t = nI t := by unfold nbI; rw [if_neg (by omega)]
        rw [hnb] at hX
        rcases hz with rfl | ⟨x, rfl⟩ <;> simp (disch := omega) only [b_F_bestOrder_22, o_const, o_lconst, o_iload, o_lload, o_aload, o_istore, o_astore, o_lstore, o_iinc, o_bin, o_div, o_un, o_add, o_sub, o_mul, o_and, o_or, o_xor, o_shl, o_shr, o_ushr, o_idiv, o_irem, o_neg, o_i2b, o_i2s, o_i2l, o_lor, o_lshl, o_lcmp, o_dup, o_dup_x1, o_dup2, o_ifeq, o_iflt, o_ifge, o_ifgt, o_ifle, o_ceq, o_clt, o_cge, o_cgt, o_cle, o_sw, k_pick, o_ret, o_iret, o_zret, o_lret, o_aret, o_call, o_callV, k_pop, k_push, o_geti, o_getr, o_puti, o_putz, o_iald, o_iast, o_zald, o_zast, o_alen, o_copy, o_gets, o_sald, o_salen, o_min, k_sto, k_sto2, List.getElem?_cons_zero, List.getElem?_cons_succ, List.set_cons_zero, List.set_cons_succ, List.length_cons, List.length_nil, ite_true, ite_false, ↓reduceIte, true_and, and_true, and_self, or_true, true_or, or_false, false_or, or_self, eq_self, Nat.reduceLeDiff, Nat.reduceAdd, Nat.reduceSub, Nat.reduceLT, Nat.reduceEqDiff, Nat.zero_add, Nat.add_zero, Nat.le_refl, Nat.zero_le, Bool.false_eq_true, Int.reduceLE, Int.reduceLT, Int.reduceNeg, Int.natCast_nonneg, List.length_cons, not_true_eq_false, not_false_eq_true, false_and, and_false, gt_iff_lt, ge_iff_le, k_sh0, k_sh1, k_sh2, k_sh3, k_sh4, k_sh5, k_sh6, k_sh7, k_sh8, k_sh9, k_sh10, k_sh11, k_sh12, k_sh13, k_sh14, k_sh15, k_sh16, k_sh17, k_sh18, k_sh19, k_sh20, k_sh21, k_sh22, k_sh23, k_sh24, k_sh25, k_sh26, k_sh27, k_sh28, k_sh29, k_sh30, k_sh31, k_sh32, k_sh33, k_sh34, k_sh35, k_sh36, k_sh37, k_sh38, k_sh39, k_sh40, k_sh41, k_sh42, k_sh43, k_sh44, k_sh45, k_sh46, k_sh47, k_sh48, k_sh49, k_sh50, k_sh51, k_sh52, k_sh53, k_sh54, k_sh55, k_sh56, k_sh57, k_sh58, k_sh59, k_sh60, k_sh61, k_sh62, k_sh63, k_sh64, l_0, l_1, l_2, l_3, l_4, l_5, l_6, l_7, l_8, l_9, l_10, l_11, l_12, l_13, l_14, l_16, l_20, l_21, l_22, l_23, l_24, l_27, l_31, l_32, l_37, l_40, l_42, l_44, l_47, l_48, l_57, l_59, l_60, l_63, l_64, l_94, l_97, l_99, l_100, l_102, l_105, l_106, l_108, l_110, l_112, l_113, l_116, l_120, l_122, l_128, l_144, l_255, l_320, l_720, l_1000, l_1081, l_1128, l_9999, nI_add, pk_mul, k_nor, e_I, lt_I, le_I, nI_toInt, sub_I, inb_I, nI_clamp, bI_t0, bI_t1, bI_or, decide_eq_true_eq, decide_eq_false_iff_not, tn_1, tn_2, tn_3, tm_1, tm_2, tm_3, tm_1000000, tm_1000001, tm_1000002, tm_1000003, tm_1000010, tm_1000100, Int.cast_ofNat_Int, c_gb, r1, sub1_mI, tlt, flt, tle, fle, teq, feq, tltN, fltN, tleN, fleN, teqN, feqN, hX]
      · have := TIb_f r3 gb
        exact ⟨by rw [mc_cell _ (by omega)]; exact this.1, fun f hf => by rw [mc_cell _ (by omega), mc_cell _ (by omega)]; exact this.2.1 f hf, fun s hs => by rw [mc_cell _ (by omega), mc_cell _ (by omega)]; exact this.2.2.1 s hs, fun k hk => by rw [mc_cell _ (by omega)]; exact this.2.2.2 k hk⟩
      · have := TIw_f r3 gw
        unfold TIw at this ⊢
        rw [mc_cell _ (by omega)]; exact this
      · have := TIk_f r3 gk
        exact fun s hs hw => by rw [mc_cell _ (by omega)]; exact this s hs hw
      · rw [mc_cell _ (by omega)]; exact x0
      · intro i hi
        rw [mc_cell _ (by omega), x41]; exact hR i hi
      · rw [mc_get, if_pos ⟨rfl, by omega, by omega⟩, Nat.zero_add, Nat.sub_zero, x41]
        exact hR i (by rw [hok.1]; exact hi)
    · rw [if_neg q] at r1
      rw [if_neg q, if_neg q, ← hmI]
      refine ⟨J1, -1000000, fun X hX => ?_, TIb_f r3 gb, TIw_f r3 gw, TIk_f r3 gk, x0, fun i hi => by rw [x41]; exact hR i hi, fun h i hi => by rw [x46]; exact hB h i hi⟩
      rw [hmI] at hX ⊢
      rcases hz with rfl | ⟨x, rfl⟩ <;> simp (disch := omega) only [b_F_bestOrder_22, o_const, o_lconst, o_iload, o_lload, o_aload, o_istore, o_astore, o_lstore, o_iinc, o_bin, o_div, o_un, o_add, o_sub, o_mul, o_and, o_or, o_xor, o_shl, o_shr, o_ushr, o_idiv, o_irem, o_neg, o_i2b, o_i2s, o_i2l, o_lor, o_lshl, o_lcmp, o_dup, o_dup_x1, o_dup2, o_ifeq, o_iflt, o_ifge, o_ifgt, o_ifle, o_ceq, o_clt, o_cge, o_cgt, o_cle, o_sw, k_pick, o_ret, o_iret, o_zret, o_lret, o_aret, o_call, o_callV, k_pop, k_push, o_geti, o_getr, o_puti, o_putz, o_iald, o_iast, o_zald, o_zast, o_alen, o_copy, o_gets, o_sald, o_salen, o_min, k_sto, k_sto2, List.getElem?_cons_zero, List.getElem?_cons_succ, List.set_cons_zero, List.set_cons_succ, List.length_cons, List.length_nil, ite_true, ite_false, ↓reduceIte, true_and, and_true, and_self, or_true, true_or, or_false, false_or, or_self, eq_self, Nat.reduceLeDiff, Nat.reduceAdd, Nat.reduceSub, Nat.reduceLT, Nat.reduceEqDiff, Nat.zero_add, Nat.add_zero, Nat.le_refl, Nat.zero_le, Bool.false_eq_true, Int.reduceLE, Int.reduceLT, Int.reduceNeg, Int.natCast_nonneg, List.length_cons, not_true_eq_false, not_false_eq_true, false_and, and_false, gt_iff_lt, ge_iff_le, k_sh0, k_sh1, k_sh2, k_sh3, k_sh4, k_sh5, k_sh6, k_sh7, k_sh8, k_sh9, k_sh10, k_sh11, k_sh12, k_sh13, k_sh14, k_sh15, k_sh16, k_sh17, k_sh18, k_sh19, k_sh20, k_sh21, k_sh22, k_sh23, k_sh24, k_sh25, k_sh26, k_sh27, k_sh28, k_sh29, k_sh30, k_sh31, k_sh32, k_sh33, k_sh34, k_sh35, k_sh36, k_sh37, k_sh38, k_sh39, k_sh40, k_sh41, k_sh42, k_sh43, k_sh44, k_sh45, k_sh46, k_sh47, k_sh48, k_sh49, k_sh50, k_sh51, k_sh52, k_sh53, k_sh54, k_sh55, k_sh56, k_sh57, k_sh58, k_sh59, k_sh60, k_sh61, k_sh62, k_sh63, k_sh64, l_0, l_1, l_2, l_3, l_4, l_5, l_6, l_7, l_8, l_9, l_10, l_11, l_12, l_13, l_14, l_16, l_20, l_21, l_22, l_23, l_24, l_27, l_31, l_32, l_37, l_40, l_42, l_44, l_47, l_48, l_57, l_59, l_60, l_63, l_64, l_94, l_97, l_99, l_100, l_102, l_105, l_106, l_108, l_110, l_112, l_113, l_116, l_120, l_122, l_128, l_144, l_255, l_320, l_720, l_1000, l_1081, l_1128, l_9999, nI_add, pk_mul, k_nor, e_I, lt_I, le_I, nI_toInt, sub_I, inb_I, nI_clamp, bI_t0, bI_t1, bI_or, decide_eq_true_eq, decide_eq_false_iff_not, tn_1, tn_2, tn_3, tm_1, tm_2, tm_3, tm_1000000, tm_1000001, tm_1000002, tm_1000003, tm_1000010, tm_1000100, Int.cast_ofNat_Int, c_gb, r1, tlt, flt, tle, fle, teq, feq, tltN, fltN, tleN, fleN, teqN, feqN, hX]
  have stop : ∀ (fu c d : Nat) (z6 : Value) (J : Mi), c + d = fac (a 2) → bv a W (a 2) c = 0 → TIb I J → (bv a W (a 2) c < 100 → ∀ i, i < a 2 → J 46 i = nI (gt0 (bl a W (a 2) c) i)) → ∃ K, b_F_bestOrder_22 (fu + 1) [.ref 37, .ref 7, .int (nI W), .int (nbI (bv a W (a 2) c)), .int (mI (bv a W (a 2) c)), .int (nI c), z6] [] J = some (.int (nbI (bv a W (a 2) (fac (a 2)))), K) ∧ TIb I K ∧ (bv a W (a 2) (fac (a 2)) < 100 → ∀ i, i < a 2 → K 46 i = nI (gt0 (bl a W (a 2) (fac (a 2))) i)) := by
    intro fu c d z6 J hcd h0 tb hB
    have h := bv_0 h0 d
    rw [hcd] at h
    rw [h.1, h.2, h0]
    rw [h0] at hB
    refine ⟨J, ?_, tb, hB⟩
    rw [show mI 0 = -nI 1 from rfl]
    by_cases q : c < 720
    · simp (disch := omega) only [b_F_bestOrder_22, b_F_bestOrder_105, o_const, o_lconst, o_iload, o_lload, o_aload, o_istore, o_astore, o_lstore, o_iinc, o_bin, o_div, o_un, o_add, o_sub, o_mul, o_and, o_or, o_xor, o_shl, o_shr, o_ushr, o_idiv, o_irem, o_neg, o_i2b, o_i2s, o_i2l, o_lor, o_lshl, o_lcmp, o_dup, o_dup_x1, o_dup2, o_ifeq, o_iflt, o_ifge, o_ifgt, o_ifle, o_ceq, o_clt, o_cge, o_cgt, o_cle, o_sw, k_pick, o_ret, o_iret, o_zret, o_lret, o_aret, o_call, o_callV, k_pop, k_push, o_geti, o_getr, o_puti, o_putz, o_iald, o_iast, o_zald, o_zast, o_alen, o_copy, o_gets, o_sald, o_salen, o_min, k_sto, k_sto2, List.getElem?_cons_zero, List.getElem?_cons_succ, List.set_cons_zero, List.set_cons_succ, List.length_cons, List.length_nil, ite_true, ite_false, ↓reduceIte, true_and, and_true, and_self, or_true, true_or, or_false, false_or, or_self, eq_self, Nat.reduceLeDiff, Nat.reduceAdd, Nat.reduceSub, Nat.reduceLT, Nat.reduceEqDiff, Nat.zero_add, Nat.add_zero, Nat.le_refl, Nat.zero_le, Bool.false_eq_true, Int.reduceLE, Int.reduceLT, Int.reduceNeg, Int.natCast_nonneg, List.length_cons, not_true_eq_false, not_false_eq_true, false_and, and_false, gt_iff_lt, ge_iff_le, k_sh0, k_sh1, k_sh2, k_sh3, k_sh4, k_sh5, k_sh6, k_sh7, k_sh8, k_sh9, k_sh10, k_sh11, k_sh12, k_sh13, k_sh14, k_sh15, k_sh16, k_sh17, k_sh18, k_sh19, k_sh20, k_sh21, k_sh22, k_sh23, k_sh24, k_sh25, k_sh26, k_sh27, k_sh28, k_sh29, k_sh30, k_sh31, k_sh32, k_sh33, k_sh34, k_sh35, k_sh36, k_sh37, k_sh38, k_sh39, k_sh40, k_sh41, k_sh42, k_sh43, k_sh44, k_sh45, k_sh46, k_sh47, k_sh48, k_sh49, k_sh50, k_sh51, k_sh52, k_sh53, k_sh54, k_sh55, k_sh56, k_sh57, k_sh58, k_sh59, k_sh60, k_sh61, k_sh62, k_sh63, k_sh64, l_0, l_1, l_2, l_3, l_4, l_5, l_6, l_7, l_8, l_9, l_10, l_11, l_12, l_13, l_14, l_16, l_20, l_21, l_22, l_23, l_24, l_27, l_31, l_32, l_37, l_40, l_42, l_44, l_47, l_48, l_57, l_59, l_60, l_63, l_64, l_94, l_97, l_99, l_100, l_102, l_105, l_106, l_108, l_110, l_112, l_113, l_116, l_120, l_122, l_128, l_144, l_255, l_320, l_720, l_1000, l_1081, l_1128, l_9999, nI_add, pk_mul, k_nor, e_I, lt_I, le_I, nI_toInt, sub_I, inb_I, nI_clamp, bI_t0, bI_t1, bI_or, decide_eq_true_eq, decide_eq_false_iff_not, tn_1, tn_2, tn_3, tm_1, tm_2, tm_3, tm_1000000, tm_1000001, tm_1000002, tm_1000003, tm_1000010, tm_1000100, Int.cast_ofNat_Int, tlt, flt, tle, fle, teq, feq, tltN, fltN, tleN, fleN, teqN, feqN]
    · simp (disch := omega) only [b_F_bestOrder_22, b_F_bestOrder_105, o_const, o_lconst, o_iload, o_lload, o_aload, o_istore, o_astore, o_lstore, o_iinc, o_bin, o_div, o_un, o_add, o_sub, o_mul, o_and, o_or, o_xor, o_shl, o_shr, o_ushr, o_idiv, o_irem, o_neg, o_i2b, o_i2s, o_i2l, o_lor, o_lshl, o_lcmp, o_dup, o_dup_x1, o_dup2, o_ifeq, o_iflt, o_ifge, o_ifgt, o_ifle, o_ceq, o_clt, o_cge, o_cgt, o_cle, o_sw, k_pick, o_ret, o_iret, o_zret, o_lret, o_aret, o_call, o_callV, k_pop, k_push, o_geti, o_getr, o_puti, o_putz, o_iald, o_iast, o_zald, o_zast, o_alen, o_copy, o_gets, o_sald, o_salen, o_min, k_sto, k_sto2, List.getElem?_cons_zero, List.getElem?_cons_succ, List.set_cons_zero, List.set_cons_succ, List.length_cons, List.length_nil, ite_true, ite_false, ↓reduceIte, true_and, and_true, and_self, or_true, true_or, or_false, false_or, or_self, eq_self, Nat.reduceLeDiff, Nat.reduceAdd, Nat.reduceSub, Nat.reduceLT, Nat.reduceEqDiff, Nat.zero_add, Nat.add_zero, Nat.le_refl, Nat.zero_le, Bool.false_eq_true, Int.reduceLE, Int.reduceLT, Int.reduceNeg, Int.natCast_nonneg, List.length_cons, not_true_eq_false, not_false_eq_true, false_and, and_false, gt_iff_lt, ge_iff_le, k_sh0, k_sh1, k_sh2, k_sh3, k_sh4, k_sh5, k_sh6, k_sh7, k_sh8, k_sh9, k_sh10, k_sh11, k_sh12, k_sh13, k_sh14, k_sh15, k_sh16, k_sh17, k_sh18, k_sh19, k_sh20, k_sh21, k_sh22, k_sh23, k_sh24, k_sh25, k_sh26, k_sh27, k_sh28, k_sh29, k_sh30, k_sh31, k_sh32, k_sh33, k_sh34, k_sh35, k_sh36, k_sh37, k_sh38, k_sh39, k_sh40, k_sh41, k_sh42, k_sh43, k_sh44, k_sh45, k_sh46, k_sh47, k_sh48, k_sh49, k_sh50, k_sh51, k_sh52, k_sh53, k_sh54, k_sh55, k_sh56, k_sh57, k_sh58, k_sh59, k_sh60, k_sh61, k_sh62, k_sh63, k_sh64, l_0, l_1, l_2, l_3, l_4, l_5, l_6, l_7, l_8, l_9, l_10, l_11, l_12, l_13, l_14, l_16, l_20, l_21, l_22, l_23, l_24, l_27, l_31, l_32, l_37, l_40, l_42, l_44, l_47, l_48, l_57, l_59, l_60, l_63, l_64, l_94, l_97, l_99, l_100, l_102, l_105, l_106, l_108, l_110, l_112, l_113, l_116, l_120, l_122, l_128, l_144, l_255, l_320, l_720, l_1000, l_1081, l_1128, l_9999, nI_add, pk_mul, k_nor, e_I, lt_I, le_I, nI_toInt, sub_I, inb_I, nI_clamp, bI_t0, bI_t1, bI_or, decide_eq_true_eq, decide_eq_false_iff_not, tn_1, tn_2, tn_3, tm_1, tm_2, tm_3, tm_1000000, tm_1000001, tm_1000002, tm_1000003, tm_1000010, tm_1000100, Int.cast_ofNat_Int, tlt, flt, tle, fle, teq, feq, tltN, fltN, tleN, fleN, teqN, feqN]
  intro m
  induction m with
  | zero =>
    intro fu c z6 J hz hm hfu tb tw tk e0 hR hB
    obtain ⟨fu, rfl⟩ : ∃ f, fu = f + 1 := ⟨fu - 1, by omega⟩
    by_cases hb1 : bv a W (a 2) c = 0
    · exact stop fu c 1 z6 J hm hb1 tb hB
    · obtain ⟨K1, y, k1, k2, k3, k4, k5, k6, k7⟩ := one fu c z6 J hz (by omega) (by omega) tb tw tk e0 hR hB
      have hck := lay_chk (a 2) hb.1 h2 c (by omega)
      have hok := okB_P hck.2.1
      obtain ⟨K, g1, g2, g3⟩ := c_orderNext (dcd (a 2) c) K1 (by rw [hok.1]; exact hb.1) (by rw [hok.1]; exact h2) (gt0_lt hok hb.1) (by rw [hok.1]; exact k5) k6
      rw [hok.1, hck.2.2, if_neg (by omega)] at g1
      rw [show bI (none : Option (List Nat)).isSome = nI 0 from rfl] at g1
      rw [show c + 1 = fac (a 2) from hm] at k1 k7
      refine ⟨K, k1 _ ?_, ⟨by rw [g2 38 (by omega)]; exact k2.1, fun f hf => by rw [g2 39 (by omega), g2 40 (by omega)]; exact k2.2.1 f hf, fun s hs => by rw [g2 43 (by omega), g2 44 (by omega)]; exact k2.2.2.1 s hs, fun k hk => by rw [g2 k (by omega)]; exact k2.2.2.2 k hk⟩, fun h i hi => by rw [g2 46 (by omega)]; exact k7 h i hi⟩
      simp (disch := omega) only [b_F_bestOrder_86, b_F_bestOrder_105, o_const, o_lconst, o_iload, o_lload, o_aload, o_istore, o_astore, o_lstore, o_iinc, o_bin, o_div, o_un, o_add, o_sub, o_mul, o_and, o_or, o_xor, o_shl, o_shr, o_ushr, o_idiv, o_irem, o_neg, o_i2b, o_i2s, o_i2l, o_lor, o_lshl, o_lcmp, o_dup, o_dup_x1, o_dup2, o_ifeq, o_iflt, o_ifge, o_ifgt, o_ifle, o_ceq, o_clt, o_cge, o_cgt, o_cle, o_sw, k_pick, o_ret, o_iret, o_zret, o_lret, o_aret, o_call, o_callV, k_pop, k_push, o_geti, o_getr, o_puti, o_putz, o_iald, o_iast, o_zald, o_zast, o_alen, o_copy, o_gets, o_sald, o_salen, o_min, k_sto, k_sto2, List.getElem?_cons_zero, List.getElem?_cons_succ, List.set_cons_zero, List.set_cons_succ, List.length_cons, List.length_nil, ite_true, ite_false, ↓reduceIte, true_and, and_true, and_self, or_true, true_or, or_false, false_or, or_self, eq_self, Nat.reduceLeDiff, Nat.reduceAdd, Nat.reduceSub, Nat.reduceLT, Nat.reduceEqDiff, Nat.zero_add, Nat.add_zero, Nat.le_refl, Nat.zero_le, Bool.false_eq_true, Int.reduceLE, Int.reduceLT, Int.reduceNeg, Int.natCast_nonneg, List.length_cons, not_true_eq_false, not_false_eq_true, false_and, and_false, gt_iff_lt, ge_iff_le, k_sh0, k_sh1, k_sh2, k_sh3, k_sh4, k_sh5, k_sh6, k_sh7, k_sh8, k_sh9, k_sh10, k_sh11, k_sh12, k_sh13, k_sh14, k_sh15, k_sh16, k_sh17, k_sh18, k_sh19, k_sh20, k_sh21, k_sh22, k_sh23, k_sh24, k_sh25, k_sh26, k_sh27, k_sh28, k_sh29, k_sh30, k_sh31, k_sh32, k_sh33, k_sh34, k_sh35, k_sh36, k_sh37, k_sh38, k_sh39, k_sh40, k_sh41, k_sh42, k_sh43, k_sh44, k_sh45, k_sh46, k_sh47, k_sh48, k_sh49, k_sh50, k_sh51, k_sh52, k_sh53, k_sh54, k_sh55, k_sh56, k_sh57, k_sh58, k_sh59, k_sh60, k_sh61, k_sh62, k_sh63, k_sh64, l_0, l_1, l_2, l_3, l_4, l_5, l_6, l_7, l_8, l_9, l_10, l_11, l_12, l_13, l_14, l_16, l_20, l_21, l_22, l_23, l_24, l_27, l_31, l_32, l_37, l_40, l_42, l_44, l_47, l_48, l_57, l_59, l_60, l_63, l_64, l_94, l_97, l_99, l_100, l_102, l_105, l_106, l_108, l_110, l_112, l_113, l_116, l_120, l_122, l_128, l_144, l_255, l_320, l_720, l_1000, l_1081, l_1128, l_9999, nI_add, pk_mul, k_nor, e_I, lt_I, le_I, nI_toInt, sub_I, inb_I, nI_clamp, bI_t0, bI_t1, bI_or, decide_eq_true_eq, decide_eq_false_iff_not, tn_1, tn_2, tn_3, tm_1, tm_2, tm_3, tm_1000000, tm_1000001, tm_1000002, tm_1000003, tm_1000010, tm_1000100, Int.cast_ofNat_Int, g1, tlt, flt, tle, fle, teq, feq, tltN, fltN, tleN, fleN, teqN, feqN]
  | succ m ih =>
    intro fu c z6 J hz hm hfu tb tw tk e0 hR hB
    obtain ⟨fu, rfl⟩ : ∃ f, fu = f + 1 := ⟨fu - 1, by omega⟩
    by_cases hb1 : bv a W (a 2) c = 0
    · exact stop fu c (m + 2) z6 J hm hb1 tb hB
    · obtain ⟨K1, y, k1, k2, k3, k4, k5, k6, k7⟩ := one fu c z6 J hz (by omega) (by omega) tb tw tk e0 hR hB
      have hck := lay_chk (a 2) hb.1 h2 c (by omega)
      have hok := okB_P hck.2.1
      obtain ⟨K2, g1, g2, g3⟩ := c_orderNext (dcd (a 2) c) K1 (by rw [hok.1]; exact hb.1) (by rw [hok.1]; exact h2) (gt0_lt hok hb.1) (by rw [hok.1]; exact k5) k6
      rw [hok.1, hck.2.2, if_pos (by omega)] at g1 g3
      rw [show bI (some (dcd (a 2) (c + 1))).isSome = nI 1 from rfl] at g1
      obtain ⟨K, q1, q2, q3⟩ := ih fu (c + 1) (.int y) K2 (Or.inr ⟨_, rfl⟩) (by omega) (by omega) ⟨by rw [g2 38 (by omega)]; exact k2.1, fun f hf => by rw [g2 39 (by omega), g2 40 (by omega)]; exact k2.2.1 f hf, fun s hs => by rw [g2 43 (by omega), g2 44 (by omega)]; exact k2.2.2.1 s hs, fun k hk => by rw [g2 k (by omega)]; exact k2.2.2.2 k hk⟩ (by unfold TIw; rw [g2 38 (by omega)]; exact k3) (fun s hs hw => by rw [g2 42 (by omega)]; exact k4 s hs hw) (by rw [g2 38 (by omega)]; exact k5) (g3 _ rfl) (fun h i hi => by rw [g2 46 (by omega)]; exact k7 h i hi)
      refine ⟨K, k1 _ ?_, q2, q3⟩
      simp (disch := omega) only [b_F_bestOrder_86, o_const, o_lconst, o_iload, o_lload, o_aload, o_istore, o_astore, o_lstore, o_iinc, o_bin, o_div, o_un, o_add, o_sub, o_mul, o_and, o_or, o_xor, o_shl, o_shr, o_ushr, o_idiv, o_irem, o_neg, o_i2b, o_i2s, o_i2l, o_lor, o_lshl, o_lcmp, o_dup, o_dup_x1, o_dup2, o_ifeq, o_iflt, o_ifge, o_ifgt, o_ifle, o_ceq, o_clt, o_cge, o_cgt, o_cle, o_sw, k_pick, o_ret, o_iret, o_zret, o_lret, o_aret, o_call, o_callV, k_pop, k_push, o_geti, o_getr, o_puti, o_putz, o_iald, o_iast, o_zald, o_zast, o_alen, o_copy, o_gets, o_sald, o_salen, o_min, k_sto, k_sto2, List.getElem?_cons_zero, List.getElem?_cons_succ, List.set_cons_zero, List.set_cons_succ, List.length_cons, List.length_nil, ite_true, ite_false, ↓reduceIte, true_and, and_true, and_self, or_true, true_or, or_false, false_or, or_self, eq_self, Nat.reduceLeDiff, Nat.reduceAdd, Nat.reduceSub, Nat.reduceLT, Nat.reduceEqDiff, Nat.zero_add, Nat.add_zero, Nat.le_refl, Nat.zero_le, Bool.false_eq_true, Int.reduceLE, Int.reduceLT, Int.reduceNeg, Int.natCast_nonneg, List.length_cons, not_true_eq_false, not_false_eq_true, false_and, and_false, gt_iff_lt, ge_iff_le, k_sh0, k_sh1, k_sh2, k_sh3, k_sh4, k_sh5, k_sh6, k_sh7, k_sh8, k_sh9, k_sh10, k_sh11, k_sh12, k_sh13, k_sh14, k_sh15, k_sh16, k_sh17, k_sh18, k_sh19, k_sh20, k_sh21, k_sh22, k_sh23, k_sh24, k_sh25, k_sh26, k_sh27, k_sh28, k_sh29, k_sh30, k_sh31, k_sh32, k_sh33, k_sh34, k_sh35, k_sh36, k_sh37, k_sh38, k_sh39, k_sh40, k_sh41, k_sh42, k_sh43, k_sh44, k_sh45, k_sh46, k_sh47, k_sh48, k_sh49, k_sh50, k_sh51, k_sh52, k_sh53, k_sh54, k_sh55, k_sh56, k_sh57, k_sh58, k_sh59, k_sh60, k_sh61, k_sh62, k_sh63, k_sh64, l_0, l_1, l_2, l_3, l_4, l_5, l_6, l_7, l_8, l_9, l_10, l_11, l_12, l_13, l_14, l_16, l_20, l_21, l_22, l_23, l_24, l_27, l_31, l_32, l_37, l_40, l_42, l_44, l_47, l_48, l_57, l_59, l_60, l_63, l_64, l_94, l_97, l_99, l_100, l_102, l_105, l_106, l_108, l_110, l_112, l_113, l_116, l_120, l_122, l_128, l_144, l_255, l_320, l_720, l_1000, l_1081, l_1128, l_9999, nI_add, pk_mul, k_nor, e_I, lt_I, le_I, nI_toInt, sub_I, inb_I, nI_clamp, bI_t0, bI_t1, bI_or, decide_eq_true_eq, decide_eq_false_iff_not, tn_1, tn_2, tn_3, tm_1, tm_2, tm_3, tm_1000000, tm_1000001, tm_1000002, tm_1000003, tm_1000010, tm_1000100, Int.cast_ofNat_Int, g1, tlt, flt, tle, fle, teq, feq, tltN, fltN, tleN, fleN, teqN, feqN, q1]
