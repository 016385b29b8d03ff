/-! ===== the law: the two objects as they are made ===== -/
def lw_M0 : Mw := (0, fun _ _ => 0, fun _ _ => none)
def lw_I2 : Mi := I_x0 (gI (fun _ _ => 0) 0)
def lw_P2 : Nat → Nat → Option Nat := P_x0 (gP (fun _ _ => none) 0)
def lw_I0 : Mi := I_lp (I_m49 (gI lw_I2 49))
def lw_P0 : Nat → Nat → Option Nat := P_m49 (gP lw_P2 49)
def lw_M2 : Mw := (49, lw_I2, lw_P2)
def lw_M4 : Mw := (65, lw_I0, lw_P0)
theorem lw_n2 : lw_M2.1 = 49 := rfl
theorem lw_n4 : lw_M4.1 = 65 := rfl
theorem lw_e2 : ∃ v, r_x_init [.ref 0] (k_grow lw_M0) = some (v, lw_M2) := ⟨.null, by
  unfold lw_M0
  rw [gr_e]
  exact ct_x0 _ _⟩
theorem lw_e4 : ∃ v, r_m_init [.ref 49] (k_grow lw_M2) = some (v, lw_M4) := ⟨.null, by
  unfold lw_M2
  rw [gr_e]
  exact ct_m49 _ _⟩
theorem lw_pp4 : ∀ k, k < 65 → (k_sh k).1 = 2 → ∀ f, f < (k_cl (k_sh k).2).2.2 → k_isr (k_sh k).2 f = true → lw_P0 k f = k_p0 k f := by decide +kernel
theorem lw_i3 : ∀ r, r < 8 → (lw_I0 3 r).toInt = -1 ∧ (lw_I0 50 r).toInt = -1 := by decide +kernel
theorem lw_i7 : ∀ j, j < 5 → lw_I0 7 j = nI 0 := by decide +kernel
theorem lw_i54 : ∀ j, j < 47 → lw_I0 54 j = nI 0 := by decide +kernel
theorem lw_ix : (lw_I0 0 8 = lw_I0 49 3 ∧ lw_I0 5 1 = nI 0 ∧ lw_I0 49 4 = nI 0 ∧ lw_I0 5 2 = lw_I0 49 11 ∧ lw_I0 47 1 = nI 0 ∧ lw_I0 49 20 = nI 0) ∧ (lw_I0 31 0 = nI 0 ∧ lw_I0 31 1 = nI 0 ∧ lw_I0 49 18 = nI 0) ∧ (lw_I0 58 0 = nI 0 ∧ lw_I0 15 0 = nI 0 ∧ lw_I0 58 1 = nI 0 ∧ lw_I0 23 0 = nI 0) := by decide +kernel
theorem lw_Rl : Rl lw_I0 := by
  obtain ⟨⟨x1, x2, x3, x4, x5, x6⟩, ⟨y1, y2, y3⟩, z1, z2, z3, z4⟩ := lw_ix
  refine ⟨fun r hr => Or.inl (lw_i3 r hr), x1, ⟨0, by omega, x2, x3, fun i hi => absurd hi (Nat.not_lt_zero _)⟩, x4, ⟨0, by omega, x5, x6, fun i hi => absurd hi (Nat.not_lt_zero _)⟩, (fun _ => 0), 0, 0, ⟨⟨⟨⟨Nat.zero_le _, Nat.zero_le _, Nat.zero_le _⟩, fun i hi => absurd hi (Nat.not_lt_zero _), fun i j hi => absurd hi (Nat.not_lt_zero _), fun s hs => absurd hs (Nat.not_lt_zero _)⟩, Nat.zero_le _, fun _ => ⟨rfl, rfl, rfl⟩⟩, ⟨⟨lw_i7 0 (by omega), lw_i7 1 (by omega), lw_i7 2 (by omega), lw_i7 3 (by omega)⟩, fun i hi => absurd hi (Nat.not_lt_zero _), fun f hf => absurd hf List.not_mem_nil, fun s hs => absurd hs (Nat.not_lt_zero _), 0, Nat.one_pos, lw_i7 4 (by omega), fun s hs => absurd hs (Nat.not_lt_zero _)⟩, fun j hj => by rw [Nat.zero_add]; exact lw_i54 j hj⟩, ⟨⟨by omega, by omega, y1, y2, y3⟩, fun j hj => absurd hj (Nat.not_lt_zero _)⟩, Or.inl ⟨z1, z2⟩, Or.inl ⟨z3, z4⟩⟩
theorem wq_ws {G : GG} {F : FF} {mi : MI} {pc : Nat} {L st : List Value} {M M' : Mw} (h1 : M.1 = M'.1) (h2 : k_ws G M = k_ws G M') (h : wq G F mi pc L st M') : wq G F mi pc L st M := by
  unfold wq at h ⊢
  rw [h1, h2]
  exact h
theorem lw_ws (G : GG) : k_ws G lw_M4 = k_ws G (kE lw_I0) := by
  unfold k_ws
  rw [lw_n4]
  refine List.map_congr_left (fun k hk => ?_)
  have hk := List.mem_range.mp hk
  show (G.2.2.1 + k, k_cell G lw_M4 k) = (G.2.2.1 + k, k_cell G (kE lw_I0) k)
  have : k_cell G lw_M4 k = k_cell G (kE lw_I0) k := by
    unfold k_cell
    by_cases h0 : (k_sh k).1 = 0
    · rw [if_pos h0, if_pos h0]; rfl
    · rw [if_neg h0, if_neg h0]
      by_cases h1 : (k_sh k).1 = 1
      · rw [if_pos h1, if_pos h1]; rfl
      · rw [if_neg h1, if_neg h1]
        have h2 : (k_sh k).1 = 2 := by
          have : ∀ k, k < 65 → (k_sh k).1 = 0 ∨ (k_sh k).1 = 1 ∨ (k_sh k).1 = 2 := by decide +kernel
          have := this k hk
          omega
        have : k_fs G (k_sh k).2 (lw_M4.2.1 k) (lw_M4.2.2 k) = k_fs G (k_sh k).2 ((kE lw_I0).2.1 k) ((kE lw_I0).2.2 k) := by
          unfold k_fs
          refine List.map_congr_left (fun f hf => ?_)
          have hf := List.mem_range.mp hf
          by_cases hr : k_isr (k_sh k).2 f = true
          · rw [if_pos hr, if_pos hr, show lw_M4.2.2 k f = lw_P0 k f from rfl, lw_pp4 k hk h2 f hf hr]; rfl
          · rw [if_neg hr, if_neg hr]; rfl
        rw [this]
  rw [this]
def b_L_pre (K : Kt Mw) : Kt Mw := c_new 6 (o_dup (o_callI r_x_init (o_astore 1 (c_new 7 (o_dup (o_callI r_m_init (o_astore 2 (o_const 0 (o_istore 3 K)))))))))
set_option maxRecDepth 20000 in
theorem cl_L_7 : Cond.classLink RL 7 (k_cl 6).1 ∈ lw_tbl := List.mem_append_right _ (List.mem_append_left _ (List.mem_of_getElem? (i := 12) rfl))
set_option maxRecDepth 20000 in
theorem cl_L_10 : Cond.classLink RL 10 (k_cl 7).1 ∈ lw_tbl := List.mem_append_right _ (List.mem_append_right _ (List.mem_append_right _ (List.mem_append_left _ (List.mem_of_getElem? (i := 232) rfl))))
set_option maxRecDepth 20000 in
theorem ml_L_9 : Cond.methodLink RL 9 yX6_init ∈ lw_tbl := List.mem_append_right _ (List.mem_append_left _ (List.mem_of_getElem? (i := 14) rfl))
set_option maxRecDepth 20000 in
theorem ml_L_12 : Cond.methodLink RL 12 yX7_init ∈ lw_tbl := List.mem_append_right _ (List.mem_append_right _ (List.mem_append_right _ (List.mem_append_left _ (List.mem_of_getElem? (i := 234) rfl))))
set_option maxRecDepth 20000 in
theorem s_L_pre (G : GG) (nx : String) {K : Kt Mw} (h : Sq kId G lw_F (mi_L_law nx) 18 K) : Sq kId G lw_F (mi_L_law nx) 0 (b_L_pre K) := by
  unfold b_L_pre
  exact sq_cnew (pc := 0) dL_law_0 (by decide) cl_L_7 ins_6 ini_X6 (lw_ok 50 (by decide))
    (sq_dup (pc := 3) dL_law_3
    (sq_callC (d := 50) (pc := 4) dL_law_4 ml_L_9 in_x_init ok_x_init rfl rfl ar_x_init (by decide) (lw_ok 50 (by decide)) (m_x_init G)
    (sq_astore_n (pc := 7) dL_law_7 rfl
    (sq_cnew (pc := 8) dL_law_8 (by decide) cl_L_10 ins_7 ini_X7 (lw_ok 50 (by decide))
    (sq_dup (pc := 11) dL_law_11
    (sq_callC (d := 50) (pc := 12) dL_law_12 ml_L_12 in_m_init ok_m_init rfl rfl ar_m_init (by decide) (lw_ok 50 (by decide)) (m_m_init G)
    (sq_astore_n (pc := 15) dL_law_15 rfl
    (sq_iconst (pc := 16) dL_law_16 kc_i_0
    (sq_istore_n (pc := 17) dL_law_17 rfl h)))))))))
theorem e_L_pre (K : Kt Mw) (X : Option (Value × Mw)) (h : K [.ref 1003, .ref 0, .ref 49, .int 0] [] lw_M4 = X) : b_L_pre K [.ref 1003, .null, .null, .null] [] lw_M0 = X := by
  obtain ⟨v2, h2⟩ := lw_e2
  obtain ⟨v4, h4⟩ := lw_e4
  have s0 : k_sh lw_M0.1 = (2, 6) := rfl
  have s2 : k_sh lw_M2.1 = (2, 7) := by rw [lw_n2]; rfl
  have z0 : lw_M0.1 = 0 := rfl
  simp (disch := omega) only [k_sh0, k_sh49, b_L_pre, c_new, o_callI, o_dup, o_astore, o_istore, o_const, k_sto, s0, s2, z0, lw_n2, h2, h4, List.getElem?_cons_zero, List.getElem?_cons_succ, List.set_cons_zero, List.set_cons_succ, List.length_cons, List.length_nil, ite_true, ↓reduceIte, and_self, Nat.reduceLT, Nat.reduceLeDiff, Nat.reduceAdd, Nat.zero_add, h]
