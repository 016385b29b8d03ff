/-! ===== the law from its entry ===== -/
set_option maxRecDepth 20000 in
theorem ls_0 : Cond.laysStatic "SheepSquare" "ALSO" "[I" ∈ tables_1 := by decide +kernel
set_option maxRecDepth 20000 in
theorem ls_1 : Cond.laysStatic "SheepSquare$Asked" "SIZES" "[I" ∈ tables_1 := by decide +kernel
set_option maxRecDepth 20000 in
theorem ls_2 : Cond.laysStatic "SheepSquare$Asked" "MARKS" "[I" ∈ tables_1 := by decide +kernel
theorem tb_in {w : Cond} (h : w ∈ tables_1) : w ∈ lw_tbl := List.mem_append_right _ h
theorem ac_of {args : Array Value} {s : State} {ty : FieldType} (h : (Cond.arrayClass ty).before args s = true) : ∃ cA : ClassId, ArrOfT s cA ty ∧ s.vm.findClass ("[" ++ ty.toString) = some cA := by
  obtain ⟨cA, kA, comp, h1, h2, h3⟩ := Cond.arrayClass_spec h
  exact ⟨cA, fun n z => ⟨fun k h => (by cases h), kA, h2, comp, h3⟩, h1⟩
theorem sa_0 {args : Array Value} {s : State} {A : Nat → Prop} (hts : ∀ w ∈ lw_tbl, w.before args s = true) (hgv : (Jvm.Cond.and given_1 narrow_1).before args s = true) (hA : ∀ a : Nat, a < s.heap.size → ¬ A a) : ∃ t : Nat, va_Z RX6 "ALSO" "[I" (.ref t) A s s.heap ∧ va_T .int t 6 (fun j => .int (k_st 0 j)) A s s.heap := by
  have hs := flat_of_before _ hgv
  obtain ⟨t, h1, h2⟩ := va_Tof (tm := (.static "SheepSquare" "ALSO" "[I")) (ty := .int) (N := 6) (f := fun j => .int (k_st 0 j)) (A := A) (s := s) (args := args) (by decide) (hs _ (by decide +kernel)) (va_eqt (hs (Cond.eq (.length (.static "SheepSquare" "ALSO" "[I")) (.int 6)) (by decide +kernel))) (fun j hj => by
    have : j = 0 ∨ j = 1 ∨ j = 2 ∨ j = 3 ∨ j = 4 ∨ j = 5 := by omega
    rcases this with rfl | rfl | rfl | rfl | rfl | rfl
    · exact va_eqt (hs (Cond.eq (.elem (.static "SheepSquare" "ALSO" "[I") (.int 0)) (.int 0)) (by decide +kernel))
    · exact va_eqt (hs (Cond.eq (.elem (.static "SheepSquare" "ALSO" "[I") (.int 1)) (.int 0)) (by decide +kernel))
    · exact va_eqt (hs (Cond.eq (.elem (.static "SheepSquare" "ALSO" "[I") (.int 2)) (.int 1)) (by decide +kernel))
    · exact va_eqt (hs (Cond.eq (.elem (.static "SheepSquare" "ALSO" "[I") (.int 3)) (.int 1)) (by decide +kernel))
    · exact va_eqt (hs (Cond.eq (.elem (.static "SheepSquare" "ALSO" "[I") (.int 4)) (.int 0)) (by decide +kernel))
    · exact va_eqt (hs (Cond.eq (.elem (.static "SheepSquare" "ALSO" "[I") (.int 5)) (.int 4)) (by decide +kernel))) hA
  exact ⟨t, va_Zof (hts _ (tb_in ls_0)) (hts _ ini_X6) h1 hA, h2⟩
theorem sa_1 {args : Array Value} {s : State} {A : Nat → Prop} (hts : ∀ w ∈ lw_tbl, w.before args s = true) (hgv : (Jvm.Cond.and given_1 narrow_1).before args s = true) (hA : ∀ a : Nat, a < s.heap.size → ¬ A a) : ∃ t : Nat, va_Z RX1 "SIZES" "[I" (.ref t) A s s.heap ∧ va_T .int t 6 (fun j => .int (k_st 1 j)) A s s.heap := by
  have hs := flat_of_before _ hgv
  obtain ⟨t, h1, h2⟩ := va_Tof (tm := (.static "SheepSquare$Asked" "SIZES" "[I")) (ty := .int) (N := 6) (f := fun j => .int (k_st 1 j)) (A := A) (s := s) (args := args) (by decide) (hs _ (by decide +kernel)) (va_eqt (hs (Cond.eq (.length (.static "SheepSquare$Asked" "SIZES" "[I")) (.int 6)) (by decide +kernel))) (fun j hj => by
    have : j = 0 ∨ j = 1 ∨ j = 2 ∨ j = 3 ∨ j = 4 ∨ j = 5 := by omega
    rcases this with rfl | rfl | rfl | rfl | rfl | rfl
    · exact va_eqt (hs (Cond.eq (.elem (.static "SheepSquare$Asked" "SIZES" "[I") (.int 0)) (.int 10)) (by decide +kernel))
    · exact va_eqt (hs (Cond.eq (.elem (.static "SheepSquare$Asked" "SIZES" "[I") (.int 1)) (.int 11)) (by decide +kernel))
    · exact va_eqt (hs (Cond.eq (.elem (.static "SheepSquare$Asked" "SIZES" "[I") (.int 2)) (.int 12)) (by decide +kernel))
    · exact va_eqt (hs (Cond.eq (.elem (.static "SheepSquare$Asked" "SIZES" "[I") (.int 3)) (.int 0)) (by decide +kernel))
    · exact va_eqt (hs (Cond.eq (.elem (.static "SheepSquare$Asked" "SIZES" "[I") (.int 4)) (.int 13)) (by decide +kernel))
    · exact va_eqt (hs (Cond.eq (.elem (.static "SheepSquare$Asked" "SIZES" "[I") (.int 5)) (.int 14)) (by decide +kernel))) hA
  exact ⟨t, va_Zof (hts _ (tb_in ls_1)) (hts _ ini_X1) h1 hA, h2⟩
theorem sa_2 {args : Array Value} {s : State} {A : Nat → Prop} (hts : ∀ w ∈ lw_tbl, w.before args s = true) (hgv : (Jvm.Cond.and given_1 narrow_1).before args s = true) (hA : ∀ a : Nat, a < s.heap.size → ¬ A a) : ∃ t : Nat, va_Z RX1 "MARKS" "[I" (.ref t) A s s.heap ∧ va_T .int t 6 (fun j => .int (k_st 2 j)) A s s.heap := by
  have hs := flat_of_before _ hgv
  obtain ⟨t, h1, h2⟩ := va_Tof (tm := (.static "SheepSquare$Asked" "MARKS" "[I")) (ty := .int) (N := 6) (f := fun j => .int (k_st 2 j)) (A := A) (s := s) (args := args) (by decide) (hs _ (by decide +kernel)) (va_eqt (hs (Cond.eq (.length (.static "SheepSquare$Asked" "MARKS" "[I")) (.int 6)) (by decide +kernel))) (fun j hj => by
    have : j = 0 ∨ j = 1 ∨ j = 2 ∨ j = 3 ∨ j = 4 ∨ j = 5 := by omega
    rcases this with rfl | rfl | rfl | rfl | rfl | rfl
    · exact va_eqt (hs (Cond.eq (.elem (.static "SheepSquare$Asked" "MARKS" "[I") (.int 0)) (.int 20)) (by decide +kernel))
    · exact va_eqt (hs (Cond.eq (.elem (.static "SheepSquare$Asked" "MARKS" "[I") (.int 1)) (.int 21)) (by decide +kernel))
    · exact va_eqt (hs (Cond.eq (.elem (.static "SheepSquare$Asked" "MARKS" "[I") (.int 2)) (.int 24)) (by decide +kernel))
    · exact va_eqt (hs (Cond.eq (.elem (.static "SheepSquare$Asked" "MARKS" "[I") (.int 3)) (.int 22)) (by decide +kernel))
    · exact va_eqt (hs (Cond.eq (.elem (.static "SheepSquare$Asked" "MARKS" "[I") (.int 4)) (.int 23)) (by decide +kernel))
    · exact va_eqt (hs (Cond.eq (.elem (.static "SheepSquare$Asked" "MARKS" "[I") (.int 5)) (.int 0)) (by decide +kernel))) hA
  exact ⟨t, va_Zof (hts _ (tb_in ls_2)) (hts _ ini_X1) h1 hA, h2⟩
theorem lw_known {args : Array Value} {s : State} (hts : ∀ w ∈ lw_tbl, w.before args s = true) : ∃ (dC : Nat → ClassId) (dI : Nat → Nat → Nat), ∀ (k : Nat) (q : vw_C), vwCl[k]? = some q → u_Kn s q.1 q.2.1 q.2.2 (dC k) (dI k) := by
  have htb : ∀ w ∈ k_tb, w.before args s = true := fun w hw => hts w (List.mem_filter.mp hw).1
  have key : ∀ ci, ci < 8 → ∃ (cC : ClassId) (iS : Nat → Nat), u_Kn s (k_cl ci).1 (k_cl ci).2.1 (k_cl ci).2.2 cC iS := by
    intro ci h
    have hins : (Cond.instantiable (k_cl ci).1 (k_cl ci).2.2).before args s = true := by
      have : ci = 0 ∨ ci = 1 ∨ ci = 2 ∨ ci = 3 ∨ ci = 4 ∨ ci = 5 ∨ ci = 6 ∨ ci = 7 := by omega
      rcases this with rfl | rfl | rfl | rfl | rfl | rfl | rfl | rfl
      · exact hts _ ins_0
      · exact hts _ ins_1
      · exact hts _ ins_2
      · exact hts _ ins_3
      · exact hts _ ins_4
      · exact hts _ ins_5
      · exact hts _ ins_6
      · exact hts _ ins_7
    exact u_known htb (k_in h) hins
  refine ⟨fun k => if h : k < 8 then Classical.choose (key k h) else Classical.choose (key 0 (by omega)), fun k => if h : k < 8 then Classical.choose (Classical.choose_spec (key k h)) else fun _ => 0, fun k q hq => ?_⟩
  have hk : k < 8 := (List.getElem?_eq_some_iff.mp hq).1
  have e := k_get hk
  rw [hq] at e
  cases e
  show u_Kn s (k_cl k).1 (k_cl k).2.1 (k_cl k).2.2 (if h : k < 8 then Classical.choose (key k h) else Classical.choose (key 0 (by omega))) (if h : k < 8 then Classical.choose (Classical.choose_spec (key k h)) else fun _ => 0)
  rw [dif_pos hk, dif_pos hk]
  exact Classical.choose_spec (Classical.choose_spec (key k hk))
/-- the end of the first part, where just one state comes -/
noncomputable def o_one (L1 : List Value) (M1 M2 : Mw) : Kt Mw := fun L st M => @ite _ (L = L1 ∧ st = [] ∧ M = M1) (Classical.propDecidable _) (some (.int 1, M2)) none
theorem o_one_e (L1 : List Value) (M1 M2 : Mw) : o_one L1 M1 M2 L1 [] M1 = some (.int 1, M2) := by
  unfold o_one
  exact if_pos ⟨rfl, rfl, rfl⟩
theorem o_one_h {L1 L st : List Value} {M1 M2 M : Mw} {q : Value × Mw} (h : o_one L1 M1 M2 L st M = some q) : (L = L1 ∧ st = [] ∧ M = M1) ∧ q = (.int 1, M2) := by
  unfold o_one at h
  by_cases c : L = L1 ∧ st = [] ∧ M = M1
  · rw [if_pos c] at h
    cases h
    exact ⟨c, rfl⟩
  · rw [if_neg c] at h
    cases h
/-- THE LAW, from its entry -/
theorem whole_start {p : Program} {e : Env} {s : State} {m : MethodId} {below : List Frame} {meth : Method} {c : Code} (l : Launch) {b L : Nat} {xs : Nat → Int32} (hL : L ≤ 384) (C0 : lw_At p s m meth c b L xs) : W p l e room_1 s m #[Value.ref b] below meth c s.heap [] 0 0 (lw_Z below #[Value.ref b] s) (entryFrame m ([Value.ref b] : List Value).toArray 4) := by
  obtain ⟨hx, hb, hr, hml, hown, hts, hX, hbl, hlocks, hgv⟩ := id C0
  have hAn : ∀ a : Nat, a < s.heap.size → ¬ (fun q : Nat => s.heap.size ≤ q) a := fun a h z => absurd z (Nat.not_le.mpr h)
  obtain ⟨dC, dI, hKn⟩ := lw_known hts
  obtain ⟨cI, hcI, fI⟩ := ac_of (hts _ ac_int)
  obtain ⟨cB, hcB, fB⟩ := ac_of (hts _ ac_bool)
  obtain ⟨t0, z0, a0⟩ := sa_0 (A := fun q : Nat => s.heap.size ≤ q) hts hgv hAn
  obtain ⟨t1, z1, a1⟩ := sa_1 (A := fun q : Nat => s.heap.size ≤ q) hts hgv hAn
  obtain ⟨t2, z2, a2⟩ := sa_2 (A := fun q : Nat => s.heap.size ≤ q) hts hgv hAn
  obtain ⟨G, hG⟩ : ∃ G : GG, G = (l, (dC, dI), s.heap.size, cI, cB, (fun j => if j = 0 then t0 else if j = 1 then t1 else if j = 2 then t2 else b), L, xs) := ⟨_, rfl⟩
  have hU : k_U G s := by
    subst hG
    refine ⟨⟨hKn, fun k q hq => ?_⟩, fun w hw => ?_, ⟨z0, a0⟩, ⟨z1, a1⟩, ⟨z2, a2⟩, hX, hbl, hAn b hbl⟩
    · have hk : k < 2 := (List.getElem?_eq_some_iff.mp hq).1
      have : k = 0 ∨ k = 1 := by omega
      rcases this with rfl | rfl
      · cases hq
        exact ⟨hcI, fI⟩
      · cases hq
        exact ⟨hcB, fB⟩
    · have hw2 := hts w (tb_in (k_nw_in w hw))
      refine va_Nw.of ?_ hw2
      simp only [k_nw, List.mem_cons, List.not_mem_nil, or_false] at hw
      rcases hw with rfl | rfl | rfl | rfl | rfl | rfl | rfl | rfl <;> rfl
  have g1 : G.1 = l := by rw [hG]
  have gz : G.2.2.1 = s.heap.size := by rw [hG]
  have gb : k_v G (.ref 1003) = .ref b := by rw [hG]; rfl
  have gL : G.2.2.2.2.2.2.1 ≤ 384 := by rw [hG]; exact hL
  clear hG
  obtain ⟨J, hJ⟩ := lw_loop G gL 70 k_fu 0 lw_I0 (by omega) (by omega) (by have := fu_pos; omega) lw_Rl
  have hS18 := s_L_law_18 G meth.name k_fu
  have hone : Sq kId G lw_F (mi_L_law meth.name) 18 (o_one [.ref 1003, .ref 0, .ref 49, .int 0] lw_M4 (kE J)) := by
    intro L' st M v M' h
    obtain ⟨⟨rfl, rfl, rfl⟩, e1⟩ := o_one_h h
    cases e1
    obtain ⟨h1, h2⟩ := hS18 _ _ _ _ _ hJ
    refine ⟨h1, wq_ws rfl (lw_ws G) h2⟩
  have hpre := s_L_pre G meth.name hone
  obtain ⟨-, hw⟩ := hpre _ _ _ _ _ (e_L_pre _ _ (o_one_e [.ref 1003, .ref 0, .ref 49, .int 0] lw_M4 (kE J)))
  have hC : k_Cx G (mi_L_law meth.name) 0 p s m #[Value.ref b] meth c := ⟨hx, hb, hr, hml, hown, fun w hw => hts w (List.mem_filter.mp hw).1, hlocks, rfl, hU, by rw [gz]; rfl⟩
  have hl := lv_entry ([.ref b]) (n := 4) (Nat.le_of_ble_eq_true rfl)
  rw [lg_entry_eq]
  generalize (lg_sl ([.ref b]) ++ List.replicate (4 - (lg_sl ([.ref b])).length) Slot.unset).toArray = ls at hl ⊢
  have hl : lv_has ls 4 [(0, .ref b)] := hl
  have hlq : k_lq G 4 ls [.ref 1003, .null, .null, .null] := by
    refine ⟨⟨hl.1, hl.2.1, fun q hq => hl.2.2 q ?_⟩, rfl, fun k x hk => ?_⟩
    · obtain ⟨k, w⟩ := q
      obtain ⟨u, h1, h2, rfl⟩ := k_as_mem.mp hq
      have hk4 : k < 4 := (List.getElem?_eq_some_iff.mp h1).1
      have : k = 0 ∨ k = 1 ∨ k = 2 ∨ k = 3 := by omega
      rcases this with rfl | rfl | rfl | rfl
      · cases h1
        rw [gb]
        exact List.mem_cons_self
      · cases h1; cases h2
      · cases h1; cases h2
      · cases h1; cases h2
    · have hk4 : k < 4 := (List.getElem?_eq_some_iff.mp hk).1
      have : k = 0 ∨ k = 1 ∨ k = 2 ∨ k = 3 := by omega
      rcases this with rfl | rfl | rfl | rfl <;> cases hk
  have hfin := hw 0 p e s m #[Value.ref b] below meth c hC s.heap [] ls (Nat.le_refl _) (fun k q h => by simp [k_ws, lw_M0] at h) va_S.rf hlq
  rw [g1] at hfin
  have hroom : (lw_F (.int 1) (kE J) 0 #[Value.ref b] s below).1 = room_1 := by
    show ({ frames := 2048, cells := max 600000 65, slots := max 7302250 (k_cs 65), locals := 84000 } : Room) = room_1
    rw [Nat.max_eq_left k_cs65]
    rfl
  rw [hroom] at hfin
  intro T hT X
  obtain ⟨t, x1, x2⟩ := hfin T hT X
  exact ⟨t, x1, x2 rfl⟩
