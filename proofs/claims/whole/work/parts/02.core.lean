/-! ===== the world: the cells that the two constructors make, by their numbers; a walk of bytecode as a function over it ===== -/
abbrev Mw : Type := Nat × (Nat → Nat → Int32) × (Nat → Nat → Option Nat)
abbrev Mi : Type := Nat → Nat → Int32
/-- launch, class numbers and slots, first address, class of int[], class of boolean[], addresses of the static arrays and of the script (3), the script's length, the script -/
abbrev GG : Type := Launch × va_G × Nat × ClassId × ClassId × (Nat → Nat) × Nat × (Nat → Int32)
/-- name, bytes, locals, what is returned -/
abbrev MI : Type := MethodName × ByteArray × Nat × Option FieldType
def k_shl : List (Nat × Nat) := [(2, 6), (2, 4), (0, 8), (0, 8), (0, 320), (2, 3), (0, 100),
  (2, 5), (0, 6), (0, 6), (0, 6), (0, 5), (0, 5), (0, 5), (0, 5),
  (2, 5), (0, 6), (0, 6), (0, 6), (0, 5), (0, 5), (0, 5), (0, 5),
  (2, 5), (0, 6), (0, 6), (0, 6), (0, 5), (0, 5), (0, 5), (0, 5),
  (2, 0), (0, 24), (0, 24), (0, 24), (0, 120), (0, 144),
  (2, 2), (2, 5), (0, 6), (0, 6), (0, 6), (0, 5), (0, 5), (0, 5), (0, 5), (0, 6),
  (2, 1), (0, 16),
  (2, 7), (0, 8), (0, 8), (0, 320), (0, 100), (0, 47), (0, 47), (0, 47), (0, 94), (1, 2), (0, 1128), (0, 16), (0, 16), (0, 6), (0, 6), (0, 106)]
def k_sh (k : Nat) : Nat × Nat := k_shl.getD k (9, 0)
def k_cl (ci : Nat) : vw_C := vwCl.getD ci (RX0, TX0, 7)
def k_ty (ci : Nat) : Nat → FieldType := match ci with
  | 0 => tyX0
  | 1 => tyX1
  | 2 => tyX2
  | 3 => tyX3
  | 4 => tyX4
  | 5 => tyX5
  | 6 => tyX6
  | _ => tyX7
def k_isr (ci f : Nat) : Bool := match k_ty ci f with
  | .int => false
  | .boolean => false
  | _ => true
def k_offl : List (List Nat) := [[0, 0, 1, 2, 3, 4, 5], [1, 0, 0, 0, 0, 0], [1, 9], [1, 0, 0, 0, 0, 0, 0, 0, 0], [1, 2, 3], [0, 0, 0, 0, 0, 1, 2, 3, 4, 5, 6, 7], [1, 5, 7, 15, 23, 31, 37, 47, 0], [1, 2, 3, 0, 0, 4, 0, 0, 0, 0, 0, 0, 5, 6, 7, 8, 9, 10, 0, 11, 0, 12, 13, 14, 15]]
def k_off (ci f : Nat) : Nat := (k_offl.getD ci []).getD f 0
def k_p0 (k f : Nat) : Option Nat := some (k + k_off (k_sh k).2 f)
def kE (I : Mi) : Mw := (65, I, k_p0)
def k_sz (k : Nat) : Nat := if (k_sh k).1 = 2 then (k_cl (k_sh k).2).2.2 else (k_sh k).2
def k_cs : Nat → Nat
  | 0 => 0
  | n + 1 => k_cs n + k_sz n
theorem k_cs_mono {a b : Nat} (h : a ≤ b) : k_cs a ≤ k_cs b := by
  induction h with
  | refl => exact Nat.le_refl _
  | step _ ih => exact Nat.le_trans ih (Nat.le_add_right _ _)
def k_stl : List (List Int32) := [[0, 0, 1, 1, 0, 4], [10, 11, 12, 0, 13, 14], [20, 21, 24, 22, 23, 0]]
/-- what the static arrays hold -/
def k_st (j i : Nat) : Int32 := (k_stl.getD j []).getD i 0
def k_v (G : GG) (v : Value) : Value := match v with
  | .ref k => .ref (if k < 900 then G.2.2.1 + k else G.2.2.2.2.2.1 (k - 1000))
  | w => w
def k_A (G : GG) : Nat → Prop := fun q => G.2.2.1 ≤ q
def k_fs (G : GG) (ci : Nat) (i : Nat → Int32) (p : Nat → Option Nat) : List Value := (List.range (k_cl ci).2.2).map (fun f => if k_isr ci f then va_rf ((p f).map (G.2.2.1 + ·)) else .int (i f))
def k_cell (G : GG) (M : Mw) (k : Nat) : va_E := if (k_sh k).1 = 0 then .inl (G.2.2.2.1, (k_sh k).2, .inl (M.2.1 k)) else if (k_sh k).1 = 1 then .inl (G.2.2.2.2.1, (k_sh k).2, .inl (M.2.1 k)) else .inr ((k_sh k).2, k_fs G (k_sh k).2 (M.2.1 k) (M.2.2 k))
def k_ws (G : GG) (M : Mw) : va_W := (List.range M.1).map (fun k => (G.2.2.1 + k, k_cell G M k))
def k_tys (G : GG) : List (ClassId × FieldType) := [(G.2.2.2.1, .int), (G.2.2.2.2.1, .boolean)]
def k_tb : List Cond := lw_tbl.filter goodWord
theorem k_tb_mem {w : Cond} (h : w ∈ lw_tbl) (g : goodWord w = true) : w ∈ k_tb := List.mem_filter.mpr ⟨h, g⟩
def k_w (mi : MI) : List Cond := .code mi.1 mi.2.1 mi.2.2.1 mi.2.2.2 :: k_tb
def k_Z (G : GG) (U : State) : Prop :=
  (va_Z RX6 "ALSO" "[I" (.ref (G.2.2.2.2.2.1 0)) (k_A G) U U.heap ∧ va_T .int (G.2.2.2.2.2.1 0) 6 (fun j => .int (k_st 0 j)) (k_A G) U U.heap) ∧
  (va_Z RX1 "SIZES" "[I" (.ref (G.2.2.2.2.2.1 1)) (k_A G) U U.heap ∧ va_T .int (G.2.2.2.2.2.1 1) 6 (fun j => .int (k_st 1 j)) (k_A G) U U.heap) ∧
  (va_Z RX1 "MARKS" "[I" (.ref (G.2.2.2.2.2.1 2)) (k_A G) U U.heap ∧ va_T .int (G.2.2.2.2.2.1 2) 6 (fun j => .int (k_st 2 j)) (k_A G) U U.heap) ∧
  va_X (G.2.2.2.2.2.1 3) G.2.2.2.2.2.2.1 G.2.2.2.2.2.2.2 U U.heap ∧ G.2.2.2.2.2.1 3 < U.heap.size ∧ ¬ k_A G (G.2.2.2.2.2.1 3)
def k_U (G : GG) (U : State) : Prop := va_K G.2.1 vwCl (k_tys G) U ∧ (∀ w ∈ k_nw, va_Nw w U) ∧ k_Z G U
theorem k_nw_warm {s U : State} (hW : s.WarmedH U.vm) (h : ∀ w ∈ k_nw, va_Nw w s) : ∀ w ∈ k_nw, va_Nw w U := by
  intro w hw
  have h0 := h w hw
  simp only [k_nw, List.mem_cons, List.not_mem_nil, or_false] at hw
  rcases hw with rfl | rfl | rfl | rfl | rfl | rfl | rfl | rfl
  · exact va_Nw.warmM hW h0
  · exact va_Nw.warmM hW h0
  · exact va_Nw.warmM hW h0
  · exact va_Nw.warmM hW h0
  · exact va_Nw.warmM hW h0
  · exact va_Nw.warmM hW h0
  · exact va_Nw.warmM hW h0
  · exact va_Nw.warmF hW h0
theorem k_nw_same {s U : State} (hv : s.vm = U.vm) (h : ∀ w ∈ k_nw, va_Nw w s) : ∀ w ∈ k_nw, va_Nw w U := by
  intro w hw
  refine va_Nw.same ?_ hv (h w hw)
  simp only [k_nw, List.mem_cons, List.not_mem_nil, or_false] at hw
  rcases hw with rfl | rfl | rfl | rfl | rfl | rfl | rfl | rfl <;> rfl
theorem k_Z_move {G : GG} {s U : State} (hv : s.vm.Alike U.vm) (hz : s.heap.size ≤ U.heap.size) (hk : ∀ a : Nat, a < s.heap.size → ¬ k_A G a → U.heap[a]? = s.heap[a]?) (h : k_Z G s) : k_Z G U := by
  obtain ⟨⟨a1, a2⟩, ⟨b1, b2⟩, ⟨c1, c2⟩, d1, d2, d3⟩ := h
  exact ⟨⟨(a1.kept hk).moved hv, (a2.kept hk).moved hv⟩, ⟨(b1.kept hk).moved hv, (b2.kept hk).moved hv⟩, ⟨(c1.kept hk).moved hv, (c2.kept hk).moved hv⟩, (d1.kept (hk _ d2 d3)).moved hv, Nat.lt_of_lt_of_le d2 hz, d3⟩
theorem k_U_warm {G : GG} {s U : State} {H : Heap} {locs : List Loc} (hS : va_S (k_A G) s.heap H locs) (hU : U.heap = H) (hW : s.WarmedH U.vm) (h : k_U G s) : k_U G U :=
  ⟨va_K.moved hW.alike h.1, k_nw_warm hW h.2.1, k_Z_move hW.alike (by rw [hU]; exact hS.1) (fun a h1 h2 => by rw [hU]; exact hS.2.1 a h1 h2) h.2.2⟩
theorem k_U_same {G : GG} {s U : State} (hv : s.vm = U.vm) (hh : U.heap = s.heap) (h : k_U G s) : k_U G U :=
  ⟨va_K.moved (hv ▸ Vm.Alike.refl s.vm) h.1, k_nw_same hv h.2.1, k_Z_move (hv ▸ Vm.Alike.refl s.vm) (by rw [hh]; exact Nat.le_refl _) (fun a _ _ => by rw [hh]) h.2.2⟩
def k_Pc (G : GG) (as : List Value) (M : Mw) : Array Value → State → Prop := va_Pc (as.map (k_v G)) (fun U => k_U G U ∧ U.heap.size = G.2.2.1 + M.1 ∧ va_P G.2.1 vwCl (k_ws G M) U.heap)
def k_ret (G : GG) (mi : MI) (v : Value) : Option Value := match mi.2.2.2 with
  | none => none
  | some _ => some (k_v G v)
def k_Q (G : GG) (mi : MI) (v : Value) (M : Mw) : Array Value → State → Outcome → State → Prop := fun _ st oc t => (oc = .returned (k_ret G mi v) ∧ va_P G.2.1 vwCl (k_ws G M) t.heap) ∧ va_F (k_A G) st t
def k_rm (d mc ms : Nat) : Room := { frames := d, cells := mc, slots := ms, locals := 64 * d }
def MC (G : GG) (d : Nat) (mi : MI) (as : List Value) (M : Mw) (v : Value) (M' : Mw) : Prop :=
  Met G.1 mi.1 (k_w mi) (k_rm d (M'.1 - M.1) (k_cs M'.1 - k_cs M.1)) (k_Pc G as M) (k_Q G mi v M') (M'.1 - M.1) (k_cs M'.1 - k_cs M.1) (k_A G)
theorem k_blind {G : GG} {as : List Value} {M : Mw} : FrameBlind (k_Pc G as M) := by
  intro a U g mk h
  obtain ⟨h0, h1, h2, h3⟩ := h
  exact ⟨h0, k_U_same (s := U) rfl rfl h1, h2, h3⟩
/-! the locals -/
def k_set (v : Value) : Bool := match v with
  | .int _ => true
  | .long _ => true
  | .ref _ => true
  | _ => false
def k_as (G : GG) (L : List Value) : List (Nat × Value) := (List.range L.length).filterMap (fun k => match L[k]? with
  | some v => if k_set v then some (k, k_v G v) else none
  | none => none)
theorem k_as_mem {G : GG} {L : List Value} {k : Nat} {w : Value} : (k, w) ∈ k_as G L ↔ ∃ v, L[k]? = some v ∧ k_set v = true ∧ w = k_v G v := by
  unfold k_as
  rw [List.mem_filterMap]
  constructor
  · rintro ⟨j, -, h⟩
    cases hj : L[j]? with
    | none => rw [hj] at h; cases h
    | some v =>
      rw [hj] at h
      by_cases hs : k_set v = true
      · simp only [hs, if_true] at h
        cases h
        exact ⟨v, hj, hs, rfl⟩
      · simp only [hs] at h; cases h
  · rintro ⟨v, h1, h2, rfl⟩
    refine ⟨k, List.mem_range.mpr (List.getElem?_eq_some_iff.mp h1).1, ?_⟩
    rw [h1]
    simp only [h2, if_true]
def k_wf (L : List Value) : Prop := ∀ (k : Nat) (x : Int64), L[k]? = some (.long x) → L[k + 1]? = some (.retAddr 0)
def k_lq (G : GG) (nL : Nat) (ls : Array Slot) (L : List Value) : Prop := lv_has ls nL (k_as G L) ∧ L.length = nL ∧ k_wf L
theorem k_v_cat (G : GG) (v : Value) : (k_v G v).category = v.category := by cases v <;> rfl
theorem k_lq_at {G : GG} {nL : Nat} {ls : Array Slot} {L : List Value} (h : k_lq G nL ls L) {k : Nat} {v : Value} (hk : L[k]? = some v) (hs : k_set v = true) : ls[k]? = some (.val (k_v G v)) :=
  h.1.2.2 (k, k_v G v) (k_as_mem.mpr ⟨v, hk, hs, rfl⟩)
theorem k_lq_lt {G : GG} {nL : Nat} {ls : Array Slot} {L : List Value} (h : k_lq G nL ls L) {k : Nat} {v : Value} (hk : L[k]? = some v) : k < nL := by
  rw [← h.2.1]
  exact (List.getElem?_eq_some_iff.mp hk).1
/-- a store of one slot, where no second half stands -/
def k_sto (L : List Value) (i : Nat) (v : Value) : Option (List Value) := match L[i]? with
  | some (.retAddr _) => none
  | some _ => some (L.set i v)
  | none => none
theorem k_sto_spec {L L' : List Value} {i : Nat} {v : Value} (h : k_sto L i v = some L') : (∃ w, L[i]? = some w ∧ ∀ p, w ≠ .retAddr p) ∧ L' = L.set i v := by
  unfold k_sto at h
  split at h
  · cases h
  · next w hw hn =>
    cases h
    refine ⟨⟨_, hn, fun p e => ?_⟩, rfl⟩
    subst e
    exact hw p rfl
  · cases h
theorem k_lq_sto {G : GG} {nL i : Nat} {ls ls' : Array Slot} {L L' : List Value} {v : Value} (h : k_lq G nL ls L) (hs : k_sto L i v = some L') (hv : v.category = 1)
    (h' : lv_has ls' nL ((i, k_v G v) :: (k_as G L).filter (fun q => !(q.1 == i) && !(q.1 + 1 == i && q.2.category == 2)))) : k_lq G nL ls' L' := by
  obtain ⟨⟨w, hw, hn⟩, rfl⟩ := k_sto_spec hs
  have hi : i < L.length := (List.getElem?_eq_some_iff.mp hw).1
  refine ⟨⟨h'.1, h'.2.1, fun q hq => h'.2.2 q ?_⟩, by rw [List.length_set]; exact h.2.1, fun k x hk => ?_⟩
  · obtain ⟨k, u⟩ := q
    obtain ⟨y, h1, h2, rfl⟩ := k_as_mem.mp hq
    by_cases e : k = i
    · subst e
      rw [List.getElem?_set_self hi] at h1
      cases h1
      exact List.mem_cons_self
    · rw [List.getElem?_set_ne (fun q => e q.symm)] at h1
      refine List.mem_cons_of_mem _ (List.mem_filter.mpr ⟨k_as_mem.mpr ⟨y, h1, h2, rfl⟩, ?_⟩)
      have e1 : (k == i) = false := by simpa using e
      simp only [e1, Bool.not_false, Bool.true_and, Bool.not_eq_true', Bool.and_eq_false_iff]
      by_cases e2 : k + 1 = i
      · right
        rw [k_v_cat]
        cases y with
        | long x =>
          have := h.2.2 k x h1
          rw [e2, hw] at this
          cases this
          exact absurd rfl (hn 0)
        | double x => simp [k_set] at h2
        | _ => rfl
      · left
        simpa using e2
  · by_cases e : k = i
    · subst e
      rw [List.getElem?_set_self hi] at hk
      cases hk
      cases hv
    · rw [List.getElem?_set_ne (fun q => e q.symm)] at hk
      have h1 := h.2.2 k x hk
      by_cases e2 : k + 1 = i
      · rw [e2, hw] at h1
        cases h1
        exact absurd rfl (hn 0)
      · rw [List.getElem?_set_ne (fun q => e2 q.symm)]
        exact h1
def k_sto2 (L : List Value) (i : Nat) (v : Value) : Option (List Value) := match L[i]?, L[i + 1]? with
  | some (.retAddr _), _ => none
  | some _, some _ => some ((L.set i v).set (i + 1) (.retAddr 0))
  | _, _ => none
theorem k_sto2_spec {L L' : List Value} {i : Nat} {v : Value} (h : k_sto2 L i v = some L') : (∃ w, L[i]? = some w ∧ ∀ p, w ≠ .retAddr p) ∧ i + 1 < L.length ∧ L' = (L.set i v).set (i + 1) (.retAddr 0) := by
  unfold k_sto2 at h
  split at h
  · cases h
  · next w w2 hw hn hn2 =>
    cases h
    refine ⟨⟨_, hn, fun p e => ?_⟩, (List.getElem?_eq_some_iff.mp hn2).1, rfl⟩
    subst e
    exact hw p rfl
  · cases h
theorem k_lq_sto2 {G : GG} {nL i : Nat} {ls ls' : Array Slot} {L L' : List Value} {x : Int64} (h : k_lq G nL ls L) (hs : k_sto2 L i (.long x) = some L')
    (h' : lv_has ls' nL ((i, .long x) :: (k_as G L).filter (fun q => !(q.1 == i) && (!(q.1 == i + 1) && !(q.1 + 1 == i && q.2.category == 2))))) : k_lq G nL ls' L' := by
  obtain ⟨⟨w, hw, hn⟩, hi1, rfl⟩ := k_sto2_spec hs
  have hi : i < L.length := by omega
  refine ⟨⟨h'.1, h'.2.1, fun q hq => h'.2.2 q ?_⟩, by rw [List.length_set, List.length_set]; exact h.2.1, fun k y hk => ?_⟩
  · obtain ⟨k, u⟩ := q
    obtain ⟨y, h1, h2, rfl⟩ := k_as_mem.mp hq
    by_cases e0 : k = i + 1
    · subst e0
      rw [List.getElem?_set_self (by rw [List.length_set]; exact hi1)] at h1
      cases h1
      cases h2
    · rw [List.getElem?_set_ne (fun q => e0 q.symm)] at h1
      by_cases e : k = i
      · subst e
        rw [List.getElem?_set_self hi] at h1
        cases h1
        exact List.mem_cons_self
      · rw [List.getElem?_set_ne (fun q => e q.symm)] at h1
        refine List.mem_cons_of_mem _ (List.mem_filter.mpr ⟨k_as_mem.mpr ⟨y, h1, h2, rfl⟩, ?_⟩)
        have e1 : (k == i) = false := by simpa using e
        have e3 : (k == i + 1) = false := by simpa using e0
        simp only [e1, e3, Bool.not_false, Bool.true_and, Bool.not_eq_true', Bool.and_eq_false_iff]
        by_cases e2 : k + 1 = i
        · right
          rw [k_v_cat]
          cases y with
          | long x =>
            have := h.2.2 k x h1
            rw [e2, hw] at this
            cases this
            exact absurd rfl (hn 0)
          | double x => simp [k_set] at h2
          | _ => rfl
        · left
          simpa using e2
  · by_cases e0 : k = i + 1
    · subst e0
      rw [List.getElem?_set_self (by rw [List.length_set]; exact hi1)] at hk
      cases hk
    · rw [List.getElem?_set_ne (fun q => e0 q.symm)] at hk
      by_cases e : k = i
      · subst e
        rw [List.getElem?_set_self (by rw [List.length_set]; exact hi1)]
      · rw [List.getElem?_set_ne (fun q => e q.symm)] at hk
        have h1 := h.2.2 k y hk
        have e2 : k + 1 ≠ i := by
          intro e2
          rw [e2, hw] at h1
          cases h1
          exact absurd rfl (hn 0)
        rw [List.getElem?_set_ne (by omega), List.getElem?_set_ne (by omega)]
        exact h1
/-! the walk -/
def k_Cx (G : GG) (mi : MI) (n0 : Nat) (p : Program) (s : State) (m : MethodId) (args : Array Value) (meth : Method) (c : Code) : Prop :=
  p.tables.exec = Jvm.exec ∧ c.code = mi.2.1 ∧ meth.sig.returnType = mi.2.2.2 ∧ c.maxLocals = mi.2.2.1 ∧ s.vm.findClass mi.1.cls = some m.cls ∧ (∀ w ∈ k_tb, w.before args s = true) ∧ meth.locks = false ∧ meth.name = mi.1.name ∧ k_U G s ∧ s.heap.size = G.2.2.1 + n0
/-- of a method's entry: the room, and what must come -/
abbrev FF : Type := Nat → Array Value → State → List Frame → Room × (State → Prop)
def wq (G : GG) (F : FF) (mi : MI) (pc : Nat) (L st : List Value) (M : Mw) : Prop :=
  ∀ (n0 : Nat) (p : Program) (e : Env) (s : State) (m : MethodId) (args : Array Value) (below : List Frame) (meth : Method) (c : Code), k_Cx G mi n0 p s m args meth c →
    ∀ (H : Heap) (locs : List Loc) (ls : Array Slot), n0 ≤ M.1 → va_P G.2.1 vwCl (k_ws G M) H → va_S (k_A G) s.heap H locs → k_lq G mi.2.2.1 ls L →
      W p G.1 e (F n0 args s below).1 s m args below meth c H locs (M.1 - n0) (k_cs M.1 - k_cs n0) (F n0 args s below).2 (F0 m pc ls (st.map (k_v G)))
def kF (G : GG) (d : Nat) (mi : MI) (v : Value) (M' : Mw) : FF := fun n0 args s below => (k_rm d (M'.1 - n0) (k_cs M'.1 - k_cs n0), MQ below (k_Q G mi v M') args s (M'.1 - n0) (k_cs M'.1 - k_cs n0) (k_A G))
abbrev Ph : Type := Value → Mw → FF
abbrev Kt (μ : Type) : Type := List Value → List Value → μ → Option (Value × μ)
def Sq {μ : Type} (E : μ → Mw) (G : GG) (Φ : Ph) (mi : MI) (pc : Nat) (K : Kt μ) : Prop :=
  ∀ (L st : List Value) (M : μ) (v : Value) (M' : μ), K L st M = some (v, M') → (E M).1 ≤ (E M').1 ∧ wq G (Φ v (E M')) mi pc L st (E M)
def RS {μ : Type} (E : μ → Mw) (G : GG) (d : Nat) (mi : MI) (R : List Value → μ → Option (Value × μ)) : Prop :=
  ∀ (as : List Value) (M : μ) (v : Value) (M' : μ), R as M = some (v, M') → (E M).1 ≤ (E M').1 ∧ MC G d mi as (E M) v (E M')
theorem sq_none {μ : Type} {E : μ → Mw} {G : GG} {Φ : Ph} {mi : MI} {pc : Nat} : Sq E G Φ mi pc (fun _ _ _ => none) := fun _ _ _ _ _ h => by cases h
/-- a step that moves only the stack -/
theorem wq_go {G : GG} {F : FF} {mi : MI} {pc pc' : Nat} {L st st' : List Value} {M : Mw}
    (hk : wq G F mi pc' L st' M)
    (f : ∀ (p : Program) (l : Launch) (e : Env) (R : Room) (s : State) (m : MethodId) (args : Array Value) (below : List Frame) (meth : Method) (c : Code) (H : Heap) (locs : List Loc) (cells slots : Nat) (Q : State → Prop) (ls : Array Slot) (n0 : Nat), k_Cx G mi n0 p s m args meth c → k_lq G mi.2.2.1 ls L →
      W p l e R s m args below meth c H locs cells slots Q (F0 m pc' ls (st'.map (k_v G))) → W p l e R s m args below meth c H locs cells slots Q (F0 m pc ls (st.map (k_v G)))) : wq G F mi pc L st M := by
  intro n0 p e s m args below meth c hC H locs ls hn hP hS hl
  exact f p G.1 e _ s m args below meth c H locs _ _ _ ls n0 hC hl (hk n0 p e s m args below meth c hC H locs ls hn hP hS hl)
