/-! ===== the world's rows ===== -/
theorem k_sh_lt {k a b : Nat} (h : k_sh k = (a, b)) (ha : a < 9) : k < 65 := by
  rcases Nat.lt_or_ge k 65 with q | q
  · exact q
  · exfalso
    unfold k_sh at h
    rw [List.getD_eq_getElem?_getD, List.getElem?_eq_none (by show k_shl.length ≤ k; exact q)] at h
    cases h
    omega
theorem k_sh_lt0 {k : Nat} (h : (k_sh k).1 < 9) : k < 65 := k_sh_lt (k := k) (a := (k_sh k).1) (b := (k_sh k).2) rfl h
theorem k_ref {G : GG} {k : Nat} (h : k < 900) : k_v G (.ref k) = .ref (G.2.2.1 + k) := by simp [k_v, h]
theorem k_ws_get {G : GG} {M : Mw} {k : Nat} (hk : k < M.1) : (k_ws G M)[k]? = some (G.2.2.1 + k, k_cell G M k) := by
  simp [k_ws, hk]
theorem k_ws_some {G : GG} {M : Mw} {k : Nat} {q : Nat × va_E} (h : (k_ws G M)[k]? = some q) : k < M.1 ∧ q = (G.2.2.1 + k, k_cell G M k) := by
  have hk : k < M.1 := by
    have := (List.getElem?_eq_some_iff.mp h).1
    simpa [k_ws] using this
  rw [k_ws_get hk] at h
  exact ⟨hk, (Option.some.inj h).symm⟩
theorem k_ws_D (G : GG) (M : Mw) : va_D (k_A G) (k_ws G M) := by
  refine ⟨fun i j p q hi hj e => ?_, fun k q hk => ?_⟩
  · obtain ⟨-, rfl⟩ := k_ws_some hi
    obtain ⟨-, rfl⟩ := k_ws_some hj
    simpa using e
  · obtain ⟨-, rfl⟩ := k_ws_some hk
    exact Nat.le_add_right _ _
theorem k_ws_set {G : GG} {M M1 : Mw} {k : Nat} (h1 : M1.1 = M.1) (hk : k < M.1) {x : va_E} (hx : k_cell G M1 k = x) (h : ∀ j, j ≠ k → k_cell G M1 j = k_cell G M j) : (k_ws G M).set k (G.2.2.1 + k, x) = k_ws G M1 := by
  apply List.ext_getElem?
  intro j
  rw [List.getElem?_set]
  by_cases e : k = j
  · subst e
    have hl : k < (k_ws G M).length := by simpa [k_ws] using hk
    rw [if_pos rfl, if_pos hl, k_ws_get (by omega), hx]
  · rw [if_neg e]
    by_cases hj : j < M.1
    · rw [k_ws_get hj, k_ws_get (by omega), h j (fun q => e q.symm)]
    · rw [List.getElem?_eq_none (by simp [k_ws]; omega), List.getElem?_eq_none (by simp [k_ws]; omega)]
theorem k_ws_push {G : GG} {M M1 : Mw} (h1 : M1.1 = M.1 + 1) {x : va_E} (hx : k_cell G M1 M.1 = x) (h : ∀ j, j < M.1 → k_cell G M1 j = k_cell G M j) : k_ws G M ++ [(G.2.2.1 + M.1, x)] = k_ws G M1 := by
  apply List.ext_getElem?
  intro j
  have hl : (k_ws G M).length = M.1 := by simp [k_ws]
  rcases Nat.lt_trichotomy j M.1 with q | q | q
  · rw [List.getElem?_append_left (by omega), k_ws_get q, k_ws_get (by omega), h j q]
  · subst q
    rw [List.getElem?_append_right (by omega), hl, Nat.sub_self, k_ws_get (by omega), hx]
    rfl
  · rw [List.getElem?_append_right (by omega), hl, List.getElem?_eq_none (by simp; omega), List.getElem?_eq_none (by simp [k_ws]; omega)]
/-! the classes -/
theorem k_get {ci : Nat} (h : ci < 8) : vwCl[ci]? = some (k_cl ci) := by
  match ci, h with
  | 0, _ | 1, _ | 2, _ | 3, _ | 4, _ | 5, _ | 6, _ | 7, _ => rfl
theorem k_good_lay (C : String) (T : u_T) (k : Nat) : goodWord (u_lay C T k) = true := by
  unfold u_lay
  split <;> rfl
theorem k_tb_ws {C : String} {T : u_T} {N : Nat} (h : ∀ w ∈ u_ws C T N, w ∈ lw_tbl) : ∀ w ∈ u_ws C T N, w ∈ k_tb := by
  intro w hw
  refine k_tb_mem (h w hw) ?_
  obtain ⟨k, -, rfl⟩ := List.mem_map.mp hw
  exact k_good_lay C T k
theorem k_in {ci : Nat} (h : ci < 8) : ∀ w ∈ u_ws (k_cl ci).1 (k_cl ci).2.1 (k_cl ci).2.2, w ∈ k_tb := by
  match ci, h with
  | 0, _ => exact k_tb_ws inX0
  | 1, _ => exact k_tb_ws inX1
  | 2, _ => exact k_tb_ws inX2
  | 3, _ => exact k_tb_ws inX3
  | 4, _ => exact k_tb_ws inX4
  | 5, _ => exact k_tb_ws inX5
  | 6, _ => exact k_tb_ws inX6
  | 7, _ => exact k_tb_ws inX7
theorem k_tyok {ci : Nat} (h : ci < 8) : ∀ k, k < (k_cl ci).2.2 → parseFieldDescriptor ((k_cl ci).2.1 k).2.2.1 = some (k_ty ci k) := by
  match ci, h with
  | 0, _ => exact tyX0_ok
  | 1, _ => exact tyX1_ok
  | 2, _ => exact tyX2_ok
  | 3, _ => exact tyX3_ok
  | 4, _ => exact tyX4_ok
  | 5, _ => exact tyX5_ok
  | 6, _ => exact tyX6_ok
  | 7, _ => exact tyX7_ok
theorem k_nm {ci : Nat} (h : ci < 8) : ∀ a, a < (k_cl ci).2.2 → ∀ b, b < (k_cl ci).2.2 → a ≠ b → ((k_cl ci).2.1 a).2.1 ≠ ((k_cl ci).2.1 b).2.1 := by
  match ci, h with
  | 0, _ => exact nmX0
  | 1, _ => exact nmX1
  | 2, _ => exact nmX2
  | 3, _ => exact nmX3
  | 4, _ => exact nmX4
  | 5, _ => exact nmX5
  | 6, _ => exact nmX6
  | 7, _ => exact nmX7
/-- a field's link: the class by which it is named, the pool's entry, whose object, which field -/
def k_FL (own : String) (idx ci f : Nat) : Prop := ci < 8 ∧ f < (k_cl ci).2.2 ∧ Cond.fieldLink own idx ((k_cl ci).2.1 f).1 ((k_cl ci).2.1 f).2.1 ((k_cl ci).2.1 f).2.2.1 ∈ lw_tbl
theorem k_FL.tb {own : String} {idx ci f : Nat} (h : k_FL own idx ci f) : Cond.fieldLink own idx ((k_cl ci).2.1 f).1 ((k_cl ci).2.1 f).2.1 ((k_cl ci).2.1 f).2.2.1 ∈ k_tb := k_tb_mem h.2.2 rfl
theorem k_cell_obj {G : GG} {M : Mw} {k ci : Nat} (h : k_sh k = (2, ci)) : k_cell G M k = .inr (ci, k_fs G ci (M.2.1 k) (M.2.2 k)) := by
  simp [k_cell, h]
theorem k_cell_int {G : GG} {M : Mw} {k : Nat} (h : (k_sh k).1 = 0) : k_cell G M k = .inl (G.2.2.2.1, (k_sh k).2, .inl (M.2.1 k)) := by
  simp [k_cell, h]
theorem k_cell_bool {G : GG} {M : Mw} {k : Nat} (h : (k_sh k).1 = 1) : k_cell G M k = .inl (G.2.2.2.2.1, (k_sh k).2, .inl (M.2.1 k)) := by
  simp [k_cell, h]
theorem k_fs_len (G : GG) (ci : Nat) (i : Nat → Int32) (p : Nat → Option Nat) : (k_fs G ci i p).length = (k_cl ci).2.2 := by simp [k_fs]
theorem k_fs_get {G : GG} {ci f : Nat} {i : Nat → Int32} {p : Nat → Option Nat} (h : f < (k_cl ci).2.2) : (k_fs G ci i p)[f]? = some (if k_isr ci f then va_rf ((p f).map (G.2.2.1 + ·)) else .int (i f)) := by
  simp [k_fs, h]
theorem k_fs_seti {G : GG} {ci f : Nat} {i : Nat → Int32} {p : Nat → Option Nat} {x : Int32} (h : f < (k_cl ci).2.2) (hr : k_isr ci f = false) : (k_fs G ci i p).set f (.int x) = k_fs G ci (upd i f x) p := by
  apply List.ext_getElem?
  intro j
  rw [List.getElem?_set]
  by_cases e : f = j
  · subst e
    rw [if_pos rfl, if_pos (by rw [k_fs_len]; exact h), k_fs_get h, hr]
    simp [upd]
  · rw [if_neg e]
    by_cases hj : j < (k_cl ci).2.2
    · rw [k_fs_get hj, k_fs_get hj]
      have e' : j ≠ f := fun q => e q.symm
      simp [upd, e']
    · rw [List.getElem?_eq_none (by rw [k_fs_len]; omega), List.getElem?_eq_none (by rw [k_fs_len]; omega)]
def k_pu (P : Nat → Nat → Option Nat) (k f : Nat) (q : Nat) : Nat → Nat → Option Nat := fun k' f' => if k' = k then (if f' = f then some q else P k' f') else P k' f'
theorem k_fs_setr {G : GG} {ci k f q : Nat} {i : Nat → Int32} {P : Nat → Nat → Option Nat} (h : f < (k_cl ci).2.2) (hr : k_isr ci f = true) : (k_fs G ci i (P k)).set f (.ref (G.2.2.1 + q)) = k_fs G ci i (k_pu P k f q k) := by
  apply List.ext_getElem?
  intro j
  rw [List.getElem?_set]
  by_cases e : f = j
  · subst e
    rw [if_pos rfl, if_pos (by rw [k_fs_len]; exact h), k_fs_get h, hr]
    simp [k_pu, va_rf]
  · rw [if_neg e]
    by_cases hj : j < (k_cl ci).2.2
    · rw [k_fs_get hj, k_fs_get hj]
      have e' : j ≠ f := fun q => e q.symm
      simp [k_pu, e']
    · rw [List.getElem?_eq_none (by rw [k_fs_len]; omega), List.getElem?_eq_none (by rw [k_fs_len]; omega)]
/-- a store into a cell -/
def k_mu (I : Mi) (k j : Nat) (x : Int32) : Mi := fun k' => if k' = k then upd (I k) j x else I k'
theorem k_mu_cell {I : Mi} {k j : Nat} {x : Int32} : k_mu I k j x k = upd (I k) j x := by simp [k_mu]
theorem k_mu_ne {I : Mi} {k j k' : Nat} {x : Int32} (h : k' ≠ k) : k_mu I k j x k' = I k' := by simp [k_mu, h]
theorem k_cell_ne {G : GG} {M M1 : Mw} {j : Nat} (h1 : M1.2.1 j = M.2.1 j) (h2 : M1.2.2 j = M.2.2 j) : k_cell G M1 j = k_cell G M j := by
  simp only [k_cell, h1, h2]
def k_mc (I : Mi) (k0 k1 sp dp n : Nat) : Mi := fun k' => if k' = k1 then va_cpy (I k0) (I k1) sp dp n else I k'
def k_inb (i : Int32) (n : Nat) : Bool := !(decide (i < 0) || decide (n ≤ i.toNatClampNeg))
theorem k_inb_in {i : Int32} {n : Nat} (h : k_inb i n = true) : vp_in i n := by
  intro q
  simp only [k_inb, Bool.not_eq_true', Bool.or_eq_false_iff, decide_eq_false_iff_not] at h
  rcases q with q | q
  · exact h.1 q
  · exact h.2 q
theorem k_inb_nI {j n : Nat} (h : j < n) (hn : n < 2 ^ 31) : k_inb (nI j) n = true := by
  simp only [k_inb, Bool.not_eq_true', Bool.or_eq_false_iff, decide_eq_false_iff_not]
  exact ⟨nI_pos (by omega), by rw [nI_clamp (by omega)]; omega⟩
section Mem
variable {G : GG} {F : FF} {mi : MI} {pc : Nat} {L st : List Value} {M : Mw} {k f ci idx : Nat}
theorem wq_geti (hd : decode mi.2.1 pc = .ok (.getfield idx, 3)) (hF : k_FL mi.1.cls idx ci f) (hr : k_isr ci f = false) (hk : k < M.1) (hs : k_sh k = (2, ci)) (h : wq G F mi (pc + 3) L (.int (M.2.1 k f) :: st) M) : wq G F mi pc L (.ref k :: st) M := by
  intro n0 p e s m args below meth c hC H locs ls hn hP hS hl
  obtain ⟨hx, hb, hrt, hml, hown, hts, hlk, hnm, hU, hsz⟩ := id hC
  have hk9 : k < 900 := by have := k_sh_lt hs (by omega); omega
  rw [List.map_cons, k_ref hk9]
  refine va_get (D := G.2.1) (ci := ci) (v := .int (M.2.1 k f)) (C := (k_cl ci).1) (T := (k_cl ci).2.1) (N := (k_cl ci).2.2) (fs := k_fs G ci (M.2.1 k) (M.2.2 k)) hx hb hts (k_in hF.1) hown hU.1 hP k ?_ (k_get hF.1) f hF.2.1 (hts _ hF.tb) (fun _ h => h) ?_ hd (h n0 p e s m args below meth c hC H locs ls hn hP hS hl)
  · rw [k_ws_get hk, k_cell_obj hs]
  · rw [k_fs_get hF.2.1, hr]; rfl
theorem wq_getr {q : Nat} (hd : decode mi.2.1 pc = .ok (.getfield idx, 3)) (hF : k_FL mi.1.cls idx ci f) (hr : k_isr ci f = true) (hk : k < M.1) (hs : k_sh k = (2, ci)) (hp : M.2.2 k f = some q) (hq : q < 900) (h : wq G F mi (pc + 3) L (.ref q :: st) M) : wq G F mi pc L (.ref k :: st) M := by
  intro n0 p e s m args below meth c hC H locs ls hn hP hS hl
  obtain ⟨hx, hb, hrt, hml, hown, hts, hlk, hnm, hU, hsz⟩ := id hC
  have hk9 : k < 900 := by have := k_sh_lt hs (by omega); omega
  have h := h n0 p e s m args below meth c hC H locs ls hn hP hS hl
  rw [List.map_cons, k_ref hq] at h
  rw [List.map_cons, k_ref hk9]
  refine va_get (D := G.2.1) (ci := ci) (v := .ref (G.2.2.1 + q)) (C := (k_cl ci).1) (T := (k_cl ci).2.1) (N := (k_cl ci).2.2) (fs := k_fs G ci (M.2.1 k) (M.2.2 k)) hx hb hts (k_in hF.1) hown hU.1 hP k ?_ (k_get hF.1) f hF.2.1 (hts _ hF.tb) (fun _ h => h) ?_ hd h
  · rw [k_ws_get hk, k_cell_obj hs]
  · rw [k_fs_get hF.2.1, hr, hp]; rfl
theorem wq_puti {x : Int32} (hd : decode mi.2.1 pc = .ok (.putfield idx, 3)) (hF : k_FL mi.1.cls idx ci f) (hr : k_isr ci f = false) (hfin : ((k_cl ci).2.1 f).2.2.2 = false) (hx0 : narrow (k_ty ci f) (.int x) = .int x) (hx1 : fits (k_ty ci f) (.int x) = true) (hk : k < M.1) (hs : k_sh k = (2, ci)) (h : wq G F mi (pc + 3) L st (M.1, k_mu M.2.1 k f x, M.2.2)) : wq G F mi pc L (.int x :: .ref k :: st) M := by
  intro n0 p e s m args below meth c hC H locs ls hn hP hS hl
  obtain ⟨hx, hb, hrt, hml, hown, hts, hlk, hnm, hU, hsz⟩ := id hC
  have hk9 : k < 900 := by have := k_sh_lt hs (by omega); omega
  rw [List.map_cons, List.map_cons, k_ref hk9]
  have he : (k_ws G M)[k]? = some (G.2.2.1 + k, .inr (ci, k_fs G ci (M.2.1 k) (M.2.2 k))) := by rw [k_ws_get hk, k_cell_obj hs]
  have e1 : (k_ws G M).set k (G.2.2.1 + k, .inr (ci, (k_fs G ci (M.2.1 k) (M.2.2 k)).set f (.int x))) = k_ws G (M.1, k_mu M.2.1 k f x, M.2.2) := by
    refine k_ws_set (M := M) (M1 := (M.1, k_mu M.2.1 k f x, M.2.2)) rfl hk ?_ (fun j hj => k_cell_ne (k_mu_ne hj) rfl)
    rw [k_cell_obj hs, k_fs_seti hF.2.1 hr]
    show Sum.inr (ci, k_fs G ci (k_mu M.2.1 k f x k) (M.2.2 k)) = _
    rw [k_mu_cell]
  refine va_put (D := G.2.1) (ci := ci) (v := .int x) (ty := k_ty ci f) (C := (k_cl ci).1) (T := (k_cl ci).2.1) (N := (k_cl ci).2.2) (fs := k_fs G ci (M.2.1 k) (M.2.2 k)) hx hb hts (k_in hF.1) (k_ty ci) (k_tyok hF.1) (k_nm hF.1) hown hU.1 hP (k_ws_D G M) hS k he (k_get hF.1) f hF.2.1 (hts _ hF.tb) (fun _ h => h) hfin (k_tyok hF.1 f hF.2.1) hx0 hx1 (by rw [k_fs_len]; exact hF.2.1) hd (fun H1 locs1 hP1 _ hS1 => ?_)
  rw [e1] at hP1
  exact h n0 p e s m args below meth c hC H1 locs1 ls hn hP1 hS1 hl
theorem wq_putr {q : Nat} (hd : decode mi.2.1 pc = .ok (.putfield idx, 3)) (hF : k_FL mi.1.cls idx ci f) (hr : k_isr ci f = true) (hfin : ((k_cl ci).2.1 f).2.2.2 = true) (hdec : ((k_cl ci).2.1 f).1 = mi.1.cls) (hin2 : mi.1.name = "<init>") (hx0 : ∀ a, narrow (k_ty ci f) (.ref a) = .ref a) (hx1 : ∀ a, fits (k_ty ci f) (.ref a) = true) (hk : k < M.1) (hs : k_sh k = (2, ci)) (hq : q < 900) (h : wq G F mi (pc + 3) L st (M.1, M.2.1, k_pu M.2.2 k f q)) : wq G F mi pc L (.ref q :: .ref k :: st) M := by
  intro n0 p e s m args below meth c hC H locs ls hn hP hS hl
  obtain ⟨hx, hb, hrt, hml, hown, hts, hlk, hnm, hU, hsz⟩ := id hC
  have hk9 : k < 900 := by have := k_sh_lt hs (by omega); omega
  rw [List.map_cons, List.map_cons, k_ref hk9, k_ref hq]
  have he : (k_ws G M)[k]? = some (G.2.2.1 + k, .inr (ci, k_fs G ci (M.2.1 k) (M.2.2 k))) := by rw [k_ws_get hk, k_cell_obj hs]
  have e1 : (k_ws G M).set k (G.2.2.1 + k, .inr (ci, (k_fs G ci (M.2.1 k) (M.2.2 k)).set f (.ref (G.2.2.1 + q)))) = k_ws G (M.1, M.2.1, k_pu M.2.2 k f q) := by
    refine k_ws_set (M := M) (M1 := (M.1, M.2.1, k_pu M.2.2 k f q)) rfl hk ?_ (fun j hj => k_cell_ne rfl (funext fun z => if_neg hj))
    rw [k_cell_obj hs, k_fs_setr hF.2.1 hr]
  refine va_putF (D := G.2.1) (ci := ci) (v := .ref (G.2.2.1 + q)) (ty := k_ty ci f) (C := (k_cl ci).1) (T := (k_cl ci).2.1) (N := (k_cl ci).2.2) (fs := k_fs G ci (M.2.1 k) (M.2.2 k)) hx hb hts (k_in hF.1) (k_ty ci) (k_tyok hF.1) (k_nm hF.1) hown hU.1 hP (k_ws_D G M) hS k he (k_get hF.1) f hF.2.1 (hts _ hF.tb) (fun _ h => h) hfin (hnm.trans hin2) hdec (k_tyok hF.1 f hF.2.1) (hx0 _) (hx1 _) (by rw [k_fs_len]; exact hF.2.1) hd (fun H1 locs1 hP1 _ hS1 => ?_)
  rw [e1] at hP1
  exact h n0 p e s m args below meth c hC H1 locs1 ls hn hP1 hS1 hl
theorem wq_iald {i : Int32} (hd : decode mi.2.1 pc = .ok (.iaload, 1)) (hk : k < M.1) (hs : (k_sh k).1 = 0) (hi : vp_in i (k_sh k).2) (h : wq G F mi (pc + 1) L (.int (M.2.1 k i.toNatClampNeg) :: st) M) : wq G F mi pc L (.int i :: .ref k :: st) M := by
  intro n0 p e s m args below meth c hC H locs ls hn hP hS hl
  obtain ⟨hx, hb, hrt, hml, hown, hts, hlk, hnm, hU, hsz⟩ := id hC
  have hk9 : k < 900 := by have := k_sh_lt0 (k := k) (by omega); omega
  rw [List.map_cons, List.map_cons, k_ref hk9]
  exact va_iald (D := G.2.1) hx hb hU.1 hP k 0 (by rw [k_ws_get hk, k_cell_int hs]) rfl hi hd (h n0 p e s m args below meth c hC H locs ls hn hP hS hl)
theorem wq_zald {i : Int32} (hd : decode mi.2.1 pc = .ok (.baload, 1)) (hk : k < M.1) (hs : (k_sh k).1 = 1) (hi : vp_in i (k_sh k).2) (h : wq G F mi (pc + 1) L (.int (M.2.1 k i.toNatClampNeg) :: st) M) : wq G F mi pc L (.int i :: .ref k :: st) M := by
  intro n0 p e s m args below meth c hC H locs ls hn hP hS hl
  obtain ⟨hx, hb, hrt, hml, hown, hts, hlk, hnm, hU, hsz⟩ := id hC
  have hk9 : k < 900 := by have := k_sh_lt0 (k := k) (by omega); omega
  rw [List.map_cons, List.map_cons, k_ref hk9]
  exact va_zald (D := G.2.1) hx hb hU.1 hP k 1 (by rw [k_ws_get hk, k_cell_bool hs]) rfl hi hd (h n0 p e s m args below meth c hC H locs ls hn hP hS hl)
theorem wq_iast {i x : Int32} (hd : decode mi.2.1 pc = .ok (.iastore, 1)) (hk : k < M.1) (hs : (k_sh k).1 = 0) (hi : vp_in i (k_sh k).2) (h : wq G F mi (pc + 1) L st (M.1, k_mu M.2.1 k i.toNatClampNeg x, M.2.2)) : wq G F mi pc L (.int x :: .int i :: .ref k :: st) M := by
  intro n0 p e s m args below meth c hC H locs ls hn hP hS hl
  obtain ⟨hx, hb, hrt, hml, hown, hts, hlk, hnm, hU, hsz⟩ := id hC
  have hk9 : k < 900 := by have := k_sh_lt0 (k := k) (by omega); omega
  rw [List.map_cons, List.map_cons, List.map_cons, k_ref hk9]
  have e1 : (k_ws G M).set k (G.2.2.1 + k, .inl (G.2.2.2.1, (k_sh k).2, .inl (upd (M.2.1 k) i.toNatClampNeg x))) = k_ws G (M.1, k_mu M.2.1 k i.toNatClampNeg x, M.2.2) := by
    refine k_ws_set (M := M) (M1 := (M.1, k_mu M.2.1 k i.toNatClampNeg x, M.2.2)) rfl hk ?_ (fun j hj => k_cell_ne (k_mu_ne hj) rfl)
    rw [k_cell_int hs]
    show Sum.inl (_, _, Sum.inl (k_mu M.2.1 k _ x k)) = _
    rw [k_mu_cell]
  refine va_iast (D := G.2.1) hx hb hU.1 hP (k_ws_D G M) hS k 0 (by rw [k_ws_get hk, k_cell_int hs]) rfl hi hd (fun H1 locs1 hP1 _ hS1 => ?_)
  rw [e1] at hP1
  exact h n0 p e s m args below meth c hC H1 locs1 ls hn hP1 hS1 hl
theorem wq_zast {i x : Int32} (hd : decode mi.2.1 pc = .ok (.bastore, 1)) (hk : k < M.1) (hs : (k_sh k).1 = 1) (hi : vp_in i (k_sh k).2) (hx0 : x = 0 ∨ x = 1) (h : wq G F mi (pc + 1) L st (M.1, k_mu M.2.1 k i.toNatClampNeg x, M.2.2)) : wq G F mi pc L (.int x :: .int i :: .ref k :: st) M := by
  intro n0 p e s m args below meth c hC H locs ls hn hP hS hl
  obtain ⟨hx, hb, hrt, hml, hown, hts, hlk, hnm, hU, hsz⟩ := id hC
  have hk9 : k < 900 := by have := k_sh_lt0 (k := k) (by omega); omega
  rw [List.map_cons, List.map_cons, List.map_cons, k_ref hk9]
  have e0 : vp_nar .boolean x = x := by rcases hx0 with rfl | rfl <;> decide +kernel
  have e1 : (k_ws G M).set k (G.2.2.1 + k, .inl (G.2.2.2.2.1, (k_sh k).2, .inl (upd (M.2.1 k) i.toNatClampNeg x))) = k_ws G (M.1, k_mu M.2.1 k i.toNatClampNeg x, M.2.2) := by
    refine k_ws_set (M := M) (M1 := (M.1, k_mu M.2.1 k i.toNatClampNeg x, M.2.2)) rfl hk ?_ (fun j hj => k_cell_ne (k_mu_ne hj) rfl)
    rw [k_cell_bool hs]
    show Sum.inl (_, _, Sum.inl (k_mu M.2.1 k _ x k)) = _
    rw [k_mu_cell]
  refine va_zast (D := G.2.1) hx hb hU.1 hP (k_ws_D G M) hS k 1 (by rw [k_ws_get hk, k_cell_bool hs]) rfl hi hd (fun H1 locs1 hP1 _ hS1 => ?_)
  rw [e0, e1] at hP1
  exact h n0 p e s m args below meth c hC H1 locs1 ls hn hP1 hS1 hl
theorem wq_alen (hd : decode mi.2.1 pc = .ok (.arraylength, 1)) (hk : k < M.1) (hs : (k_sh k).1 = 0) (h : wq G F mi (pc + 1) L (.int (nI (k_sh k).2) :: st) M) : wq G F mi pc L (.ref k :: st) M := by
  intro n0 p e s m args below meth c hC H locs ls hn hP hS hl
  obtain ⟨hx, hb, hrt, hml, hown, hts, hlk, hnm, hU, hsz⟩ := id hC
  have hk9 : k < 900 := by have := k_sh_lt0 (k := k) (by omega); omega
  rw [List.map_cons, k_ref hk9]
  exact va_alen (D := G.2.1) (x := ((k_sh k).2, .inl (M.2.1 k))) (v := nI (k_sh k).2) hx hb hU.1 hP k 0 (by rw [k_ws_get hk, k_cell_int hs]) rfl rfl hd (h n0 p e s m args below meth c hC H locs ls hn hP hS hl)
end Mem
