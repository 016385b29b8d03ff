/-! ===== instructions as functions, and that the machine does what they say ===== -/
section Ops
variable {μ : Type}
def o_const (x : Int32) (K : Kt μ) : Kt μ := fun L st M => K L (.int x :: st) M
def o_lconst (x : Int64) (K : Kt μ) : Kt μ := fun L st M => K L (.long x :: st) M
def o_iload (k : Nat) (K : Kt μ) : Kt μ := fun L st M => match L[k]? with
  | some (.int x) => K L (.int x :: st) M
  | _ => none
def o_lload (k : Nat) (K : Kt μ) : Kt μ := fun L st M => match L[k]? with
  | some (.long x) => K L (.long x :: st) M
  | _ => none
def o_aload (k : Nat) (K : Kt μ) : Kt μ := fun L st M => match L[k]? with
  | some (.ref x) => K L (.ref x :: st) M
  | _ => none
def o_istore (k : Nat) (K : Kt μ) : Kt μ := fun L st M => match st with
  | .int x :: st => (match k_sto L k (.int x) with
    | some L' => K L' st M
    | none => none)
  | _ => none
def o_astore (k : Nat) (K : Kt μ) : Kt μ := fun L st M => match st with
  | .ref x :: st => (match k_sto L k (.ref x) with
    | some L' => K L' st M
    | none => none)
  | _ => none
def o_lstore (k : Nat) (K : Kt μ) : Kt μ := fun L st M => match st with
  | .long x :: st => (match k_sto2 L k (.long x) with
    | some L' => K L' st M
    | none => none)
  | _ => none
def o_iinc (k : Nat) (n : Int32) (K : Kt μ) : Kt μ := fun L st M => match L[k]? with
  | some (.int x) => (match k_sto L k (.int (x + n)) with
    | some L' => K L' st M
    | none => none)
  | _ => none
/-- two ints to one -/
def o_bin (g : Int32 → Int32 → Int32) (K : Kt μ) : Kt μ := fun L st M => match st with
  | .int y :: .int x :: st => K L (.int (g x y) :: st) M
  | _ => none
def o_div (g : Int32 → Int32 → Int32) (K : Kt μ) : Kt μ := fun L st M => match st with
  | .int y :: .int x :: st => if y = 0 then none else K L (.int (g x y) :: st) M
  | _ => none
def o_un (g : Int32 → Int32) (K : Kt μ) : Kt μ := fun L st M => match st with
  | .int x :: st => K L (.int (g x) :: st) M
  | _ => none
def o_i2l (K : Kt μ) : Kt μ := fun L st M => match st with
  | .int x :: st => K L (.long x.toInt64 :: st) M
  | _ => none
def o_lor (K : Kt μ) : Kt μ := fun L st M => match st with
  | .long y :: .long x :: st => K L (.long (x ||| y) :: st) M
  | _ => none
def o_lshl (K : Kt μ) : Kt μ := fun L st M => match st with
  | .int y :: .long x :: st => K L (.long (x <<< (y.toInt64 &&& 63)) :: st) M
  | _ => none
def o_lcmp (K : Kt μ) : Kt μ := fun L st M => match st with
  | .long y :: .long x :: st => K L (.int (lg_cmp x y) :: st) M
  | _ => none
def o_dup (K : Kt μ) : Kt μ := fun L st M => match st with
  | .int x :: st => K L (.int x :: .int x :: st) M
  | .ref x :: st => K L (.ref x :: .ref x :: st) M
  | _ => none
def o_dup_x1 (K : Kt μ) : Kt μ := fun L st M => match st with
  | .int x :: .ref y :: st => K L (.int x :: .ref y :: .int x :: st) M
  | _ => none
def o_dup2 (K : Kt μ) : Kt μ := fun L st M => match st with
  | .int x :: .ref y :: st => K L (.int x :: .ref y :: .int x :: .ref y :: st) M
  | _ => none
/-- branches -/
def o_if0 (P : Int32 → Bool) (KT KF : Kt μ) : Kt μ := fun L st M => match st with
  | .int x :: st => if P x = true then KT L st M else KF L st M
  | _ => none
def o_ifeq (KT KF : Kt μ) : Kt μ := fun L st M => match st with
  | .int x :: st => if x = 0 then KT L st M else KF L st M
  | _ => none
def o_iflt (KT KF : Kt μ) : Kt μ := fun L st M => match st with
  | .int x :: st => if x < 0 then KT L st M else KF L st M
  | _ => none
def o_ifge (KT KF : Kt μ) : Kt μ := fun L st M => match st with
  | .int x :: st => if 0 ≤ x then KT L st M else KF L st M
  | _ => none
def o_ifgt (KT KF : Kt μ) : Kt μ := fun L st M => match st with
  | .int x :: st => if 0 < x then KT L st M else KF L st M
  | _ => none
def o_ifle (KT KF : Kt μ) : Kt μ := fun L st M => match st with
  | .int x :: st => if x ≤ 0 then KT L st M else KF L st M
  | _ => none
def o_ceq (KT KF : Kt μ) : Kt μ := fun L st M => match st with
  | .int y :: .int x :: st => if x = y then KT L st M else KF L st M
  | _ => none
def o_clt (KT KF : Kt μ) : Kt μ := fun L st M => match st with
  | .int y :: .int x :: st => if x < y then KT L st M else KF L st M
  | _ => none
def o_cge (KT KF : Kt μ) : Kt μ := fun L st M => match st with
  | .int y :: .int x :: st => if y ≤ x then KT L st M else KF L st M
  | _ => none
def o_cgt (KT KF : Kt μ) : Kt μ := fun L st M => match st with
  | .int y :: .int x :: st => if y < x then KT L st M else KF L st M
  | _ => none
def o_cle (KT KF : Kt μ) : Kt μ := fun L st M => match st with
  | .int y :: .int x :: st => if x ≤ y then KT L st M else KF L st M
  | _ => none
def k_pick (x : Int32) : List (Int32 × Kt μ) → Kt μ → Kt μ
  | [], Kd => fun L st M => Kd L st M
  | q :: r, Kd => fun L st M => if x = q.1 then q.2 L st M else k_pick x r Kd L st M
def o_sw (cs : List (Int32 × Kt μ)) (Kd : Kt μ) : Kt μ := fun L st M => match st with
  | .int x :: st => k_pick x cs Kd L st M
  | _ => none
/-- ends -/
def o_ret : Kt μ := fun _ st M => match st with
  | [] => some (.null, M)
  | _ => none
def o_iret : Kt μ := fun _ st M => match st with
  | [.int x] => some (.int x, M)
  | _ => none
def o_zret : Kt μ := fun _ st M => match st with
  | [.int x] => if x = 0 ∨ x = 1 then some (.int x, M) else none
  | _ => none
def o_lret : Kt μ := fun _ st M => match st with
  | [.long x] => some (.long x, M)
  | _ => none
def o_aret : Kt μ := fun _ st M => match st with
  | [.ref x] => some (.ref x, M)
  | _ => none
/-- calls -/
def k_pop : Nat → List Value → List Value → Option (List Value × List Value)
  | 0, as, st => some (as, st)
  | _ + 1, _, [] => none
  | n + 1, as, a :: st => k_pop n (a :: as) st
def k_push (rt : Bool) (v : Value) (st : List Value) : List Value := if rt then v :: st else st
def o_call (n : Nat) (R : List Value → μ → Option (Value × μ)) (rt : Bool) (K : Kt μ) : Kt μ := fun L st M => match k_pop n [] st with
  | some (as, rest) => if rest.length ≤ 4 then (match R as M with
    | some (v, M1) => K L (k_push rt v rest) M1
    | none => none) else none
  | none => none
def o_callV (ci n : Nat) (R : List Value → Mi → Option (Value × Mi)) (rt : Bool) (K : Kt Mi) : Kt Mi := fun L st M => match k_pop n [] st with
  | some (.ref k :: as, rest) => if k_sh k = (2, ci) ∧ rest.length ≤ 4 then (match R (.ref k :: as) M with
    | some (v, M1) => K L (k_push rt v rest) M1
    | none => none) else none
  | _ => none
/-- the cells -/
def o_geti (ci f : Nat) (K : Kt Mi) : Kt Mi := fun L st M => match st with
  | .ref k :: st => if k_sh k = (2, ci) then K L (.int (M k f) :: st) M else none
  | _ => none
def o_getr (ci off : Nat) (K : Kt Mi) : Kt Mi := fun L st M => match st with
  | .ref k :: st => if k_sh k = (2, ci) then K L (.ref (k + off) :: st) M else none
  | _ => none
def o_puti (ci f : Nat) (K : Kt Mi) : Kt Mi := fun L st M => match st with
  | .int x :: .ref k :: st => if k_sh k = (2, ci) then K L st (k_mu M k f x) else none
  | _ => none
def o_putz (ci f : Nat) (K : Kt Mi) : Kt Mi := fun L st M => match st with
  | .int x :: .ref k :: st => if k_sh k = (2, ci) ∧ (x = 0 ∨ x = 1) then K L st (k_mu M k f x) else none
  | _ => none
def o_iald (K : Kt Mi) : Kt Mi := fun L st M => match st with
  | .int i :: .ref k :: st => if (k_sh k).1 = 0 ∧ k_inb i (k_sh k).2 = true then K L (.int (M k i.toNatClampNeg) :: st) M else none
  | _ => none
def o_iast (K : Kt Mi) : Kt Mi := fun L st M => match st with
  | .int x :: .int i :: .ref k :: st => if (k_sh k).1 = 0 ∧ k_inb i (k_sh k).2 = true then K L st (k_mu M k i.toNatClampNeg x) else none
  | _ => none
def o_zald (K : Kt Mi) : Kt Mi := fun L st M => match st with
  | .int i :: .ref k :: st => if (k_sh k).1 = 1 ∧ k_inb i (k_sh k).2 = true then K L (.int (M k i.toNatClampNeg) :: st) M else none
  | _ => none
def o_zast (K : Kt Mi) : Kt Mi := fun L st M => match st with
  | .int x :: .int i :: .ref k :: st => if (k_sh k).1 = 1 ∧ k_inb i (k_sh k).2 = true ∧ (x = 0 ∨ x = 1) then K L st (k_mu M k i.toNatClampNeg x) else none
  | _ => none
def o_alen (K : Kt Mi) : Kt Mi := fun L st M => match st with
  | .ref k :: st => if (k_sh k).1 = 0 then K L (.int (nI (k_sh k).2) :: st) M else none
  | _ => none
def o_copy (K : Kt Mi) : Kt Mi := fun L st M => match st with
  | .int n :: .int dp :: .ref k1 :: .int sp :: .ref k0 :: st => if (k_sh k0).1 = 0 ∧ (k_sh k1).1 = 0 ∧ ¬ sp < 0 ∧ ¬ dp < 0 ∧ ¬ n < 0 ∧ sp.toNatClampNeg + n.toNatClampNeg ≤ (k_sh k0).2 ∧ dp.toNatClampNeg + n.toNatClampNeg ≤ (k_sh k1).2 ∧ st.length ≤ 4 then K L st (k_mc M k0 k1 sp.toNatClampNeg dp.toNatClampNeg n.toNatClampNeg) else none
  | _ => none
def o_gets (j : Nat) (K : Kt Mi) : Kt Mi := fun L st M => K L (.ref (1000 + j) :: st) M
def o_sald (K : Kt Mi) : Kt Mi := fun L st M => match st with
  | .int i :: .ref k :: st => if 1000 ≤ k ∧ k < 1003 ∧ k_inb i 6 = true then K L (.int (k_st (k - 1000) i.toNatClampNeg) :: st) M else none
  | _ => none
def o_salen (K : Kt Mi) : Kt Mi := fun L st M => match st with
  | .ref k :: st => if 1000 ≤ k ∧ k < 1003 then K L (.int (nI 6) :: st) M else none
  | _ => none
/-- while the cells are made -/
def c_putr (ci f : Nat) (K : Kt Mw) : Kt Mw := fun L st M => match st with
  | .ref q :: .ref k :: st => if k < M.1 ∧ k_sh k = (2, ci) ∧ q < 900 then K L st (M.1, M.2.1, k_pu M.2.2 k f q) else none
  | _ => none
def c_puti (ci f : Nat) (K : Kt Mw) : Kt Mw := fun L st M => match st with
  | .int x :: .ref k :: st => if k < M.1 ∧ k_sh k = (2, ci) then K L st (M.1, k_mu M.2.1 k f x, M.2.2) else none
  | _ => none
def c_putz (ci f : Nat) (K : Kt Mw) : Kt Mw := fun L st M => match st with
  | .int x :: .ref k :: st => if k < M.1 ∧ k_sh k = (2, ci) ∧ (x = 0 ∨ x = 1) then K L st (M.1, k_mu M.2.1 k f x, M.2.2) else none
  | _ => none
def c_getr (ci f : Nat) (K : Kt Mw) : Kt Mw := fun L st M => match st with
  | .ref k :: st => if k < M.1 ∧ k_sh k = (2, ci) then (match M.2.2 k f with
    | some q => if q < 900 then K L (.ref q :: st) M else none
    | none => none) else none
  | _ => none
def c_iast (K : Kt Mw) : Kt Mw := fun L st M => match st with
  | .int x :: .int i :: .ref k :: st => if k < M.1 ∧ (k_sh k).1 = 0 ∧ k_inb i (k_sh k).2 = true then K L st (M.1, k_mu M.2.1 k i.toNatClampNeg x, M.2.2) else none
  | _ => none
/-- one cell more: zeros, nulls -/
def k_grow (M : Mw) : Mw := (M.1 + 1, (fun k => if k = M.1 then (fun _ => 0) else M.2.1 k), fun k => if k = M.1 then (fun _ => none) else M.2.2 k)
def c_new (ci : Nat) (K : Kt Mw) : Kt Mw := fun L st M => if k_sh M.1 = (2, ci) then K L (.ref M.1 :: st) (k_grow M) else none
def c_newi (K : Kt Mw) : Kt Mw := fun L st M => match st with
  | .int n :: st => if k_sh M.1 = (0, n.toNatClampNeg) ∧ ¬ n < 0 then K L (.ref M.1 :: st) (k_grow M) else none
  | _ => none
def c_newz (K : Kt Mw) : Kt Mw := fun L st M => match st with
  | .int n :: st => if k_sh M.1 = (1, n.toNatClampNeg) ∧ ¬ n < 0 then K L (.ref M.1 :: st) (k_grow M) else none
  | _ => none
def c_obj (K : Kt Mw) : Kt Mw := fun L st M => match st with
  | .ref _ :: st => if st.length ≤ 4 then K L st M else none
  | _ => none
end Ops
section Snd
variable {μ : Type} {E : μ → Mw} {G : GG} {Φ : Ph} {mi : MI} {pc : Nat} {K : Kt μ}
theorem sq_iconst {n : Int} {x : Int32} (hd : decode mi.2.1 pc = .ok (.iconst n, 1)) (hv : Int32.ofInt n = x) (hk : Sq E G Φ mi (pc + 1) K) : Sq E G Φ mi pc (o_const x K) := by
  intro L st M v M' h
  obtain ⟨hm, hw⟩ := hk _ _ _ _ _ h
  exact ⟨hm, wq_go hw fun p l e R s m args below meth c H locs cells slots Q ls n0 hC hl k => lv_iconst hC.1 hC.2.1 hd hv k⟩
theorem sq_bipush {n : Int} {x : Int32} (hd : decode mi.2.1 pc = .ok (.bipush n, 2)) (hv : (Int8.ofInt n).toInt32 = x) (hk : Sq E G Φ mi (pc + 2) K) : Sq E G Φ mi pc (o_const x K) := by
  intro L st M v M' h
  obtain ⟨hm, hw⟩ := hk _ _ _ _ _ h
  exact ⟨hm, wq_go hw fun p l e R s m args below meth c H locs cells slots Q ls n0 hC hl k => lv_bipush hC.1 hC.2.1 hd hv k⟩
theorem sq_sipush {n : Int} {x : Int32} (hd : decode mi.2.1 pc = .ok (.sipush n, 3)) (hv : (Int16.ofInt n).toInt32 = x) (hk : Sq E G Φ mi (pc + 3) K) : Sq E G Φ mi pc (o_const x K) := by
  intro L st M v M' h
  obtain ⟨hm, hw⟩ := hk _ _ _ _ _ h
  exact ⟨hm, wq_go hw fun p l e R s m args below meth c H locs cells slots Q ls n0 hC hl k => lv_sipush hC.1 hC.2.1 hd hv k⟩
theorem sq_ldc {idx : Nat} {x : Int32} (hd : decode mi.2.1 pc = .ok (.ldc idx, 2)) (hc : Cond.constant mi.1.cls idx x ∈ lw_tbl) (hk : Sq E G Φ mi (pc + 2) K) : Sq E G Φ mi pc (o_const x K) := by
  intro L st M v M' h
  obtain ⟨hm, hw⟩ := hk _ _ _ _ _ h
  exact ⟨hm, wq_go hw fun p l e R s m args below meth c H locs cells slots Q ls n0 hC hl k => lv_ldc hC.1 hC.2.1 hC.2.2.2.2.1 (hC.2.2.2.2.2.1 _ (k_tb_mem hc rfl)) hd k⟩
theorem sq_ldcw {idx : Nat} {x : Int32} (hd : decode mi.2.1 pc = .ok (.ldc_w idx, 3)) (hc : Cond.constant mi.1.cls idx x ∈ lw_tbl) (hk : Sq E G Φ mi (pc + 3) K) : Sq E G Φ mi pc (o_const x K) := by
  intro L st M v M' h
  obtain ⟨hm, hw⟩ := hk _ _ _ _ _ h
  exact ⟨hm, wq_go hw fun p l e R s m args below meth c H locs cells slots Q ls n0 hC hl k => lv_ldcw hC.1 hC.2.1 hC.2.2.2.2.1 (hC.2.2.2.2.2.1 _ (k_tb_mem hc rfl)) hd k⟩
theorem sq_ldc2 {idx : Nat} {x : Int64} (hd : decode mi.2.1 pc = .ok (.ldc2_w idx, 3)) (hc : Cond.constantLong mi.1.cls idx x ∈ lw_tbl) (hk : Sq E G Φ mi (pc + 3) K) : Sq E G Φ mi pc (o_lconst x K) := by
  intro L st M v M' h
  obtain ⟨hm, hw⟩ := hk _ _ _ _ _ h
  exact ⟨hm, wq_go hw fun p l e R s m args below meth c H locs cells slots Q ls n0 hC hl k => lv_ldc2 hC.1 hC.2.1 hC.2.2.2.2.1 (hC.2.2.2.2.2.1 _ (k_tb_mem hc rfl)) hd k⟩
theorem sq_lconst {n : Fin 2} {x : Int64} (hd : decode mi.2.1 pc = .ok (.lconst n, 1)) (hv : Int64.ofNat (n : Nat) = x) (hk : Sq E G Φ mi (pc + 1) K) : Sq E G Φ mi pc (o_lconst x K) := by
  intro L st M v M' h
  obtain ⟨hm, hw⟩ := hk _ _ _ _ _ h
  exact ⟨hm, wq_go hw fun p l e R s m args below meth c H locs cells slots Q ls n0 hC hl k => lv_lconst hC.1 hC.2.1 hd hv k⟩
theorem sq_iload {i : Nat} (hd : decode mi.2.1 pc = .ok (.iload i, 2)) (hk : Sq E G Φ mi (pc + 2) K) : Sq E G Φ mi pc (o_iload i K) := by
  intro L st M v M' h
  unfold o_iload at h
  split at h
  · next x hx =>
    obtain ⟨hm, hw⟩ := hk _ _ _ _ _ h
    exact ⟨hm, wq_go hw fun p l e R s m args below meth c H locs cells slots Q ls n0 hC hl k => lv_iload hC.1 hC.2.1 hd (k_lq_at hl hx rfl) k⟩
  · cases h
theorem sq_iload_n {j : Fin 4} {i : Nat} (hd : decode mi.2.1 pc = .ok (.iload_n j, 1)) (hi : (j : Nat) = i) (hk : Sq E G Φ mi (pc + 1) K) : Sq E G Φ mi pc (o_iload i K) := by
  intro L st M v M' h
  unfold o_iload at h
  split at h
  · next x hx =>
    obtain ⟨hm, hw⟩ := hk _ _ _ _ _ h
    exact ⟨hm, wq_go hw fun p l e R s m args below meth c H locs cells slots Q ls n0 hC hl k => lv_iload_n hC.1 hC.2.1 hd hi (k_lq_at hl hx rfl) k⟩
  · cases h
theorem sq_lload {i : Nat} (hd : decode mi.2.1 pc = .ok (.lload i, 2)) (hk : Sq E G Φ mi (pc + 2) K) : Sq E G Φ mi pc (o_lload i K) := by
  intro L st M v M' h
  unfold o_lload at h
  split at h
  · next x hx =>
    obtain ⟨hm, hw⟩ := hk _ _ _ _ _ h
    exact ⟨hm, wq_go hw fun p l e R s m args below meth c H locs cells slots Q ls n0 hC hl k => lv_lload hC.1 hC.2.1 hd (k_lq_at hl hx rfl) k⟩
  · cases h
theorem sq_lload_n {j : Fin 4} {i : Nat} (hd : decode mi.2.1 pc = .ok (.lload_n j, 1)) (hi : (j : Nat) = i) (hk : Sq E G Φ mi (pc + 1) K) : Sq E G Φ mi pc (o_lload i K) := by
  intro L st M v M' h
  unfold o_lload at h
  split at h
  · next x hx =>
    obtain ⟨hm, hw⟩ := hk _ _ _ _ _ h
    exact ⟨hm, wq_go hw fun p l e R s m args below meth c H locs cells slots Q ls n0 hC hl k => lv_lload_n hC.1 hC.2.1 hd hi (k_lq_at hl hx rfl) k⟩
  · cases h
theorem sq_aload {i : Nat} (hd : decode mi.2.1 pc = .ok (.aload i, 2)) (hk : Sq E G Φ mi (pc + 2) K) : Sq E G Φ mi pc (o_aload i K) := by
  intro L st M v M' h
  unfold o_aload at h
  split at h
  · next x hx =>
    obtain ⟨hm, hw⟩ := hk _ _ _ _ _ h
    exact ⟨hm, wq_go hw fun p l e R s m args below meth c H locs cells slots Q ls n0 hC hl k => lv_aload hC.1 hC.2.1 hd (k_lq_at hl hx rfl) k⟩
  · cases h
theorem sq_aload_n {j : Fin 4} {i : Nat} (hd : decode mi.2.1 pc = .ok (.aload_n j, 1)) (hi : (j : Nat) = i) (hk : Sq E G Φ mi (pc + 1) K) : Sq E G Φ mi pc (o_aload i K) := by
  intro L st M v M' h
  unfold o_aload at h
  split at h
  · next x hx =>
    obtain ⟨hm, hw⟩ := hk _ _ _ _ _ h
    exact ⟨hm, wq_go hw fun p l e R s m args below meth c H locs cells slots Q ls n0 hC hl k => lv_aload_n hC.1 hC.2.1 hd hi (k_lq_at hl hx rfl) k⟩
  · cases h
/-- a step that stores -/
theorem wq_sto {pc' i : Nat} {L L' st st' : List Value} {M : Mw} {F : FF} {w : Value} (hs : k_sto L i w = some L') (hc : w.category = 1) (hk : wq G F mi pc' L' st' M)
    (f : ∀ (p : Program) (l : Launch) (e : Env) (R : Room) (s : State) (m : MethodId) (args : Array Value) (below : List Frame) (meth : Method) (c : Code) (H : Heap) (locs : List Loc) (cells slots : Nat) (Q : State → Prop) (ls : Array Slot) (n0 : Nat), k_Cx G mi n0 p s m args meth c → k_lq G mi.2.2.1 ls L → i < mi.2.2.1 →
      (∀ ls' : Array Slot, lv_has ls' mi.2.2.1 ((i, k_v G w) :: (k_as G L).filter (fun q => !(q.1 == i) && !(q.1 + 1 == i && q.2.category == 2))) → W p l e R s m args below meth c H locs cells slots Q (F0 m pc' ls' (st'.map (k_v G)))) → W p l e R s m args below meth c H locs cells slots Q (F0 m pc ls (st.map (k_v G)))) : wq G F mi pc L st M := by
  intro n0 p e s m args below meth c hC H locs ls hn hP hS hl
  obtain ⟨⟨w0, hw0, -⟩, -⟩ := k_sto_spec hs
  exact f p G.1 e _ s m args below meth c H locs _ _ _ ls n0 hC hl (k_lq_lt hl hw0) (fun ls' hl' => hk n0 p e s m args below meth c hC H locs ls' hn hP hS (k_lq_sto hl hs hc hl'))
theorem sq_istore {i : Nat} (hd : decode mi.2.1 pc = .ok (.istore i, 2)) (hk : Sq E G Φ mi (pc + 2) K) : Sq E G Φ mi pc (o_istore i K) := by
  intro L st M v M' h
  unfold o_istore at h
  split at h
  · split at h
    · next x st L' hs =>
      obtain ⟨hm, hw⟩ := hk _ _ _ _ _ h
      exact ⟨hm, wq_sto hs rfl hw fun p l e R s m args below meth c H locs cells slots Q ls n0 hC hl hi k => lv_istore hC.1 hC.2.1 hd hl.1 hi rfl k⟩
    · cases h
  · cases h
theorem sq_istore_n {j : Fin 4} {i : Nat} (hd : decode mi.2.1 pc = .ok (.istore_n j, 1)) (hj : (j : Nat) = i) (hk : Sq E G Φ mi (pc + 1) K) : Sq E G Φ mi pc (o_istore i K) := by
  intro L st M v M' h
  unfold o_istore at h
  split at h
  · split at h
    · next x st L' hs =>
      obtain ⟨hm, hw⟩ := hk _ _ _ _ _ h
      exact ⟨hm, wq_sto hs rfl hw fun p l e R s m args below meth c H locs cells slots Q ls n0 hC hl hi k => lv_istore_n hC.1 hC.2.1 hd hj hl.1 hi rfl k⟩
    · cases h
  · cases h
theorem sq_astore {i : Nat} (hd : decode mi.2.1 pc = .ok (.astore i, 2)) (hk : Sq E G Φ mi (pc + 2) K) : Sq E G Φ mi pc (o_astore i K) := by
  intro L st M v M' h
  unfold o_astore at h
  split at h
  · split at h
    · next x st L' hs =>
      obtain ⟨hm, hw⟩ := hk _ _ _ _ _ h
      exact ⟨hm, wq_sto hs rfl hw fun p l e R s m args below meth c H locs cells slots Q ls n0 hC hl hi k => lv_astore hC.1 hC.2.1 hd hl.1 hi rfl k⟩
    · cases h
  · cases h
theorem sq_astore_n {j : Fin 4} {i : Nat} (hd : decode mi.2.1 pc = .ok (.astore_n j, 1)) (hj : (j : Nat) = i) (hk : Sq E G Φ mi (pc + 1) K) : Sq E G Φ mi pc (o_astore i K) := by
  intro L st M v M' h
  unfold o_astore at h
  split at h
  · split at h
    · next x st L' hs =>
      obtain ⟨hm, hw⟩ := hk _ _ _ _ _ h
      exact ⟨hm, wq_sto hs rfl hw fun p l e R s m args below meth c H locs cells slots Q ls n0 hC hl hi k => lv_astore_n hC.1 hC.2.1 hd hj hl.1 hi rfl k⟩
    · cases h
  · cases h
theorem wq_sto2 {pc' i : Nat} {x : Int64} {L L' st st' : List Value} {M : Mw} {F : FF} (hs : k_sto2 L i (.long x) = some L') (hk : wq G F mi pc' L' st' M)
    (f : ∀ (p : Program) (l : Launch) (e : Env) (R : Room) (s : State) (m : MethodId) (args : Array Value) (below : List Frame) (meth : Method) (c : Code) (H : Heap) (locs : List Loc) (cells slots : Nat) (Q : State → Prop) (ls : Array Slot) (n0 : Nat), k_Cx G mi n0 p s m args meth c → k_lq G mi.2.2.1 ls L → i + 1 < mi.2.2.1 →
      (∀ ls' : Array Slot, lv_has ls' mi.2.2.1 ((i, .long x) :: (k_as G L).filter (fun q => !(q.1 == i) && (!(q.1 == i + 1) && !(q.1 + 1 == i && q.2.category == 2)))) → W p l e R s m args below meth c H locs cells slots Q (F0 m pc' ls' (st'.map (k_v G)))) → W p l e R s m args below meth c H locs cells slots Q (F0 m pc ls (st.map (k_v G)))) : wq G F mi pc L st M := by
  intro n0 p e s m args below meth c hC H locs ls hn hP hS hl
  obtain ⟨-, hi, -⟩ := k_sto2_spec hs
  exact f p G.1 e _ s m args below meth c H locs _ _ _ ls n0 hC hl (hl.2.1 ▸ hi) (fun ls' hl' => hk n0 p e s m args below meth c hC H locs ls' hn hP hS (k_lq_sto2 hl hs hl'))
theorem sq_lstore {i : Nat} (hd : decode mi.2.1 pc = .ok (.lstore i, 2)) (hk : Sq E G Φ mi (pc + 2) K) : Sq E G Φ mi pc (o_lstore i K) := by
  intro L st M v M' h
  unfold o_lstore at h
  split at h
  · split at h
    · next x st L' hs =>
      obtain ⟨hm, hw⟩ := hk _ _ _ _ _ h
      exact ⟨hm, wq_sto2 hs hw fun p l e R s m args below meth c H locs cells slots Q ls n0 hC hl hi k => lv_lstore hC.1 hC.2.1 hd hl.1 hi rfl k⟩
    · cases h
  · cases h
theorem sq_lstore_n {j : Fin 4} {i : Nat} (hd : decode mi.2.1 pc = .ok (.lstore_n j, 1)) (hj : (j : Nat) = i) (hk : Sq E G Φ mi (pc + 1) K) : Sq E G Φ mi pc (o_lstore i K) := by
  intro L st M v M' h
  unfold o_lstore at h
  split at h
  · split at h
    · next x st L' hs =>
      obtain ⟨hm, hw⟩ := hk _ _ _ _ _ h
      exact ⟨hm, wq_sto2 hs hw fun p l e R s m args below meth c H locs cells slots Q ls n0 hC hl hi k => lv_lstore_n hC.1 hC.2.1 hd hj hl.1 hi rfl k⟩
    · cases h
  · cases h
theorem sq_iinc {i : Nat} {n : Int} {x : Int32} (hd : decode mi.2.1 pc = .ok (.iinc i n, 3)) (hx : Int32.ofInt n = x) (hk : Sq E G Φ mi (pc + 3) K) : Sq E G Φ mi pc (o_iinc i x K) := by
  subst hx
  intro L st M v M' h
  unfold o_iinc at h
  split at h
  · next y hy =>
    split at h
    · next L' hs =>
      obtain ⟨hm, hw⟩ := hk _ _ _ _ _ h
      refine ⟨hm, wq_sto hs rfl hw fun p l e R s m args below meth c H locs cells slots Q ls n0 hC hl hi k => ?_⟩
      obtain ⟨j, hj⟩ := List.getElem?_of_mem (k_as_mem (G := G).mpr ⟨_, hy, rfl, rfl⟩)
      exact lv_iinc hC.1 hC.2.1 hd hl.1 hj rfl hi rfl k
    · cases h
  · cases h
/-- a step on the stack alone, by the shape of the stack -/
theorem sq_stk {pc' : Nat} {f : Kt μ} (hk : Sq E G Φ mi pc' K)
    (h0 : ∀ (L st : List Value) (M : μ) (r : Value × μ), f L st M = some r → ∃ st', K L st' M = some r ∧
      ∀ (p : Program) (l : Launch) (e : Env) (R : Room) (s : State) (m : MethodId) (args : Array Value) (below : List Frame) (meth : Method) (c : Code) (H : Heap) (locs : List Loc) (cells slots : Nat) (Q : State → Prop) (ls : Array Slot) (n0 : Nat), k_Cx G mi n0 p s m args meth c →
      W p l e R s m args below meth c H locs cells slots Q (F0 m pc' ls (st'.map (k_v G))) → W p l e R s m args below meth c H locs cells slots Q (F0 m pc ls (st.map (k_v G)))) : Sq E G Φ mi pc f := by
  intro L st M v M' h
  obtain ⟨st', h1, h2⟩ := h0 L st M _ h
  obtain ⟨hm, hw⟩ := hk _ _ _ _ _ h1
  exact ⟨hm, wq_go hw fun p l e R s m args below meth c H locs cells slots Q ls n0 hC hl k => h2 p l e R s m args below meth c H locs cells slots Q ls n0 hC k⟩
theorem sq_iadd (hd : decode mi.2.1 pc = .ok (.iadd, 1)) (hk : Sq E G Φ mi (pc + 1) K) : Sq E G Φ mi pc (o_bin (fun x y => x + y) K) := by
  refine sq_stk hk fun L st M r h => ?_
  unfold o_bin at h
  split at h
  · exact ⟨_, h, fun p l e R s m args below meth c H locs cells slots Q ls n0 hC k => lv_iadd hC.1 hC.2.1 hd k⟩
  · cases h
theorem sq_isub (hd : decode mi.2.1 pc = .ok (.isub, 1)) (hk : Sq E G Φ mi (pc + 1) K) : Sq E G Φ mi pc (o_bin (fun x y => x - y) K) := by
  refine sq_stk hk fun L st M r h => ?_
  unfold o_bin at h
  split at h
  · exact ⟨_, h, fun p l e R s m args below meth c H locs cells slots Q ls n0 hC k => lv_isub hC.1 hC.2.1 hd k⟩
  · cases h
theorem sq_imul (hd : decode mi.2.1 pc = .ok (.imul, 1)) (hk : Sq E G Φ mi (pc + 1) K) : Sq E G Φ mi pc (o_bin (fun x y => x * y) K) := by
  refine sq_stk hk fun L st M r h => ?_
  unfold o_bin at h
  split at h
  · exact ⟨_, h, fun p l e R s m args below meth c H locs cells slots Q ls n0 hC k => lv_imul hC.1 hC.2.1 hd k⟩
  · cases h
theorem sq_iand (hd : decode mi.2.1 pc = .ok (.iand, 1)) (hk : Sq E G Φ mi (pc + 1) K) : Sq E G Φ mi pc (o_bin (fun x y => x &&& y) K) := by
  refine sq_stk hk fun L st M r h => ?_
  unfold o_bin at h
  split at h
  · exact ⟨_, h, fun p l e R s m args below meth c H locs cells slots Q ls n0 hC k => lv_iand hC.1 hC.2.1 hd k⟩
  · cases h
theorem sq_ior (hd : decode mi.2.1 pc = .ok (.ior, 1)) (hk : Sq E G Φ mi (pc + 1) K) : Sq E G Φ mi pc (o_bin (fun x y => x ||| y) K) := by
  refine sq_stk hk fun L st M r h => ?_
  unfold o_bin at h
  split at h
  · exact ⟨_, h, fun p l e R s m args below meth c H locs cells slots Q ls n0 hC k => lv_ior hC.1 hC.2.1 hd k⟩
  · cases h
theorem sq_ixor (hd : decode mi.2.1 pc = .ok (.ixor, 1)) (hk : Sq E G Φ mi (pc + 1) K) : Sq E G Φ mi pc (o_bin (fun x y => x ^^^ y) K) := by
  refine sq_stk hk fun L st M r h => ?_
  unfold o_bin at h
  split at h
  · exact ⟨_, h, fun p l e R s m args below meth c H locs cells slots Q ls n0 hC k => lv_ixor hC.1 hC.2.1 hd k⟩
  · cases h
theorem sq_ishl (hd : decode mi.2.1 pc = .ok (.ishl, 1)) (hk : Sq E G Φ mi (pc + 1) K) : Sq E G Φ mi pc (o_bin (fun x y => x <<< (y &&& 31)) K) := by
  refine sq_stk hk fun L st M r h => ?_
  unfold o_bin at h
  split at h
  · exact ⟨_, h, fun p l e R s m args below meth c H locs cells slots Q ls n0 hC k => lv_ishl hC.1 hC.2.1 hd k⟩
  · cases h
theorem sq_ishr (hd : decode mi.2.1 pc = .ok (.ishr, 1)) (hk : Sq E G Φ mi (pc + 1) K) : Sq E G Φ mi pc (o_bin (fun x y => x >>> (y &&& 31)) K) := by
  refine sq_stk hk fun L st M r h => ?_
  unfold o_bin at h
  split at h
  · exact ⟨_, h, fun p l e R s m args below meth c H locs cells slots Q ls n0 hC k => lv_ishr hC.1 hC.2.1 hd k⟩
  · cases h
theorem sq_iushr (hd : decode mi.2.1 pc = .ok (.iushr, 1)) (hk : Sq E G Φ mi (pc + 1) K) : Sq E G Φ mi pc (o_bin (fun x y => (x.toUInt32 >>> (y.toUInt32 &&& Int32.toUInt32 31)).toInt32) K) := by
  refine sq_stk hk fun L st M r h => ?_
  unfold o_bin at h
  split at h
  · exact ⟨_, h, fun p l e R s m args below meth c H locs cells slots Q ls n0 hC k => lv_iushr hC.1 hC.2.1 hd rfl k⟩
  · cases h
theorem sq_idiv (hd : decode mi.2.1 pc = .ok (.idiv, 1)) (hk : Sq E G Φ mi (pc + 1) K) : Sq E G Φ mi pc (o_div (fun x y => x / y) K) := by
  refine sq_stk hk fun L st M r h => ?_
  unfold o_div at h
  split at h
  · split at h
    · cases h
    · next hy => exact ⟨_, h, fun p l e R s m args below meth c H locs cells slots Q ls n0 hC k => lv_idiv hC.1 hC.2.1 hd hy k⟩
  · cases h
theorem sq_irem (hd : decode mi.2.1 pc = .ok (.irem, 1)) (hk : Sq E G Φ mi (pc + 1) K) : Sq E G Φ mi pc (o_div (fun x y => x - x / y * y) K) := by
  refine sq_stk hk fun L st M r h => ?_
  unfold o_div at h
  split at h
  · split at h
    · cases h
    · next hy => exact ⟨_, h, fun p l e R s m args below meth c H locs cells slots Q ls n0 hC k => lv_irem hC.1 hC.2.1 hd hy k⟩
  · cases h
theorem sq_ineg (hd : decode mi.2.1 pc = .ok (.ineg, 1)) (hk : Sq E G Φ mi (pc + 1) K) : Sq E G Φ mi pc (o_un (fun x => -x) K) := by
  refine sq_stk hk fun L st M r h => ?_
  unfold o_un at h
  split at h
  · exact ⟨_, h, fun p l e R s m args below meth c H locs cells slots Q ls n0 hC k => lv_ineg hC.1 hC.2.1 hd k⟩
  · cases h
theorem sq_i2b (hd : decode mi.2.1 pc = .ok (.i2b, 1)) (hk : Sq E G Φ mi (pc + 1) K) : Sq E G Φ mi pc (o_un (fun x => x.toInt8.toInt32) K) := by
  refine sq_stk hk fun L st M r h => ?_
  unfold o_un at h
  split at h
  · exact ⟨_, h, fun p l e R s m args below meth c H locs cells slots Q ls n0 hC k => lv_i2b hC.1 hC.2.1 hd rfl k⟩
  · cases h
theorem sq_i2s (hd : decode mi.2.1 pc = .ok (.i2s, 1)) (hk : Sq E G Φ mi (pc + 1) K) : Sq E G Φ mi pc (o_un (fun x => x.toInt16.toInt32) K) := by
  refine sq_stk hk fun L st M r h => ?_
  unfold o_un at h
  split at h
  · exact ⟨_, h, fun p l e R s m args below meth c H locs cells slots Q ls n0 hC k => lv_i2s hC.1 hC.2.1 hd rfl k⟩
  · cases h
theorem sq_i2l (hd : decode mi.2.1 pc = .ok (.i2l, 1)) (hk : Sq E G Φ mi (pc + 1) K) : Sq E G Φ mi pc (o_i2l K) := by
  refine sq_stk hk fun L st M r h => ?_
  unfold o_i2l at h
  split at h
  · exact ⟨_, h, fun p l e R s m args below meth c H locs cells slots Q ls n0 hC k => lv_i2l hC.1 hC.2.1 hd rfl k⟩
  · cases h
theorem sq_lor (hd : decode mi.2.1 pc = .ok (.lor, 1)) (hk : Sq E G Φ mi (pc + 1) K) : Sq E G Φ mi pc (o_lor K) := by
  refine sq_stk hk fun L st M r h => ?_
  unfold o_lor at h
  split at h
  · exact ⟨_, h, fun p l e R s m args below meth c H locs cells slots Q ls n0 hC k => lv_lor hC.1 hC.2.1 hd k⟩
  · cases h
theorem sq_lshl (hd : decode mi.2.1 pc = .ok (.lshl, 1)) (hk : Sq E G Φ mi (pc + 1) K) : Sq E G Φ mi pc (o_lshl K) := by
  refine sq_stk hk fun L st M r h => ?_
  unfold o_lshl at h
  split at h
  · exact ⟨_, h, fun p l e R s m args below meth c H locs cells slots Q ls n0 hC k => lv_lshl hC.1 hC.2.1 hd rfl k⟩
  · cases h
theorem sq_lcmp (hd : decode mi.2.1 pc = .ok (.lcmp, 1)) (hk : Sq E G Φ mi (pc + 1) K) : Sq E G Φ mi pc (o_lcmp K) := by
  refine sq_stk hk fun L st M r h => ?_
  unfold o_lcmp at h
  split at h
  · exact ⟨_, h, fun p l e R s m args below meth c H locs cells slots Q ls n0 hC k => W.lcmp hC.1 hC.2.1 hd k⟩
  · cases h
theorem sq_dup_x1 (hd : decode mi.2.1 pc = .ok (.dup_x1, 1)) (hk : Sq E G Φ mi (pc + 1) K) : Sq E G Φ mi pc (o_dup_x1 K) := by
  refine sq_stk hk fun L st M r h => ?_
  unfold o_dup_x1 at h
  split at h
  · exact ⟨_, h, fun p l e R s m args below meth c H locs cells slots Q ls n0 hC k => lv_dup_x1 hC.1 hC.2.1 hd rfl rfl k⟩
  · cases h
theorem sq_dup2 (hd : decode mi.2.1 pc = .ok (.dup2, 1)) (hk : Sq E G Φ mi (pc + 1) K) : Sq E G Φ mi pc (o_dup2 K) := by
  refine sq_stk hk fun L st M r h => ?_
  unfold o_dup2 at h
  split at h
  · exact ⟨_, h, fun p l e R s m args below meth c H locs cells slots Q ls n0 hC k => lv_dup2_11 hC.1 hC.2.1 hd rfl rfl k⟩
  · cases h
theorem sq_dup (hd : decode mi.2.1 pc = .ok (.dup, 1)) (hk : Sq E G Φ mi (pc + 1) K) : Sq E G Φ mi pc (o_dup K) := by
  refine sq_stk hk fun L st M r h => ?_
  unfold o_dup at h
  split at h
  · exact ⟨_, h, fun p l e R s m args below meth c H locs cells slots Q ls n0 hC k => lv_dup hC.1 hC.2.1 hd rfl k⟩
  · exact ⟨_, h, fun p l e R s m args below meth c H locs cells slots Q ls n0 hC k => lv_dup hC.1 hC.2.1 hd rfl k⟩
  · cases h
theorem sq_goto {off : Int} {tgt : Nat} (hd : decode mi.2.1 pc = .ok (.goto off, 3)) (ht : (pc : Int) + off = (tgt : Int)) (hk : Sq E G Φ mi tgt K) : Sq E G Φ mi pc K :=
  sq_stk hk fun L st M r h => ⟨_, h, fun p l e R s m args below meth c H locs cells slots Q ls n0 hC k => lv_goto hC.1 hC.2.1 hd ht k⟩
/-- a fork -/
theorem sq_fork {pt pf : Nat} {f KT KF : Kt μ} (hT : Sq E G Φ mi pt KT) (hF : Sq E G Φ mi pf KF)
    (h0 : ∀ (L st : List Value) (M : μ) (r : Value × μ), f L st M = some r → ∃ (c0 : Prop) (st' : List Value), (c0 → KT L st' M = some r) ∧ (¬ c0 → KF L st' M = some r) ∧
      ∀ (p : Program) (l : Launch) (e : Env) (R : Room) (s : State) (m : MethodId) (args : Array Value) (below : List Frame) (meth : Method) (c : Code) (H : Heap) (locs : List Loc) (cells slots : Nat) (Q : State → Prop) (ls : Array Slot) (n0 : Nat), k_Cx G mi n0 p s m args meth c →
      (c0 → W p l e R s m args below meth c H locs cells slots Q (F0 m pt ls (st'.map (k_v G)))) → (¬ c0 → W p l e R s m args below meth c H locs cells slots Q (F0 m pf ls (st'.map (k_v G)))) → W p l e R s m args below meth c H locs cells slots Q (F0 m pc ls (st.map (k_v G)))) : Sq E G Φ mi pc f := by
  intro L st M v M' h
  obtain ⟨c0, st', h1, h2, h3⟩ := h0 L st M _ h
  by_cases q : c0
  · obtain ⟨hm, hw⟩ := hT _ _ _ _ _ (h1 q)
    exact ⟨hm, wq_go hw fun p l e R s m args below meth c H locs cells slots Q ls n0 hC hl k => h3 p l e R s m args below meth c H locs cells slots Q ls n0 hC (fun _ => k) (fun z => absurd q z)⟩
  · obtain ⟨hm, hw⟩ := hF _ _ _ _ _ (h2 q)
    exact ⟨hm, wq_go hw fun p l e R s m args below meth c H locs cells slots Q ls n0 hC hl k => h3 p l e R s m args below meth c H locs cells slots Q ls n0 hC (fun z => absurd z q) (fun _ => k)⟩
theorem sq_ifeq {off : Int} {tgt : Nat} {KT KF : Kt μ} (hd : decode mi.2.1 pc = .ok (.ifCond .eq off, 3)) (ht : (pc : Int) + off = (tgt : Int)) (hT : Sq E G Φ mi tgt KT) (hF : Sq E G Φ mi (pc + 3) KF) : Sq E G Φ mi pc (o_ifeq KT KF) := by
  refine sq_fork hT hF fun L st M r h => ?_
  unfold o_ifeq at h
  split at h
  · exact ⟨_, _, fun q => by rw [if_pos q] at h; exact h, fun q => by rw [if_neg q] at h; exact h, fun p l e R s m args below meth c H locs cells slots Q ls n0 hC kt kf => lv_if_eq hC.1 hC.2.1 hd ht kt kf⟩
  · cases h
theorem sq_ifne {off : Int} {tgt : Nat} {KT KF : Kt μ} (hd : decode mi.2.1 pc = .ok (.ifCond .ne off, 3)) (ht : (pc : Int) + off = (tgt : Int)) (hT : Sq E G Φ mi (pc + 3) KT) (hF : Sq E G Φ mi tgt KF) : Sq E G Φ mi pc (o_ifeq KT KF) := by
  refine sq_fork hT hF fun L st M r h => ?_
  unfold o_ifeq at h
  split at h
  · exact ⟨_, _, fun q => by rw [if_pos q] at h; exact h, fun q => by rw [if_neg q] at h; exact h, fun p l e R s m args below meth c H locs cells slots Q ls n0 hC kt kf => lv_if_ne hC.1 hC.2.1 hd ht kf kt⟩
  · cases h
theorem sq_iflt {off : Int} {tgt : Nat} {KT KF : Kt μ} (hd : decode mi.2.1 pc = .ok (.ifCond .lt off, 3)) (ht : (pc : Int) + off = (tgt : Int)) (hT : Sq E G Φ mi tgt KT) (hF : Sq E G Φ mi (pc + 3) KF) : Sq E G Φ mi pc (o_iflt KT KF) := by
  refine sq_fork hT hF fun L st M r h => ?_
  unfold o_iflt at h
  split at h
  · exact ⟨_, _, fun q => by rw [if_pos q] at h; exact h, fun q => by rw [if_neg q] at h; exact h, fun p l e R s m args below meth c H locs cells slots Q ls n0 hC kt kf => lv_if_lt hC.1 hC.2.1 hd ht kt kf⟩
  · cases h
theorem sq_ifge {off : Int} {tgt : Nat} {KT KF : Kt μ} (hd : decode mi.2.1 pc = .ok (.ifCond .ge off, 3)) (ht : (pc : Int) + off = (tgt : Int)) (hT : Sq E G Φ mi tgt KT) (hF : Sq E G Φ mi (pc + 3) KF) : Sq E G Φ mi pc (o_ifge KT KF) := by
  refine sq_fork hT hF fun L st M r h => ?_
  unfold o_ifge at h
  split at h
  · exact ⟨_, _, fun q => by rw [if_pos q] at h; exact h, fun q => by rw [if_neg q] at h; exact h, fun p l e R s m args below meth c H locs cells slots Q ls n0 hC kt kf => lv_if_ge hC.1 hC.2.1 hd ht kt kf⟩
  · cases h
theorem sq_ifgt {off : Int} {tgt : Nat} {KT KF : Kt μ} (hd : decode mi.2.1 pc = .ok (.ifCond .gt off, 3)) (ht : (pc : Int) + off = (tgt : Int)) (hT : Sq E G Φ mi tgt KT) (hF : Sq E G Φ mi (pc + 3) KF) : Sq E G Φ mi pc (o_ifgt KT KF) := by
  refine sq_fork hT hF fun L st M r h => ?_
  unfold o_ifgt at h
  split at h
  · exact ⟨_, _, fun q => by rw [if_pos q] at h; exact h, fun q => by rw [if_neg q] at h; exact h, fun p l e R s m args below meth c H locs cells slots Q ls n0 hC kt kf => lv_if_gt hC.1 hC.2.1 hd ht kt kf⟩
  · cases h
theorem sq_ifle {off : Int} {tgt : Nat} {KT KF : Kt μ} (hd : decode mi.2.1 pc = .ok (.ifCond .le off, 3)) (ht : (pc : Int) + off = (tgt : Int)) (hT : Sq E G Φ mi tgt KT) (hF : Sq E G Φ mi (pc + 3) KF) : Sq E G Φ mi pc (o_ifle KT KF) := by
  refine sq_fork hT hF fun L st M r h => ?_
  unfold o_ifle at h
  split at h
  · exact ⟨_, _, fun q => by rw [if_pos q] at h; exact h, fun q => by rw [if_neg q] at h; exact h, fun p l e R s m args below meth c H locs cells slots Q ls n0 hC kt kf => lv_if_le hC.1 hC.2.1 hd ht kt kf⟩
  · cases h
theorem sq_ceq {off : Int} {tgt : Nat} {KT KF : Kt μ} (hd : decode mi.2.1 pc = .ok (.if_icmp .eq off, 3)) (ht : (pc : Int) + off = (tgt : Int)) (hT : Sq E G Φ mi tgt KT) (hF : Sq E G Φ mi (pc + 3) KF) : Sq E G Φ mi pc (o_ceq KT KF) := by
  refine sq_fork hT hF fun L st M r h => ?_
  unfold o_ceq at h
  split at h
  · exact ⟨_, _, fun q => by rw [if_pos q] at h; exact h, fun q => by rw [if_neg q] at h; exact h, fun p l e R s m args below meth c H locs cells slots Q ls n0 hC kt kf => lv_icmp_eq hC.1 hC.2.1 hd ht kt kf⟩
  · cases h
theorem sq_cne {off : Int} {tgt : Nat} {KT KF : Kt μ} (hd : decode mi.2.1 pc = .ok (.if_icmp .ne off, 3)) (ht : (pc : Int) + off = (tgt : Int)) (hT : Sq E G Φ mi (pc + 3) KT) (hF : Sq E G Φ mi tgt KF) : Sq E G Φ mi pc (o_ceq KT KF) := by
  refine sq_fork hT hF fun L st M r h => ?_
  unfold o_ceq at h
  split at h
  · exact ⟨_, _, fun q => by rw [if_pos q] at h; exact h, fun q => by rw [if_neg q] at h; exact h, fun p l e R s m args below meth c H locs cells slots Q ls n0 hC kt kf => lv_icmp_ne hC.1 hC.2.1 hd ht kf kt⟩
  · cases h
theorem sq_clt {off : Int} {tgt : Nat} {KT KF : Kt μ} (hd : decode mi.2.1 pc = .ok (.if_icmp .lt off, 3)) (ht : (pc : Int) + off = (tgt : Int)) (hT : Sq E G Φ mi tgt KT) (hF : Sq E G Φ mi (pc + 3) KF) : Sq E G Φ mi pc (o_clt KT KF) := by
  refine sq_fork hT hF fun L st M r h => ?_
  unfold o_clt at h
  split at h
  · exact ⟨_, _, fun q => by rw [if_pos q] at h; exact h, fun q => by rw [if_neg q] at h; exact h, fun p l e R s m args below meth c H locs cells slots Q ls n0 hC kt kf => lv_icmp_lt hC.1 hC.2.1 hd ht kt kf⟩
  · cases h
theorem sq_cge {off : Int} {tgt : Nat} {KT KF : Kt μ} (hd : decode mi.2.1 pc = .ok (.if_icmp .ge off, 3)) (ht : (pc : Int) + off = (tgt : Int)) (hT : Sq E G Φ mi tgt KT) (hF : Sq E G Φ mi (pc + 3) KF) : Sq E G Φ mi pc (o_cge KT KF) := by
  refine sq_fork hT hF fun L st M r h => ?_
  unfold o_cge at h
  split at h
  · exact ⟨_, _, fun q => by rw [if_pos q] at h; exact h, fun q => by rw [if_neg q] at h; exact h, fun p l e R s m args below meth c H locs cells slots Q ls n0 hC kt kf => lv_icmp_ge hC.1 hC.2.1 hd ht kt kf⟩
  · cases h
theorem sq_cgt {off : Int} {tgt : Nat} {KT KF : Kt μ} (hd : decode mi.2.1 pc = .ok (.if_icmp .gt off, 3)) (ht : (pc : Int) + off = (tgt : Int)) (hT : Sq E G Φ mi tgt KT) (hF : Sq E G Φ mi (pc + 3) KF) : Sq E G Φ mi pc (o_cgt KT KF) := by
  refine sq_fork hT hF fun L st M r h => ?_
  unfold o_cgt at h
  split at h
  · exact ⟨_, _, fun q => by rw [if_pos q] at h; exact h, fun q => by rw [if_neg q] at h; exact h, fun p l e R s m args below meth c H locs cells slots Q ls n0 hC kt kf => lv_icmp_gt hC.1 hC.2.1 hd ht kt kf⟩
  · cases h
theorem sq_cle {off : Int} {tgt : Nat} {KT KF : Kt μ} (hd : decode mi.2.1 pc = .ok (.if_icmp .le off, 3)) (ht : (pc : Int) + off = (tgt : Int)) (hT : Sq E G Φ mi tgt KT) (hF : Sq E G Φ mi (pc + 3) KF) : Sq E G Φ mi pc (o_cle KT KF) := by
  refine sq_fork hT hF fun L st M r h => ?_
  unfold o_cle at h
  split at h
  · exact ⟨_, _, fun q => by rw [if_pos q] at h; exact h, fun q => by rw [if_neg q] at h; exact h, fun p l e R s m args below meth c H locs cells slots Q ls n0 hC kt kf => lv_icmp_le hC.1 hC.2.1 hd ht kt kf⟩
  · cases h
end Snd
