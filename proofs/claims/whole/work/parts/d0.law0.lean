/-! THE CLAIM OUT OF ONE WALK OF THE LAW'S BODY. Your part is whole_start (and what it stands on); all else here is the same for every law, but numbers. -/
def R_law : String := "SheepSquareLaw"
def lw_P (b : Addr) (xs : List Int32) (args : Array Value) (s : State) : Prop := args = #[.ref b] ∧ s.IntsAt b xs ∧ xs.length ≤ 384 ∧ (Jvm.Cond.and given_1 narrow_1).before args s = true
def lw_Q (_ : Array Value) (s : State) (o : Outcome) (t : State) : Prop := o = .returned (some (.int 1)) ∧ Framed s o t [] 600000 7302250
def lw_Z (below : List Frame) (a : Array Value) (s : State) : State → Prop := fun t => ∃ o, t.status = .running ∧ Ended t below o ∧ lw_Q a s o t
/-- the law's own end, with 1 on the stack, nothing written that was there before, its room as the claim has it -/
theorem lw_ret {p : Program} {l : Launch} {e : Env} {s : State} {m : MethodId} {below : List Frame} {meth : Method} {c : Code} {b : Nat} (hx : p.tables.exec = Jvm.exec) (hb : c.code = code) (hr : meth.sig.returnType = ret) (hlocks : meth.locks = false) {pc : Nat} {H : Heap} {ls : Array Slot} (hdg : decode code pc = .ok (.ireturn, 1)) : W p l e room_1 s m #[Value.ref b] below meth c H [] 600000 7302250 (lw_Z below #[Value.ref b] s) (F0 m pc ls [.int 1]) := by
  intro T hT X
  obtain ⟨fs, hret, hrun, hended, hW, hframe⟩ := X.leave (v := some (.int 1)) (hlocks := hlocks) (fun h => by rw [hr] at h; cases h)
  have hmeth' : T.vm.method? m = some meth := X.method'
  refine ⟨T.setFrames fs, ?_, .returned (some (.int 1)), hrun, hended, rfl, ⟨_, rfl⟩, hW, hframe⟩
  jvm_step X.here [X.here.top, hx, hb, hdg, hmeth', hr, ret, narrow_b1]
  (try refine ⟨rfl, ?_⟩); (try refine ⟨rfl, ?_⟩)
  first | (intro acts; rw [hret _ acts rfl rfl rfl]) | rw [hret _ _ rfl rfl rfl]
  exact Steps.refl _
/-- what holds at the law's entry: the machine, the code, the tables' words (any of lw_tbl by 'hts w (by decide +kernel)'), the script of L ints xs at the cell b, what the Statement gives of the start (any of its parts by flat_of_before) -/
def lw_At (p : Program) (s : State) (m : MethodId) (meth : Method) (c : Code) (b L : Nat) (xs : Nat → Int32) : Prop :=
  p.tables.exec = Jvm.exec ∧ c.code = code ∧ meth.sig.returnType = ret ∧ c.maxLocals = 4 ∧ s.vm.findClass R_law = some m.cls ∧ (∀ w ∈ lw_tbl, w.before #[Value.ref b] s = true) ∧ va_X b L xs s s.heap ∧ b < s.heap.size ∧ meth.locks = false ∧ (Jvm.Cond.and given_1 narrow_1).before #[Value.ref b] s = true
/-- the law's own end, with 1 on the stack, nothing written that was there before, its room as the claim has it -/
theorem lw_retA {args : Array Value} {p : Program} {l : Launch} {e : Env} {s : State} {m : MethodId} {below : List Frame} {meth : Method} {c : Code} (hx : p.tables.exec = Jvm.exec) (hb : c.code = code) (hr : meth.sig.returnType = ret) (hlocks : meth.locks = false) {pc : Nat} {H : Heap} {ls : Array Slot} (hdg : decode code pc = .ok (.ireturn, 1)) : W p l e room_1 s m args below meth c H [] 600000 7302250 (lw_Z below args s) (F0 m pc ls [.int 1]) := by
  intro T hT X
  obtain ⟨fs, hret, hrun, hended, hW, hframe⟩ := X.leave (v := some (.int 1)) (hlocks := hlocks) (fun h => by rw [hr] at h; cases h)
  have hmeth' : T.vm.method? m = some meth := X.method'
  refine ⟨T.setFrames fs, ?_, .returned (some (.int 1)), hrun, hended, rfl, ⟨_, rfl⟩, hW, hframe⟩
  jvm_step X.here [X.here.top, hx, hb, hdg, hmeth', hr, ret, narrow_b1]
  (try refine ⟨rfl, ?_⟩); (try refine ⟨rfl, ?_⟩)
  first | (intro acts; rw [hret _ acts rfl rfl rfl]) | rw [hret _ _ rfl rfl rfl]
  exact Steps.refl _
/-- how the law may end -/
def lw_F : Ph := fun _ M' n0 args s below => ({ frames := 2048, cells := max 600000 M'.1, slots := max 7302250 (k_cs M'.1), locals := 84000 }, fun t => n0 = 0 → lw_Z below args s t)
theorem lw_ok (d : Nat) (h : d ≤ 1000) : k_ok lw_F d := by
  intro v M' n0 n args s below h1 h2
  have := k_cs_mono h1
  refine ⟨by show d ≤ 2048; omega, by show 64 * d ≤ 84000; omega, ?_, ?_⟩
  · show n - n0 ≤ max 600000 M'.1
    exact Nat.le_trans (Nat.le_trans (Nat.sub_le _ _) h1) (Nat.le_max_right _ _)
  · show k_cs n - k_cs n0 ≤ max 7302250 (k_cs M'.1)
    exact Nat.le_trans (Nat.le_trans (Nat.sub_le _ _) this) (Nat.le_max_right _ _)
abbrev mi_L_law (nx : String) : MI := (⟨RL, nx, "([I)Z"⟩, cL_law, 4, some .boolean)
def o_done : Kt Mi := fun _ st M => match st with
  | [.int x] => if x = 1 then some (.int 1, M) else none
  | _ => none
theorem k_cs65 : k_cs 65 ≤ 7302250 := by decide +kernel
theorem sq_done {G : GG} {pc : Nat} (nx : String) (hd : decode cL_law pc = .ok (.ireturn, 1)) : Sq kE G lw_F (mi_L_law nx) pc o_done := by
  intro L st M v M' h
  unfold o_done at h
  split at h
  · next x =>
    split at h
    · next hx1 =>
      cases h
      refine ⟨Nat.le_refl _, ?_⟩
      intro n0 p e s m args below meth c hC H locs ls hn hP hS hl
      obtain ⟨hx, hb, hrt, hml, hown, hts, hlk2, hnm, hU, hsz⟩ := id hC
      intro T hT X
      by_cases h0 : n0 = 0
      · subst h0
        have K : W p G.1 e room_1 s m args below meth c H locs (65 - 0) (k_cs 65 - k_cs 0) (lw_Z below args s) (F0 m pc ls [.int 1]) := by
          refine va_forget (fun q hq => ?_) ?_
          · have := hS.2.2 q hq
            unfold k_A at this
            rw [hsz]
            omega
          · refine W.widen (k := 600000) (n := 7302250) (by omega) (Nat.le_trans (Nat.sub_le _ _) k_cs65) ?_
            exact lw_retA hx hb hrt hlk2 hd
        have hr : (lw_F (.int 1) (kE M) 0 args s below).1 = room_1 := by
          show ({ frames := 2048, cells := max 600000 65, slots := max 7302250 (k_cs 65), locals := 84000 } : Room) = room_1
          rw [Nat.max_eq_left k_cs65]
          rfl
        rw [hr] at X
        subst hx1
        obtain ⟨t, a1, b1⟩ := K T hT X
        exact ⟨t, a1, fun _ => b1⟩
      · exact ⟨_, Steps.refl _, fun z => absurd z h0⟩
    · cases h
  · cases h
section CallCt
variable {μ : Type} {E : μ → Mw} {G : GG} {Φ : Ph} {mi mi' : MI} {pc d d' idx n : Nat} {K : Kt μ} {R : List Value → μ → Option (Value × μ)}
theorem sq_callC (hd : decode mi.2.1 pc = .ok (.invokespecial idx, 3)) (hlk : Cond.methodLink mi.1.cls idx mi'.1 ∈ lw_tbl) (hin : Cond.instanceMethod mi'.1 ∈ lw_tbl) (hM : k_MI mi') (hret : mi'.2.2.2 = none) (hy1 : mi'.1.name = "<init>") (hn : k_arity mi'.1 = some 0) (hdd : d' + 1 ≤ d) (hΦ : k_ok Φ d) (hR : RS E G d' mi' R) (hk : Sq E G Φ mi (pc + 3) K) : Sq E G Φ mi pc (o_callI R K) := by
  obtain ⟨y', b', l', r'⟩ := mi'
  dsimp only at hret
  subst hret
  intro L st M v M' h
  unfold o_callI at h
  split at h
  · next k rest =>
    split at h
    · next hlen =>
      obtain ⟨hk9, hlen⟩ := hlen
      split at h
      · next w M1 hRr =>
        obtain ⟨hm1, hMC⟩ := hR _ _ _ _ hRr
        obtain ⟨hm, hw⟩ := hk _ _ _ _ _ h
        refine ⟨Nat.le_trans hm1 hm, fun n0 p e s m args below meth c hC H locs ls hn0 hP hS hl => ?_⟩
        obtain ⟨hx, hb, hrt, hml, hown, hts, hlk2, hnm, hU, hsz⟩ := id hC
        refine k_W_size fun hz => ?_
        have hsize := k_size hn0 hsz hP hS hz
        have hc1 := k_cs_mono hm1
        have hc2 := k_cs_mono hn0
        have hkr := k_ref (G := G) hk9
        obtain ⟨f1, f2, f3, f4⟩ := hΦ v (E M') n0 (E M1).1 args s below hm (Nat.le_trans hn0 hm1)
        have cb : CallB (Φ v (E M') n0 args s below).1 s args mi.1.cls idx y' b' l' none (k_w (y', b', l', none)) (k_rm d' ((E M1).1 - (E M).1) (k_cs (E M1).1 - k_cs (E M).1)) ((E M1).1 - (E M).1) (k_cs (E M1).1 - k_cs (E M).1) 0 := callB_of 0 hts (k_good _ hM) rfl rfl rfl (hts _ (k_tb_mem hM.2.1 rfl)) (hts _ (k_tb_mem hlk rfl)) ⟨hM.2.2.1.1, hM.2.2.1.2, hn⟩ ⟨by show d' + 1 ≤ _; omega, by have := hM.2.2.2.2; dsimp only at this; show 8 + (l' + 11) + 64 * d' ≤ _; omega⟩
        have hMC' : Met G.1 y' (k_w (y', b', l', none)) (k_rm d' ((E M1).1 - (E M).1) (k_cs (E M1).1 - k_cs (E M).1)) (k_Pc G [.ref k] (E M)) (k_Q G (y', b', l', none) w (E M1)) ((E M1).1 - (E M).1) (k_cs (E M1).1 - k_cs (E M).1) (k_A G) := hMC
        have hrun := va_runI (g := F0 m pc ls ((.ref k :: rest : List Value).map (k_v G))) (H := H) (locs := locs) (below := below) (meth := meth) (e := e) (b := G.2.2.1 + k) (As := []) (rest := rest.map (k_v G)) (cells := (E M).1 - n0) (slots := k_cs (E M).1 - k_cs n0) ⟨hx, hb, hml, hown, hts⟩ hMC' ⟨cb, hy1, hts _ (k_tb_mem hin rfl)⟩ ⟨k_blind, fun U hU2 hW => ⟨by rw [List.map_cons, hkr]; rfl, k_U_warm hS hU2 hW hU, by rw [hU2]; exact hsize, by rw [hU2]; exact hP⟩⟩ rfl rfl hl.1.1 (by show (.ref k :: rest : List Value).map (k_v G) = _; rw [List.map_cons, hkr]; rfl) (by have := k_cats (rest.map (k_v G)); rw [List.length_map] at this; show 2 * 0 + _ ≤ 8; omega) hd ⟨by omega, by omega⟩
        refine k_after hrun hS fun H1 locs1 hP1 hS1 => ?_
        rw [show (E M).1 - n0 + ((E M1).1 - (E M).1) = (E M1).1 - n0 by omega, show k_cs (E M).1 - k_cs n0 + (k_cs (E M1).1 - k_cs (E M).1) = k_cs (E M1).1 - k_cs n0 by omega]
        exact hw n0 p e s m args below meth c hC H1 locs1 ls (Nat.le_trans hn0 hm1) hP1 hS1 hl
      · cases h
    · cases h
  · cases h
end CallCt
