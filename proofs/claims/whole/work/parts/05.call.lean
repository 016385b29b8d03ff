/-! ===== ends, switches, calls, cells ===== -/
section Ends
variable {μ : Type} {E : μ → Mw} {G : GG} {d : Nat} {mi : MI} {pc : Nat}
theorem sq_iret (hr : mi.2.2.2 = some .int) (hd : decode mi.2.1 pc = .ok (.ireturn, 1)) : Sq E G (kF G d mi) mi pc (o_iret (μ := μ)) := by
  intro L st M v M' h
  unfold o_iret at h
  split at h
  · cases h
    refine ⟨Nat.le_refl _, fun n0 p e s m args below meth c hC H locs ls hn hP hS hl => ?_⟩
    obtain ⟨hx, hb, hrt, hml, hown, hts, hlk, hnm, hU, hsz⟩ := hC
    exact W.iret hx hb (hrt.trans hr) (fun t ht hW => ⟨⟨by rw [k_ret, hr]; rfl, by rw [ht]; exact hP⟩, hS.F ht⟩) hS.2.2 hd hlk
  · cases h
theorem sq_zret (hr : mi.2.2.2 = some .boolean) (hd : decode mi.2.1 pc = .ok (.ireturn, 1)) : Sq E G (kF G d mi) mi pc (o_zret (μ := μ)) := by
  intro L st M v M' h
  unfold o_zret at h
  split at h
  · next x =>
    split at h
    · next h01 =>
      cases h
      refine ⟨Nat.le_refl _, fun n0 p e s m args below meth c hC H locs ls hn hP hS hl => ?_⟩
      obtain ⟨hx, hb, hrt, hml, hown, hts, hlk, hnm, hU, hsz⟩ := hC
      exact W.zret hx hb (hrt.trans hr) (by rcases h01 with rfl | rfl <;> rfl) (fun t ht hW => ⟨⟨by rw [k_ret, hr]; rfl, by rw [ht]; exact hP⟩, hS.F ht⟩) hS.2.2 hd hlk
    · cases h
  · cases h
theorem sq_lret (hr : mi.2.2.2 = some .long) (hd : decode mi.2.1 pc = .ok (.lreturn, 1)) : Sq E G (kF G d mi) mi pc (o_lret (μ := μ)) := by
  intro L st M v M' h
  unfold o_lret at h
  split at h
  · cases h
    refine ⟨Nat.le_refl _, fun n0 p e s m args below meth c hC H locs ls hn hP hS hl => ?_⟩
    obtain ⟨hx, hb, hrt, hml, hown, hts, hlk, hnm, hU, hsz⟩ := hC
    exact W.lret hx hb (hrt.trans hr) (fun t ht hW => ⟨⟨by rw [k_ret, hr]; rfl, by rw [ht]; exact hP⟩, hS.F ht⟩) hS.2.2 hd hlk
  · cases h
theorem sq_aret {n : String} (hr : mi.2.2.2 = some (.object n)) (hd : decode mi.2.1 pc = .ok (.areturn, 1)) : Sq E G (kF G d mi) mi pc (o_aret (μ := μ)) := by
  intro L st M v M' h
  unfold o_aret at h
  split at h
  · cases h
    refine ⟨Nat.le_refl _, fun n0 p e s m args below meth c hC H locs ls hn hP hS hl => ?_⟩
    obtain ⟨hx, hb, hrt, hml, hown, hts, hlk, hnm, hU, hsz⟩ := hC
    exact W.aret hx hb (hrt.trans hr) (Or.inl ⟨n, rfl⟩) (Or.inr ⟨_, rfl⟩) (fun t ht hW => ⟨⟨by rw [k_ret, hr]; rfl, by rw [ht]; exact hP⟩, hS.F ht⟩) hS.2.2 hd hlk
  · cases h
theorem sq_ret (hr : mi.2.2.2 = none) (hd : decode mi.2.1 pc = .ok (.return_, 1)) : Sq E G (kF G d mi) mi pc (o_ret (μ := μ)) := by
  intro L st M v M' h
  unfold o_ret at h
  split at h
  · cases h
    refine ⟨Nat.le_refl _, fun n0 p e s m args below meth c hC H locs ls hn hP hS hl => ?_⟩
    obtain ⟨hx, hb, hrt, hml, hown, hts, hlk, hnm, hU, hsz⟩ := hC
    exact W.vret hx hb (hrt.trans hr) (fun t ht hW => ⟨⟨by rw [k_ret, hr], by rw [ht]; exact hP⟩, hS.F ht⟩) hS.2.2 hd hlk
  · cases h
end Ends
section Sw
variable {μ : Type} {E : μ → Mw} {G : GG} {Φ : Ph} {mi : MI} {pc : Nat}
theorem k_pick_pos {x : Int32} {q : Int32 × Kt μ} {r : List (Int32 × Kt μ)} {Kd : Kt μ} {L st : List Value} {M : μ} (e : x = q.1) : k_pick x (q :: r) Kd L st M = q.2 L st M := if_pos e
theorem k_pick_neg {x : Int32} {q : Int32 × Kt μ} {r : List (Int32 × Kt μ)} {Kd : Kt μ} {L st : List Value} {M : μ} (e : ¬ x = q.1) : k_pick x (q :: r) Kd L st M = k_pick x r Kd L st M := if_neg e
def k_swT (E : μ → Mw) (G : GG) (Φ : Ph) (mi : MI) (pc : Nat) (lo : Int) (offs : Array Int) : Nat → List (Int32 × Kt μ) → Prop
  | _, [] => True
  | i, q :: r => (q.1.toInt = lo + i ∧ ∃ (off : Int) (tgt : Nat), offs[i]? = some off ∧ (pc : Int) + off = tgt ∧ Sq E G Φ mi tgt q.2) ∧ k_swT E G Φ mi pc lo offs (i + 1) r
theorem k_swT_pick {lo : Int} {offs : Array Int} {x : Int32} {Kd : Kt μ} {L st : List Value} {M : μ} {r : Value × μ} : ∀ (cs : List (Int32 × Kt μ)) (i0 : Nat), k_swT E G Φ mi pc lo offs i0 cs → k_pick x cs Kd L st M = some r →
    (∃ (i : Nat) (off : Int) (tgt : Nat) (K : Kt μ), i0 ≤ i ∧ i < i0 + cs.length ∧ x.toInt = lo + i ∧ offs[i]? = some off ∧ (pc : Int) + off = tgt ∧ Sq E G Φ mi tgt K ∧ K L st M = some r) ∨ ((∀ i : Nat, i0 ≤ i → i < i0 + cs.length → x.toInt ≠ lo + i) ∧ Kd L st M = some r) := by
  intro cs
  induction cs with
  | nil =>
    intro i0 _ h
    exact Or.inr ⟨fun i h1 h2 => absurd h2 (by simp; omega), h⟩
  | cons q cs ih =>
    intro i0 hc h
    obtain ⟨⟨h1, off, tgt, h2, h3, h4⟩, hr⟩ := hc
    by_cases e : x = q.1
    · rw [k_pick_pos e] at h
      exact Or.inl ⟨i0, off, tgt, q.2, Nat.le_refl _, by simp, by rw [e]; exact h1, h2, h3, h4, h⟩
    · rw [k_pick_neg e] at h
      rcases ih (i0 + 1) hr h with ⟨i, off, tgt, K, g1, g2, g3⟩ | ⟨g1, g2⟩
      · exact Or.inl ⟨i, off, tgt, K, by omega, by simp; omega, g3⟩
      · refine Or.inr ⟨fun i z1 z2 => ?_, g2⟩
        by_cases ei : i = i0
        · subst ei
          intro z
          exact e (Int32.toInt_inj.mp (z.trans h1.symm))
        · exact g1 i (by omega) (by simp at z2; omega)
theorem sq_tsw {dflt lo hi : Int} {offs : Array Int} {len td : Nat} {cs : List (Int32 × Kt μ)} {Kd : Kt μ} (hd : decode mi.2.1 pc = .ok (.tableswitch dflt lo hi offs, len)) (hn : hi = lo + cs.length - 1) (ht : (pc : Int) + dflt = (td : Int)) (hc : k_swT E G Φ mi pc lo offs 0 cs) (hD : Sq E G Φ mi td Kd) : Sq E G Φ mi pc (o_sw cs Kd) := by
  intro L st M v M' h
  unfold o_sw at h
  split at h
  · next x st =>
    rcases k_swT_pick cs 0 hc h with ⟨i, off, tgt, K, -, g2, g3, g4, g5, g6, g7⟩ | ⟨g1, g2⟩
    · obtain ⟨hm, hw⟩ := g6 _ _ _ _ _ g7
      exact ⟨hm, wq_go hw fun p l e R s m args below meth c H locs cells slots Q ls n0 hC hl k => lv_tableIn hC.1 hC.2.1 hd (by omega) (by omega) (by rw [g3, show lo + (i : Int) - lo = (i : Int) by omega]; exact g4) g5 k⟩
    · obtain ⟨hm, hw⟩ := hD _ _ _ _ _ g2
      refine ⟨hm, wq_go hw fun p l e R s m args below meth c H locs cells slots Q ls n0 hC hl k => lv_tableOut hC.1 hC.2.1 hd ?_ ht k⟩
      by_cases q : x.toInt < lo
      · exact Or.inl q
      · right
        have h2 := g1 (x.toInt - lo).toNat (Nat.zero_le _)
        by_cases q2 : hi < x.toInt
        · exact q2
        · exact absurd (by omega) (h2 (by omega))
  · cases h
def k_swL (E : μ → Mw) (G : GG) (Φ : Ph) (mi : MI) (pc : Nat) : List (Int × Int) → List (Int32 × Kt μ) → Prop
  | [], [] => True
  | a :: ps, q :: r => (q.1.toInt = a.1 ∧ ∃ tgt : Nat, (pc : Int) + a.2 = tgt ∧ Sq E G Φ mi tgt q.2) ∧ k_swL E G Φ mi pc ps r
  | _, _ => False
theorem sq_lsw {dflt : Int} {ps : Array (Int × Int)} {len td : Nat} {cs : List (Int32 × Kt μ)} {Kd : Kt μ} (hd : decode mi.2.1 pc = .ok (.lookupswitch dflt ps, len)) (hp : (ps.toList.zip (ps.toList.drop 1)).all (fun (a, next) => a.1 < next.1) = true) (ht : (pc : Int) + dflt = (td : Int)) (hc : k_swL E G Φ mi pc ps.toList cs) (hD : Sq E G Φ mi td Kd) : Sq E G Φ mi pc (o_sw cs Kd) := by
  intro L st M v M' h
  unfold o_sw at h
  split at h
  · next x st =>
    have key : ∀ (pl : List (Int × Int)) (cs : List (Int32 × Kt μ)), k_swL E G Φ mi pc pl cs → k_pick x cs Kd L st M = some (v, M') → ∃ (tgt : Nat) (K : Kt μ), (pc : Int) + Op.lookupswitch.offset pl dflt x.toInt = tgt ∧ Sq E G Φ mi tgt K ∧ K L st M = some (v, M') := by
      intro pl
      induction pl with
      | nil =>
        intro cs hc h
        cases cs with
        | nil => exact ⟨td, Kd, ht, hD, h⟩
        | cons q r => cases hc
      | cons a pl ih =>
        intro cs hc h
        cases cs with
        | nil => cases hc
        | cons q r =>
          obtain ⟨⟨h1, tgt, h2, h3⟩, hr⟩ := hc
          by_cases e : x = q.1
          · rw [k_pick_pos e] at h
            exact ⟨tgt, q.2, by rw [Op.lookupswitch.offset_cons, if_pos (by rw [e, h1])]; exact h2, h3, h⟩
          · rw [k_pick_neg e] at h
            obtain ⟨tgt, K, g1, g2⟩ := ih r hr h
            refine ⟨tgt, K, ?_, g2⟩
            rw [Op.lookupswitch.offset_cons, if_neg (fun z => e (Int32.toInt_inj.mp (by rw [h1, z])))]
            exact g1
    obtain ⟨tgt, K, g1, g2, g3⟩ := key _ _ hc h
    obtain ⟨hm, hw⟩ := g2 _ _ _ _ _ g3
    exact ⟨hm, wq_go hw fun p l e R s m args below meth c H locs cells slots Q ls n0 hC hl k => lv_lookup hC.1 hC.2.1 hd hp rfl g1 k⟩
  · cases h
end Sw
/-! calls -/
/-- a method that can be called: its code stands in the tables .. -/
def k_MI (mi : MI) : Prop := Cond.code mi.1 mi.2.1 mi.2.2.1 mi.2.2.2 ∈ lw_tbl ∧ Cond.initialized mi.1.cls ∈ lw_tbl ∧ (mi.1.cls ≠ "java/lang/invoke/MethodHandle" ∧ mi.1.cls ≠ "java/lang/invoke/VarHandle") ∧ plainName mi.1.cls = true ∧ mi.2.2.1 ≤ 45
/-- the room that a method has left: depth d -/
def k_ok (Φ : Ph) (d : Nat) : Prop := ∀ (v : Value) (M' : Mw) (n0 n : Nat) (args : Array Value) (s : State) (below : List Frame), n ≤ M'.1 → n0 ≤ n → d ≤ (Φ v M' n0 args s below).1.frames ∧ 64 * d ≤ (Φ v M' n0 args s below).1.locals ∧ n - n0 ≤ (Φ v M' n0 args s below).1.cells ∧ k_cs n - k_cs n0 ≤ (Φ v M' n0 args s below).1.slots
theorem k_ok_kF (G : GG) (d : Nat) (mi : MI) : k_ok (kF G d mi) d := by
  intro v M' n0 n args s below h h0
  have := k_cs_mono h
  exact ⟨Nat.le_refl _, Nat.le_refl _, by show n - n0 ≤ M'.1 - n0; omega, by show k_cs n - k_cs n0 ≤ k_cs M'.1 - k_cs n0; omega⟩
theorem k_good (mi : MI) (h : k_MI mi) : GoodIn k_tb (k_w mi) := by
  intro w hw
  rcases List.mem_cons.mp hw with rfl | hw
  · exact ⟨k_tb_mem h.1 rfl, Or.inl rfl⟩
  · exact ⟨hw, good_of_word (List.mem_filter.mp hw).2⟩
theorem k_popr : ∀ (n : Nat) (as st bs rest : List Value), k_pop n as st = some (bs, rest) → as.reverse ++ st = bs.reverse ++ rest ∧ bs.length = as.length + n := by
  intro n
  induction n with
  | zero =>
    intro as st bs rest h
    cases h
    exact ⟨rfl, rfl⟩
  | succ n ih =>
    intro as st bs rest h
    cases st with
    | nil => cases h
    | cons a st =>
      obtain ⟨h1, h2⟩ := ih (a :: as) st bs rest h
      exact ⟨by rw [← h1]; simp, by rw [h2]; simp; omega⟩
theorem k_pop_spec {n : Nat} {st as rest : List Value} (h : k_pop n [] st = some (as, rest)) : st = as.reverse ++ rest ∧ as.length = n := by
  obtain ⟨h1, h2⟩ := k_popr n [] st as rest h
  exact ⟨by simpa using h1, by simpa using h2⟩
theorem k_cats : ∀ st : List Value, (st.map fun v => v.category).sum ≤ 2 * st.length := by
  intro st
  induction st with
  | nil => exact Nat.le_refl _
  | cons a st ih =>
    have := lv_cat a
    simp only [List.map_cons, List.sum_cons, List.length_cons]
    omega
section CallW
variable {p : Program} {l : Launch} {e : Env} {R : Room} {s : State} {m : MethodId} {args : Array Value} {below : List Frame} {meth : Method} {c : Code} {H : Heap} {locs : List Loc} {cells slots : Nat} {Q : State → Prop}
theorem k_W_size {g : JFrame} (kk : H.size ≤ s.heap.size + cells → W p l e R s m args below meth c H locs cells slots Q g) : W p l e R s m args below meth c H locs cells slots Q g :=
  fun T hT X => kk (by rw [← hT]; exact X.heapSize) T hT X
theorem k_size {G : GG} {M : Mw} {n0 : Nat} (hn : n0 ≤ M.1) (hs : s.heap.size = G.2.2.1 + n0) (hP : va_P G.2.1 vwCl (k_ws G M) H) (hS : va_S (k_A G) s.heap H locs) (hz : H.size ≤ s.heap.size + (M.1 - n0)) : H.size = G.2.2.1 + M.1 := by
  have h1 : G.2.2.1 + M.1 ≤ H.size := by
    rcases Nat.eq_zero_or_pos M.1 with q | q
    · have := hS.1
      omega
    · have := (hP (M.1 - 1) _ (k_ws_get (by omega))).lt
      dsimp only at this
      omega
  omega
theorem k_after {G : GG} {mi' : MI} {v : Value} {M1 : Mw} {mc ms pc : Nat} {ls : Array Slot} {st0 rest : List Value} {a : Array Value} (hr : va_Run p l e R s m args below meth c H locs cells slots mc ms (F0 m pc ls st0) rest (k_Q G mi' v M1 a) (k_A G)) (hS : va_S (k_A G) s.heap H locs)
    (kk : ∀ (H1 : Heap) (locs1 : List Loc), va_P G.2.1 vwCl (k_ws G M1) H1 → va_S (k_A G) s.heap H1 locs1 → W p l e R s m args below meth c H1 locs1 (cells + mc) (slots + ms) Q (F0 m (pc + 3) ls ((k_ret G mi' v).toList ++ rest))) : W p l e R s m args below meth c H locs cells slots Q (F0 m pc ls st0) := by
  intro T hT X
  obtain ⟨w, st₀, t, T', L, h0, X', hL, e1, e2, ⟨⟨hv, hP⟩, hz, hk⟩, st⟩ := hr T hT X
  cases hv
  rw [h0] at hz hk
  obtain ⟨t2, a1, b1⟩ := kk T'.heap (locs ++ L) (by rw [e1]; exact hP)
    ⟨Nat.le_trans hS.1 (by rw [e1]; exact hz), fun q h1 h2 => by rw [e1, hk q (Nat.lt_of_lt_of_le h1 hS.1) h2]; exact hS.2.1 q h1 h2, fun q hq => by
      rcases List.mem_append.mp hq with h | h
      · exact hS.2.2 q h
      · exact hL q h⟩ T' rfl X'
  exact ⟨t2, st t2 a1, b1⟩
end CallW
def k_arity (y : MethodName) : Option Nat := (parseMethodDescriptor y.desc).map (fun d => d.parameters.length)
theorem k_retpush {G : GG} {mi : MI} {v : Value} {rest : List Value} : (k_ret G mi v).toList ++ rest.map (k_v G) = (k_push mi.2.2.2.isSome v rest).map (k_v G) := by
  unfold k_ret k_push
  cases mi.2.2.2 <;> rfl
section CallSq
variable {μ : Type} {E : μ → Mw} {G : GG} {Φ : Ph} {mi mi' : MI} {pc d d' idx n : Nat} {K : Kt μ} {R : List Value → μ → Option (Value × μ)}
theorem sq_callS (hd : decode mi.2.1 pc = .ok (.invokestatic idx, 3)) (hlk : Cond.methodLink mi.1.cls idx mi'.1 ∈ lw_tbl) (hst : Cond.static mi'.1 ∈ lw_tbl) (hM : k_MI mi') (hn : k_arity mi'.1 = some n) (hdd : d' + 1 ≤ d) (hΦ : k_ok Φ d) (hR : RS E G d' mi' R) (hk : Sq E G Φ mi (pc + 3) K) : Sq E G Φ mi pc (o_call n R mi'.2.2.2.isSome K) := by
  intro L st M v M' h
  unfold o_call at h
  split at h
  · next as rest hpop =>
    split at h
    · next hlen =>
      split at h
      · next w M1 hRr =>
        obtain ⟨hm1, hMC⟩ := hR _ _ _ _ hRr
        obtain ⟨hm, hw⟩ := hk _ _ _ _ _ h
        obtain ⟨hst2, hal⟩ := k_pop_spec hpop
        refine ⟨Nat.le_trans hm1 hm, fun n0 p e s m args below meth c hC H locs ls hn0 hP hS hl => ?_⟩
        obtain ⟨hx, hb, hrt, hml, hown, hts, hlk2, hnm, hU, hsz⟩ := id hC
        refine k_W_size fun hz => ?_
        have hsize := k_size hn0 hsz hP hS hz
        have hc1 := k_cs_mono hm1
        have hc2 := k_cs_mono hn0
        obtain ⟨f1, f2, f3, f4⟩ := hΦ v (E M') n0 (E M1).1 args s below hm (Nat.le_trans hn0 hm1)
        have cb : CallB (Φ v (E M') n0 args s below).1 s args mi.1.cls idx mi'.1 mi'.2.1 mi'.2.2.1 mi'.2.2.2 (k_w mi') (k_rm d' ((E M1).1 - (E M).1) (k_cs (E M1).1 - k_cs (E M).1)) ((E M1).1 - (E M).1) (k_cs (E M1).1 - k_cs (E M).1) n :=
          callB_of n hts (k_good mi' hM) rfl rfl rfl (hts _ (k_tb_mem hM.2.1 rfl)) (hts _ (k_tb_mem hlk rfl)) ⟨hM.2.2.1.1, hM.2.2.1.2, hn⟩ ⟨by show d' + 1 ≤ _; omega, by have := hM.2.2.2.2; show 8 + (mi'.2.2.1 + 11) + 64 * d' ≤ _; omega⟩
        have hrun := va_runS (g := F0 m pc ls (st.map (k_v G))) (H := H) (locs := locs) (below := below) (meth := meth) (e := e) (As := as.map (k_v G)) (rest := rest.map (k_v G)) (cells := (E M).1 - n0) (slots := k_cs (E M).1 - k_cs n0) ⟨hx, hb, hml, hown, hts⟩ hMC ⟨cb, hts _ (k_tb_mem hst rfl)⟩ ⟨k_blind, fun U hU2 hW => ⟨rfl, k_U_warm hS hU2 hW hU, by rw [hU2]; exact hsize, by rw [hU2]; exact hP⟩⟩ rfl (by rw [List.length_map]; exact hal) hl.1.1 (by show st.map (k_v G) = _; rw [hst2]; simp) (by have := k_cats (rest.map (k_v G)); rw [List.length_map] at this; show 2 * 0 + _ ≤ 8; omega) hd ⟨by omega, by omega⟩
        refine k_after hrun hS fun H1 locs1 hP1 hS1 => ?_
        rw [k_retpush, show (E M).1 - n0 + ((E M1).1 - (E M).1) = (E M1).1 - n0 by omega, show k_cs (E M).1 - k_cs n0 + (k_cs (E M1).1 - k_cs (E M).1) = k_cs (E M1).1 - k_cs n0 by omega]
        exact hw n0 p e s m args below meth c hC H1 locs1 ls (Nat.le_trans hn0 hm1) hP1 hS1 hl
      · cases h
    · cases h
  · cases h
theorem sq_callV {ci : Nat} {K : Kt Mi} {R : List Value → Mi → Option (Value × Mi)} (hd : decode mi.2.1 pc = .ok (.invokevirtual idx, 3)) (hlk : Cond.methodLink mi.1.cls idx mi'.1 ∈ lw_tbl) (hin : Cond.instanceMethod mi'.1 ∈ lw_tbl) (hse : Cond.selects mi'.1.cls mi'.1 mi'.1 ∈ lw_tbl) (hM : k_MI mi') (hn : k_arity mi'.1 = some n) (hci : ci < 8) (hcl : (k_cl ci).1 = mi'.1.cls) (hdd : d' + 1 ≤ d) (hΦ : k_ok Φ d) (hR : RS kE G d' mi' R) (hk : Sq kE G Φ mi (pc + 3) K) : Sq kE G Φ mi pc (o_callV ci (n + 1) R mi'.2.2.2.isSome K) := by
  intro L st M v M' h
  unfold o_callV at h
  split at h
  · next k as rest hpop =>
    split at h
    · next hlen =>
      obtain ⟨hsh, hlen⟩ := hlen
      split at h
      · next w M1 hRr =>
        obtain ⟨hm1, hMC⟩ := hR _ _ _ _ hRr
        obtain ⟨hm, hw⟩ := hk _ _ _ _ _ h
        obtain ⟨hst2, hal⟩ := k_pop_spec hpop
        have hk65 := k_sh_lt hsh (by omega)
        refine ⟨Nat.le_trans hm1 hm, fun n0 p e s m args below meth c hC H locs ls hn0 hP hS hl => ?_⟩
        obtain ⟨hx, hb, hrt, hml, hown, hts, hlk2, hnm, hU, hsz⟩ := id hC
        refine k_W_size fun hz => ?_
        have hsize := k_size hn0 hsz hP hS hz
        obtain ⟨f1, f2, f3, f4⟩ := hΦ v (kE M') n0 (kE M1).1 args s below hm (Nat.le_trans hn0 hm1)
        have cb : CallB (Φ v (kE M') n0 args s below).1 s args mi.1.cls idx mi'.1 mi'.2.1 mi'.2.2.1 mi'.2.2.2 (k_w mi') (k_rm d' ((kE M1).1 - (kE M).1) (k_cs (kE M1).1 - k_cs (kE M).1)) ((kE M1).1 - (kE M).1) (k_cs (kE M1).1 - k_cs (kE M).1) n :=
          callB_of n hts (k_good mi' hM) rfl rfl rfl (hts _ (k_tb_mem hM.2.1 rfl)) (hts _ (k_tb_mem hlk rfl)) ⟨hM.2.2.1.1, hM.2.2.1.2, hn⟩ ⟨by show d' + 1 ≤ _; omega, by have := hM.2.2.2.2; show 8 + (mi'.2.2.1 + 11) + 64 * d' ≤ _; omega⟩
        have hkr := k_ref (G := G) (Nat.lt_trans hk65 (by decide))
        have hrc := va_recv (D := G.2.1) (q := k_cl ci) (a := G.2.2.1 + k) hU.1 hP (ci := ci) (q0 := k) (k_get hci) (by rw [k_ws_get (show k < (kE M).1 from hk65), k_cell_obj hsh])
        rw [hcl] at hrc
        have hMC' : Met G.1 mi'.1 (k_w mi') (k_rm d' ((kE M1).1 - (kE M).1) (k_cs (kE M1).1 - k_cs (kE M).1)) (k_Pc G (.ref k :: as) (kE M)) (k_Q G mi' w (kE M1)) ((kE M1).1 - (kE M).1) (k_cs (kE M1).1 - k_cs (kE M).1) (k_A G) := hMC
        have hrun := va_runV (g := F0 m pc ls (st.map (k_v G))) (H := H) (locs := locs) (below := below) (meth := meth) (e := e) (b := G.2.2.1 + k) (As := as.map (k_v G)) (rest := rest.map (k_v G)) (cells := (kE M).1 - n0) (slots := k_cs (kE M).1 - k_cs n0) ⟨hx, hb, hml, hown, hts⟩ hMC' ⟨cb, hts _ (k_tb_mem hin rfl), hts _ (k_tb_mem hse rfl)⟩ ⟨k_blind, hrc, fun U hU2 hW => ⟨by rw [List.map_cons, hkr], k_U_warm hS hU2 hW hU, by rw [hU2]; exact hsize, by rw [hU2]; exact hP⟩⟩ rfl (by rw [List.length_map]; simpa using hal) hl.1.1 (by show st.map (k_v G) = _; rw [hst2]; simp [hkr]) (by have := k_cats (rest.map (k_v G)); rw [List.length_map] at this; show 2 * 0 + _ ≤ 8; omega) hd ⟨by show (65 - n0) + (65 - 65) ≤ _; exact f3, by show (k_cs 65 - k_cs n0) + (k_cs 65 - k_cs 65) ≤ _; rw [Nat.sub_self]; exact f4⟩
        refine k_after hrun hS fun H1 locs1 hP1 hS1 => ?_
        rw [k_retpush, show (kE M).1 - n0 + ((kE M1).1 - (kE M).1) = (kE M1).1 - n0 from rfl, show k_cs (kE M).1 - k_cs n0 + (k_cs (kE M1).1 - k_cs (kE M).1) = k_cs (kE M1).1 - k_cs n0 by show (k_cs 65 - k_cs n0) + (k_cs 65 - k_cs 65) = k_cs 65 - k_cs n0; rw [Nat.sub_self]; rfl]
        exact hw n0 p e s m args below meth c hC H1 locs1 ls (Nat.le_trans hn0 hm1) hP1 hS1 hl
      · cases h
    · cases h
  · cases h
/-- a nest mate's private constructor -/
def o_callI (R : List Value → μ → Option (Value × μ)) (K : Kt μ) : Kt μ := fun L st M => match st with
  | .ref k :: rest => if k < 900 ∧ rest.length ≤ 4 then (match R [.ref k] M with
    | some (_, M1) => K L rest M1
    | none => none) else none
  | _ => none
theorem sq_callIN {host : String} (hd : decode mi.2.1 pc = .ok (.invokespecial idx, 3)) (hlk : Cond.methodLinkNest mi.1.cls idx mi'.1 host ∈ k_nw) (hin : Cond.instanceMethod mi'.1 ∈ lw_tbl) (hM : k_MI mi') (hret : mi'.2.2.2 = none) (hy1 : mi'.1.name = "<init>") (hn : k_arity mi'.1 = some 0) (hdd : d' + 1 ≤ d) (hΦ : k_ok Φ d) (hR : RS E G d' mi' R) (hk : Sq E G Φ mi (pc + 3) K) : Sq E G Φ mi pc (o_callI R K) := by
  obtain ⟨y', b', l', r'⟩ := mi'
  dsimp only at hret
  subst hret
  intro L st M v M' h
  unfold o_callI at h
  split at h
  · next k rest =>
    split at h
    · next hlen =>
      obtain ⟨hk9, hlen⟩ := hlen
      split at h
      · next w M1 hRr =>
        obtain ⟨hm1, hMC⟩ := hR _ _ _ _ hRr
        obtain ⟨hm, hw⟩ := hk _ _ _ _ _ h
        refine ⟨Nat.le_trans hm1 hm, fun n0 p e s m args below meth c hC H locs ls hn0 hP hS hl => ?_⟩
        obtain ⟨hx, hb, hrt, hml, hown, hts, hlk2, hnm, hU, hsz⟩ := id hC
        refine k_W_size fun hz => ?_
        have hsize := k_size hn0 hsz hP hS hz
        have hc1 := k_cs_mono hm1
        have hc2 := k_cs_mono hn0
        have hkr := k_ref (G := G) hk9
        obtain ⟨f1, f2, f3, f4⟩ := hΦ v (E M') n0 (E M1).1 args s below hm (Nat.le_trans hn0 hm1)
        have cb := va_cnB (R := (Φ v (E M') n0 args s below).1) (rm := k_rm d' ((E M1).1 - (E M).1) (k_cs (E M1).1 - k_cs (E M).1)) (index := idx) (own := mi.1.cls) (bytes := b') (maxL := l') (ret := none) 0 hts (k_good _ hM) rfl rfl rfl (hU.2.1 _ hlk) (hts _ (k_tb_mem hM.2.1 rfl)) ⟨hM.2.2.1.1, hM.2.2.1.2, hn⟩ ⟨by show d' + 1 ≤ _; omega, by have := hM.2.2.2.2; dsimp only at this; show 8 + (l' + 11) + 64 * d' ≤ _; omega⟩
        have hMC' : Met G.1 y' (k_w (y', b', l', none)) (k_rm d' ((E M1).1 - (E M).1) (k_cs (E M1).1 - k_cs (E M).1)) (k_Pc G [.ref k] (E M)) (k_Q G (y', b', l', none) w (E M1)) ((E M1).1 - (E M).1) (k_cs (E M1).1 - k_cs (E M).1) (k_A G) := hMC
        have hrun := va_runIN (g := F0 m pc ls ((.ref k :: rest : List Value).map (k_v G))) (H := H) (locs := locs) (below := below) (meth := meth) (e := e) (b := G.2.2.1 + k) (As := []) (rest := rest.map (k_v G)) (cells := (E M).1 - n0) (slots := k_cs (E M).1 - k_cs n0) ⟨hx, hb, hml, hown, hts⟩ hMC' ⟨cb, hy1, hts _ (k_tb_mem hin rfl)⟩ ⟨k_blind, fun U hU2 hW => ⟨by rw [List.map_cons, hkr]; rfl, k_U_warm hS hU2 hW hU, by rw [hU2]; exact hsize, by rw [hU2]; exact hP⟩⟩ rfl rfl hl.1.1 (by show (.ref k :: rest : List Value).map (k_v G) = _; rw [List.map_cons, hkr]; rfl) (by have := k_cats (rest.map (k_v G)); rw [List.length_map] at this; show 2 * 0 + _ ≤ 8; omega) hd ⟨by omega, by omega⟩
        refine k_after hrun hS fun H1 locs1 hP1 hS1 => ?_
        rw [show (E M).1 - n0 + ((E M1).1 - (E M).1) = (E M1).1 - n0 by omega, show k_cs (E M).1 - k_cs n0 + (k_cs (E M1).1 - k_cs (E M).1) = k_cs (E M1).1 - k_cs n0 by omega]
        exact hw n0 p e s m args below meth c hC H1 locs1 ls (Nat.le_trans hn0 hm1) hP1 hS1 hl
      · cases h
    · cases h
  · cases h
end CallSq
/-! the entry of a method -/
theorem k_args_mem (G : GG) : ∀ (as : List Value) (i k : Nat) (v : Value), (∀ a ∈ as, a.category = 1) → as[k]? = some v → (i + k, k_v G v) ∈ lv_args i (as.map (k_v G)) := by
  intro as
  induction as with
  | nil => intro i k v _ h; simp at h
  | cons a as ih =>
    intro i k v hc h
    rw [List.map_cons, lv_args]
    have h1 : ¬ (k_v G a).category = 2 := by rw [k_v_cat, hc a List.mem_cons_self]; omega
    cases k with
    | zero =>
      simp only [List.getElem?_cons_zero] at h
      cases h
      exact List.mem_cons_self
    | succ k =>
      rw [List.getElem?_cons_succ] at h
      rw [if_neg h1]
      have := ih (i + 1) k v (fun b hb => hc b (List.mem_cons_of_mem _ hb)) h
      rw [show i + 1 + k = i + (k + 1) by omega] at this
      exact List.mem_cons_of_mem _ this
theorem k_sl_len (G : GG) : ∀ as : List Value, (∀ a ∈ as, a.category = 1) → (lg_sl (as.map (k_v G))).length = as.length := by
  intro as
  induction as with
  | nil => intro _; rfl
  | cons a as ih =>
    intro hc
    have h1 : ¬ (k_v G a).category = 2 := by rw [k_v_cat, hc a List.mem_cons_self]; omega
    have h2 := ih (fun b hb => hc b (List.mem_cons_of_mem _ hb))
    simp only [lg_sl, List.map_cons, List.flatMap_cons, if_neg h1, List.length_append, List.length_cons, List.length_nil] at h2 ⊢
    omega
theorem mc_of {μ : Type} {E : μ → Mw} {G : GG} {d : Nat} {mi : MI} {K : Kt μ} {as L : List Value} {M M' : μ} {v : Value} (hM : k_MI mi) (hK : Sq E G (kF G d mi) mi 0 K) (hc : ∀ a ∈ as, a.category = 1) (hn : as.length ≤ mi.2.2.1) (hL : L = as ++ List.replicate (mi.2.2.1 - as.length) .null) (h : K L [] M = some (v, M')) : (E M).1 ≤ (E M').1 ∧ MC G d mi as (E M) v (E M') := by
  obtain ⟨hm, hw⟩ := hK _ _ _ _ _ h
  refine ⟨hm, ?_⟩
  refine Met.ofW (cc := mi.2.1) (maxL := mi.2.2.1) (ret := mi.2.2.2) hM.2.2.2.1 rfl ?_
  intro p e s m args below meth c s₁ B hml hv
  obtain ⟨rfl, hU, hsz, hP⟩ := hv
  have hts := atoms_spec (ws := k_w mi) B.pre
  have hl := lv_entry (as.map (k_v G)) (n := mi.2.2.1) (by rw [k_sl_len G as hc]; exact hn)
  rw [lg_entry_eq]
  have hlq : k_lq G mi.2.2.1 ((lg_sl (as.map (k_v G)) ++ List.replicate (mi.2.2.1 - (lg_sl (as.map (k_v G))).length) Slot.unset).toArray) L := by
    have hget : ∀ (k : Nat) (w : Value), L[k]? = some w → w = .null ∨ as[k]? = some w := by
      intro k w hk
      rw [hL] at hk
      by_cases hk2 : k < as.length
      · rw [List.getElem?_append_left hk2] at hk
        exact Or.inr hk
      · rw [List.getElem?_append_right (by omega)] at hk
        exact Or.inl (List.eq_of_mem_replicate (List.mem_of_getElem? hk))
    refine ⟨⟨hl.1, hl.2.1, fun q hq => hl.2.2 q ?_⟩, by rw [hL]; simp; omega, fun k x hk => ?_⟩
    · obtain ⟨k, w⟩ := q
      obtain ⟨u, h1, h2, rfl⟩ := k_as_mem.mp hq
      rcases hget k u h1 with rfl | h3
      · cases h2
      · have := k_args_mem G as 0 k u hc h3
        rw [Nat.zero_add] at this
        exact this
    · rcases hget k _ hk with h1 | h1
      · cases h1
      · have := hc _ (List.mem_of_getElem? h1)
        cases this
  have hC : k_Cx G mi (E M).1 p s m ((as.map (k_v G)).toArray) meth c := ⟨B.exec, B.bytes, B.returns, hml, findClass_of_methodNamed B.named, fun w hw => hts w (List.mem_cons_of_mem _ hw), B.notSynchronized, (name_of_methodNamed B.named B.method).1, hU, hsz⟩
  have := hw (E M).1 p e s m _ below meth c hC s.heap [] _ (Nat.le_refl _) hP va_S.rf hlq
  rw [Nat.sub_self, Nat.sub_self] at this
  exact this
