/-! ===== Math.min ===== -/
def o_min (K : Kt Mi) : Kt Mi := fun L st M => match st with
  | .int y :: .int x :: st => if st.length ≤ 4 then K L (.int (if y < x then y else x) :: st) M else none
  | _ => none
theorem sq_min {G : GG} {Φ : Ph} {mi : MI} {pc d idx : Nat} {K : Kt Mi} (hd : decode mi.2.1 pc = .ok (.invokestatic idx, 3)) (hlk : Cond.methodLink mi.1.cls idx Lib.Math.min.name ∈ lw_tbl) (hst : Cond.static Lib.Math.min.name ∈ lw_tbl) (hini : Cond.initialized "java/lang/Math" ∈ lw_tbl) (hco : Cond.code Lib.Math.min.name Lib.Math.min.code 2 (some .int) ∈ lw_tbl) (hd1 : 1 ≤ d) (hΦ : k_ok Φ d) (hk : Sq kE G Φ mi (pc + 3) K) : Sq kE G Φ mi pc (o_min K) := by
  intro L st M v M' h
  unfold o_min at h
  split at h
  · next y x st =>
    split at h
    · next hlen =>
      obtain ⟨hm, hw⟩ := hk _ _ _ _ _ h
      refine ⟨hm, fun n0 p e s m args below meth c hC H locs ls hn hP hS hl => ?_⟩
      obtain ⟨hx, hb, hrt, hml, hown, hts, hlk2, hnm, hU, hsz⟩ := id hC
      obtain ⟨f1, f2, f3, f4⟩ := hΦ v (kE M') n0 (kE M).1 args s below hm hn
      have hcat := k_cats (st.map (k_v G))
      rw [List.length_map] at hcat
      exact va_mmin hx hb (hml.trans hl.1.1.symm) hown (hts _ (k_tb_mem hlk rfl)) (hts _ (k_tb_mem hst rfl)) (hts _ (k_tb_mem hini rfl)) (hts _ (k_tb_mem hco rfl)) (by omega) (by omega) f3 f4 hd (hw n0 p e s m args below meth c hC H locs ls hn hP hS hl)
    · cases h
  · cases h
section SwC
variable {μ : Type} {E : μ → Mw} {G : GG} {Φ : Ph} {mi : MI} {pc : Nat}
theorem k_swT_nil {lo : Int} {offs : Array Int} {i : Nat} : k_swT E G Φ mi pc lo offs i [] := trivial
theorem k_swT_cons {lo : Int} {offs : Array Int} {i : Nat} {x : Int32} {K : Kt μ} {r : List (Int32 × Kt μ)} (off : Int) (tgt : Nat) (h1 : x.toInt = lo + i) (h2 : offs[i]? = some off) (h3 : (pc : Int) + off = tgt) (h4 : Sq E G Φ mi tgt K) (h5 : k_swT E G Φ mi pc lo offs (i + 1) r) : k_swT E G Φ mi pc lo offs i ((x, K) :: r) := ⟨⟨h1, off, tgt, h2, h3, h4⟩, h5⟩
end SwC
