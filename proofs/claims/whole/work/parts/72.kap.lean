/-! ===== what can still matter of a sleeper ===== -/
def kap (a : Sa) (s : Nat) : Nat := if a (42 + s) = 1 then (if a (22 + s) = 5 then a (37 + s) + 128 else 255) else a (37 + s)
theorem nc_congr {x y : Sa} {s f : Nat} (hs : s < 5) (hf : f < 6) (st : ∀ t, 0 < t → t < 37 → y t = x t) (hc : y (37 + s) = x (37 + s)) : nc y s f = nc x s f := by
  unfold nc cn hr
  rw [hc, st (32 + s) (by omega) (by omega), st 1 (by omega) (by omega), st (10 + f) (by omega) (by omega), st (16 + f) (by omega) (by omega), st (22 + s) (by omega) (by omega)]
theorem nf_congr {x y : Sa} {s f : Nat} (hs : s < 5) (hf : f < 6) (st : ∀ t, 0 < t → t < 37 → y t = x t) (hc : y (37 + s) = x (37 + s)) (ho : y (42 + s) = x (42 + s)) : nf y s f = nf x s f := by
  unfold nf
  rw [nc_congr hs hf st hc, ho, st (27 + s) (by omega) (by omega), st (16 + f) (by omega) (by omega), st (22 + s) (by omega) (by omega)]
  unfold hr
  rw [st (32 + s) (by omega) (by omega), st 1 (by omega) (by omega), st (10 + f) (by omega) (by omega)]
theorem nf_stay {x : Sa} {s f : Nat} (hk : x (22 + s) ≠ 5) (ho : x (42 + s) = 1) : nf x s f = 1 := by
  unfold nf
  split
  · rfl
  · rw [if_neg (fun q => hk q.2.1)]; exact ho
theorem kap_off {x y : Sa} {s : Nat} (hx : x (37 + s) ≤ 99 ∧ x (42 + s) ≤ 1) (hy : y (37 + s) ≤ 99 ∧ y (42 + s) ≤ 1) (h : kap x s = kap y s) : x (42 + s) = y (42 + s) := by
  unfold kap at h
  split at h <;> split at h <;> (try split at h) <;> (try split at h) <;> omega
theorem kap_step {x y : Sa} {s f : Nat} (hx : Vs x) (hy : Vs y) (hs : s < x 3) (hf : f < 6) (st : ∀ t, 0 < t → t < 37 → y t = x t) (h : kap x s = kap y s) : kap (stp x f) s = kap (stp y f) s := by
  have h3 : y 3 = x 3 := st 3 (by omega) (by omega)
  have h5 := hx.1.2.1
  have bx := hx.2.2.2 s hs
  have by' := hy.2.2.2 s (by omega)
  have e22 : y (22 + s) = x (22 + s) := st _ (by omega) (by omega)
  have eo := kap_off ⟨bx.2.2.2.1, bx.2.2.2.2⟩ ⟨by'.2.2.2.1, by'.2.2.2.2⟩ h
  unfold kap at h ⊢
  rw [stp_c hs, stp_f hs h5, stp_c (a := y) (by omega), stp_f (a := y) (by omega) (by omega), stp_st (by omega) (by omega), stp_st (by omega) (by omega), e22]
  by_cases hk : x (42 + s) = 1 ∧ x (22 + s) ≠ 5
  · rw [nf_stay hk.2 hk.1, nf_stay (x := y) (by rw [e22]; exact hk.2) (by rw [← eo]; exact hk.1), if_pos rfl, if_pos rfl, if_neg hk.2, if_neg hk.2]
  · have ec : y (37 + s) = x (37 + s) := by
      rw [← eo, e22] at h
      by_cases q : x (42 + s) = 1
      · have q2 : x (22 + s) = 5 := Classical.byContradiction fun z => hk ⟨q, z⟩
        rw [if_pos q, if_pos q, if_pos q2, if_pos q2] at h
        omega
      · rw [if_neg q, if_neg q] at h
        exact h.symm
    rw [nf_congr (by omega) hf st ec eo.symm, nc_congr (by omega) hf st ec]
def aof (a : Sa) (W : Nat) : Prop := ∀ s, s < a 3 → bt W s = 1 → a (42 + s) = 1
theorem pk_per {rw' : List Nat} {a : Sa} {t : Nat} : pk rw' (itr rw' a (t + rw'.length)) = pk rw' (itr rw' a t) := by
  unfold pk
  rw [itr_0, itr_0, ← Nat.add_assoc, Nat.add_mod_right]
theorem per_kap {rw' : List Nat} {a : Sa} {W j0 : Nat} (hv : Vs a) (hl : 0 < rw'.length) (hm : ∀ f, f ∈ rw' → f < 6) (h : ∀ s, s < a 3 → bt W s = 1 → kap (itr rw' a j0) s = kap (itr rw' a (j0 + rw'.length)) s) : ∀ i s, s < a 3 → bt W s = 1 → kap (itr rw' a (j0 + i)) s = kap (itr rw' a (j0 + i + rw'.length)) s := by
  intro i
  induction i with
  | zero => exact h
  | succ i ih =>
    intro s hs hb
    have e1 : itr rw' a (j0 + (i + 1)) = stp (itr rw' a (j0 + i)) (pk rw' (itr rw' a (j0 + i))) := rfl
    have e2 : itr rw' a (j0 + (i + 1) + rw'.length) = stp (itr rw' a (j0 + i + rw'.length)) (pk rw' (itr rw' a (j0 + i + rw'.length))) := by
      rw [show j0 + (i + 1) + rw'.length = j0 + i + rw'.length + 1 by omega]
      rfl
    rw [e1, e2, pk_per]
    exact kap_step (itr_V hv _) (itr_V hv _) (by rw [itr_st (by omega) (by omega)]; exact hs) (hm _ (pk_mem hl)) (fun t z1 z2 => by rw [itr_st z1 z2, itr_st z1 z2]) (ih s hs hb)
theorem per_off {rw' : List Nat} {a : Sa} {W j0 : Nat} (hv : Vs a) (hl : 0 < rw'.length) (hm : ∀ f, f ∈ rw' → f < 6) (h : ∀ s, s < a 3 → bt W s = 1 → kap (itr rw' a j0) s = kap (itr rw' a (j0 + rw'.length)) s) (hn : ∀ i, i < rw'.length → ¬ aof (itr rw' a (j0 + i)) W) : ∀ i, ¬ aof (itr rw' a (j0 + i)) W := by
  intro i
  induction i using Nat.strongRecOn with
  | _ i ih =>
    by_cases hi : i < rw'.length
    · exact hn i hi
    · intro q
      refine ih (i - rw'.length) (by omega) (fun s hs hb => ?_)
      have h3 : itr rw' a (j0 + (i - rw'.length)) 3 = a 3 := itr_st (by omega) (by omega) _
      rw [h3] at hs
      have hk := per_kap hv hl hm h (i - rw'.length) s hs hb
      rw [show j0 + (i - rw'.length) + rw'.length = j0 + i by omega] at hk
      have v1 := (itr_V (rw' := rw') hv (j0 + (i - rw'.length))).2.2.2 s (by rw [h3]; exact hs)
      have v2 := (itr_V (rw' := rw') hv (j0 + i)).2.2.2 s (by rw [itr_st (by omega) (by omega)]; exact hs)
      rw [kap_off ⟨v1.2.2.2.1, v1.2.2.2.2⟩ ⟨v2.2.2.2.1, v2.2.2.2.2⟩ hk]
      exact q s (by rw [itr_st (by omega) (by omega)]; exact hs) hb
