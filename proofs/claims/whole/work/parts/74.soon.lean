/-! ===== when, all ===== -/
theorem lg_eq {x y : Int64} (h : x = y) : lg_cmp x y = nI 0 := by
  unfold lg_cmp
  subst h
  rw [if_neg (by intro z; exact absurd z (Int64.lt_irrefl)), if_pos rfl]
  rfl
theorem lg_ne {x y : Int64} (h : x ≠ y) : lg_cmp x y ≠ nI 0 := by
  unfold lg_cmp
  rw [if_neg h]
  split <;> decide +kernel
