/-! ===== the law, as a function ===== -/
theorem ki_0_8 : (8 : Int32).toInt = (0 : Int) + ((0 + 1 + 1 + 1 + 1 + 1 + 1 + 1 + 1 : Nat) : Int) := by decide +kernel
theorem ki_0_9 : (9 : Int32).toInt = (0 : Int) + ((0 + 1 + 1 + 1 + 1 + 1 + 1 + 1 + 1 + 1 : Nat) : Int) := by decide +kernel
theorem ki_0_10 : (10 : Int32).toInt = (0 : Int) + ((0 + 1 + 1 + 1 + 1 + 1 + 1 + 1 + 1 + 1 + 1 : Nat) : Int) := by decide +kernel
theorem ki_0_11 : (11 : Int32).toInt = (0 : Int) + ((0 + 1 + 1 + 1 + 1 + 1 + 1 + 1 + 1 + 1 + 1 + 1 : Nat) : Int) := by decide +kernel
theorem ki_0_12 : (12 : Int32).toInt = (0 : Int) + ((0 + 1 + 1 + 1 + 1 + 1 + 1 + 1 + 1 + 1 + 1 + 1 + 1 : Nat) : Int) := by decide +kernel
theorem ki_0_13 : (13 : Int32).toInt = (0 : Int) + ((0 + 1 + 1 + 1 + 1 + 1 + 1 + 1 + 1 + 1 + 1 + 1 + 1 + 1 : Nat) : Int) := by decide +kernel
theorem ki_0_14 : (14 : Int32).toInt = (0 : Int) + ((0 + 1 + 1 + 1 + 1 + 1 + 1 + 1 + 1 + 1 + 1 + 1 + 1 + 1 + 1 : Nat) : Int) := by decide +kernel
theorem ki_0_15 : (15 : Int32).toInt = (0 : Int) + ((0 + 1 + 1 + 1 + 1 + 1 + 1 + 1 + 1 + 1 + 1 + 1 + 1 + 1 + 1 + 1 : Nat) : Int) := by decide +kernel
theorem ki_0_16 : (16 : Int32).toInt = (0 : Int) + ((0 + 1 + 1 + 1 + 1 + 1 + 1 + 1 + 1 + 1 + 1 + 1 + 1 + 1 + 1 + 1 + 1 : Nat) : Int) := by decide +kernel
theorem ki_0_17 : (17 : Int32).toInt = (0 : Int) + ((0 + 1 + 1 + 1 + 1 + 1 + 1 + 1 + 1 + 1 + 1 + 1 + 1 + 1 + 1 + 1 + 1 + 1 : Nat) : Int) := by decide +kernel
theorem ki_0_18 : (18 : Int32).toInt = (0 : Int) + ((0 + 1 + 1 + 1 + 1 + 1 + 1 + 1 + 1 + 1 + 1 + 1 + 1 + 1 + 1 + 1 + 1 + 1 + 1 : Nat) : Int) := by decide +kernel
theorem ki_0_19 : (19 : Int32).toInt = (0 : Int) + ((0 + 1 + 1 + 1 + 1 + 1 + 1 + 1 + 1 + 1 + 1 + 1 + 1 + 1 + 1 + 1 + 1 + 1 + 1 + 1 : Nat) : Int) := by decide +kernel
theorem ki_0_20 : (20 : Int32).toInt = (0 : Int) + ((0 + 1 + 1 + 1 + 1 + 1 + 1 + 1 + 1 + 1 + 1 + 1 + 1 + 1 + 1 + 1 + 1 + 1 + 1 + 1 + 1 : Nat) : Int) := by decide +kernel
theorem ki_0_21 : (21 : Int32).toInt = (0 : Int) + ((0 + 1 + 1 + 1 + 1 + 1 + 1 + 1 + 1 + 1 + 1 + 1 + 1 + 1 + 1 + 1 + 1 + 1 + 1 + 1 + 1 + 1 : Nat) : Int) := by decide +kernel
theorem ki_0_22 : (22 : Int32).toInt = (0 : Int) + ((0 + 1 + 1 + 1 + 1 + 1 + 1 + 1 + 1 + 1 + 1 + 1 + 1 + 1 + 1 + 1 + 1 + 1 + 1 + 1 + 1 + 1 + 1 : Nat) : Int) := by decide +kernel
theorem ki_0_23 : (23 : Int32).toInt = (0 : Int) + ((0 + 1 + 1 + 1 + 1 + 1 + 1 + 1 + 1 + 1 + 1 + 1 + 1 + 1 + 1 + 1 + 1 + 1 + 1 + 1 + 1 + 1 + 1 + 1 : Nat) : Int) := by decide +kernel
theorem ki_0_24 : (24 : Int32).toInt = (0 : Int) + ((0 + 1 + 1 + 1 + 1 + 1 + 1 + 1 + 1 + 1 + 1 + 1 + 1 + 1 + 1 + 1 + 1 + 1 + 1 + 1 + 1 + 1 + 1 + 1 + 1 : Nat) : Int) := by decide +kernel
theorem ki_0_25 : (25 : Int32).toInt = (0 : Int) + ((0 + 1 + 1 + 1 + 1 + 1 + 1 + 1 + 1 + 1 + 1 + 1 + 1 + 1 + 1 + 1 + 1 + 1 + 1 + 1 + 1 + 1 + 1 + 1 + 1 + 1 : Nat) : Int) := by decide +kernel
theorem ki_0_26 : (26 : Int32).toInt = (0 : Int) + ((0 + 1 + 1 + 1 + 1 + 1 + 1 + 1 + 1 + 1 + 1 + 1 + 1 + 1 + 1 + 1 + 1 + 1 + 1 + 1 + 1 + 1 + 1 + 1 + 1 + 1 + 1 : Nat) : Int) := by decide +kernel
theorem ki_0_27 : (27 : Int32).toInt = (0 : Int) + ((0 + 1 + 1 + 1 + 1 + 1 + 1 + 1 + 1 + 1 + 1 + 1 + 1 + 1 + 1 + 1 + 1 + 1 + 1 + 1 + 1 + 1 + 1 + 1 + 1 + 1 + 1 + 1 : Nat) : Int) := by decide +kernel
theorem ki_0_28 : (28 : Int32).toInt = (0 : Int) + ((0 + 1 + 1 + 1 + 1 + 1 + 1 + 1 + 1 + 1 + 1 + 1 + 1 + 1 + 1 + 1 + 1 + 1 + 1 + 1 + 1 + 1 + 1 + 1 + 1 + 1 + 1 + 1 + 1 : Nat) : Int) := by decide +kernel
theorem ki_0_29 : (29 : Int32).toInt = (0 : Int) + ((0 + 1 + 1 + 1 + 1 + 1 + 1 + 1 + 1 + 1 + 1 + 1 + 1 + 1 + 1 + 1 + 1 + 1 + 1 + 1 + 1 + 1 + 1 + 1 + 1 + 1 + 1 + 1 + 1 + 1 : Nat) : Int) := by decide +kernel
theorem ki_0_30 : (30 : Int32).toInt = (0 : Int) + ((0 + 1 + 1 + 1 + 1 + 1 + 1 + 1 + 1 + 1 + 1 + 1 + 1 + 1 + 1 + 1 + 1 + 1 + 1 + 1 + 1 + 1 + 1 + 1 + 1 + 1 + 1 + 1 + 1 + 1 + 1 : Nat) : Int) := by decide +kernel
theorem ki_0_31 : (31 : Int32).toInt = (0 : Int) + ((0 + 1 + 1 + 1 + 1 + 1 + 1 + 1 + 1 + 1 + 1 + 1 + 1 + 1 + 1 + 1 + 1 + 1 + 1 + 1 + 1 + 1 + 1 + 1 + 1 + 1 + 1 + 1 + 1 + 1 + 1 + 1 : Nat) : Int) := by decide +kernel
theorem ki_0_32 : (32 : Int32).toInt = (0 : Int) + ((0 + 1 + 1 + 1 + 1 + 1 + 1 + 1 + 1 + 1 + 1 + 1 + 1 + 1 + 1 + 1 + 1 + 1 + 1 + 1 + 1 + 1 + 1 + 1 + 1 + 1 + 1 + 1 + 1 + 1 + 1 + 1 + 1 : Nat) : Int) := by decide +kernel
theorem ki_0_33 : (33 : Int32).toInt = (0 : Int) + ((0 + 1 + 1 + 1 + 1 + 1 + 1 + 1 + 1 + 1 + 1 + 1 + 1 + 1 + 1 + 1 + 1 + 1 + 1 + 1 + 1 + 1 + 1 + 1 + 1 + 1 + 1 + 1 + 1 + 1 + 1 + 1 + 1 + 1 : Nat) : Int) := by decide +kernel
set_option maxRecDepth 20000 in
theorem ml_L_13 : Cond.methodLink RL 13 yX6_row ∈ lw_tbl := List.mem_append_right _ (List.mem_append_right _ (List.mem_append_left _ (List.mem_of_getElem? (i := 15) rfl)))
set_option maxRecDepth 20000 in
theorem ml_L_17 : Cond.methodLink RL 17 yX7_row ∈ lw_tbl := List.mem_append_right _ (List.mem_append_right _ (List.mem_append_right _ (List.mem_append_right _ (List.mem_append_left _ (List.mem_of_getElem? (i := 75) rfl)))))
set_option maxRecDepth 20000 in
theorem ml_L_18 : Cond.methodLink RL 18 yX6_set ∈ lw_tbl := List.mem_append_right _ (List.mem_append_right _ (List.mem_append_left _ (List.mem_of_getElem? (i := 41) rfl)))
set_option maxRecDepth 20000 in
theorem ml_L_21 : Cond.methodLink RL 21 yX7_set ∈ lw_tbl := List.mem_append_right _ (List.mem_append_right _ (List.mem_append_right _ (List.mem_append_right _ (List.mem_append_left _ (List.mem_of_getElem? (i := 95) rfl)))))
set_option maxRecDepth 20000 in
theorem ml_L_22 : Cond.methodLink RL 22 yX6_copy ∈ lw_tbl := List.mem_append_right _ (List.mem_append_right _ (List.mem_append_left _ (List.mem_of_getElem? (i := 57) rfl)))
set_option maxRecDepth 20000 in
theorem ml_L_26 : Cond.methodLink RL 26 yX7_copy ∈ lw_tbl := List.mem_append_right _ (List.mem_append_right _ (List.mem_append_right _ (List.mem_append_right _ (List.mem_append_left _ (List.mem_of_getElem? (i := 99) rfl)))))
set_option maxRecDepth 20000 in
theorem ml_L_27 : Cond.methodLink RL 27 yX6_drop ∈ lw_tbl := List.mem_append_right _ (List.mem_append_right _ (List.mem_append_left _ (List.mem_of_getElem? (i := 68) rfl)))
set_option maxRecDepth 20000 in
theorem ml_L_31 : Cond.methodLink RL 31 yX7_drop ∈ lw_tbl := List.mem_append_right _ (List.mem_append_right _ (List.mem_append_right _ (List.mem_append_right _ (List.mem_append_left _ (List.mem_of_getElem? (i := 106) rfl)))))
set_option maxRecDepth 20000 in
theorem ml_L_32 : Cond.methodLink RL 32 yX6_feed ∈ lw_tbl := List.mem_append_right _ (List.mem_append_right _ (List.mem_append_left _ (List.mem_of_getElem? (i := 76) rfl)))
set_option maxRecDepth 20000 in
theorem ml_L_35 : Cond.methodLink RL 35 yX7_feed ∈ lw_tbl := List.mem_append_right _ (List.mem_append_right _ (List.mem_append_right _ (List.mem_append_right _ (List.mem_append_left _ (List.mem_of_getElem? (i := 110) rfl)))))
set_option maxRecDepth 20000 in
theorem ml_L_36 : Cond.methodLink RL 36 yX6_square ∈ lw_tbl := List.mem_append_right _ (List.mem_append_right _ (List.mem_append_left _ (List.mem_of_getElem? (i := 85) rfl)))
set_option maxRecDepth 20000 in
theorem ml_L_40 : Cond.methodLink RL 40 yX7_square ∈ lw_tbl := List.mem_append_right _ (List.mem_append_right _ (List.mem_append_right _ (List.mem_append_right _ (List.mem_append_left _ (List.mem_of_getElem? (i := 115) rfl)))))
set_option maxRecDepth 20000 in
theorem ml_L_41 : Cond.methodLink RL 41 yX6_fault ∈ lw_tbl := List.mem_append_right _ (List.mem_append_right _ (List.mem_append_left _ (List.mem_of_getElem? (i := 157) rfl)))
set_option maxRecDepth 20000 in
theorem ml_L_44 : Cond.methodLink RL 44 yX7_fault ∈ lw_tbl := List.mem_append_right _ (List.mem_append_right _ (List.mem_append_right _ (List.mem_append_right _ (List.mem_append_left _ (List.mem_of_getElem? (i := 154) rfl)))))
set_option maxRecDepth 20000 in
theorem ml_L_45 : Cond.methodLink RL 45 yX6_steps ∈ lw_tbl := List.mem_append_right _ (List.mem_append_right _ (List.mem_append_left _ (List.mem_of_getElem? (i := 161) rfl)))
set_option maxRecDepth 20000 in
theorem ml_L_48 : Cond.methodLink RL 48 yX7_steps ∈ lw_tbl := List.mem_append_right _ (List.mem_append_right _ (List.mem_append_right _ (List.mem_append_right _ (List.mem_append_left _ (List.mem_of_getElem? (i := 158) rfl)))))
set_option maxRecDepth 20000 in
theorem ml_L_49 : Cond.methodLink RL 49 yX6_change ∈ lw_tbl := List.mem_append_right _ (List.mem_append_right _ (List.mem_append_left _ (List.mem_of_getElem? (i := 203) rfl)))
set_option maxRecDepth 20000 in
theorem ml_L_52 : Cond.methodLink RL 52 yX7_change ∈ lw_tbl := List.mem_append_right _ (List.mem_append_right _ (List.mem_append_right _ (List.mem_append_right _ (List.mem_append_left _ (List.mem_of_getElem? (i := 193) rfl)))))
set_option maxRecDepth 20000 in
theorem ml_L_53 : Cond.methodLink RL 53 yX6_wind ∈ lw_tbl := List.mem_append_right _ (List.mem_append_right _ (List.mem_append_left _ (List.mem_of_getElem? (i := 211) rfl)))
set_option maxRecDepth 20000 in
theorem ml_L_56 : Cond.methodLink RL 56 yX7_wind ∈ lw_tbl := List.mem_append_right _ (List.mem_append_right _ (List.mem_append_right _ (List.mem_append_right _ (List.mem_append_left _ (List.mem_of_getElem? (i := 197) rfl)))))
set_option maxRecDepth 20000 in
theorem ml_L_57 : Cond.methodLink RL 57 yX6_cough ∈ lw_tbl := List.mem_append_right _ (List.mem_append_right _ (List.mem_append_left _ (List.mem_of_getElem? (i := 215) rfl)))
set_option maxRecDepth 20000 in
theorem ml_L_60 : Cond.methodLink RL 60 yX7_cough ∈ lw_tbl := List.mem_append_right _ (List.mem_append_right _ (List.mem_append_right _ (List.mem_append_right _ (List.mem_append_left _ (List.mem_of_getElem? (i := 201) rfl)))))
set_option maxRecDepth 20000 in
theorem ml_L_61 : Cond.methodLink RL 61 yX6_undo ∈ lw_tbl := List.mem_append_right _ (List.mem_append_right _ (List.mem_append_left _ (List.mem_of_getElem? (i := 225) rfl)))
set_option maxRecDepth 20000 in
theorem ml_L_64 : Cond.methodLink RL 64 yX7_undo ∈ lw_tbl := List.mem_append_right _ (List.mem_append_right _ (List.mem_append_right _ (List.mem_append_right _ (List.mem_append_left _ (List.mem_of_getElem? (i := 209) rfl)))))
set_option maxRecDepth 20000 in
theorem ml_L_65 : Cond.methodLink RL 65 yX6_sleeper ∈ lw_tbl := List.mem_append_right _ (List.mem_append_right _ (List.mem_append_left _ (List.mem_of_getElem? (i := 233) rfl)))
set_option maxRecDepth 20000 in
theorem ml_L_69 : Cond.methodLink RL 69 yX7_sleeper ∈ lw_tbl := List.mem_append_right _ (List.mem_append_right _ (List.mem_append_right _ (List.mem_append_right _ (List.mem_append_left _ (List.mem_of_getElem? (i := 213) rfl)))))
set_option maxRecDepth 20000 in
theorem ml_L_70 : Cond.methodLink RL 70 yX6_sheep ∈ lw_tbl := List.mem_append_right _ (List.mem_append_right _ (List.mem_append_right _ (List.mem_append_left _ (List.mem_of_getElem? (i := 5) rfl))))
set_option maxRecDepth 20000 in
theorem ml_L_73 : Cond.methodLink RL 73 yX7_sheep ∈ lw_tbl := List.mem_append_right _ (List.mem_append_right _ (List.mem_append_right _ (List.mem_append_right _ (List.mem_append_left _ (List.mem_of_getElem? (i := 221) rfl)))))
set_option maxRecDepth 20000 in
theorem ml_L_74 : Cond.methodLink RL 74 yX6_off ∈ lw_tbl := List.mem_append_right _ (List.mem_append_right _ (List.mem_append_right _ (List.mem_append_left _ (List.mem_of_getElem? (i := 14) rfl))))
set_option maxRecDepth 20000 in
theorem ml_L_77 : Cond.methodLink RL 77 yX7_off ∈ lw_tbl := List.mem_append_right _ (List.mem_append_right _ (List.mem_append_right _ (List.mem_append_right _ (List.mem_append_left _ (List.mem_of_getElem? (i := 225) rfl)))))
set_option maxRecDepth 20000 in
theorem ml_L_78 : Cond.methodLink RL 78 yX6_counted ∈ lw_tbl := List.mem_append_right _ (List.mem_append_right _ (List.mem_append_right _ (List.mem_append_left _ (List.mem_of_getElem? (i := 32) rfl))))
set_option maxRecDepth 20000 in
theorem ml_L_81 : Cond.methodLink RL 81 yX7_counted ∈ lw_tbl := List.mem_append_right _ (List.mem_append_right _ (List.mem_append_right _ (List.mem_append_right _ (List.mem_append_left _ (List.mem_of_getElem? (i := 237) rfl)))))
set_option maxRecDepth 20000 in
theorem ml_L_82 : Cond.methodLink RL 82 yX6_when ∈ lw_tbl := List.mem_append_right _ (List.mem_append_right _ (List.mem_append_right _ (List.mem_append_left _ (List.mem_of_getElem? (i := 36) rfl))))
set_option maxRecDepth 20000 in
theorem ml_L_85 : Cond.methodLink RL 85 yX7_when ∈ lw_tbl := List.mem_append_right _ (List.mem_append_right _ (List.mem_append_right _ (List.mem_append_right _ (List.mem_append_right _ (List.mem_of_getElem? (i := 1) rfl)))))
set_option maxRecDepth 20000 in
theorem ml_L_86 : Cond.methodLink RL 86 yX6_all ∈ lw_tbl := List.mem_append_right _ (List.mem_append_right _ (List.mem_append_right _ (List.mem_append_left _ (List.mem_of_getElem? (i := 51) rfl))))
set_option maxRecDepth 20000 in
theorem ml_L_89 : Cond.methodLink RL 89 yX7_all ∈ lw_tbl := List.mem_append_right _ (List.mem_append_right _ (List.mem_append_right _ (List.mem_append_right _ (List.mem_append_right _ (List.mem_of_getElem? (i := 10) rfl)))))
set_option maxRecDepth 20000 in
theorem ml_L_90 : Cond.methodLink RL 90 yX6_never ∈ lw_tbl := List.mem_append_right _ (List.mem_append_right _ (List.mem_append_right _ (List.mem_append_left _ (List.mem_of_getElem? (i := 59) rfl))))
set_option maxRecDepth 20000 in
theorem ml_L_93 : Cond.methodLink RL 93 yX7_never ∈ lw_tbl := List.mem_append_right _ (List.mem_append_right _ (List.mem_append_right _ (List.mem_append_right _ (List.mem_append_right _ (List.mem_of_getElem? (i := 18) rfl)))))
set_option maxRecDepth 20000 in
theorem ml_L_94 : Cond.methodLink RL 94 yX6_quiet ∈ lw_tbl := List.mem_append_right _ (List.mem_append_right _ (List.mem_append_right _ (List.mem_append_left _ (List.mem_of_getElem? (i := 67) rfl))))
set_option maxRecDepth 20000 in
theorem ml_L_97 : Cond.methodLink RL 97 yX7_quiet ∈ lw_tbl := List.mem_append_right _ (List.mem_append_right _ (List.mem_append_right _ (List.mem_append_right _ (List.mem_append_right _ (List.mem_of_getElem? (i := 26) rfl)))))
set_option maxRecDepth 20000 in
theorem ml_L_98 : Cond.methodLink RL 98 yX6_order ∈ lw_tbl := List.mem_append_right _ (List.mem_append_right _ (List.mem_append_right _ (List.mem_append_left _ (List.mem_of_getElem? (i := 81) rfl))))
set_option maxRecDepth 20000 in
theorem ml_L_101 : Cond.methodLink RL 101 yX7_order ∈ lw_tbl := List.mem_append_right _ (List.mem_append_right _ (List.mem_append_right _ (List.mem_append_right _ (List.mem_append_right _ (List.mem_of_getElem? (i := 30) rfl)))))
set_option maxRecDepth 20000 in
theorem ml_L_102 : Cond.methodLink RL 102 yX6_fewest ∈ lw_tbl := List.mem_append_right _ (List.mem_append_right _ (List.mem_append_right _ (List.mem_append_left _ (List.mem_of_getElem? (i := 103) rfl))))
set_option maxRecDepth 20000 in
theorem ml_L_105 : Cond.methodLink RL 105 yX7_fewest ∈ lw_tbl := List.mem_append_right _ (List.mem_append_right _ (List.mem_append_right _ (List.mem_append_right _ (List.mem_append_right _ (List.mem_of_getElem? (i := 38) rfl)))))
set_option maxRecDepth 20000 in
theorem ml_L_106 : Cond.methodLink RL 106 yX6_missing ∈ lw_tbl := List.mem_append_right _ (List.mem_append_right _ (List.mem_append_right _ (List.mem_append_left _ (List.mem_of_getElem? (i := 116) rfl))))
set_option maxRecDepth 20000 in
theorem ml_L_109 : Cond.methodLink RL 109 yX7_missing ∈ lw_tbl := List.mem_append_right _ (List.mem_append_right _ (List.mem_append_right _ (List.mem_append_right _ (List.mem_append_right _ (List.mem_of_getElem? (i := 42) rfl)))))
set_option maxRecDepth 20000 in
theorem ml_L_110 : Cond.methodLink RL 110 yX6_windy ∈ lw_tbl := List.mem_append_right _ (List.mem_append_right _ (List.mem_append_right _ (List.mem_append_left _ (List.mem_of_getElem? (i := 133) rfl))))
set_option maxRecDepth 20000 in
theorem ml_L_113 : Cond.methodLink RL 113 yX7_windy ∈ lw_tbl := List.mem_append_right _ (List.mem_append_right _ (List.mem_append_right _ (List.mem_append_right _ (List.mem_append_right _ (List.mem_of_getElem? (i := 54) rfl)))))
set_option maxRecDepth 20000 in
theorem ml_L_114 : Cond.methodLink RL 114 yX6_sorts ∈ lw_tbl := List.mem_append_right _ (List.mem_append_right _ (List.mem_append_right _ (List.mem_append_left _ (List.mem_of_getElem? (i := 141) rfl))))
set_option maxRecDepth 20000 in
theorem ml_L_118 : Cond.methodLink RL 118 yX7_sorts ∈ lw_tbl := List.mem_append_right _ (List.mem_append_right _ (List.mem_append_right _ (List.mem_append_right _ (List.mem_append_right _ (List.mem_of_getElem? (i := 58) rfl)))))
set_option maxRecDepth 20000 in
theorem ml_L_119 : Cond.methodLink RL 119 yX6_stay ∈ lw_tbl := List.mem_append_right _ (List.mem_append_right _ (List.mem_append_right _ (List.mem_append_left _ (List.mem_of_getElem? (i := 149) rfl))))
set_option maxRecDepth 20000 in
theorem ml_L_122 : Cond.methodLink RL 122 yX7_stay ∈ lw_tbl := List.mem_append_right _ (List.mem_append_right _ (List.mem_append_right _ (List.mem_append_right _ (List.mem_append_right _ (List.mem_of_getElem? (i := 62) rfl)))))
set_option maxRecDepth 20000 in
theorem ml_L_123 : Cond.methodLink RL 123 yX6_image ∈ lw_tbl := List.mem_append_right _ (List.mem_append_right _ (List.mem_append_right _ (List.mem_append_left _ (List.mem_of_getElem? (i := 165) rfl))))
set_option maxRecDepth 20000 in
theorem ml_L_126 : Cond.methodLink RL 126 yX7_image ∈ lw_tbl := List.mem_append_right _ (List.mem_append_right _ (List.mem_append_right _ (List.mem_append_right _ (List.mem_append_right _ (List.mem_of_getElem? (i := 66) rfl)))))
set_option maxRecDepth 20000 in
theorem ml_L_127 : Cond.methodLink RL 127 yX6_restore ∈ lw_tbl := List.mem_append_right _ (List.mem_append_right _ (List.mem_append_right _ (List.mem_append_left _ (List.mem_of_getElem? (i := 173) rfl))))
set_option maxRecDepth 20000 in
theorem ml_L_130 : Cond.methodLink RL 130 yX7_restore ∈ lw_tbl := List.mem_append_right _ (List.mem_append_right _ (List.mem_append_right _ (List.mem_append_right _ (List.mem_append_right _ (List.mem_of_getElem? (i := 70) rfl)))))
set_option maxRecDepth 20000 in
theorem ml_L_131 : Cond.methodLink RL 131 yX6_kind ∈ lw_tbl := List.mem_append_right _ (List.mem_append_right _ (List.mem_append_right _ (List.mem_append_left _ (List.mem_of_getElem? (i := 177) rfl))))
set_option maxRecDepth 20000 in
theorem ml_L_134 : Cond.methodLink RL 134 yX7_kind ∈ lw_tbl := List.mem_append_right _ (List.mem_append_right _ (List.mem_append_right _ (List.mem_append_right _ (List.mem_append_right _ (List.mem_of_getElem? (i := 74) rfl)))))
set_option maxRecDepth 20000 in
theorem ml_L_135 : Cond.methodLink RL 135 yX6_as ∈ lw_tbl := List.mem_append_right _ (List.mem_append_right _ (List.mem_append_right _ (List.mem_append_left _ (List.mem_of_getElem? (i := 181) rfl))))
set_option maxRecDepth 20000 in
theorem ml_L_138 : Cond.methodLink RL 138 yX7_as ∈ lw_tbl := List.mem_append_right _ (List.mem_append_right _ (List.mem_append_right _ (List.mem_append_right _ (List.mem_append_right _ (List.mem_of_getElem? (i := 78) rfl)))))
set_option maxRecDepth 20000 in
theorem ml_L_139 : Cond.methodLink RL 139 yX6_ask ∈ lw_tbl := List.mem_append_right _ (List.mem_append_right _ (List.mem_append_right _ (List.mem_append_left _ (List.mem_of_getElem? (i := 190) rfl))))
set_option maxRecDepth 20000 in
theorem ml_L_142 : Cond.methodLink RL 142 yX7_ask ∈ lw_tbl := List.mem_append_right _ (List.mem_append_right _ (List.mem_append_right _ (List.mem_append_right _ (List.mem_append_right _ (List.mem_of_getElem? (i := 85) rfl)))))
set_option maxRecDepth 20000 in
theorem ml_L_143 : Cond.methodLink RL 143 yX6_trace ∈ lw_tbl := List.mem_append_right _ (List.mem_append_right _ (List.mem_append_right _ (List.mem_append_left _ (List.mem_of_getElem? (i := 215) rfl))))
set_option maxRecDepth 20000 in
theorem ml_L_146 : Cond.methodLink RL 146 yX7_trace ∈ lw_tbl := List.mem_append_right _ (List.mem_append_right _ (List.mem_append_right _ (List.mem_append_right _ (List.mem_append_right _ (List.mem_of_getElem? (i := 113) rfl)))))
set_option maxRecDepth 20000 in
theorem ml_L_147 : Cond.methodLink RL 147 yX6_count ∈ lw_tbl := List.mem_append_right _ (List.mem_append_right _ (List.mem_append_right _ (List.mem_append_left _ (List.mem_of_getElem? (i := 219) rfl))))
set_option maxRecDepth 20000 in
theorem ml_L_150 : Cond.methodLink RL 150 yX7_count ∈ lw_tbl := List.mem_append_right _ (List.mem_append_right _ (List.mem_append_right _ (List.mem_append_right _ (List.mem_append_right _ (List.mem_of_getElem? (i := 117) rfl)))))
set_option maxRecDepth 20000 in
theorem ml_L_151 : Cond.methodLink RL 151 yX6_status ∈ lw_tbl := List.mem_append_right _ (List.mem_append_right _ (List.mem_append_right _ (List.mem_append_left _ (List.mem_of_getElem? (i := 228) rfl))))
set_option maxRecDepth 20000 in
theorem ml_L_154 : Cond.methodLink RL 154 yX7_status ∈ lw_tbl := List.mem_append_right _ (List.mem_append_right _ (List.mem_append_right _ (List.mem_append_right _ (List.mem_append_right _ (List.mem_of_getElem? (i := 121) rfl)))))
def b_L_law_1176 (G : GG) (k18 : Kt Mi) : Kt Mi := (o_iinc 3 6 k18)
def b_L_law_184 (G : GG) (k18 : Kt Mi) : Kt Mi := (o_aload 1 (o_aload 0 (o_iload 3 (o_const 1 (o_add (o_xald G.2.2.2.2.2.2.1 G.2.2.2.2.2.2.2 (o_aload 0 (o_iload 3 (o_const 2 (o_add (o_xald G.2.2.2.2.2.2.1 G.2.2.2.2.2.2.2 (o_aload 0 (o_iload 3 (o_const 3 (o_add (o_xald G.2.2.2.2.2.2.1 G.2.2.2.2.2.2.2 (o_callV 6 4 r_x_row true (o_aload 2 (o_aload 0 (o_iload 3 (o_const 1 (o_add (o_xald G.2.2.2.2.2.2.1 G.2.2.2.2.2.2.2 (o_aload 0 (o_iload 3 (o_const 2 (o_add (o_xald G.2.2.2.2.2.2.1 G.2.2.2.2.2.2.2 (o_aload 0 (o_iload 3 (o_const 3 (o_add (o_xald G.2.2.2.2.2.2.1 G.2.2.2.2.2.2.2 (o_callV 7 4 r_m_row true (o_ceq
      (b_L_law_1176 G k18)
      (fun _ _ _ => none))))))))))))))))))))))))))))))))))))
def b_L_law_227 (G : GG) (k18 : Kt Mi) : Kt Mi := (o_aload 1 (o_aload 0 (o_iload 3 (o_const 1 (o_add (o_xald G.2.2.2.2.2.2.1 G.2.2.2.2.2.2.2 (o_aload 0 (o_iload 3 (o_const 2 (o_add (o_xald G.2.2.2.2.2.2.1 G.2.2.2.2.2.2.2 (o_aload 0 (o_iload 3 (o_const 3 (o_add (o_xald G.2.2.2.2.2.2.1 G.2.2.2.2.2.2.2 (o_callV 6 4 r_x_set true (o_aload 2 (o_aload 0 (o_iload 3 (o_const 1 (o_add (o_xald G.2.2.2.2.2.2.1 G.2.2.2.2.2.2.2 (o_aload 0 (o_iload 3 (o_const 2 (o_add (o_xald G.2.2.2.2.2.2.1 G.2.2.2.2.2.2.2 (o_aload 0 (o_iload 3 (o_const 3 (o_add (o_xald G.2.2.2.2.2.2.1 G.2.2.2.2.2.2.2 (o_callV 7 4 r_m_set true (o_ceq
      (b_L_law_1176 G k18)
      (fun _ _ _ => none))))))))))))))))))))))))))))))))))))
def b_L_law_270 (G : GG) (k18 : Kt Mi) : Kt Mi := (o_aload 1 (o_aload 0 (o_iload 3 (o_const 1 (o_add (o_xald G.2.2.2.2.2.2.1 G.2.2.2.2.2.2.2 (o_aload 0 (o_iload 3 (o_const 2 (o_add (o_xald G.2.2.2.2.2.2.1 G.2.2.2.2.2.2.2 (o_aload 0 (o_iload 3 (o_const 3 (o_add (o_xald G.2.2.2.2.2.2.1 G.2.2.2.2.2.2.2 (o_aload 0 (o_iload 3 (o_const 4 (o_add (o_xald G.2.2.2.2.2.2.1 G.2.2.2.2.2.2.2 (o_aload 0 (o_iload 3 (o_const 5 (o_add (o_xald G.2.2.2.2.2.2.1 G.2.2.2.2.2.2.2 (o_callV 6 6 r_x_copy true (o_aload 2 (o_aload 0 (o_iload 3 (o_const 1 (o_add (o_xald G.2.2.2.2.2.2.1 G.2.2.2.2.2.2.2 (o_aload 0 (o_iload 3 (o_const 2 (o_add (o_xald G.2.2.2.2.2.2.1 G.2.2.2.2.2.2.2 (o_aload 0 (o_iload 3 (o_const 3 (o_add (o_xald G.2.2.2.2.2.2.1 G.2.2.2.2.2.2.2 (o_aload 0 (o_iload 3 (o_const 4 (o_add (o_xald G.2.2.2.2.2.2.1 G.2.2.2.2.2.2.2 (o_aload 0 (o_iload 3 (o_const 5 (o_add (o_xald G.2.2.2.2.2.2.1 G.2.2.2.2.2.2.2 (o_callV 7 6 r_m_copy true (o_ceq
      (b_L_law_1176 G k18)
      (fun _ _ _ => none))))))))))))))))))))))))))))))))))))))))))))))))))))))))
def b_L_law_333 (G : GG) (k18 : Kt Mi) : Kt Mi := (o_aload 1 (o_aload 0 (o_iload 3 (o_const 1 (o_add (o_xald G.2.2.2.2.2.2.1 G.2.2.2.2.2.2.2 (o_callV 6 2 r_x_drop true (o_aload 2 (o_aload 0 (o_iload 3 (o_const 1 (o_add (o_xald G.2.2.2.2.2.2.1 G.2.2.2.2.2.2.2 (o_callV 7 2 r_m_drop true (o_ceq
      (b_L_law_1176 G k18)
      (fun _ _ _ => none))))))))))))))))
def b_L_law_356 (G : GG) (k18 : Kt Mi) : Kt Mi := (o_aload 1 (o_aload 0 (o_iload 3 (o_const 1 (o_add (o_xald G.2.2.2.2.2.2.1 G.2.2.2.2.2.2.2 (o_callV 6 2 r_x_feed true (o_aload 2 (o_aload 0 (o_iload 3 (o_const 1 (o_add (o_xald G.2.2.2.2.2.2.1 G.2.2.2.2.2.2.2 (o_callV 7 2 r_m_feed true (o_ceq
      (b_L_law_1176 G k18)
      (fun _ _ _ => none))))))))))))))))
def b_L_law_379 (G : GG) (k18 : Kt Mi) : Kt Mi := (o_aload 1 (o_callV 6 1 r_x_square true (o_aload 2 (o_callV 7 1 r_m_square true (o_ceq
      (b_L_law_1176 G k18)
      (fun _ _ _ => none))))))
def b_L_law_392 (G : GG) (k18 : Kt Mi) : Kt Mi := (o_aload 1 (o_callV 6 1 r_x_fault true (o_aload 2 (o_callV 7 1 r_m_fault true (o_ceq
      (b_L_law_1176 G k18)
      (fun _ _ _ => none))))))
def b_L_law_405 (G : GG) (k18 : Kt Mi) : Kt Mi := (o_aload 1 (o_aload 0 (o_iload 3 (o_const 1 (o_add (o_xald G.2.2.2.2.2.2.1 G.2.2.2.2.2.2.2 (o_callV 6 2 r_x_steps true (o_aload 2 (o_aload 0 (o_iload 3 (o_const 1 (o_add (o_xald G.2.2.2.2.2.2.1 G.2.2.2.2.2.2.2 (o_callV 7 2 r_m_steps true (o_ceq
      (b_L_law_1176 G k18)
      (fun _ _ _ => none))))))))))))))))
def b_L_law_428 (G : GG) (k18 : Kt Mi) : Kt Mi := (o_aload 1 (o_aload 0 (o_iload 3 (o_const 1 (o_add (o_xald G.2.2.2.2.2.2.1 G.2.2.2.2.2.2.2 (o_callV 6 2 r_x_change true (o_aload 2 (o_aload 0 (o_iload 3 (o_const 1 (o_add (o_xald G.2.2.2.2.2.2.1 G.2.2.2.2.2.2.2 (o_callV 7 2 r_m_change true (o_ceq
      (b_L_law_1176 G k18)
      (fun _ _ _ => none))))))))))))))))
def b_L_law_451 (G : GG) (k18 : Kt Mi) : Kt Mi := (o_aload 1 (o_aload 0 (o_iload 3 (o_const 1 (o_add (o_xald G.2.2.2.2.2.2.1 G.2.2.2.2.2.2.2 (o_callV 6 2 r_x_wind true (o_aload 2 (o_aload 0 (o_iload 3 (o_const 1 (o_add (o_xald G.2.2.2.2.2.2.1 G.2.2.2.2.2.2.2 (o_callV 7 2 r_m_wind true (o_ceq
      (b_L_law_1176 G k18)
      (fun _ _ _ => none))))))))))))))))
def b_L_law_474 (G : GG) (k18 : Kt Mi) : Kt Mi := (o_aload 1 (o_aload 0 (o_iload 3 (o_const 1 (o_add (o_xald G.2.2.2.2.2.2.1 G.2.2.2.2.2.2.2 (o_callV 6 2 r_x_cough true (o_aload 2 (o_aload 0 (o_iload 3 (o_const 1 (o_add (o_xald G.2.2.2.2.2.2.1 G.2.2.2.2.2.2.2 (o_callV 7 2 r_m_cough true (o_ceq
      (b_L_law_1176 G k18)
      (fun _ _ _ => none))))))))))))))))
def b_L_law_497 (G : GG) (k18 : Kt Mi) : Kt Mi := (o_aload 1 (o_callV 6 1 r_x_undo true (o_aload 2 (o_callV 7 1 r_m_undo true (o_ceq
      (b_L_law_1176 G k18)
      (fun _ _ _ => none))))))
def b_L_law_510 (G : GG) (k18 : Kt Mi) : Kt Mi := (o_aload 1 (o_aload 0 (o_iload 3 (o_const 1 (o_add (o_xald G.2.2.2.2.2.2.1 G.2.2.2.2.2.2.2 (o_aload 0 (o_iload 3 (o_const 2 (o_add (o_xald G.2.2.2.2.2.2.1 G.2.2.2.2.2.2.2 (o_callV 6 3 r_x_sleeper true (o_aload 2 (o_aload 0 (o_iload 3 (o_const 1 (o_add (o_xald G.2.2.2.2.2.2.1 G.2.2.2.2.2.2.2 (o_aload 0 (o_iload 3 (o_const 2 (o_add (o_xald G.2.2.2.2.2.2.1 G.2.2.2.2.2.2.2 (o_callV 7 3 r_m_sleeper true (o_ceq
      (b_L_law_1176 G k18)
      (fun _ _ _ => none))))))))))))))))))))))))))
def b_L_law_543 (G : GG) (k18 : Kt Mi) : Kt Mi := (o_aload 1 (o_aload 0 (o_iload 3 (o_const 1 (o_add (o_xald G.2.2.2.2.2.2.1 G.2.2.2.2.2.2.2 (o_aload 0 (o_iload 3 (o_const 2 (o_add (o_xald G.2.2.2.2.2.2.1 G.2.2.2.2.2.2.2 (o_callV 6 3 r_x_sheep true (o_aload 2 (o_aload 0 (o_iload 3 (o_const 1 (o_add (o_xald G.2.2.2.2.2.2.1 G.2.2.2.2.2.2.2 (o_aload 0 (o_iload 3 (o_const 2 (o_add (o_xald G.2.2.2.2.2.2.1 G.2.2.2.2.2.2.2 (o_callV 7 3 r_m_sheep true (o_ceq
      (b_L_law_1176 G k18)
      (fun _ _ _ => none))))))))))))))))))))))))))
def b_L_law_576 (G : GG) (k18 : Kt Mi) : Kt Mi := (o_aload 1 (o_aload 0 (o_iload 3 (o_const 1 (o_add (o_xald G.2.2.2.2.2.2.1 G.2.2.2.2.2.2.2 (o_callV 6 2 r_x_off true (o_aload 2 (o_aload 0 (o_iload 3 (o_const 1 (o_add (o_xald G.2.2.2.2.2.2.1 G.2.2.2.2.2.2.2 (o_callV 7 2 r_m_off true (o_ceq
      (b_L_law_1176 G k18)
      (fun _ _ _ => none))))))))))))))))
def b_L_law_599 (G : GG) (k18 : Kt Mi) : Kt Mi := (o_aload 1 (o_aload 0 (o_iload 3 (o_const 1 (o_add (o_xald G.2.2.2.2.2.2.1 G.2.2.2.2.2.2.2 (o_aload 0 (o_iload 3 (o_const 2 (o_add (o_xald G.2.2.2.2.2.2.1 G.2.2.2.2.2.2.2 (o_callV 6 3 r_x_counted true (o_aload 2 (o_aload 0 (o_iload 3 (o_const 1 (o_add (o_xald G.2.2.2.2.2.2.1 G.2.2.2.2.2.2.2 (o_aload 0 (o_iload 3 (o_const 2 (o_add (o_xald G.2.2.2.2.2.2.1 G.2.2.2.2.2.2.2 (o_callV 7 3 r_m_counted true (o_ceq
      (b_L_law_1176 G k18)
      (fun _ _ _ => none))))))))))))))))))))))))))
def b_L_law_632 (G : GG) (k18 : Kt Mi) : Kt Mi := (o_aload 1 (o_aload 0 (o_iload 3 (o_const 1 (o_add (o_xald G.2.2.2.2.2.2.1 G.2.2.2.2.2.2.2 (o_callV 6 2 r_x_when true (o_aload 2 (o_aload 0 (o_iload 3 (o_const 1 (o_add (o_xald G.2.2.2.2.2.2.1 G.2.2.2.2.2.2.2 (o_callV 7 2 r_m_when true (o_ceq
      (b_L_law_1176 G k18)
      (fun _ _ _ => none))))))))))))))))
def b_L_law_655 (G : GG) (k18 : Kt Mi) : Kt Mi := (o_aload 1 (o_aload 0 (o_iload 3 (o_const 1 (o_add (o_xald G.2.2.2.2.2.2.1 G.2.2.2.2.2.2.2 (o_callV 6 2 r_x_all true (o_aload 2 (o_aload 0 (o_iload 3 (o_const 1 (o_add (o_xald G.2.2.2.2.2.2.1 G.2.2.2.2.2.2.2 (o_callV 7 2 r_m_all true (o_ceq
      (b_L_law_1176 G k18)
      (fun _ _ _ => none))))))))))))))))
def b_L_law_678 (G : GG) (k18 : Kt Mi) : Kt Mi := (o_aload 1 (o_callV 6 1 r_x_never true (o_aload 2 (o_callV 7 1 r_m_never true (o_ceq
      (b_L_law_1176 G k18)
      (fun _ _ _ => none))))))
def b_L_law_691 (G : GG) (k18 : Kt Mi) : Kt Mi := (o_aload 1 (o_aload 0 (o_iload 3 (o_const 1 (o_add (o_xald G.2.2.2.2.2.2.1 G.2.2.2.2.2.2.2 (o_callV 6 2 r_x_quiet true (o_aload 2 (o_aload 0 (o_iload 3 (o_const 1 (o_add (o_xald G.2.2.2.2.2.2.1 G.2.2.2.2.2.2.2 (o_callV 7 2 r_m_quiet true (o_ceq
      (b_L_law_1176 G k18)
      (fun _ _ _ => none))))))))))))))))
def b_L_law_714 (G : GG) (k18 : Kt Mi) : Kt Mi := (o_aload 1 (o_aload 0 (o_iload 3 (o_const 1 (o_add (o_xald G.2.2.2.2.2.2.1 G.2.2.2.2.2.2.2 (o_aload 0 (o_iload 3 (o_const 2 (o_add (o_xald G.2.2.2.2.2.2.1 G.2.2.2.2.2.2.2 (o_callV 6 3 r_x_order true (o_aload 2 (o_aload 0 (o_iload 3 (o_const 1 (o_add (o_xald G.2.2.2.2.2.2.1 G.2.2.2.2.2.2.2 (o_aload 0 (o_iload 3 (o_const 2 (o_add (o_xald G.2.2.2.2.2.2.1 G.2.2.2.2.2.2.2 (o_callV 7 3 r_m_order true (o_ceq
      (b_L_law_1176 G k18)
      (fun _ _ _ => none))))))))))))))))))))))))))
def b_L_law_747 (G : GG) (k18 : Kt Mi) : Kt Mi := (o_aload 1 (o_aload 0 (o_iload 3 (o_const 1 (o_add (o_xald G.2.2.2.2.2.2.1 G.2.2.2.2.2.2.2 (o_aload 0 (o_iload 3 (o_const 2 (o_add (o_xald G.2.2.2.2.2.2.1 G.2.2.2.2.2.2.2 (o_aload 0 (o_iload 3 (o_const 3 (o_add (o_xald G.2.2.2.2.2.2.1 G.2.2.2.2.2.2.2 (o_callV 6 4 r_x_fewest true (o_aload 2 (o_aload 0 (o_iload 3 (o_const 1 (o_add (o_xald G.2.2.2.2.2.2.1 G.2.2.2.2.2.2.2 (o_aload 0 (o_iload 3 (o_const 2 (o_add (o_xald G.2.2.2.2.2.2.1 G.2.2.2.2.2.2.2 (o_aload 0 (o_iload 3 (o_const 3 (o_add (o_xald G.2.2.2.2.2.2.1 G.2.2.2.2.2.2.2 (o_callV 7 4 r_m_fewest true (o_ceq
      (b_L_law_1176 G k18)
      (fun _ _ _ => none))))))))))))))))))))))))))))))))))))
def b_L_law_790 (G : GG) (k18 : Kt Mi) : Kt Mi := (o_aload 1 (o_aload 0 (o_iload 3 (o_const 1 (o_add (o_xald G.2.2.2.2.2.2.1 G.2.2.2.2.2.2.2 (o_aload 0 (o_iload 3 (o_const 2 (o_add (o_xald G.2.2.2.2.2.2.1 G.2.2.2.2.2.2.2 (o_aload 0 (o_iload 3 (o_const 3 (o_add (o_xald G.2.2.2.2.2.2.1 G.2.2.2.2.2.2.2 (o_callV 6 4 r_x_missing true (o_aload 2 (o_aload 0 (o_iload 3 (o_const 1 (o_add (o_xald G.2.2.2.2.2.2.1 G.2.2.2.2.2.2.2 (o_aload 0 (o_iload 3 (o_const 2 (o_add (o_xald G.2.2.2.2.2.2.1 G.2.2.2.2.2.2.2 (o_aload 0 (o_iload 3 (o_const 3 (o_add (o_xald G.2.2.2.2.2.2.1 G.2.2.2.2.2.2.2 (o_callV 7 4 r_m_missing true (o_ceq
      (b_L_law_1176 G k18)
      (fun _ _ _ => none))))))))))))))))))))))))))))))))))))
def b_L_law_833 (G : GG) (k18 : Kt Mi) : Kt Mi := (o_aload 1 (o_aload 0 (o_iload 3 (o_const 1 (o_add (o_xald G.2.2.2.2.2.2.1 G.2.2.2.2.2.2.2 (o_aload 0 (o_iload 3 (o_const 2 (o_add (o_xald G.2.2.2.2.2.2.1 G.2.2.2.2.2.2.2 (o_aload 0 (o_iload 3 (o_const 3 (o_add (o_xald G.2.2.2.2.2.2.1 G.2.2.2.2.2.2.2 (o_callV 6 4 r_x_windy true (o_aload 2 (o_aload 0 (o_iload 3 (o_const 1 (o_add (o_xald G.2.2.2.2.2.2.1 G.2.2.2.2.2.2.2 (o_aload 0 (o_iload 3 (o_const 2 (o_add (o_xald G.2.2.2.2.2.2.1 G.2.2.2.2.2.2.2 (o_aload 0 (o_iload 3 (o_const 3 (o_add (o_xald G.2.2.2.2.2.2.1 G.2.2.2.2.2.2.2 (o_callV 7 4 r_m_windy true (o_ceq
      (b_L_law_1176 G k18)
      (fun _ _ _ => none))))))))))))))))))))))))))))))))))))
def b_L_law_876 (G : GG) (k18 : Kt Mi) : Kt Mi := (o_aload 1 (o_aload 0 (o_iload 3 (o_const 1 (o_add (o_xald G.2.2.2.2.2.2.1 G.2.2.2.2.2.2.2 (o_aload 0 (o_iload 3 (o_const 2 (o_add (o_xald G.2.2.2.2.2.2.1 G.2.2.2.2.2.2.2 (o_aload 0 (o_iload 3 (o_const 3 (o_add (o_xald G.2.2.2.2.2.2.1 G.2.2.2.2.2.2.2 (o_aload 0 (o_iload 3 (o_const 4 (o_add (o_xald G.2.2.2.2.2.2.1 G.2.2.2.2.2.2.2 (o_callV 6 5 r_x_sortw true (o_aload 2 (o_aload 0 (o_iload 3 (o_const 1 (o_add (o_xald G.2.2.2.2.2.2.1 G.2.2.2.2.2.2.2 (o_aload 0 (o_iload 3 (o_const 2 (o_add (o_xald G.2.2.2.2.2.2.1 G.2.2.2.2.2.2.2 (o_aload 0 (o_iload 3 (o_const 3 (o_add (o_xald G.2.2.2.2.2.2.1 G.2.2.2.2.2.2.2 (o_aload 0 (o_iload 3 (o_const 4 (o_add (o_xald G.2.2.2.2.2.2.1 G.2.2.2.2.2.2.2 (o_callV 7 5 r_m_sorts true (o_ceq
      (b_L_law_1176 G k18)
      (fun _ _ _ => none))))))))))))))))))))))))))))))))))))))))))))))
def b_L_law_929 (G : GG) (k18 : Kt Mi) : Kt Mi := (o_aload 1 (o_aload 0 (o_iload 3 (o_const 1 (o_add (o_xald G.2.2.2.2.2.2.1 G.2.2.2.2.2.2.2 (o_aload 0 (o_iload 3 (o_const 2 (o_add (o_xald G.2.2.2.2.2.2.1 G.2.2.2.2.2.2.2 (o_aload 0 (o_iload 3 (o_const 3 (o_add (o_xald G.2.2.2.2.2.2.1 G.2.2.2.2.2.2.2 (o_aload 0 (o_iload 3 (o_const 4 (o_add (o_xald G.2.2.2.2.2.2.1 G.2.2.2.2.2.2.2 (o_callV 6 5 r_x_stay true (o_aload 2 (o_aload 0 (o_iload 3 (o_const 1 (o_add (o_xald G.2.2.2.2.2.2.1 G.2.2.2.2.2.2.2 (o_aload 0 (o_iload 3 (o_const 2 (o_add (o_xald G.2.2.2.2.2.2.1 G.2.2.2.2.2.2.2 (o_aload 0 (o_iload 3 (o_const 3 (o_add (o_xald G.2.2.2.2.2.2.1 G.2.2.2.2.2.2.2 (o_aload 0 (o_iload 3 (o_const 4 (o_add (o_xald G.2.2.2.2.2.2.1 G.2.2.2.2.2.2.2 (o_callV 7 5 r_m_stay true (o_ceq
      (b_L_law_1176 G k18)
      (fun _ _ _ => none))))))))))))))))))))))))))))))))))))))))))))))
def b_L_law_982 (G : GG) (k18 : Kt Mi) : Kt Mi := (o_aload 1 (o_aload 0 (o_iload 3 (o_const 1 (o_add (o_xald G.2.2.2.2.2.2.1 G.2.2.2.2.2.2.2 (o_callV 6 2 r_x_image true (o_aload 2 (o_aload 0 (o_iload 3 (o_const 1 (o_add (o_xald G.2.2.2.2.2.2.1 G.2.2.2.2.2.2.2 (o_callV 7 2 r_m_image true (o_ceq
      (b_L_law_1176 G k18)
      (fun _ _ _ => none))))))))))))))))
def b_L_law_1005 (G : GG) (k18 : Kt Mi) : Kt Mi := (o_aload 1 (o_aload 0 (o_iload 3 (o_const 1 (o_add (o_xald G.2.2.2.2.2.2.1 G.2.2.2.2.2.2.2 (o_callV 6 2 r_x_restore true (o_aload 2 (o_aload 0 (o_iload 3 (o_const 1 (o_add (o_xald G.2.2.2.2.2.2.1 G.2.2.2.2.2.2.2 (o_callV 7 2 r_m_restore true (o_ceq
      (b_L_law_1176 G k18)
      (fun _ _ _ => none))))))))))))))))
def b_L_law_1028 (G : GG) (k18 : Kt Mi) : Kt Mi := (o_aload 1 (o_aload 0 (o_iload 3 (o_const 1 (o_add (o_xald G.2.2.2.2.2.2.1 G.2.2.2.2.2.2.2 (o_callV 6 2 r_x_kind true (o_aload 2 (o_aload 0 (o_iload 3 (o_const 1 (o_add (o_xald G.2.2.2.2.2.2.1 G.2.2.2.2.2.2.2 (o_callV 7 2 r_m_kind true (o_ceq
      (b_L_law_1176 G k18)
      (fun _ _ _ => none))))))))))))))))
def b_L_law_1051 (G : GG) (k18 : Kt Mi) : Kt Mi := (o_aload 1 (o_aload 0 (o_iload 3 (o_const 1 (o_add (o_xald G.2.2.2.2.2.2.1 G.2.2.2.2.2.2.2 (o_aload 0 (o_iload 3 (o_const 2 (o_add (o_xald G.2.2.2.2.2.2.1 G.2.2.2.2.2.2.2 (o_callV 6 3 r_x_as true (o_aload 2 (o_aload 0 (o_iload 3 (o_const 1 (o_add (o_xald G.2.2.2.2.2.2.1 G.2.2.2.2.2.2.2 (o_aload 0 (o_iload 3 (o_const 2 (o_add (o_xald G.2.2.2.2.2.2.1 G.2.2.2.2.2.2.2 (o_callV 7 3 r_m_as true (o_ceq
      (b_L_law_1176 G k18)
      (fun _ _ _ => none))))))))))))))))))))))))))
def b_L_law_1084 (G : GG) (k18 : Kt Mi) : Kt Mi := (o_aload 1 (o_aload 0 (o_iload 3 (o_const 1 (o_add (o_xald G.2.2.2.2.2.2.1 G.2.2.2.2.2.2.2 (o_aload 0 (o_iload 3 (o_const 2 (o_add (o_xald G.2.2.2.2.2.2.1 G.2.2.2.2.2.2.2 (o_callV 6 3 r_x_ask true (o_aload 2 (o_aload 0 (o_iload 3 (o_const 1 (o_add (o_xald G.2.2.2.2.2.2.1 G.2.2.2.2.2.2.2 (o_aload 0 (o_iload 3 (o_const 2 (o_add (o_xald G.2.2.2.2.2.2.1 G.2.2.2.2.2.2.2 (o_callV 7 3 r_m_ask true (o_ceq
      (b_L_law_1176 G k18)
      (fun _ _ _ => none))))))))))))))))))))))))))
def b_L_law_1117 (G : GG) (k18 : Kt Mi) : Kt Mi := (o_aload 1 (o_aload 0 (o_iload 3 (o_const 1 (o_add (o_xald G.2.2.2.2.2.2.1 G.2.2.2.2.2.2.2 (o_callV 6 2 r_x_trace true (o_aload 2 (o_aload 0 (o_iload 3 (o_const 1 (o_add (o_xald G.2.2.2.2.2.2.1 G.2.2.2.2.2.2.2 (o_callV 7 2 r_m_trace true (o_ceq
      (b_L_law_1176 G k18)
      (fun _ _ _ => none))))))))))))))))
def b_L_law_1140 (G : GG) (k18 : Kt Mi) : Kt Mi := (o_aload 1 (o_aload 0 (o_iload 3 (o_const 1 (o_add (o_xald G.2.2.2.2.2.2.1 G.2.2.2.2.2.2.2 (o_callV 6 2 r_x_count true (o_aload 2 (o_aload 0 (o_iload 3 (o_const 1 (o_add (o_xald G.2.2.2.2.2.2.1 G.2.2.2.2.2.2.2 (o_callV 7 2 r_m_count true (o_ceq
      (b_L_law_1176 G k18)
      (fun _ _ _ => none))))))))))))))))
def b_L_law_1163 (G : GG) (k18 : Kt Mi) : Kt Mi := (o_aload 1 (o_callV 6 1 r_x_status true (o_aload 2 (o_callV 7 1 r_m_status true (o_ceq
      (b_L_law_1176 G k18)
      (fun _ _ _ => none))))))
def b_L_law_18 (G : GG) : Nat → Kt Mi
  | 0 => fun _ _ _ => none
  | n + 1 => (o_iload 3 (o_aload 0 (o_xlen G.2.2.2.2.2.2.1 (o_const 6 (o_sub (o_cgt
      (o_const 1 o_done)
      (o_aload 0 (o_iload 3 (o_xald G.2.2.2.2.2.2.1 G.2.2.2.2.2.2.2 (o_const 63 (o_and (o_sw [(0, (b_L_law_184 G (b_L_law_18 G n))),
      (1, (b_L_law_227 G (b_L_law_18 G n))),
      (2, (b_L_law_270 G (b_L_law_18 G n))),
      (3, (b_L_law_333 G (b_L_law_18 G n))),
      (4, (b_L_law_356 G (b_L_law_18 G n))),
      (5, (b_L_law_379 G (b_L_law_18 G n))),
      (6, (b_L_law_392 G (b_L_law_18 G n))),
      (7, (b_L_law_405 G (b_L_law_18 G n))),
      (8, (b_L_law_428 G (b_L_law_18 G n))),
      (9, (b_L_law_451 G (b_L_law_18 G n))),
      (10, (b_L_law_474 G (b_L_law_18 G n))),
      (11, (b_L_law_497 G (b_L_law_18 G n))),
      (12, (b_L_law_510 G (b_L_law_18 G n))),
      (13, (b_L_law_543 G (b_L_law_18 G n))),
      (14, (b_L_law_576 G (b_L_law_18 G n))),
      (15, (b_L_law_599 G (b_L_law_18 G n))),
      (16, (b_L_law_632 G (b_L_law_18 G n))),
      (17, (b_L_law_655 G (b_L_law_18 G n))),
      (18, (b_L_law_678 G (b_L_law_18 G n))),
      (19, (b_L_law_691 G (b_L_law_18 G n))),
      (20, (b_L_law_714 G (b_L_law_18 G n))),
      (21, (b_L_law_747 G (b_L_law_18 G n))),
      (22, (b_L_law_790 G (b_L_law_18 G n))),
      (23, (b_L_law_833 G (b_L_law_18 G n))),
      (24, (b_L_law_876 G (b_L_law_18 G n))),
      (25, (b_L_law_929 G (b_L_law_18 G n))),
      (26, (b_L_law_982 G (b_L_law_18 G n))),
      (27, (b_L_law_1005 G (b_L_law_18 G n))),
      (28, (b_L_law_1028 G (b_L_law_18 G n))),
      (29, (b_L_law_1051 G (b_L_law_18 G n))),
      (30, (b_L_law_1084 G (b_L_law_18 G n))),
      (31, (b_L_law_1117 G (b_L_law_18 G n))),
      (32, (b_L_law_1140 G (b_L_law_18 G n))),
      (33, (b_L_law_1163 G (b_L_law_18 G n)))] (b_L_law_1176 G (b_L_law_18 G n))))))))))))))
set_option maxHeartbeats 10000000 in
set_option maxRecDepth 20000 in
theorem s_L_law_1176 (G : GG) (nx : String) {k18 : Kt Mi} (h18 : Sq kE G lw_F (mi_L_law nx) 18 k18) : Sq kE G lw_F (mi_L_law nx) 1176 (b_L_law_1176 G k18) := by
  unfold b_L_law_1176
  exact (sq_iinc (pc := 1176) dL_law_1176 rfl
    (sq_goto (pc := 1179) dL_law_1179 (tgt := 18) rfl h18))
set_option maxHeartbeats 10000000 in
set_option maxRecDepth 20000 in
theorem s_L_law_184 (G : GG) (nx : String) {k18 : Kt Mi} (h18 : Sq kE G lw_F (mi_L_law nx) 18 k18) : Sq kE G lw_F (mi_L_law nx) 184 (b_L_law_184 G k18) := by
  unfold b_L_law_184
  exact (sq_aload_n (pc := 184) dL_law_184 rfl
    (sq_aload_n (pc := 185) dL_law_185 rfl
    (sq_iload_n (pc := 186) dL_law_186 rfl
    (sq_iconst (pc := 187) dL_law_187 kc_i_1
    (sq_iadd (pc := 188) dL_law_188
    (sq_xald (pc := 189) dL_law_189
    (sq_aload_n (pc := 190) dL_law_190 rfl
    (sq_iload_n (pc := 191) dL_law_191 rfl
    (sq_iconst (pc := 192) dL_law_192 kc_i_2
    (sq_iadd (pc := 193) dL_law_193
    (sq_xald (pc := 194) dL_law_194
    (sq_aload_n (pc := 195) dL_law_195 rfl
    (sq_iload_n (pc := 196) dL_law_196 rfl
    (sq_iconst (pc := 197) dL_law_197 kc_i_3
    (sq_iadd (pc := 198) dL_law_198
    (sq_xald (pc := 199) dL_law_199
    (sq_callV (d := 50) (d' := 2) (mi' := mi_x_row) (pc := 200) dL_law_200 ml_L_13 in_x_row se_x_row ok_x_row ar_x_row (by decide) rfl (by decide) (lw_ok 50 (by decide)) (m_x_row G)
    (sq_aload_n (pc := 203) dL_law_203 rfl
    (sq_aload_n (pc := 204) dL_law_204 rfl
    (sq_iload_n (pc := 205) dL_law_205 rfl
    (sq_iconst (pc := 206) dL_law_206 kc_i_1
    (sq_iadd (pc := 207) dL_law_207
    (sq_xald (pc := 208) dL_law_208
    (sq_aload_n (pc := 209) dL_law_209 rfl
    (sq_iload_n (pc := 210) dL_law_210 rfl
    (sq_iconst (pc := 211) dL_law_211 kc_i_2
    (sq_iadd (pc := 212) dL_law_212
    (sq_xald (pc := 213) dL_law_213
    (sq_aload_n (pc := 214) dL_law_214 rfl
    (sq_iload_n (pc := 215) dL_law_215 rfl
    (sq_iconst (pc := 216) dL_law_216 kc_i_3
    (sq_iadd (pc := 217) dL_law_217
    (sq_xald (pc := 218) dL_law_218
    (sq_callV (d := 50) (d' := 2) (mi' := mi_m_row) (pc := 219) dL_law_219 ml_L_17 in_m_row se_m_row ok_m_row ar_m_row (by decide) rfl (by decide) (lw_ok 50 (by decide)) (m_m_row G)
    (sq_ceq (pc := 222) dL_law_222 (tgt := 1176) rfl
    (s_L_law_1176 G nx h18)
    sq_none)))))))))))))))))))))))))))))))))))
set_option maxHeartbeats 10000000 in
set_option maxRecDepth 20000 in
theorem s_L_law_227 (G : GG) (nx : String) {k18 : Kt Mi} (h18 : Sq kE G lw_F (mi_L_law nx) 18 k18) : Sq kE G lw_F (mi_L_law nx) 227 (b_L_law_227 G k18) := by
  unfold b_L_law_227
  exact (sq_aload_n (pc := 227) dL_law_227 rfl
    (sq_aload_n (pc := 228) dL_law_228 rfl
    (sq_iload_n (pc := 229) dL_law_229 rfl
    (sq_iconst (pc := 230) dL_law_230 kc_i_1
    (sq_iadd (pc := 231) dL_law_231
    (sq_xald (pc := 232) dL_law_232
    (sq_aload_n (pc := 233) dL_law_233 rfl
    (sq_iload_n (pc := 234) dL_law_234 rfl
    (sq_iconst (pc := 235) dL_law_235 kc_i_2
    (sq_iadd (pc := 236) dL_law_236
    (sq_xald (pc := 237) dL_law_237
    (sq_aload_n (pc := 238) dL_law_238 rfl
    (sq_iload_n (pc := 239) dL_law_239 rfl
    (sq_iconst (pc := 240) dL_law_240 kc_i_3
    (sq_iadd (pc := 241) dL_law_241
    (sq_xald (pc := 242) dL_law_242
    (sq_callV (d := 50) (d' := 2) (mi' := mi_x_set) (pc := 243) dL_law_243 ml_L_18 in_x_set se_x_set ok_x_set ar_x_set (by decide) rfl (by decide) (lw_ok 50 (by decide)) (m_x_set G)
    (sq_aload_n (pc := 246) dL_law_246 rfl
    (sq_aload_n (pc := 247) dL_law_247 rfl
    (sq_iload_n (pc := 248) dL_law_248 rfl
    (sq_iconst (pc := 249) dL_law_249 kc_i_1
    (sq_iadd (pc := 250) dL_law_250
    (sq_xald (pc := 251) dL_law_251
    (sq_aload_n (pc := 252) dL_law_252 rfl
    (sq_iload_n (pc := 253) dL_law_253 rfl
    (sq_iconst (pc := 254) dL_law_254 kc_i_2
    (sq_iadd (pc := 255) dL_law_255
    (sq_xald (pc := 256) dL_law_256
    (sq_aload_n (pc := 257) dL_law_257 rfl
    (sq_iload_n (pc := 258) dL_law_258 rfl
    (sq_iconst (pc := 259) dL_law_259 kc_i_3
    (sq_iadd (pc := 260) dL_law_260
    (sq_xald (pc := 261) dL_law_261
    (sq_callV (d := 50) (d' := 2) (mi' := mi_m_set) (pc := 262) dL_law_262 ml_L_21 in_m_set se_m_set ok_m_set ar_m_set (by decide) rfl (by decide) (lw_ok 50 (by decide)) (m_m_set G)
    (sq_ceq (pc := 265) dL_law_265 (tgt := 1176) rfl
    (s_L_law_1176 G nx h18)
    sq_none)))))))))))))))))))))))))))))))))))
set_option maxHeartbeats 10000000 in
set_option maxRecDepth 20000 in
theorem s_L_law_270 (G : GG) (nx : String) {k18 : Kt Mi} (h18 : Sq kE G lw_F (mi_L_law nx) 18 k18) : Sq kE G lw_F (mi_L_law nx) 270 (b_L_law_270 G k18) := by
  unfold b_L_law_270
  exact (sq_aload_n (pc := 270) dL_law_270 rfl
    (sq_aload_n (pc := 271) dL_law_271 rfl
    (sq_iload_n (pc := 272) dL_law_272 rfl
    (sq_iconst (pc := 273) dL_law_273 kc_i_1
    (sq_iadd (pc := 274) dL_law_274
    (sq_xald (pc := 275) dL_law_275
    (sq_aload_n (pc := 276) dL_law_276 rfl
    (sq_iload_n (pc := 277) dL_law_277 rfl
    (sq_iconst (pc := 278) dL_law_278 kc_i_2
    (sq_iadd (pc := 279) dL_law_279
    (sq_xald (pc := 280) dL_law_280
    (sq_aload_n (pc := 281) dL_law_281 rfl
    (sq_iload_n (pc := 282) dL_law_282 rfl
    (sq_iconst (pc := 283) dL_law_283 kc_i_3
    (sq_iadd (pc := 284) dL_law_284
    (sq_xald (pc := 285) dL_law_285
    (sq_aload_n (pc := 286) dL_law_286 rfl
    (sq_iload_n (pc := 287) dL_law_287 rfl
    (sq_iconst (pc := 288) dL_law_288 kc_i_4
    (sq_iadd (pc := 289) dL_law_289
    (sq_xald (pc := 290) dL_law_290
    (sq_aload_n (pc := 291) dL_law_291 rfl
    (sq_iload_n (pc := 292) dL_law_292 rfl
    (sq_iconst (pc := 293) dL_law_293 kc_i_5
    (sq_iadd (pc := 294) dL_law_294
    (sq_xald (pc := 295) dL_law_295
    (sq_callV (d := 50) (d' := 2) (mi' := mi_x_copy) (pc := 296) dL_law_296 ml_L_22 in_x_copy se_x_copy ok_x_copy ar_x_copy (by decide) rfl (by decide) (lw_ok 50 (by decide)) (m_x_copy G)
    (sq_aload_n (pc := 299) dL_law_299 rfl
    (sq_aload_n (pc := 300) dL_law_300 rfl
    (sq_iload_n (pc := 301) dL_law_301 rfl
    (sq_iconst (pc := 302) dL_law_302 kc_i_1
    (sq_iadd (pc := 303) dL_law_303
    (sq_xald (pc := 304) dL_law_304
    (sq_aload_n (pc := 305) dL_law_305 rfl
    (sq_iload_n (pc := 306) dL_law_306 rfl
    (sq_iconst (pc := 307) dL_law_307 kc_i_2
    (sq_iadd (pc := 308) dL_law_308
    (sq_xald (pc := 309) dL_law_309
    (sq_aload_n (pc := 310) dL_law_310 rfl
    (sq_iload_n (pc := 311) dL_law_311 rfl
    (sq_iconst (pc := 312) dL_law_312 kc_i_3
    (sq_iadd (pc := 313) dL_law_313
    (sq_xald (pc := 314) dL_law_314
    (sq_aload_n (pc := 315) dL_law_315 rfl
    (sq_iload_n (pc := 316) dL_law_316 rfl
    (sq_iconst (pc := 317) dL_law_317 kc_i_4
    (sq_iadd (pc := 318) dL_law_318
    (sq_xald (pc := 319) dL_law_319
    (sq_aload_n (pc := 320) dL_law_320 rfl
    (sq_iload_n (pc := 321) dL_law_321 rfl
    (sq_iconst (pc := 322) dL_law_322 kc_i_5
    (sq_iadd (pc := 323) dL_law_323
    (sq_xald (pc := 324) dL_law_324
    (sq_callV (d := 50) (d' := 2) (mi' := mi_m_copy) (pc := 325) dL_law_325 ml_L_26 in_m_copy se_m_copy ok_m_copy ar_m_copy (by decide) rfl (by decide) (lw_ok 50 (by decide)) (m_m_copy G)
    (sq_ceq (pc := 328) dL_law_328 (tgt := 1176) rfl
    (s_L_law_1176 G nx h18)
    sq_none)))))))))))))))))))))))))))))))))))))))))))))))))))))))
set_option maxHeartbeats 10000000 in
set_option maxRecDepth 20000 in
theorem s_L_law_333 (G : GG) (nx : String) {k18 : Kt Mi} (h18 : Sq kE G lw_F (mi_L_law nx) 18 k18) : Sq kE G lw_F (mi_L_law nx) 333 (b_L_law_333 G k18) := by
  unfold b_L_law_333
  exact (sq_aload_n (pc := 333) dL_law_333 rfl
    (sq_aload_n (pc := 334) dL_law_334 rfl
    (sq_iload_n (pc := 335) dL_law_335 rfl
    (sq_iconst (pc := 336) dL_law_336 kc_i_1
    (sq_iadd (pc := 337) dL_law_337
    (sq_xald (pc := 338) dL_law_338
    (sq_callV (d := 50) (d' := 1) (mi' := mi_x_drop) (pc := 339) dL_law_339 ml_L_27 in_x_drop se_x_drop ok_x_drop ar_x_drop (by decide) rfl (by decide) (lw_ok 50 (by decide)) (m_x_drop G)
    (sq_aload_n (pc := 342) dL_law_342 rfl
    (sq_aload_n (pc := 343) dL_law_343 rfl
    (sq_iload_n (pc := 344) dL_law_344 rfl
    (sq_iconst (pc := 345) dL_law_345 kc_i_1
    (sq_iadd (pc := 346) dL_law_346
    (sq_xald (pc := 347) dL_law_347
    (sq_callV (d := 50) (d' := 2) (mi' := mi_m_drop) (pc := 348) dL_law_348 ml_L_31 in_m_drop se_m_drop ok_m_drop ar_m_drop (by decide) rfl (by decide) (lw_ok 50 (by decide)) (m_m_drop G)
    (sq_ceq (pc := 351) dL_law_351 (tgt := 1176) rfl
    (s_L_law_1176 G nx h18)
    sq_none)))))))))))))))
set_option maxHeartbeats 10000000 in
set_option maxRecDepth 20000 in
theorem s_L_law_356 (G : GG) (nx : String) {k18 : Kt Mi} (h18 : Sq kE G lw_F (mi_L_law nx) 18 k18) : Sq kE G lw_F (mi_L_law nx) 356 (b_L_law_356 G k18) := by
  unfold b_L_law_356
  exact (sq_aload_n (pc := 356) dL_law_356 rfl
    (sq_aload_n (pc := 357) dL_law_357 rfl
    (sq_iload_n (pc := 358) dL_law_358 rfl
    (sq_iconst (pc := 359) dL_law_359 kc_i_1
    (sq_iadd (pc := 360) dL_law_360
    (sq_xald (pc := 361) dL_law_361
    (sq_callV (d := 50) (d' := 1) (mi' := mi_x_feed) (pc := 362) dL_law_362 ml_L_32 in_x_feed se_x_feed ok_x_feed ar_x_feed (by decide) rfl (by decide) (lw_ok 50 (by decide)) (m_x_feed G)
    (sq_aload_n (pc := 365) dL_law_365 rfl
    (sq_aload_n (pc := 366) dL_law_366 rfl
    (sq_iload_n (pc := 367) dL_law_367 rfl
    (sq_iconst (pc := 368) dL_law_368 kc_i_1
    (sq_iadd (pc := 369) dL_law_369
    (sq_xald (pc := 370) dL_law_370
    (sq_callV (d := 50) (d' := 1) (mi' := mi_m_feed) (pc := 371) dL_law_371 ml_L_35 in_m_feed se_m_feed ok_m_feed ar_m_feed (by decide) rfl (by decide) (lw_ok 50 (by decide)) (m_m_feed G)
    (sq_ceq (pc := 374) dL_law_374 (tgt := 1176) rfl
    (s_L_law_1176 G nx h18)
    sq_none)))))))))))))))
set_option maxHeartbeats 10000000 in
set_option maxRecDepth 20000 in
theorem s_L_law_379 (G : GG) (nx : String) {k18 : Kt Mi} (h18 : Sq kE G lw_F (mi_L_law nx) 18 k18) : Sq kE G lw_F (mi_L_law nx) 379 (b_L_law_379 G k18) := by
  unfold b_L_law_379
  exact (sq_aload_n (pc := 379) dL_law_379 rfl
    (sq_callV (d := 50) (d' := 7) (mi' := mi_x_square) (pc := 380) dL_law_380 ml_L_36 in_x_square se_x_square ok_x_square ar_x_square (by decide) rfl (by decide) (lw_ok 50 (by decide)) (m_x_square G)
    (sq_aload_n (pc := 383) dL_law_383 rfl
    (sq_callV (d := 50) (d' := 6) (mi' := mi_m_square) (pc := 384) dL_law_384 ml_L_40 in_m_square se_m_square ok_m_square ar_m_square (by decide) rfl (by decide) (lw_ok 50 (by decide)) (m_m_square G)
    (sq_ceq (pc := 387) dL_law_387 (tgt := 1176) rfl
    (s_L_law_1176 G nx h18)
    sq_none)))))
set_option maxHeartbeats 10000000 in
set_option maxRecDepth 20000 in
theorem s_L_law_392 (G : GG) (nx : String) {k18 : Kt Mi} (h18 : Sq kE G lw_F (mi_L_law nx) 18 k18) : Sq kE G lw_F (mi_L_law nx) 392 (b_L_law_392 G k18) := by
  unfold b_L_law_392
  exact (sq_aload_n (pc := 392) dL_law_392 rfl
    (sq_callV (d := 50) (d' := 0) (mi' := mi_x_fault) (pc := 393) dL_law_393 ml_L_41 in_x_fault se_x_fault ok_x_fault ar_x_fault (by decide) rfl (by decide) (lw_ok 50 (by decide)) (m_x_fault G)
    (sq_aload_n (pc := 396) dL_law_396 rfl
    (sq_callV (d := 50) (d' := 0) (mi' := mi_m_fault) (pc := 397) dL_law_397 ml_L_44 in_m_fault se_m_fault ok_m_fault ar_m_fault (by decide) rfl (by decide) (lw_ok 50 (by decide)) (m_m_fault G)
    (sq_ceq (pc := 400) dL_law_400 (tgt := 1176) rfl
    (s_L_law_1176 G nx h18)
    sq_none)))))
set_option maxHeartbeats 10000000 in
set_option maxRecDepth 20000 in
theorem s_L_law_405 (G : GG) (nx : String) {k18 : Kt Mi} (h18 : Sq kE G lw_F (mi_L_law nx) 18 k18) : Sq kE G lw_F (mi_L_law nx) 405 (b_L_law_405 G k18) := by
  unfold b_L_law_405
  exact (sq_aload_n (pc := 405) dL_law_405 rfl
    (sq_aload_n (pc := 406) dL_law_406 rfl
    (sq_iload_n (pc := 407) dL_law_407 rfl
    (sq_iconst (pc := 408) dL_law_408 kc_i_1
    (sq_iadd (pc := 409) dL_law_409
    (sq_xald (pc := 410) dL_law_410
    (sq_callV (d := 50) (d' := 4) (mi' := mi_x_steps) (pc := 411) dL_law_411 ml_L_45 in_x_steps se_x_steps ok_x_steps ar_x_steps (by decide) rfl (by decide) (lw_ok 50 (by decide)) (m_x_steps G)
    (sq_aload_n (pc := 414) dL_law_414 rfl
    (sq_aload_n (pc := 415) dL_law_415 rfl
    (sq_iload_n (pc := 416) dL_law_416 rfl
    (sq_iconst (pc := 417) dL_law_417 kc_i_1
    (sq_iadd (pc := 418) dL_law_418
    (sq_xald (pc := 419) dL_law_419
    (sq_callV (d := 50) (d' := 2) (mi' := mi_m_steps) (pc := 420) dL_law_420 ml_L_48 in_m_steps se_m_steps ok_m_steps ar_m_steps (by decide) rfl (by decide) (lw_ok 50 (by decide)) (m_m_steps G)
    (sq_ceq (pc := 423) dL_law_423 (tgt := 1176) rfl
    (s_L_law_1176 G nx h18)
    sq_none)))))))))))))))
set_option maxHeartbeats 10000000 in
set_option maxRecDepth 20000 in
theorem s_L_law_428 (G : GG) (nx : String) {k18 : Kt Mi} (h18 : Sq kE G lw_F (mi_L_law nx) 18 k18) : Sq kE G lw_F (mi_L_law nx) 428 (b_L_law_428 G k18) := by
  unfold b_L_law_428
  exact (sq_aload_n (pc := 428) dL_law_428 rfl
    (sq_aload_n (pc := 429) dL_law_429 rfl
    (sq_iload_n (pc := 430) dL_law_430 rfl
    (sq_iconst (pc := 431) dL_law_431 kc_i_1
    (sq_iadd (pc := 432) dL_law_432
    (sq_xald (pc := 433) dL_law_433
    (sq_callV (d := 50) (d' := 2) (mi' := mi_x_change) (pc := 434) dL_law_434 ml_L_49 in_x_change se_x_change ok_x_change ar_x_change (by decide) rfl (by decide) (lw_ok 50 (by decide)) (m_x_change G)
    (sq_aload_n (pc := 437) dL_law_437 rfl
    (sq_aload_n (pc := 438) dL_law_438 rfl
    (sq_iload_n (pc := 439) dL_law_439 rfl
    (sq_iconst (pc := 440) dL_law_440 kc_i_1
    (sq_iadd (pc := 441) dL_law_441
    (sq_xald (pc := 442) dL_law_442
    (sq_callV (d := 50) (d' := 2) (mi' := mi_m_change) (pc := 443) dL_law_443 ml_L_52 in_m_change se_m_change ok_m_change ar_m_change (by decide) rfl (by decide) (lw_ok 50 (by decide)) (m_m_change G)
    (sq_ceq (pc := 446) dL_law_446 (tgt := 1176) rfl
    (s_L_law_1176 G nx h18)
    sq_none)))))))))))))))
set_option maxHeartbeats 10000000 in
set_option maxRecDepth 20000 in
theorem s_L_law_451 (G : GG) (nx : String) {k18 : Kt Mi} (h18 : Sq kE G lw_F (mi_L_law nx) 18 k18) : Sq kE G lw_F (mi_L_law nx) 451 (b_L_law_451 G k18) := by
  unfold b_L_law_451
  exact (sq_aload_n (pc := 451) dL_law_451 rfl
    (sq_aload_n (pc := 452) dL_law_452 rfl
    (sq_iload_n (pc := 453) dL_law_453 rfl
    (sq_iconst (pc := 454) dL_law_454 kc_i_1
    (sq_iadd (pc := 455) dL_law_455
    (sq_xald (pc := 456) dL_law_456
    (sq_callV (d := 50) (d' := 2) (mi' := mi_x_wind) (pc := 457) dL_law_457 ml_L_53 in_x_wind se_x_wind ok_x_wind ar_x_wind (by decide) rfl (by decide) (lw_ok 50 (by decide)) (m_x_wind G)
    (sq_aload_n (pc := 460) dL_law_460 rfl
    (sq_aload_n (pc := 461) dL_law_461 rfl
    (sq_iload_n (pc := 462) dL_law_462 rfl
    (sq_iconst (pc := 463) dL_law_463 kc_i_1
    (sq_iadd (pc := 464) dL_law_464
    (sq_xald (pc := 465) dL_law_465
    (sq_callV (d := 50) (d' := 2) (mi' := mi_m_wind) (pc := 466) dL_law_466 ml_L_56 in_m_wind se_m_wind ok_m_wind ar_m_wind (by decide) rfl (by decide) (lw_ok 50 (by decide)) (m_m_wind G)
    (sq_ceq (pc := 469) dL_law_469 (tgt := 1176) rfl
    (s_L_law_1176 G nx h18)
    sq_none)))))))))))))))
set_option maxHeartbeats 10000000 in
set_option maxRecDepth 20000 in
theorem s_L_law_474 (G : GG) (nx : String) {k18 : Kt Mi} (h18 : Sq kE G lw_F (mi_L_law nx) 18 k18) : Sq kE G lw_F (mi_L_law nx) 474 (b_L_law_474 G k18) := by
  unfold b_L_law_474
  exact (sq_aload_n (pc := 474) dL_law_474 rfl
    (sq_aload_n (pc := 475) dL_law_475 rfl
    (sq_iload_n (pc := 476) dL_law_476 rfl
    (sq_iconst (pc := 477) dL_law_477 kc_i_1
    (sq_iadd (pc := 478) dL_law_478
    (sq_xald (pc := 479) dL_law_479
    (sq_callV (d := 50) (d' := 2) (mi' := mi_x_cough) (pc := 480) dL_law_480 ml_L_57 in_x_cough se_x_cough ok_x_cough ar_x_cough (by decide) rfl (by decide) (lw_ok 50 (by decide)) (m_x_cough G)
    (sq_aload_n (pc := 483) dL_law_483 rfl
    (sq_aload_n (pc := 484) dL_law_484 rfl
    (sq_iload_n (pc := 485) dL_law_485 rfl
    (sq_iconst (pc := 486) dL_law_486 kc_i_1
    (sq_iadd (pc := 487) dL_law_487
    (sq_xald (pc := 488) dL_law_488
    (sq_callV (d := 50) (d' := 2) (mi' := mi_m_cough) (pc := 489) dL_law_489 ml_L_60 in_m_cough se_m_cough ok_m_cough ar_m_cough (by decide) rfl (by decide) (lw_ok 50 (by decide)) (m_m_cough G)
    (sq_ceq (pc := 492) dL_law_492 (tgt := 1176) rfl
    (s_L_law_1176 G nx h18)
    sq_none)))))))))))))))
set_option maxHeartbeats 10000000 in
set_option maxRecDepth 20000 in
theorem s_L_law_497 (G : GG) (nx : String) {k18 : Kt Mi} (h18 : Sq kE G lw_F (mi_L_law nx) 18 k18) : Sq kE G lw_F (mi_L_law nx) 497 (b_L_law_497 G k18) := by
  unfold b_L_law_497
  exact (sq_aload_n (pc := 497) dL_law_497 rfl
    (sq_callV (d := 50) (d' := 2) (mi' := mi_x_undo) (pc := 498) dL_law_498 ml_L_61 in_x_undo se_x_undo ok_x_undo ar_x_undo (by decide) rfl (by decide) (lw_ok 50 (by decide)) (m_x_undo G)
    (sq_aload_n (pc := 501) dL_law_501 rfl
    (sq_callV (d := 50) (d' := 1) (mi' := mi_m_undo) (pc := 502) dL_law_502 ml_L_64 in_m_undo se_m_undo ok_m_undo ar_m_undo (by decide) rfl (by decide) (lw_ok 50 (by decide)) (m_m_undo G)
    (sq_ceq (pc := 505) dL_law_505 (tgt := 1176) rfl
    (s_L_law_1176 G nx h18)
    sq_none)))))
set_option maxHeartbeats 10000000 in
set_option maxRecDepth 20000 in
theorem s_L_law_510 (G : GG) (nx : String) {k18 : Kt Mi} (h18 : Sq kE G lw_F (mi_L_law nx) 18 k18) : Sq kE G lw_F (mi_L_law nx) 510 (b_L_law_510 G k18) := by
  unfold b_L_law_510
  exact (sq_aload_n (pc := 510) dL_law_510 rfl
    (sq_aload_n (pc := 511) dL_law_511 rfl
    (sq_iload_n (pc := 512) dL_law_512 rfl
    (sq_iconst (pc := 513) dL_law_513 kc_i_1
    (sq_iadd (pc := 514) dL_law_514
    (sq_xald (pc := 515) dL_law_515
    (sq_aload_n (pc := 516) dL_law_516 rfl
    (sq_iload_n (pc := 517) dL_law_517 rfl
    (sq_iconst (pc := 518) dL_law_518 kc_i_2
    (sq_iadd (pc := 519) dL_law_519
    (sq_xald (pc := 520) dL_law_520
    (sq_callV (d := 50) (d' := 2) (mi' := mi_x_sleeper) (pc := 521) dL_law_521 ml_L_65 in_x_sleeper se_x_sleeper ok_x_sleeper ar_x_sleeper (by decide) rfl (by decide) (lw_ok 50 (by decide)) (m_x_sleeper G)
    (sq_aload_n (pc := 524) dL_law_524 rfl
    (sq_aload_n (pc := 525) dL_law_525 rfl
    (sq_iload_n (pc := 526) dL_law_526 rfl
    (sq_iconst (pc := 527) dL_law_527 kc_i_1
    (sq_iadd (pc := 528) dL_law_528
    (sq_xald (pc := 529) dL_law_529
    (sq_aload_n (pc := 530) dL_law_530 rfl
    (sq_iload_n (pc := 531) dL_law_531 rfl
    (sq_iconst (pc := 532) dL_law_532 kc_i_2
    (sq_iadd (pc := 533) dL_law_533
    (sq_xald (pc := 534) dL_law_534
    (sq_callV (d := 50) (d' := 2) (mi' := mi_m_sleeper) (pc := 535) dL_law_535 ml_L_69 in_m_sleeper se_m_sleeper ok_m_sleeper ar_m_sleeper (by decide) rfl (by decide) (lw_ok 50 (by decide)) (m_m_sleeper G)
    (sq_ceq (pc := 538) dL_law_538 (tgt := 1176) rfl
    (s_L_law_1176 G nx h18)
    sq_none)))))))))))))))))))))))))
set_option maxHeartbeats 10000000 in
set_option maxRecDepth 20000 in
theorem s_L_law_543 (G : GG) (nx : String) {k18 : Kt Mi} (h18 : Sq kE G lw_F (mi_L_law nx) 18 k18) : Sq kE G lw_F (mi_L_law nx) 543 (b_L_law_543 G k18) := by
  unfold b_L_law_543
  exact (sq_aload_n (pc := 543) dL_law_543 rfl
    (sq_aload_n (pc := 544) dL_law_544 rfl
    (sq_iload_n (pc := 545) dL_law_545 rfl
    (sq_iconst (pc := 546) dL_law_546 kc_i_1
    (sq_iadd (pc := 547) dL_law_547
    (sq_xald (pc := 548) dL_law_548
    (sq_aload_n (pc := 549) dL_law_549 rfl
    (sq_iload_n (pc := 550) dL_law_550 rfl
    (sq_iconst (pc := 551) dL_law_551 kc_i_2
    (sq_iadd (pc := 552) dL_law_552
    (sq_xald (pc := 553) dL_law_553
    (sq_callV (d := 50) (d' := 1) (mi' := mi_x_sheep) (pc := 554) dL_law_554 ml_L_70 in_x_sheep se_x_sheep ok_x_sheep ar_x_sheep (by decide) rfl (by decide) (lw_ok 50 (by decide)) (m_x_sheep G)
    (sq_aload_n (pc := 557) dL_law_557 rfl
    (sq_aload_n (pc := 558) dL_law_558 rfl
    (sq_iload_n (pc := 559) dL_law_559 rfl
    (sq_iconst (pc := 560) dL_law_560 kc_i_1
    (sq_iadd (pc := 561) dL_law_561
    (sq_xald (pc := 562) dL_law_562
    (sq_aload_n (pc := 563) dL_law_563 rfl
    (sq_iload_n (pc := 564) dL_law_564 rfl
    (sq_iconst (pc := 565) dL_law_565 kc_i_2
    (sq_iadd (pc := 566) dL_law_566
    (sq_xald (pc := 567) dL_law_567
    (sq_callV (d := 50) (d' := 1) (mi' := mi_m_sheep) (pc := 568) dL_law_568 ml_L_73 in_m_sheep se_m_sheep ok_m_sheep ar_m_sheep (by decide) rfl (by decide) (lw_ok 50 (by decide)) (m_m_sheep G)
    (sq_ceq (pc := 571) dL_law_571 (tgt := 1176) rfl
    (s_L_law_1176 G nx h18)
    sq_none)))))))))))))))))))))))))
set_option maxHeartbeats 10000000 in
set_option maxRecDepth 20000 in
theorem s_L_law_576 (G : GG) (nx : String) {k18 : Kt Mi} (h18 : Sq kE G lw_F (mi_L_law nx) 18 k18) : Sq kE G lw_F (mi_L_law nx) 576 (b_L_law_576 G k18) := by
  unfold b_L_law_576
  exact (sq_aload_n (pc := 576) dL_law_576 rfl
    (sq_aload_n (pc := 577) dL_law_577 rfl
    (sq_iload_n (pc := 578) dL_law_578 rfl
    (sq_iconst (pc := 579) dL_law_579 kc_i_1
    (sq_iadd (pc := 580) dL_law_580
    (sq_xald (pc := 581) dL_law_581
    (sq_callV (d := 50) (d' := 5) (mi' := mi_x_off) (pc := 582) dL_law_582 ml_L_74 in_x_off se_x_off ok_x_off ar_x_off (by decide) rfl (by decide) (lw_ok 50 (by decide)) (m_x_off G)
    (sq_aload_n (pc := 585) dL_law_585 rfl
    (sq_aload_n (pc := 586) dL_law_586 rfl
    (sq_iload_n (pc := 587) dL_law_587 rfl
    (sq_iconst (pc := 588) dL_law_588 kc_i_1
    (sq_iadd (pc := 589) dL_law_589
    (sq_xald (pc := 590) dL_law_590
    (sq_callV (d := 50) (d' := 3) (mi' := mi_m_off) (pc := 591) dL_law_591 ml_L_77 in_m_off se_m_off ok_m_off ar_m_off (by decide) rfl (by decide) (lw_ok 50 (by decide)) (m_m_off G)
    (sq_ceq (pc := 594) dL_law_594 (tgt := 1176) rfl
    (s_L_law_1176 G nx h18)
    sq_none)))))))))))))))
set_option maxHeartbeats 10000000 in
set_option maxRecDepth 20000 in
theorem s_L_law_599 (G : GG) (nx : String) {k18 : Kt Mi} (h18 : Sq kE G lw_F (mi_L_law nx) 18 k18) : Sq kE G lw_F (mi_L_law nx) 599 (b_L_law_599 G k18) := by
  unfold b_L_law_599
  exact (sq_aload_n (pc := 599) dL_law_599 rfl
    (sq_aload_n (pc := 600) dL_law_600 rfl
    (sq_iload_n (pc := 601) dL_law_601 rfl
    (sq_iconst (pc := 602) dL_law_602 kc_i_1
    (sq_iadd (pc := 603) dL_law_603
    (sq_xald (pc := 604) dL_law_604
    (sq_aload_n (pc := 605) dL_law_605 rfl
    (sq_iload_n (pc := 606) dL_law_606 rfl
    (sq_iconst (pc := 607) dL_law_607 kc_i_2
    (sq_iadd (pc := 608) dL_law_608
    (sq_xald (pc := 609) dL_law_609
    (sq_callV (d := 50) (d' := 5) (mi' := mi_x_counted) (pc := 610) dL_law_610 ml_L_78 in_x_counted se_x_counted ok_x_counted ar_x_counted (by decide) rfl (by decide) (lw_ok 50 (by decide)) (m_x_counted G)
    (sq_aload_n (pc := 613) dL_law_613 rfl
    (sq_aload_n (pc := 614) dL_law_614 rfl
    (sq_iload_n (pc := 615) dL_law_615 rfl
    (sq_iconst (pc := 616) dL_law_616 kc_i_1
    (sq_iadd (pc := 617) dL_law_617
    (sq_xald (pc := 618) dL_law_618
    (sq_aload_n (pc := 619) dL_law_619 rfl
    (sq_iload_n (pc := 620) dL_law_620 rfl
    (sq_iconst (pc := 621) dL_law_621 kc_i_2
    (sq_iadd (pc := 622) dL_law_622
    (sq_xald (pc := 623) dL_law_623
    (sq_callV (d := 50) (d' := 3) (mi' := mi_m_counted) (pc := 624) dL_law_624 ml_L_81 in_m_counted se_m_counted ok_m_counted ar_m_counted (by decide) rfl (by decide) (lw_ok 50 (by decide)) (m_m_counted G)
    (sq_ceq (pc := 627) dL_law_627 (tgt := 1176) rfl
    (s_L_law_1176 G nx h18)
    sq_none)))))))))))))))))))))))))
set_option maxHeartbeats 10000000 in
set_option maxRecDepth 20000 in
theorem s_L_law_632 (G : GG) (nx : String) {k18 : Kt Mi} (h18 : Sq kE G lw_F (mi_L_law nx) 18 k18) : Sq kE G lw_F (mi_L_law nx) 632 (b_L_law_632 G k18) := by
  unfold b_L_law_632
  exact (sq_aload_n (pc := 632) dL_law_632 rfl
    (sq_aload_n (pc := 633) dL_law_633 rfl
    (sq_iload_n (pc := 634) dL_law_634 rfl
    (sq_iconst (pc := 635) dL_law_635 kc_i_1
    (sq_iadd (pc := 636) dL_law_636
    (sq_xald (pc := 637) dL_law_637
    (sq_callV (d := 50) (d' := 5) (mi' := mi_x_when) (pc := 638) dL_law_638 ml_L_82 in_x_when se_x_when ok_x_when ar_x_when (by decide) rfl (by decide) (lw_ok 50 (by decide)) (m_x_when G)
    (sq_aload_n (pc := 641) dL_law_641 rfl
    (sq_aload_n (pc := 642) dL_law_642 rfl
    (sq_iload_n (pc := 643) dL_law_643 rfl
    (sq_iconst (pc := 644) dL_law_644 kc_i_1
    (sq_iadd (pc := 645) dL_law_645
    (sq_xald (pc := 646) dL_law_646
    (sq_callV (d := 50) (d' := 3) (mi' := mi_m_when) (pc := 647) dL_law_647 ml_L_85 in_m_when se_m_when ok_m_when ar_m_when (by decide) rfl (by decide) (lw_ok 50 (by decide)) (m_m_when G)
    (sq_ceq (pc := 650) dL_law_650 (tgt := 1176) rfl
    (s_L_law_1176 G nx h18)
    sq_none)))))))))))))))
set_option maxHeartbeats 10000000 in
set_option maxRecDepth 20000 in
theorem s_L_law_655 (G : GG) (nx : String) {k18 : Kt Mi} (h18 : Sq kE G lw_F (mi_L_law nx) 18 k18) : Sq kE G lw_F (mi_L_law nx) 655 (b_L_law_655 G k18) := by
  unfold b_L_law_655
  exact (sq_aload_n (pc := 655) dL_law_655 rfl
    (sq_aload_n (pc := 656) dL_law_656 rfl
    (sq_iload_n (pc := 657) dL_law_657 rfl
    (sq_iconst (pc := 658) dL_law_658 kc_i_1
    (sq_iadd (pc := 659) dL_law_659
    (sq_xald (pc := 660) dL_law_660
    (sq_callV (d := 50) (d' := 5) (mi' := mi_x_all) (pc := 661) dL_law_661 ml_L_86 in_x_all se_x_all ok_x_all ar_x_all (by decide) rfl (by decide) (lw_ok 50 (by decide)) (m_x_all G)
    (sq_aload_n (pc := 664) dL_law_664 rfl
    (sq_aload_n (pc := 665) dL_law_665 rfl
    (sq_iload_n (pc := 666) dL_law_666 rfl
    (sq_iconst (pc := 667) dL_law_667 kc_i_1
    (sq_iadd (pc := 668) dL_law_668
    (sq_xald (pc := 669) dL_law_669
    (sq_callV (d := 50) (d' := 3) (mi' := mi_m_all) (pc := 670) dL_law_670 ml_L_89 in_m_all se_m_all ok_m_all ar_m_all (by decide) rfl (by decide) (lw_ok 50 (by decide)) (m_m_all G)
    (sq_ceq (pc := 673) dL_law_673 (tgt := 1176) rfl
    (s_L_law_1176 G nx h18)
    sq_none)))))))))))))))
set_option maxHeartbeats 10000000 in
set_option maxRecDepth 20000 in
theorem s_L_law_678 (G : GG) (nx : String) {k18 : Kt Mi} (h18 : Sq kE G lw_F (mi_L_law nx) 18 k18) : Sq kE G lw_F (mi_L_law nx) 678 (b_L_law_678 G k18) := by
  unfold b_L_law_678
  exact (sq_aload_n (pc := 678) dL_law_678 rfl
    (sq_callV (d := 50) (d' := 5) (mi' := mi_x_never) (pc := 679) dL_law_679 ml_L_90 in_x_never se_x_never ok_x_never ar_x_never (by decide) rfl (by decide) (lw_ok 50 (by decide)) (m_x_never G)
    (sq_aload_n (pc := 682) dL_law_682 rfl
    (sq_callV (d := 50) (d' := 3) (mi' := mi_m_never) (pc := 683) dL_law_683 ml_L_93 in_m_never se_m_never ok_m_never ar_m_never (by decide) rfl (by decide) (lw_ok 50 (by decide)) (m_m_never G)
    (sq_ceq (pc := 686) dL_law_686 (tgt := 1176) rfl
    (s_L_law_1176 G nx h18)
    sq_none)))))
set_option maxHeartbeats 10000000 in
set_option maxRecDepth 20000 in
theorem s_L_law_691 (G : GG) (nx : String) {k18 : Kt Mi} (h18 : Sq kE G lw_F (mi_L_law nx) 18 k18) : Sq kE G lw_F (mi_L_law nx) 691 (b_L_law_691 G k18) := by
  unfold b_L_law_691
  exact (sq_aload_n (pc := 691) dL_law_691 rfl
    (sq_aload_n (pc := 692) dL_law_692 rfl
    (sq_iload_n (pc := 693) dL_law_693 rfl
    (sq_iconst (pc := 694) dL_law_694 kc_i_1
    (sq_iadd (pc := 695) dL_law_695
    (sq_xald (pc := 696) dL_law_696
    (sq_callV (d := 50) (d' := 5) (mi' := mi_x_quiet) (pc := 697) dL_law_697 ml_L_94 in_x_quiet se_x_quiet ok_x_quiet ar_x_quiet (by decide) rfl (by decide) (lw_ok 50 (by decide)) (m_x_quiet G)
    (sq_aload_n (pc := 700) dL_law_700 rfl
    (sq_aload_n (pc := 701) dL_law_701 rfl
    (sq_iload_n (pc := 702) dL_law_702 rfl
    (sq_iconst (pc := 703) dL_law_703 kc_i_1
    (sq_iadd (pc := 704) dL_law_704
    (sq_xald (pc := 705) dL_law_705
    (sq_callV (d := 50) (d' := 3) (mi' := mi_m_quiet) (pc := 706) dL_law_706 ml_L_97 in_m_quiet se_m_quiet ok_m_quiet ar_m_quiet (by decide) rfl (by decide) (lw_ok 50 (by decide)) (m_m_quiet G)
    (sq_ceq (pc := 709) dL_law_709 (tgt := 1176) rfl
    (s_L_law_1176 G nx h18)
    sq_none)))))))))))))))
set_option maxHeartbeats 10000000 in
set_option maxRecDepth 20000 in
theorem s_L_law_714 (G : GG) (nx : String) {k18 : Kt Mi} (h18 : Sq kE G lw_F (mi_L_law nx) 18 k18) : Sq kE G lw_F (mi_L_law nx) 714 (b_L_law_714 G k18) := by
  unfold b_L_law_714
  exact (sq_aload_n (pc := 714) dL_law_714 rfl
    (sq_aload_n (pc := 715) dL_law_715 rfl
    (sq_iload_n (pc := 716) dL_law_716 rfl
    (sq_iconst (pc := 717) dL_law_717 kc_i_1
    (sq_iadd (pc := 718) dL_law_718
    (sq_xald (pc := 719) dL_law_719
    (sq_aload_n (pc := 720) dL_law_720 rfl
    (sq_iload_n (pc := 721) dL_law_721 rfl
    (sq_iconst (pc := 722) dL_law_722 kc_i_2
    (sq_iadd (pc := 723) dL_law_723
    (sq_xald (pc := 724) dL_law_724
    (sq_callV (d := 50) (d' := 6) (mi' := mi_x_order) (pc := 725) dL_law_725 ml_L_98 in_x_order se_x_order ok_x_order ar_x_order (by decide) rfl (by decide) (lw_ok 50 (by decide)) (m_x_order G)
    (sq_aload_n (pc := 728) dL_law_728 rfl
    (sq_aload_n (pc := 729) dL_law_729 rfl
    (sq_iload_n (pc := 730) dL_law_730 rfl
    (sq_iconst (pc := 731) dL_law_731 kc_i_1
    (sq_iadd (pc := 732) dL_law_732
    (sq_xald (pc := 733) dL_law_733
    (sq_aload_n (pc := 734) dL_law_734 rfl
    (sq_iload_n (pc := 735) dL_law_735 rfl
    (sq_iconst (pc := 736) dL_law_736 kc_i_2
    (sq_iadd (pc := 737) dL_law_737
    (sq_xald (pc := 738) dL_law_738
    (sq_callV (d := 50) (d' := 3) (mi' := mi_m_order) (pc := 739) dL_law_739 ml_L_101 in_m_order se_m_order ok_m_order ar_m_order (by decide) rfl (by decide) (lw_ok 50 (by decide)) (m_m_order G)
    (sq_ceq (pc := 742) dL_law_742 (tgt := 1176) rfl
    (s_L_law_1176 G nx h18)
    sq_none)))))))))))))))))))))))))
set_option maxHeartbeats 10000000 in
set_option maxRecDepth 20000 in
theorem s_L_law_747 (G : GG) (nx : String) {k18 : Kt Mi} (h18 : Sq kE G lw_F (mi_L_law nx) 18 k18) : Sq kE G lw_F (mi_L_law nx) 747 (b_L_law_747 G k18) := by
  unfold b_L_law_747
  exact (sq_aload_n (pc := 747) dL_law_747 rfl
    (sq_aload_n (pc := 748) dL_law_748 rfl
    (sq_iload_n (pc := 749) dL_law_749 rfl
    (sq_iconst (pc := 750) dL_law_750 kc_i_1
    (sq_iadd (pc := 751) dL_law_751
    (sq_xald (pc := 752) dL_law_752
    (sq_aload_n (pc := 753) dL_law_753 rfl
    (sq_iload_n (pc := 754) dL_law_754 rfl
    (sq_iconst (pc := 755) dL_law_755 kc_i_2
    (sq_iadd (pc := 756) dL_law_756
    (sq_xald (pc := 757) dL_law_757
    (sq_aload_n (pc := 758) dL_law_758 rfl
    (sq_iload_n (pc := 759) dL_law_759 rfl
    (sq_iconst (pc := 760) dL_law_760 kc_i_3
    (sq_iadd (pc := 761) dL_law_761
    (sq_xald (pc := 762) dL_law_762
    (sq_callV (d := 50) (d' := 6) (mi' := mi_x_fewest) (pc := 763) dL_law_763 ml_L_102 in_x_fewest se_x_fewest ok_x_fewest ar_x_fewest (by decide) rfl (by decide) (lw_ok 50 (by decide)) (m_x_fewest G)
    (sq_aload_n (pc := 766) dL_law_766 rfl
    (sq_aload_n (pc := 767) dL_law_767 rfl
    (sq_iload_n (pc := 768) dL_law_768 rfl
    (sq_iconst (pc := 769) dL_law_769 kc_i_1
    (sq_iadd (pc := 770) dL_law_770
    (sq_xald (pc := 771) dL_law_771
    (sq_aload_n (pc := 772) dL_law_772 rfl
    (sq_iload_n (pc := 773) dL_law_773 rfl
    (sq_iconst (pc := 774) dL_law_774 kc_i_2
    (sq_iadd (pc := 775) dL_law_775
    (sq_xald (pc := 776) dL_law_776
    (sq_aload_n (pc := 777) dL_law_777 rfl
    (sq_iload_n (pc := 778) dL_law_778 rfl
    (sq_iconst (pc := 779) dL_law_779 kc_i_3
    (sq_iadd (pc := 780) dL_law_780
    (sq_xald (pc := 781) dL_law_781
    (sq_callV (d := 50) (d' := 3) (mi' := mi_m_fewest) (pc := 782) dL_law_782 ml_L_105 in_m_fewest se_m_fewest ok_m_fewest ar_m_fewest (by decide) rfl (by decide) (lw_ok 50 (by decide)) (m_m_fewest G)
    (sq_ceq (pc := 785) dL_law_785 (tgt := 1176) rfl
    (s_L_law_1176 G nx h18)
    sq_none)))))))))))))))))))))))))))))))))))
set_option maxHeartbeats 10000000 in
set_option maxRecDepth 20000 in
theorem s_L_law_790 (G : GG) (nx : String) {k18 : Kt Mi} (h18 : Sq kE G lw_F (mi_L_law nx) 18 k18) : Sq kE G lw_F (mi_L_law nx) 790 (b_L_law_790 G k18) := by
  unfold b_L_law_790
  exact (sq_aload_n (pc := 790) dL_law_790 rfl
    (sq_aload_n (pc := 791) dL_law_791 rfl
    (sq_iload_n (pc := 792) dL_law_792 rfl
    (sq_iconst (pc := 793) dL_law_793 kc_i_1
    (sq_iadd (pc := 794) dL_law_794
    (sq_xald (pc := 795) dL_law_795
    (sq_aload_n (pc := 796) dL_law_796 rfl
    (sq_iload_n (pc := 797) dL_law_797 rfl
    (sq_iconst (pc := 798) dL_law_798 kc_i_2
    (sq_iadd (pc := 799) dL_law_799
    (sq_xald (pc := 800) dL_law_800
    (sq_aload_n (pc := 801) dL_law_801 rfl
    (sq_iload_n (pc := 802) dL_law_802 rfl
    (sq_iconst (pc := 803) dL_law_803 kc_i_3
    (sq_iadd (pc := 804) dL_law_804
    (sq_xald (pc := 805) dL_law_805
    (sq_callV (d := 50) (d' := 6) (mi' := mi_x_missing) (pc := 806) dL_law_806 ml_L_106 in_x_missing se_x_missing ok_x_missing ar_x_missing (by decide) rfl (by decide) (lw_ok 50 (by decide)) (m_x_missing G)
    (sq_aload_n (pc := 809) dL_law_809 rfl
    (sq_aload_n (pc := 810) dL_law_810 rfl
    (sq_iload_n (pc := 811) dL_law_811 rfl
    (sq_iconst (pc := 812) dL_law_812 kc_i_1
    (sq_iadd (pc := 813) dL_law_813
    (sq_xald (pc := 814) dL_law_814
    (sq_aload_n (pc := 815) dL_law_815 rfl
    (sq_iload_n (pc := 816) dL_law_816 rfl
    (sq_iconst (pc := 817) dL_law_817 kc_i_2
    (sq_iadd (pc := 818) dL_law_818
    (sq_xald (pc := 819) dL_law_819
    (sq_aload_n (pc := 820) dL_law_820 rfl
    (sq_iload_n (pc := 821) dL_law_821 rfl
    (sq_iconst (pc := 822) dL_law_822 kc_i_3
    (sq_iadd (pc := 823) dL_law_823
    (sq_xald (pc := 824) dL_law_824
    (sq_callV (d := 50) (d' := 3) (mi' := mi_m_missing) (pc := 825) dL_law_825 ml_L_109 in_m_missing se_m_missing ok_m_missing ar_m_missing (by decide) rfl (by decide) (lw_ok 50 (by decide)) (m_m_missing G)
    (sq_ceq (pc := 828) dL_law_828 (tgt := 1176) rfl
    (s_L_law_1176 G nx h18)
    sq_none)))))))))))))))))))))))))))))))))))
set_option maxHeartbeats 10000000 in
set_option maxRecDepth 20000 in
theorem s_L_law_833 (G : GG) (nx : String) {k18 : Kt Mi} (h18 : Sq kE G lw_F (mi_L_law nx) 18 k18) : Sq kE G lw_F (mi_L_law nx) 833 (b_L_law_833 G k18) := by
  unfold b_L_law_833
  exact (sq_aload_n (pc := 833) dL_law_833 rfl
    (sq_aload_n (pc := 834) dL_law_834 rfl
    (sq_iload_n (pc := 835) dL_law_835 rfl
    (sq_iconst (pc := 836) dL_law_836 kc_i_1
    (sq_iadd (pc := 837) dL_law_837
    (sq_xald (pc := 838) dL_law_838
    (sq_aload_n (pc := 839) dL_law_839 rfl
    (sq_iload_n (pc := 840) dL_law_840 rfl
    (sq_iconst (pc := 841) dL_law_841 kc_i_2
    (sq_iadd (pc := 842) dL_law_842
    (sq_xald (pc := 843) dL_law_843
    (sq_aload_n (pc := 844) dL_law_844 rfl
    (sq_iload_n (pc := 845) dL_law_845 rfl
    (sq_iconst (pc := 846) dL_law_846 kc_i_3
    (sq_iadd (pc := 847) dL_law_847
    (sq_xald (pc := 848) dL_law_848
    (sq_callV (d := 50) (d' := 6) (mi' := mi_x_windy) (pc := 849) dL_law_849 ml_L_110 in_x_windy se_x_windy ok_x_windy ar_x_windy (by decide) rfl (by decide) (lw_ok 50 (by decide)) (m_x_windy G)
    (sq_aload_n (pc := 852) dL_law_852 rfl
    (sq_aload_n (pc := 853) dL_law_853 rfl
    (sq_iload_n (pc := 854) dL_law_854 rfl
    (sq_iconst (pc := 855) dL_law_855 kc_i_1
    (sq_iadd (pc := 856) dL_law_856
    (sq_xald (pc := 857) dL_law_857
    (sq_aload_n (pc := 858) dL_law_858 rfl
    (sq_iload_n (pc := 859) dL_law_859 rfl
    (sq_iconst (pc := 860) dL_law_860 kc_i_2
    (sq_iadd (pc := 861) dL_law_861
    (sq_xald (pc := 862) dL_law_862
    (sq_aload_n (pc := 863) dL_law_863 rfl
    (sq_iload_n (pc := 864) dL_law_864 rfl
    (sq_iconst (pc := 865) dL_law_865 kc_i_3
    (sq_iadd (pc := 866) dL_law_866
    (sq_xald (pc := 867) dL_law_867
    (sq_callV (d := 50) (d' := 3) (mi' := mi_m_windy) (pc := 868) dL_law_868 ml_L_113 in_m_windy se_m_windy ok_m_windy ar_m_windy (by decide) rfl (by decide) (lw_ok 50 (by decide)) (m_m_windy G)
    (sq_ceq (pc := 871) dL_law_871 (tgt := 1176) rfl
    (s_L_law_1176 G nx h18)
    sq_none)))))))))))))))))))))))))))))))))))
set_option maxHeartbeats 10000000 in
set_option maxRecDepth 20000 in
theorem s_L_law_876 (G : GG) (nx : String) {k18 : Kt Mi} (h18 : Sq kE G lw_F (mi_L_law nx) 18 k18) : Sq kE G lw_F (mi_L_law nx) 876 (b_L_law_876 G k18) := by
  unfold b_L_law_876
  exact (sq_aload_n (pc := 876) dL_law_876 rfl
    (sq_aload_n (pc := 877) dL_law_877 rfl
    (sq_iload_n (pc := 878) dL_law_878 rfl
    (sq_iconst (pc := 879) dL_law_879 kc_i_1
    (sq_iadd (pc := 880) dL_law_880
    (sq_xald (pc := 881) dL_law_881
    (sq_aload_n (pc := 882) dL_law_882 rfl
    (sq_iload_n (pc := 883) dL_law_883 rfl
    (sq_iconst (pc := 884) dL_law_884 kc_i_2
    (sq_iadd (pc := 885) dL_law_885
    (sq_xald (pc := 886) dL_law_886
    (sq_aload_n (pc := 887) dL_law_887 rfl
    (sq_iload_n (pc := 888) dL_law_888 rfl
    (sq_iconst (pc := 889) dL_law_889 kc_i_3
    (sq_iadd (pc := 890) dL_law_890
    (sq_xald (pc := 891) dL_law_891
    (sq_aload_n (pc := 892) dL_law_892 rfl
    (sq_iload_n (pc := 893) dL_law_893 rfl
    (sq_iconst (pc := 894) dL_law_894 kc_i_4
    (sq_iadd (pc := 895) dL_law_895
    (sq_xald (pc := 896) dL_law_896
    (sq_callV (d := 50) (d' := 6) (mi' := mi_x_sorts) (pc := 897) dL_law_897 ml_L_114 in_x_sorts se_x_sorts ok_x_sorts ar_x_sorts (by decide) rfl (by decide) (lw_ok 50 (by decide)) (m_x_sortw G)
    (sq_aload_n (pc := 900) dL_law_900 rfl
    (sq_aload_n (pc := 901) dL_law_901 rfl
    (sq_iload_n (pc := 902) dL_law_902 rfl
    (sq_iconst (pc := 903) dL_law_903 kc_i_1
    (sq_iadd (pc := 904) dL_law_904
    (sq_xald (pc := 905) dL_law_905
    (sq_aload_n (pc := 906) dL_law_906 rfl
    (sq_iload_n (pc := 907) dL_law_907 rfl
    (sq_iconst (pc := 908) dL_law_908 kc_i_2
    (sq_iadd (pc := 909) dL_law_909
    (sq_xald (pc := 910) dL_law_910
    (sq_aload_n (pc := 911) dL_law_911 rfl
    (sq_iload_n (pc := 912) dL_law_912 rfl
    (sq_iconst (pc := 913) dL_law_913 kc_i_3
    (sq_iadd (pc := 914) dL_law_914
    (sq_xald (pc := 915) dL_law_915
    (sq_aload_n (pc := 916) dL_law_916 rfl
    (sq_iload_n (pc := 917) dL_law_917 rfl
    (sq_iconst (pc := 918) dL_law_918 kc_i_4
    (sq_iadd (pc := 919) dL_law_919
    (sq_xald (pc := 920) dL_law_920
    (sq_callV (d := 50) (d' := 3) (mi' := mi_m_sorts) (pc := 921) dL_law_921 ml_L_118 in_m_sorts se_m_sorts ok_m_sorts ar_m_sorts (by decide) rfl (by decide) (lw_ok 50 (by decide)) (m_m_sorts G)
    (sq_ceq (pc := 924) dL_law_924 (tgt := 1176) rfl
    (s_L_law_1176 G nx h18)
    sq_none)))))))))))))))))))))))))))))))))))))))))))))
set_option maxHeartbeats 10000000 in
set_option maxRecDepth 20000 in
theorem s_L_law_929 (G : GG) (nx : String) {k18 : Kt Mi} (h18 : Sq kE G lw_F (mi_L_law nx) 18 k18) : Sq kE G lw_F (mi_L_law nx) 929 (b_L_law_929 G k18) := by
  unfold b_L_law_929
  exact (sq_aload_n (pc := 929) dL_law_929 rfl
    (sq_aload_n (pc := 930) dL_law_930 rfl
    (sq_iload_n (pc := 931) dL_law_931 rfl
    (sq_iconst (pc := 932) dL_law_932 kc_i_1
    (sq_iadd (pc := 933) dL_law_933
    (sq_xald (pc := 934) dL_law_934
    (sq_aload_n (pc := 935) dL_law_935 rfl
    (sq_iload_n (pc := 936) dL_law_936 rfl
    (sq_iconst (pc := 937) dL_law_937 kc_i_2
    (sq_iadd (pc := 938) dL_law_938
    (sq_xald (pc := 939) dL_law_939
    (sq_aload_n (pc := 940) dL_law_940 rfl
    (sq_iload_n (pc := 941) dL_law_941 rfl
    (sq_iconst (pc := 942) dL_law_942 kc_i_3
    (sq_iadd (pc := 943) dL_law_943
    (sq_xald (pc := 944) dL_law_944
    (sq_aload_n (pc := 945) dL_law_945 rfl
    (sq_iload_n (pc := 946) dL_law_946 rfl
    (sq_iconst (pc := 947) dL_law_947 kc_i_4
    (sq_iadd (pc := 948) dL_law_948
    (sq_xald (pc := 949) dL_law_949
    (sq_callV (d := 50) (d' := 6) (mi' := mi_x_stay) (pc := 950) dL_law_950 ml_L_119 in_x_stay se_x_stay ok_x_stay ar_x_stay (by decide) rfl (by decide) (lw_ok 50 (by decide)) (m_x_stay G)
    (sq_aload_n (pc := 953) dL_law_953 rfl
    (sq_aload_n (pc := 954) dL_law_954 rfl
    (sq_iload_n (pc := 955) dL_law_955 rfl
    (sq_iconst (pc := 956) dL_law_956 kc_i_1
    (sq_iadd (pc := 957) dL_law_957
    (sq_xald (pc := 958) dL_law_958
    (sq_aload_n (pc := 959) dL_law_959 rfl
    (sq_iload_n (pc := 960) dL_law_960 rfl
    (sq_iconst (pc := 961) dL_law_961 kc_i_2
    (sq_iadd (pc := 962) dL_law_962
    (sq_xald (pc := 963) dL_law_963
    (sq_aload_n (pc := 964) dL_law_964 rfl
    (sq_iload_n (pc := 965) dL_law_965 rfl
    (sq_iconst (pc := 966) dL_law_966 kc_i_3
    (sq_iadd (pc := 967) dL_law_967
    (sq_xald (pc := 968) dL_law_968
    (sq_aload_n (pc := 969) dL_law_969 rfl
    (sq_iload_n (pc := 970) dL_law_970 rfl
    (sq_iconst (pc := 971) dL_law_971 kc_i_4
    (sq_iadd (pc := 972) dL_law_972
    (sq_xald (pc := 973) dL_law_973
    (sq_callV (d := 50) (d' := 2) (mi' := mi_m_stay) (pc := 974) dL_law_974 ml_L_122 in_m_stay se_m_stay ok_m_stay ar_m_stay (by decide) rfl (by decide) (lw_ok 50 (by decide)) (m_m_stay G)
    (sq_ceq (pc := 977) dL_law_977 (tgt := 1176) rfl
    (s_L_law_1176 G nx h18)
    sq_none)))))))))))))))))))))))))))))))))))))))))))))
set_option maxHeartbeats 10000000 in
set_option maxRecDepth 20000 in
theorem s_L_law_982 (G : GG) (nx : String) {k18 : Kt Mi} (h18 : Sq kE G lw_F (mi_L_law nx) 18 k18) : Sq kE G lw_F (mi_L_law nx) 982 (b_L_law_982 G k18) := by
  unfold b_L_law_982
  exact (sq_aload_n (pc := 982) dL_law_982 rfl
    (sq_aload_n (pc := 983) dL_law_983 rfl
    (sq_iload_n (pc := 984) dL_law_984 rfl
    (sq_iconst (pc := 985) dL_law_985 kc_i_1
    (sq_iadd (pc := 986) dL_law_986
    (sq_xald (pc := 987) dL_law_987
    (sq_callV (d := 50) (d' := 3) (mi' := mi_x_image) (pc := 988) dL_law_988 ml_L_123 in_x_image se_x_image ok_x_image ar_x_image (by decide) rfl (by decide) (lw_ok 50 (by decide)) (m_x_image G)
    (sq_aload_n (pc := 991) dL_law_991 rfl
    (sq_aload_n (pc := 992) dL_law_992 rfl
    (sq_iload_n (pc := 993) dL_law_993 rfl
    (sq_iconst (pc := 994) dL_law_994 kc_i_1
    (sq_iadd (pc := 995) dL_law_995
    (sq_xald (pc := 996) dL_law_996
    (sq_callV (d := 50) (d' := 1) (mi' := mi_m_image) (pc := 997) dL_law_997 ml_L_126 in_m_image se_m_image ok_m_image ar_m_image (by decide) rfl (by decide) (lw_ok 50 (by decide)) (m_m_image G)
    (sq_ceq (pc := 1000) dL_law_1000 (tgt := 1176) rfl
    (s_L_law_1176 G nx h18)
    sq_none)))))))))))))))
set_option maxHeartbeats 10000000 in
set_option maxRecDepth 20000 in
theorem s_L_law_1005 (G : GG) (nx : String) {k18 : Kt Mi} (h18 : Sq kE G lw_F (mi_L_law nx) 18 k18) : Sq kE G lw_F (mi_L_law nx) 1005 (b_L_law_1005 G k18) := by
  unfold b_L_law_1005
  exact (sq_aload_n (pc := 1005) dL_law_1005 rfl
    (sq_aload_n (pc := 1006) dL_law_1006 rfl
    (sq_iload_n (pc := 1007) dL_law_1007 rfl
    (sq_iconst (pc := 1008) dL_law_1008 kc_i_1
    (sq_iadd (pc := 1009) dL_law_1009
    (sq_xald (pc := 1010) dL_law_1010
    (sq_callV (d := 50) (d' := 3) (mi' := mi_x_restore) (pc := 1011) dL_law_1011 ml_L_127 in_x_restore se_x_restore ok_x_restore ar_x_restore (by decide) rfl (by decide) (lw_ok 50 (by decide)) (m_x_restore G)
    (sq_aload_n (pc := 1014) dL_law_1014 rfl
    (sq_aload_n (pc := 1015) dL_law_1015 rfl
    (sq_iload_n (pc := 1016) dL_law_1016 rfl
    (sq_iconst (pc := 1017) dL_law_1017 kc_i_1
    (sq_iadd (pc := 1018) dL_law_1018
    (sq_xald (pc := 1019) dL_law_1019
    (sq_callV (d := 50) (d' := 1) (mi' := mi_m_restore) (pc := 1020) dL_law_1020 ml_L_130 in_m_restore se_m_restore ok_m_restore ar_m_restore (by decide) rfl (by decide) (lw_ok 50 (by decide)) (m_m_restore G)
    (sq_ceq (pc := 1023) dL_law_1023 (tgt := 1176) rfl
    (s_L_law_1176 G nx h18)
    sq_none)))))))))))))))
set_option maxHeartbeats 10000000 in
set_option maxRecDepth 20000 in
theorem s_L_law_1028 (G : GG) (nx : String) {k18 : Kt Mi} (h18 : Sq kE G lw_F (mi_L_law nx) 18 k18) : Sq kE G lw_F (mi_L_law nx) 1028 (b_L_law_1028 G k18) := by
  unfold b_L_law_1028
  exact (sq_aload_n (pc := 1028) dL_law_1028 rfl
    (sq_aload_n (pc := 1029) dL_law_1029 rfl
    (sq_iload_n (pc := 1030) dL_law_1030 rfl
    (sq_iconst (pc := 1031) dL_law_1031 kc_i_1
    (sq_iadd (pc := 1032) dL_law_1032
    (sq_xald (pc := 1033) dL_law_1033
    (sq_callV (d := 50) (d' := 1) (mi' := mi_x_kind) (pc := 1034) dL_law_1034 ml_L_131 in_x_kind se_x_kind ok_x_kind ar_x_kind (by decide) rfl (by decide) (lw_ok 50 (by decide)) (m_x_kind G)
    (sq_aload_n (pc := 1037) dL_law_1037 rfl
    (sq_aload_n (pc := 1038) dL_law_1038 rfl
    (sq_iload_n (pc := 1039) dL_law_1039 rfl
    (sq_iconst (pc := 1040) dL_law_1040 kc_i_1
    (sq_iadd (pc := 1041) dL_law_1041
    (sq_xald (pc := 1042) dL_law_1042
    (sq_callV (d := 50) (d' := 2) (mi' := mi_m_kind) (pc := 1043) dL_law_1043 ml_L_134 in_m_kind se_m_kind ok_m_kind ar_m_kind (by decide) rfl (by decide) (lw_ok 50 (by decide)) (m_m_kind G)
    (sq_ceq (pc := 1046) dL_law_1046 (tgt := 1176) rfl
    (s_L_law_1176 G nx h18)
    sq_none)))))))))))))))
set_option maxHeartbeats 10000000 in
set_option maxRecDepth 20000 in
theorem s_L_law_1051 (G : GG) (nx : String) {k18 : Kt Mi} (h18 : Sq kE G lw_F (mi_L_law nx) 18 k18) : Sq kE G lw_F (mi_L_law nx) 1051 (b_L_law_1051 G k18) := by
  unfold b_L_law_1051
  exact (sq_aload_n (pc := 1051) dL_law_1051 rfl
    (sq_aload_n (pc := 1052) dL_law_1052 rfl
    (sq_iload_n (pc := 1053) dL_law_1053 rfl
    (sq_iconst (pc := 1054) dL_law_1054 kc_i_1
    (sq_iadd (pc := 1055) dL_law_1055
    (sq_xald (pc := 1056) dL_law_1056
    (sq_aload_n (pc := 1057) dL_law_1057 rfl
    (sq_iload_n (pc := 1058) dL_law_1058 rfl
    (sq_iconst (pc := 1059) dL_law_1059 kc_i_2
    (sq_iadd (pc := 1060) dL_law_1060
    (sq_xald (pc := 1061) dL_law_1061
    (sq_callV (d := 50) (d' := 1) (mi' := mi_x_as) (pc := 1062) dL_law_1062 ml_L_135 in_x_as se_x_as ok_x_as ar_x_as (by decide) rfl (by decide) (lw_ok 50 (by decide)) (m_x_as G)
    (sq_aload_n (pc := 1065) dL_law_1065 rfl
    (sq_aload_n (pc := 1066) dL_law_1066 rfl
    (sq_iload_n (pc := 1067) dL_law_1067 rfl
    (sq_iconst (pc := 1068) dL_law_1068 kc_i_1
    (sq_iadd (pc := 1069) dL_law_1069
    (sq_xald (pc := 1070) dL_law_1070
    (sq_aload_n (pc := 1071) dL_law_1071 rfl
    (sq_iload_n (pc := 1072) dL_law_1072 rfl
    (sq_iconst (pc := 1073) dL_law_1073 kc_i_2
    (sq_iadd (pc := 1074) dL_law_1074
    (sq_xald (pc := 1075) dL_law_1075
    (sq_callV (d := 50) (d' := 2) (mi' := mi_m_as) (pc := 1076) dL_law_1076 ml_L_138 in_m_as se_m_as ok_m_as ar_m_as (by decide) rfl (by decide) (lw_ok 50 (by decide)) (m_m_as G)
    (sq_ceq (pc := 1079) dL_law_1079 (tgt := 1176) rfl
    (s_L_law_1176 G nx h18)
    sq_none)))))))))))))))))))))))))
set_option maxHeartbeats 10000000 in
set_option maxRecDepth 20000 in
theorem s_L_law_1084 (G : GG) (nx : String) {k18 : Kt Mi} (h18 : Sq kE G lw_F (mi_L_law nx) 18 k18) : Sq kE G lw_F (mi_L_law nx) 1084 (b_L_law_1084 G k18) := by
  unfold b_L_law_1084
  exact (sq_aload_n (pc := 1084) dL_law_1084 rfl
    (sq_aload_n (pc := 1085) dL_law_1085 rfl
    (sq_iload_n (pc := 1086) dL_law_1086 rfl
    (sq_iconst (pc := 1087) dL_law_1087 kc_i_1
    (sq_iadd (pc := 1088) dL_law_1088
    (sq_xald (pc := 1089) dL_law_1089
    (sq_aload_n (pc := 1090) dL_law_1090 rfl
    (sq_iload_n (pc := 1091) dL_law_1091 rfl
    (sq_iconst (pc := 1092) dL_law_1092 kc_i_2
    (sq_iadd (pc := 1093) dL_law_1093
    (sq_xald (pc := 1094) dL_law_1094
    (sq_callV (d := 50) (d' := 45) (mi' := mi_x_ask) (pc := 1095) dL_law_1095 ml_L_139 in_x_ask se_x_ask ok_x_ask ar_x_ask (by decide) rfl (by decide) (lw_ok 50 (by decide)) (m_x_ask G)
    (sq_aload_n (pc := 1098) dL_law_1098 rfl
    (sq_aload_n (pc := 1099) dL_law_1099 rfl
    (sq_iload_n (pc := 1100) dL_law_1100 rfl
    (sq_iconst (pc := 1101) dL_law_1101 kc_i_1
    (sq_iadd (pc := 1102) dL_law_1102
    (sq_xald (pc := 1103) dL_law_1103
    (sq_aload_n (pc := 1104) dL_law_1104 rfl
    (sq_iload_n (pc := 1105) dL_law_1105 rfl
    (sq_iconst (pc := 1106) dL_law_1106 kc_i_2
    (sq_iadd (pc := 1107) dL_law_1107
    (sq_xald (pc := 1108) dL_law_1108
    (sq_callV (d := 50) (d' := 5) (mi' := mi_m_ask) (pc := 1109) dL_law_1109 ml_L_142 in_m_ask se_m_ask ok_m_ask ar_m_ask (by decide) rfl (by decide) (lw_ok 50 (by decide)) (m_m_ask G)
    (sq_ceq (pc := 1112) dL_law_1112 (tgt := 1176) rfl
    (s_L_law_1176 G nx h18)
    sq_none)))))))))))))))))))))))))
set_option maxHeartbeats 10000000 in
set_option maxRecDepth 20000 in
theorem s_L_law_1117 (G : GG) (nx : String) {k18 : Kt Mi} (h18 : Sq kE G lw_F (mi_L_law nx) 18 k18) : Sq kE G lw_F (mi_L_law nx) 1117 (b_L_law_1117 G k18) := by
  unfold b_L_law_1117
  exact (sq_aload_n (pc := 1117) dL_law_1117 rfl
    (sq_aload_n (pc := 1118) dL_law_1118 rfl
    (sq_iload_n (pc := 1119) dL_law_1119 rfl
    (sq_iconst (pc := 1120) dL_law_1120 kc_i_1
    (sq_iadd (pc := 1121) dL_law_1121
    (sq_xald (pc := 1122) dL_law_1122
    (sq_callV (d := 50) (d' := 0) (mi' := mi_x_trace) (pc := 1123) dL_law_1123 ml_L_143 in_x_trace se_x_trace ok_x_trace ar_x_trace (by decide) rfl (by decide) (lw_ok 50 (by decide)) (m_x_trace G)
    (sq_aload_n (pc := 1126) dL_law_1126 rfl
    (sq_aload_n (pc := 1127) dL_law_1127 rfl
    (sq_iload_n (pc := 1128) dL_law_1128 rfl
    (sq_iconst (pc := 1129) dL_law_1129 kc_i_1
    (sq_iadd (pc := 1130) dL_law_1130
    (sq_xald (pc := 1131) dL_law_1131
    (sq_callV (d := 50) (d' := 1) (mi' := mi_m_trace) (pc := 1132) dL_law_1132 ml_L_146 in_m_trace se_m_trace ok_m_trace ar_m_trace (by decide) rfl (by decide) (lw_ok 50 (by decide)) (m_m_trace G)
    (sq_ceq (pc := 1135) dL_law_1135 (tgt := 1176) rfl
    (s_L_law_1176 G nx h18)
    sq_none)))))))))))))))
set_option maxHeartbeats 10000000 in
set_option maxRecDepth 20000 in
theorem s_L_law_1140 (G : GG) (nx : String) {k18 : Kt Mi} (h18 : Sq kE G lw_F (mi_L_law nx) 18 k18) : Sq kE G lw_F (mi_L_law nx) 1140 (b_L_law_1140 G k18) := by
  unfold b_L_law_1140
  exact (sq_aload_n (pc := 1140) dL_law_1140 rfl
    (sq_aload_n (pc := 1141) dL_law_1141 rfl
    (sq_iload_n (pc := 1142) dL_law_1142 rfl
    (sq_iconst (pc := 1143) dL_law_1143 kc_i_1
    (sq_iadd (pc := 1144) dL_law_1144
    (sq_xald (pc := 1145) dL_law_1145
    (sq_callV (d := 50) (d' := 2) (mi' := mi_x_count) (pc := 1146) dL_law_1146 ml_L_147 in_x_count se_x_count ok_x_count ar_x_count (by decide) rfl (by decide) (lw_ok 50 (by decide)) (m_x_count G)
    (sq_aload_n (pc := 1149) dL_law_1149 rfl
    (sq_aload_n (pc := 1150) dL_law_1150 rfl
    (sq_iload_n (pc := 1151) dL_law_1151 rfl
    (sq_iconst (pc := 1152) dL_law_1152 kc_i_1
    (sq_iadd (pc := 1153) dL_law_1153
    (sq_xald (pc := 1154) dL_law_1154
    (sq_callV (d := 50) (d' := 1) (mi' := mi_m_count) (pc := 1155) dL_law_1155 ml_L_150 in_m_count se_m_count ok_m_count ar_m_count (by decide) rfl (by decide) (lw_ok 50 (by decide)) (m_m_count G)
    (sq_ceq (pc := 1158) dL_law_1158 (tgt := 1176) rfl
    (s_L_law_1176 G nx h18)
    sq_none)))))))))))))))
set_option maxHeartbeats 10000000 in
set_option maxRecDepth 20000 in
theorem s_L_law_1163 (G : GG) (nx : String) {k18 : Kt Mi} (h18 : Sq kE G lw_F (mi_L_law nx) 18 k18) : Sq kE G lw_F (mi_L_law nx) 1163 (b_L_law_1163 G k18) := by
  unfold b_L_law_1163
  exact (sq_aload_n (pc := 1163) dL_law_1163 rfl
    (sq_callV (d := 50) (d' := 0) (mi' := mi_x_status) (pc := 1164) dL_law_1164 ml_L_151 in_x_status se_x_status ok_x_status ar_x_status (by decide) rfl (by decide) (lw_ok 50 (by decide)) (m_x_status G)
    (sq_aload_n (pc := 1167) dL_law_1167 rfl
    (sq_callV (d := 50) (d' := 0) (mi' := mi_m_status) (pc := 1168) dL_law_1168 ml_L_154 in_m_status se_m_status ok_m_status ar_m_status (by decide) rfl (by decide) (lw_ok 50 (by decide)) (m_m_status G)
    (sq_ceq (pc := 1171) dL_law_1171 (tgt := 1176) rfl
    (s_L_law_1176 G nx h18)
    sq_none)))))
set_option maxHeartbeats 10000000 in
set_option maxRecDepth 20000 in
theorem s_L_law_18 (G : GG) (nx : String) (n : Nat) : Sq kE G lw_F (mi_L_law nx) 18 (b_L_law_18 G n) := by
  induction n with
  | zero => exact sq_none
  | succ n ih =>
    unfold b_L_law_18
    exact (sq_iload_n (pc := 18) dL_law_18 rfl
    (sq_aload_n (pc := 19) dL_law_19 rfl
    (sq_xlen (pc := 20) dL_law_20
    (sq_bipush (pc := 21) dL_law_21 kc_b_6
    (sq_isub (pc := 23) dL_law_23
    (sq_cgt (pc := 24) dL_law_24 (tgt := 1182) rfl
    (sq_iconst (pc := 1182) dL_law_1182 kc_i_1
    (sq_done (pc := 1183) nx dL_law_1183))
    (sq_aload_n (pc := 27) dL_law_27 rfl
    (sq_iload_n (pc := 28) dL_law_28 rfl
    (sq_xald (pc := 29) dL_law_29
    (sq_bipush (pc := 30) dL_law_30 kc_b_63
    (sq_iand (pc := 32) dL_law_32
    (sq_tsw (pc := 33) dL_law_33 (td := 1176) rfl (by decide +kernel)
    ((k_swT_cons 151 184 ki_0_0 (by decide +kernel) (by decide +kernel) (s_L_law_184 G nx ih) 
    (k_swT_cons 194 227 ki_0_1 (by decide +kernel) (by decide +kernel) (s_L_law_227 G nx ih) 
    (k_swT_cons 237 270 ki_0_2 (by decide +kernel) (by decide +kernel) (s_L_law_270 G nx ih) 
    (k_swT_cons 300 333 ki_0_3 (by decide +kernel) (by decide +kernel) (s_L_law_333 G nx ih) 
    (k_swT_cons 323 356 ki_0_4 (by decide +kernel) (by decide +kernel) (s_L_law_356 G nx ih) 
    (k_swT_cons 346 379 ki_0_5 (by decide +kernel) (by decide +kernel) (s_L_law_379 G nx ih) 
    (k_swT_cons 359 392 ki_0_6 (by decide +kernel) (by decide +kernel) (s_L_law_392 G nx ih) 
    (k_swT_cons 372 405 ki_0_7 (by decide +kernel) (by decide +kernel) (s_L_law_405 G nx ih) 
    (k_swT_cons 395 428 ki_0_8 (by decide +kernel) (by decide +kernel) (s_L_law_428 G nx ih) 
    (k_swT_cons 418 451 ki_0_9 (by decide +kernel) (by decide +kernel) (s_L_law_451 G nx ih) 
    (k_swT_cons 441 474 ki_0_10 (by decide +kernel) (by decide +kernel) (s_L_law_474 G nx ih) 
    (k_swT_cons 464 497 ki_0_11 (by decide +kernel) (by decide +kernel) (s_L_law_497 G nx ih) 
    (k_swT_cons 477 510 ki_0_12 (by decide +kernel) (by decide +kernel) (s_L_law_510 G nx ih) 
    (k_swT_cons 510 543 ki_0_13 (by decide +kernel) (by decide +kernel) (s_L_law_543 G nx ih) 
    (k_swT_cons 543 576 ki_0_14 (by decide +kernel) (by decide +kernel) (s_L_law_576 G nx ih) 
    (k_swT_cons 566 599 ki_0_15 (by decide +kernel) (by decide +kernel) (s_L_law_599 G nx ih) 
    (k_swT_cons 599 632 ki_0_16 (by decide +kernel) (by decide +kernel) (s_L_law_632 G nx ih) 
    (k_swT_cons 622 655 ki_0_17 (by decide +kernel) (by decide +kernel) (s_L_law_655 G nx ih) 
    (k_swT_cons 645 678 ki_0_18 (by decide +kernel) (by decide +kernel) (s_L_law_678 G nx ih) 
    (k_swT_cons 658 691 ki_0_19 (by decide +kernel) (by decide +kernel) (s_L_law_691 G nx ih) 
    (k_swT_cons 681 714 ki_0_20 (by decide +kernel) (by decide +kernel) (s_L_law_714 G nx ih) 
    (k_swT_cons 714 747 ki_0_21 (by decide +kernel) (by decide +kernel) (s_L_law_747 G nx ih) 
    (k_swT_cons 757 790 ki_0_22 (by decide +kernel) (by decide +kernel) (s_L_law_790 G nx ih) 
    (k_swT_cons 800 833 ki_0_23 (by decide +kernel) (by decide +kernel) (s_L_law_833 G nx ih) 
    (k_swT_cons 843 876 ki_0_24 (by decide +kernel) (by decide +kernel) (s_L_law_876 G nx ih) 
    (k_swT_cons 896 929 ki_0_25 (by decide +kernel) (by decide +kernel) (s_L_law_929 G nx ih) 
    (k_swT_cons 949 982 ki_0_26 (by decide +kernel) (by decide +kernel) (s_L_law_982 G nx ih) 
    (k_swT_cons 972 1005 ki_0_27 (by decide +kernel) (by decide +kernel) (s_L_law_1005 G nx ih) 
    (k_swT_cons 995 1028 ki_0_28 (by decide +kernel) (by decide +kernel) (s_L_law_1028 G nx ih) 
    (k_swT_cons 1018 1051 ki_0_29 (by decide +kernel) (by decide +kernel) (s_L_law_1051 G nx ih) 
    (k_swT_cons 1051 1084 ki_0_30 (by decide +kernel) (by decide +kernel) (s_L_law_1084 G nx ih) 
    (k_swT_cons 1084 1117 ki_0_31 (by decide +kernel) (by decide +kernel) (s_L_law_1117 G nx ih) 
    (k_swT_cons 1107 1140 ki_0_32 (by decide +kernel) (by decide +kernel) (s_L_law_1140 G nx ih) 
    (k_swT_cons 1130 1163 ki_0_33 (by decide +kernel) (by decide +kernel) (s_L_law_1163 G nx ih) k_swT_nil)))))))))))))))))))))))))))))))))))
    (s_L_law_1176 G nx ih)))))))))))))
