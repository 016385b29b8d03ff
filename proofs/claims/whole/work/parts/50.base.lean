/-! ===== what the pure part rests on ===== -/
theorem k_sh0 : k_sh 0 = (2, 6) := rfl
theorem k_sh1 : k_sh 1 = (2, 4) := rfl
theorem k_sh2 : k_sh 2 = (0, 8) := rfl
theorem k_sh3 : k_sh 3 = (0, 8) := rfl
theorem k_sh4 : k_sh 4 = (0, 320) := rfl
theorem k_sh5 : k_sh 5 = (2, 3) := rfl
theorem k_sh6 : k_sh 6 = (0, 100) := rfl
theorem k_sh7 : k_sh 7 = (2, 5) := rfl
theorem k_sh8 : k_sh 8 = (0, 6) := rfl
theorem k_sh9 : k_sh 9 = (0, 6) := rfl
theorem k_sh10 : k_sh 10 = (0, 6) := rfl
theorem k_sh11 : k_sh 11 = (0, 5) := rfl
theorem k_sh12 : k_sh 12 = (0, 5) := rfl
theorem k_sh13 : k_sh 13 = (0, 5) := rfl
theorem k_sh14 : k_sh 14 = (0, 5) := rfl
theorem k_sh15 : k_sh 15 = (2, 5) := rfl
theorem k_sh16 : k_sh 16 = (0, 6) := rfl
theorem k_sh17 : k_sh 17 = (0, 6) := rfl
theorem k_sh18 : k_sh 18 = (0, 6) := rfl
theorem k_sh19 : k_sh 19 = (0, 5) := rfl
theorem k_sh20 : k_sh 20 = (0, 5) := rfl
theorem k_sh21 : k_sh 21 = (0, 5) := rfl
theorem k_sh22 : k_sh 22 = (0, 5) := rfl
theorem k_sh23 : k_sh 23 = (2, 5) := rfl
theorem k_sh24 : k_sh 24 = (0, 6) := rfl
theorem k_sh25 : k_sh 25 = (0, 6) := rfl
theorem k_sh26 : k_sh 26 = (0, 6) := rfl
theorem k_sh27 : k_sh 27 = (0, 5) := rfl
theorem k_sh28 : k_sh 28 = (0, 5) := rfl
theorem k_sh29 : k_sh 29 = (0, 5) := rfl
theorem k_sh30 : k_sh 30 = (0, 5) := rfl
theorem k_sh31 : k_sh 31 = (2, 0) := rfl
theorem k_sh32 : k_sh 32 = (0, 24) := rfl
theorem k_sh33 : k_sh 33 = (0, 24) := rfl
theorem k_sh34 : k_sh 34 = (0, 24) := rfl
theorem k_sh35 : k_sh 35 = (0, 120) := rfl
theorem k_sh36 : k_sh 36 = (0, 144) := rfl
theorem k_sh37 : k_sh 37 = (2, 2) := rfl
theorem k_sh38 : k_sh 38 = (2, 5) := rfl
theorem k_sh39 : k_sh 39 = (0, 6) := rfl
theorem k_sh40 : k_sh 40 = (0, 6) := rfl
theorem k_sh41 : k_sh 41 = (0, 6) := rfl
theorem k_sh42 : k_sh 42 = (0, 5) := rfl
theorem k_sh43 : k_sh 43 = (0, 5) := rfl
theorem k_sh44 : k_sh 44 = (0, 5) := rfl
theorem k_sh45 : k_sh 45 = (0, 5) := rfl
theorem k_sh46 : k_sh 46 = (0, 6) := rfl
theorem k_sh47 : k_sh 47 = (2, 1) := rfl
theorem k_sh48 : k_sh 48 = (0, 16) := rfl
theorem k_sh49 : k_sh 49 = (2, 7) := rfl
theorem k_sh50 : k_sh 50 = (0, 8) := rfl
theorem k_sh51 : k_sh 51 = (0, 8) := rfl
theorem k_sh52 : k_sh 52 = (0, 320) := rfl
theorem k_sh53 : k_sh 53 = (0, 100) := rfl
theorem k_sh54 : k_sh 54 = (0, 47) := rfl
theorem k_sh55 : k_sh 55 = (0, 47) := rfl
theorem k_sh56 : k_sh 56 = (0, 47) := rfl
theorem k_sh57 : k_sh 57 = (0, 94) := rfl
theorem k_sh58 : k_sh 58 = (1, 2) := rfl
theorem k_sh59 : k_sh 59 = (0, 1128) := rfl
theorem k_sh60 : k_sh 60 = (0, 16) := rfl
theorem k_sh61 : k_sh 61 = (0, 16) := rfl
theorem k_sh62 : k_sh 62 = (0, 6) := rfl
theorem k_sh63 : k_sh 63 = (0, 6) := rfl
theorem k_sh64 : k_sh 64 = (0, 106) := rfl
theorem l_0 : (0 : Int32) = nI 0 := rfl
theorem l_1 : (1 : Int32) = nI 1 := rfl
theorem l_2 : (2 : Int32) = nI 2 := rfl
theorem l_3 : (3 : Int32) = nI 3 := rfl
theorem l_4 : (4 : Int32) = nI 4 := rfl
theorem l_5 : (5 : Int32) = nI 5 := rfl
theorem l_6 : (6 : Int32) = nI 6 := rfl
theorem l_7 : (7 : Int32) = nI 7 := rfl
theorem l_8 : (8 : Int32) = nI 8 := rfl
theorem l_9 : (9 : Int32) = nI 9 := rfl
theorem l_10 : (10 : Int32) = nI 10 := rfl
theorem l_11 : (11 : Int32) = nI 11 := rfl
theorem l_12 : (12 : Int32) = nI 12 := rfl
theorem l_13 : (13 : Int32) = nI 13 := rfl
theorem l_14 : (14 : Int32) = nI 14 := rfl
theorem l_16 : (16 : Int32) = nI 16 := rfl
theorem l_20 : (20 : Int32) = nI 20 := rfl
theorem l_21 : (21 : Int32) = nI 21 := rfl
theorem l_22 : (22 : Int32) = nI 22 := rfl
theorem l_23 : (23 : Int32) = nI 23 := rfl
theorem l_24 : (24 : Int32) = nI 24 := rfl
theorem l_27 : (27 : Int32) = nI 27 := rfl
theorem l_31 : (31 : Int32) = nI 31 := rfl
theorem l_32 : (32 : Int32) = nI 32 := rfl
theorem l_37 : (37 : Int32) = nI 37 := rfl
theorem l_40 : (40 : Int32) = nI 40 := rfl
theorem l_42 : (42 : Int32) = nI 42 := rfl
theorem l_44 : (44 : Int32) = nI 44 := rfl
theorem l_47 : (47 : Int32) = nI 47 := rfl
theorem l_48 : (48 : Int32) = nI 48 := rfl
theorem l_57 : (57 : Int32) = nI 57 := rfl
theorem l_59 : (59 : Int32) = nI 59 := rfl
theorem l_60 : (60 : Int32) = nI 60 := rfl
theorem l_63 : (63 : Int32) = nI 63 := rfl
theorem l_64 : (64 : Int32) = nI 64 := rfl
theorem l_94 : (94 : Int32) = nI 94 := rfl
theorem l_97 : (97 : Int32) = nI 97 := rfl
theorem l_99 : (99 : Int32) = nI 99 := rfl
theorem l_100 : (100 : Int32) = nI 100 := rfl
theorem l_102 : (102 : Int32) = nI 102 := rfl
theorem l_105 : (105 : Int32) = nI 105 := rfl
theorem l_106 : (106 : Int32) = nI 106 := rfl
theorem l_108 : (108 : Int32) = nI 108 := rfl
theorem l_110 : (110 : Int32) = nI 110 := rfl
theorem l_112 : (112 : Int32) = nI 112 := rfl
theorem l_113 : (113 : Int32) = nI 113 := rfl
theorem l_116 : (116 : Int32) = nI 116 := rfl
theorem l_120 : (120 : Int32) = nI 120 := rfl
theorem l_122 : (122 : Int32) = nI 122 := rfl
theorem l_128 : (128 : Int32) = nI 128 := rfl
theorem l_144 : (144 : Int32) = nI 144 := rfl
theorem l_255 : (255 : Int32) = nI 255 := rfl
theorem l_320 : (320 : Int32) = nI 320 := rfl
theorem l_720 : (720 : Int32) = nI 720 := rfl
theorem l_1000 : (1000 : Int32) = nI 1000 := rfl
theorem l_1081 : (1081 : Int32) = nI 1081 := rfl
theorem l_1128 : (1128 : Int32) = nI 1128 := rfl
theorem l_9999 : (9999 : Int32) = nI 9999 := rfl
theorem tm_1 : (-1 : Int32).toInt = -1 := by decide +kernel
theorem tm_2 : (-2 : Int32).toInt = -2 := by decide +kernel
theorem tm_3 : (-3 : Int32).toInt = -3 := by decide +kernel
theorem tm_1000000 : (-1000000 : Int32).toInt = -1000000 := by decide +kernel
theorem tm_1000001 : (-1000001 : Int32).toInt = -1000001 := by decide +kernel
theorem tm_1000002 : (-1000002 : Int32).toInt = -1000002 := by decide +kernel
theorem tm_1000003 : (-1000003 : Int32).toInt = -1000003 := by decide +kernel
theorem tm_1000010 : (-1000010 : Int32).toInt = -1000010 := by decide +kernel
theorem tm_1000100 : (-1000100 : Int32).toInt = -1000100 := by decide +kernel
theorem e_I {x y : Int32} : (x = y) = (x.toInt = y.toInt) := propext ⟨fun h => by rw [h], fun h => Int32.toInt_inj.mp h⟩
theorem lt_I {x y : Int32} : (x < y) = (x.toInt < y.toInt) := propext Int32.lt_iff_toInt_lt
theorem le_I {x y : Int32} : (x ≤ y) = (x.toInt ≤ y.toInt) := propext Int32.le_iff_toInt_le
theorem sub_I {a b : Nat} (ha : a < 2 ^ 30) (hb : b < 2 ^ 30) : (nI a - nI b).toInt = (a : Int) - (b : Int) := pk_sub_toInt ha hb
/-- a truth value -/
def bI (b : Bool) : Int32 := if b then nI 1 else nI 0
theorem bI_I (b : Bool) : (bI b).toInt = if b then 1 else 0 := by cases b <;> decide +kernel
theorem bI_0 (b : Bool) : (bI b = nI 0) = (b = false) := by cases b <;> simp [bI] <;> decide +kernel
theorem bI_01 (b : Bool) : (bI b = nI 0 ∨ bI b = nI 1) = True := by cases b <;> simp [bI]
theorem bI_t0 (b : Bool) : ((bI b).toInt = 0) = (b = false) := by cases b <;> simp [bI_I]
theorem bI_t1 (b : Bool) : ((bI b).toInt = 1) = (b = true) := by cases b <;> simp [bI_I]
theorem bI_or (b : Bool) : (b = false ∨ b = true) = True := by cases b <;> simp
theorem bI_t : bI true = nI 1 := rfl
theorem bI_f : bI false = nI 0 := rfl
theorem nI_ne01 : (nI 1 = nI 0) = False := by simp only [eq_iff_iff, iff_false]; decide +kernel
theorem inb_I {x : Int32} {n : Nat} : (k_inb x n = true) = (0 ≤ x.toInt ∧ x.toInt < n) := by
  apply propext
  constructor
  · intro h
    exact vp_in_iff.mp (k_inb_in h)
  · intro h
    have h2 := vp_in_iff.mpr h
    unfold vp_in at h2
    simp only [k_inb, Bool.not_eq_true', Bool.or_eq_false_iff, decide_eq_false_iff_not]
    exact ⟨fun q => h2 (Or.inl q), fun q => h2 (Or.inr q)⟩
/-- an int, by whether it lies in 0 .. n - 1 -/
theorem in_or (x : Int32) (n : Nat) (hn : n < 2 ^ 31) : (∃ j : Nat, j < n ∧ x = nI j) ∨ (x.toInt < 0 ∨ (n : Int) ≤ x.toInt) := by
  rcases pk_ix x hn with h | h | h
  · right; left
    have := Int32.lt_iff_toInt_lt.mp h
    simpa using this
  · right; right
    have := Int32.le_iff_toInt_le.mp h
    rw [nI_toInt hn] at this
    exact this
  · exact Or.inl h
theorem mu_get (I : Mi) (k j k' j' : Nat) (x : Int32) : k_mu I k j x k' j' = if k' = k ∧ j' = j then x else I k' j' := by
  unfold k_mu
  by_cases h : k' = k
  · subst h
    simp only [if_true, true_and, upd]
  · simp [h]
theorem mu_cell (I : Mi) {k j k' : Nat} (x : Int32) (h : k' ≠ k) : k_mu I k j x k' = I k' := k_mu_ne h
theorem mc_get (I : Mi) (k0 k1 sp dp n k' j' : Nat) : k_mc I k0 k1 sp dp n k' j' = if k' = k1 ∧ dp ≤ j' ∧ j' < dp + n then I k0 (sp + (j' - dp)) else I k' j' := by
  unfold k_mc va_cpy
  by_cases h : k' = k1
  · subst h
    simp only [if_true, true_and]
  · simp [h]
theorem mc_cell (I : Mi) {k0 k1 sp dp n k' : Nat} (h : k' ≠ k1) : k_mc I k0 k1 sp dp n k' = I k' := if_neg h
/-- two memories agree but on some cells -/
def Fr (S : Nat → Prop) (I J : Mi) : Prop := ∀ k, ¬ S k → J k = I k
theorem Fr.rf {S : Nat → Prop} {I : Mi} : Fr S I I := fun _ _ => rfl
theorem Fr.tr {S : Nat → Prop} {I J K : Mi} (h1 : Fr S I J) (h2 : Fr S J K) : Fr S I K := fun k h => (h2 k h).trans (h1 k h)
theorem Fr.mono {S T : Nat → Prop} {I J : Mi} (h : ∀ k, S k → T k) (h1 : Fr S I J) : Fr T I J := fun k hk => h1 k (fun q => hk (h k q))
theorem Fr.mu {S : Nat → Prop} {I : Mi} {k j : Nat} {x : Int32} (h : S k) : Fr S I (k_mu I k j x) := fun k' hk => k_mu_ne (fun e => hk (by rw [e]; exact h))
theorem Fr.mc {S : Nat → Prop} {I : Mi} {k0 k1 sp dp n : Nat} (h : S k1) : Fr S I (k_mc I k0 k1 sp dp n) := fun k' hk => if_neg (fun e => hk (by rw [e]; exact h))
theorem k_nor (p : Prop) : (¬ p ∨ p) = True := by simp only [eq_iff_iff, iff_true]; exact (Classical.em p).symm
theorem fu_pos : 1500 < k_fu := by decide
theorem tlt {a b : Int} (h : a < b) : (a < b) = True := eq_true h
theorem flt {a b : Int} (h : ¬ a < b) : (a < b) = False := eq_false h
theorem tle {a b : Int} (h : a ≤ b) : (a ≤ b) = True := eq_true h
theorem fle {a b : Int} (h : ¬ a ≤ b) : (a ≤ b) = False := eq_false h
theorem teq {a b : Int} (h : a = b) : (a = b) = True := eq_true h
theorem feq {a b : Int} (h : ¬ a = b) : (a = b) = False := eq_false h
theorem tltN {a b : Nat} (h : a < b) : (a < b) = True := eq_true h
theorem fltN {a b : Nat} (h : ¬ a < b) : (a < b) = False := eq_false h
theorem tleN {a b : Nat} (h : a ≤ b) : (a ≤ b) = True := eq_true h
theorem fleN {a b : Nat} (h : ¬ a ≤ b) : (a ≤ b) = False := eq_false h
theorem teqN {a b : Nat} (h : a = b) : (a = b) = True := eq_true h
theorem feqN {a b : Nat} (h : ¬ a = b) : (a = b) = False := eq_false h
theorem tn_1 : (-nI 1).toInt = -1 := by decide +kernel
theorem tn_2 : (-nI 2).toInt = -2 := by decide +kernel
theorem tn_3 : (-nI 3).toInt = -3 := by decide +kernel
