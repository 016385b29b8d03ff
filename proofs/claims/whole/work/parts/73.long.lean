/-! ===== a long that holds bytes ===== -/
def lk (k : Nat) : Int64 := Int64.ofNat k
theorem lk_tb (n : Nat) : (Int64.ofNat n).toBitVec = BitVec.ofNat 64 n := rfl
theorem lk_e8 : (nI 8).toInt64 &&& 63 = (8 : Int64) := by decide +kernel
theorem lk_eo : ∀ o, o < 256 → (nI o).toInt64 = lk o := by decide +kernel
theorem lk_push (k o : Nat) (hk : k < 2 ^ 40) (ho : o < 256) : lk k <<< ((nI 8).toInt64 &&& 63) ||| (nI o).toInt64 = lk (k * 256 + o) := by
  rw [lk_e8, lk_eo o ho]
  unfold lk
  apply Int64.toBitVec_inj.mp
  rw [Int64.toBitVec_or, Int64.toBitVec_shiftLeft, lk_tb, lk_tb, lk_tb]
  have e : (8 : Int64).toBitVec.smod 64 = 8#64 := by decide +kernel
  apply BitVec.eq_of_toNat_eq
  rw [e, BitVec.toNat_or, BitVec.shiftLeft_eq', BitVec.toNat_shiftLeft, BitVec.toNat_ofNat, BitVec.toNat_ofNat, BitVec.toNat_ofNat, BitVec.toNat_ofNat]
  rw [Nat.mod_eq_of_lt (a := k) (by omega), Nat.mod_eq_of_lt (a := o) (by omega), Nat.mod_eq_of_lt (a := k * 256 + o) (by omega), show 8 % 2 ^ 64 = 8 from rfl]
  rw [Nat.shiftLeft_eq, Nat.mod_eq_of_lt (by omega), show k * 2 ^ 8 = 2 ^ 8 * k by omega, ← Nat.two_pow_add_eq_or_of_lt (by omega)]
theorem lk_inj {j k : Nat} (hj : j < 2 ^ 60) (hk : k < 2 ^ 60) (h : lk j = lk k) : j = k := by
  have h2 := congrArg (fun x => x.toBitVec.toNat) h
  unfold lk at h2
  simp only [lk_tb, BitVec.toNat_ofNat] at h2
  rwa [Nat.mod_eq_of_lt (by omega), Nat.mod_eq_of_lt (by omega)] at h2
theorem lk_m1 {k : Nat} (hk : k < 2 ^ 60) : lk k ≠ -1 := by
  intro h
  have h2 := congrArg (fun x => x.toBitVec.toNat) h
  unfold lk at h2
  simp only [lk_tb, BitVec.toNat_ofNat] at h2
  rw [Nat.mod_eq_of_lt (by omega), show (-1 : Int64).toBitVec.toNat = 2 ^ 64 - 1 by decide +kernel] at h2
  omega
/-- what the long holds of the first n sleepers -/
def wm (a : Sa) (W : Nat) : Nat → Nat
  | 0 => 0
  | n + 1 => if bt W n = 1 then wm a W n * 256 + kap a n else wm a W n
theorem kap_lt {a : Sa} {s : Nat} (h : a (37 + s) ≤ 99) : kap a s < 256 := by
  unfold kap
  repeat' split
  all_goals omega
theorem wm_lt {a : Sa} {W : Nat} : ∀ n, (∀ s, s < n → a (37 + s) ≤ 99) → wm a W n < 256 ^ n := by
  intro n
  induction n with
  | zero => intro _; exact Nat.one_pos
  | succ n ih =>
    intro h
    have := ih (fun s hs => h s (by omega))
    have hk := kap_lt (h n (by omega))
    simp only [wm, Nat.pow_succ]
    split <;> omega
theorem wm_inj {a b : Sa} {W : Nat} : ∀ n, (∀ s, s < n → a (37 + s) ≤ 99) → (∀ s, s < n → b (37 + s) ≤ 99) → wm a W n = wm b W n → ∀ s, s < n → bt W s = 1 → kap a s = kap b s := by
  intro n
  induction n with
  | zero => intro _ _ _ s hs; omega
  | succ n ih =>
    intro ha hb h s hs hw
    have ka := kap_lt (ha n (by omega))
    have kb := kap_lt (hb n (by omega))
    simp only [wm] at h
    by_cases hn : bt W n = 1
    · rw [if_pos hn, if_pos hn] at h
      by_cases e : s = n
      · rw [e]; omega
      · exact ih (fun s hs => ha s (by omega)) (fun s hs => hb s (by omega)) (by omega) s (by omega) hw
    · rw [if_neg hn, if_neg hn] at h
      by_cases e : s = n
      · exact absurd (e ▸ hw) hn
      · exact ih (fun s hs => ha s (by omega)) (fun s hs => hb s (by omega)) h s (by omega) hw
theorem wm_eq {a b : Sa} {W : Nat} : ∀ n, (∀ s, s < n → bt W s = 1 → kap a s = kap b s) → wm a W n = wm b W n := by
  intro n
  induction n with
  | zero => intro _; rfl
  | succ n ih =>
    intro h
    simp only [wm]
    rw [ih (fun s hs => h s (by omega))]
    by_cases hn : bt W n = 1
    · rw [if_pos hn, if_pos hn, h n (by omega) hn]
    · rw [if_neg hn, if_neg hn]
