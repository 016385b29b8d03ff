/-! ===== sorts: a call over a deeper stack ===== -/
def k_few : Nat → List Value → Bool
  | _, [] => true
  | 0, _ :: _ => false
  | n + 1, .int _ :: r => k_few n r
  | n + 1, .ref _ :: r => k_few n r
  | _ + 1, _ => false
theorem k_few_cat {G : GG} : ∀ n st, k_few n st = true → ((st.map (k_v G)).map fun v => v.category).sum ≤ n := by
  intro n
  induction n with
  | zero =>
    intro st h
    cases st with
    | nil => exact Nat.le_refl _
    | cons a st => cases h
  | succ n ih =>
    intro st h
    cases st with
    | nil => exact Nat.zero_le _
    | cons a st =>
      cases a with
      | int x =>
        have := ih st h
        simp only [List.map_cons, List.sum_cons, k_v_cat]
        have e : (Value.int x).category = 1 := rfl
        omega
      | ref x =>
        have := ih st h
        simp only [List.map_cons, List.sum_cons, k_v_cat]
        have e : (Value.ref x).category = 1 := rfl
        omega
      | _ => cases h
def o_callW (ci n : Nat) (R : List Value → Mi → Option (Value × Mi)) (rt : Bool) (K : Kt Mi) : Kt Mi := fun L st M => match k_pop n [] st with
  | some (.ref k :: as, rest) => if k_sh k = (2, ci) ∧ k_few 8 rest = true then (match R (.ref k :: as) M with
    | some (v, M1) => K L (k_push rt v rest) M1
    | none => none) else none
  | _ => none
section CallSw
variable {μ : Type} {E : μ → Mw} {G : GG} {Φ : Ph} {mi mi' : MI} {pc d d' idx n : Nat} {K : Kt μ} {R : List Value → μ → Option (Value × μ)}
theorem sq_callW {ci : Nat} {K : Kt Mi} {R : List Value → Mi → Option (Value × Mi)} (hd : decode mi.2.1 pc = .ok (.invokevirtual idx, 3)) (hlk : Cond.methodLink mi.1.cls idx mi'.1 ∈ lw_tbl) (hin : Cond.instanceMethod mi'.1 ∈ lw_tbl) (hse : Cond.selects mi'.1.cls mi'.1 mi'.1 ∈ lw_tbl) (hM : k_MI mi') (hn : k_arity mi'.1 = some n) (hci : ci < 8) (hcl : (k_cl ci).1 = mi'.1.cls) (hdd : d' + 1 ≤ d) (hΦ : k_ok Φ d) (hR : RS kE G d' mi' R) (hk : Sq kE G Φ mi (pc + 3) K) : Sq kE G Φ mi pc (o_callW ci (n + 1) R mi'.2.2.2.isSome K) := by
  intro L st M v M' h
  unfold o_callW at h
  split at h
  · next k as rest hpop =>
    split at h
    · next hlen =>
      obtain ⟨hsh, hlen⟩ := hlen
      split at h
      · next w M1 hRr =>
        obtain ⟨hm1, hMC⟩ := hR _ _ _ _ hRr
        obtain ⟨hm, hw⟩ := hk _ _ _ _ _ h
        obtain ⟨hst2, hal⟩ := k_pop_spec hpop
        have hk65 := k_sh_lt hsh (by omega)
        refine ⟨Nat.le_trans hm1 hm, fun n0 p e s m args below meth c hC H locs ls hn0 hP hS hl => ?_⟩
        obtain ⟨hx, hb, hrt, hml, hown, hts, hlk2, hnm, hU, hsz⟩ := id hC
        refine k_W_size fun hz => ?_
        have hsize := k_size hn0 hsz hP hS hz
        obtain ⟨f1, f2, f3, f4⟩ := hΦ v (kE M') n0 (kE M1).1 args s below hm (Nat.le_trans hn0 hm1)
        have cb : CallB (Φ v (kE M') n0 args s below).1 s args mi.1.cls idx mi'.1 mi'.2.1 mi'.2.2.1 mi'.2.2.2 (k_w mi') (k_rm d' ((kE M1).1 - (kE M).1) (k_cs (kE M1).1 - k_cs (kE M).1)) ((kE M1).1 - (kE M).1) (k_cs (kE M1).1 - k_cs (kE M).1) n :=
          callB_of n hts (k_good mi' hM) rfl rfl rfl (hts _ (k_tb_mem hM.2.1 rfl)) (hts _ (k_tb_mem hlk rfl)) ⟨hM.2.2.1.1, hM.2.2.1.2, hn⟩ ⟨by show d' + 1 ≤ _; omega, by have := hM.2.2.2.2; show 8 + (mi'.2.2.1 + 11) + 64 * d' ≤ _; omega⟩
        have hkr := k_ref (G := G) (Nat.lt_trans hk65 (by decide))
        have hrc := va_recv (D := G.2.1) (q := k_cl ci) (a := G.2.2.1 + k) hU.1 hP (ci := ci) (q0 := k) (k_get hci) (by rw [k_ws_get (show k < (kE M).1 from hk65), k_cell_obj hsh])
        rw [hcl] at hrc
        have hMC' : Met G.1 mi'.1 (k_w mi') (k_rm d' ((kE M1).1 - (kE M).1) (k_cs (kE M1).1 - k_cs (kE M).1)) (k_Pc G (.ref k :: as) (kE M)) (k_Q G mi' w (kE M1)) ((kE M1).1 - (kE M).1) (k_cs (kE M1).1 - k_cs (kE M).1) (k_A G) := hMC
        have hrun := va_runV (g := F0 m pc ls (st.map (k_v G))) (H := H) (locs := locs) (below := below) (meth := meth) (e := e) (b := G.2.2.1 + k) (As := as.map (k_v G)) (rest := rest.map (k_v G)) (cells := (kE M).1 - n0) (slots := k_cs (kE M).1 - k_cs n0) ⟨hx, hb, hml, hown, hts⟩ hMC' ⟨cb, hts _ (k_tb_mem hin rfl), hts _ (k_tb_mem hse rfl)⟩ ⟨k_blind, hrc, fun U hU2 hW => ⟨by rw [List.map_cons, hkr], k_U_warm hS hU2 hW hU, by rw [hU2]; exact hsize, by rw [hU2]; exact hP⟩⟩ rfl (by rw [List.length_map]; simpa using hal) hl.1.1 (by show st.map (k_v G) = _; rw [hst2]; simp [hkr]) (by have := k_few_cat (G := G) 8 rest hlen; show 2 * 0 + _ ≤ 8; omega) hd ⟨by show (65 - n0) + (65 - 65) ≤ _; exact f3, by show (k_cs 65 - k_cs n0) + (k_cs 65 - k_cs 65) ≤ _; rw [Nat.sub_self]; exact f4⟩
        refine k_after hrun hS fun H1 locs1 hP1 hS1 => ?_
        rw [k_retpush, show (kE M).1 - n0 + ((kE M1).1 - (kE M).1) = (kE M1).1 - n0 from rfl, show k_cs (kE M).1 - k_cs n0 + (k_cs (kE M1).1 - k_cs (kE M).1) = k_cs (kE M1).1 - k_cs n0 by show (k_cs 65 - k_cs n0) + (k_cs 65 - k_cs 65) = k_cs 65 - k_cs n0; rw [Nat.sub_self]; rfl]
        exact hw n0 p e s m args below meth c hC H1 locs1 ls (Nat.le_trans hn0 hm1) hP1 hS1 hl
      · cases h
    · cases h
  · cases h
end CallSw
def b_x_sortw_0 : Kt Mi := (o_aload 0 (o_iload 1 (o_callV 6 2 r_x_noSleeper true (o_ifeq
      (o_aload 0 (o_iload 2 (o_callV 6 2 r_x_noRow true (o_ifeq
      (o_iload 4 (o_const 1 (o_clt
      (b_x_sorts_29)
      (o_iload 4 (o_const 16 (o_cle
      (o_aload 0 (o_iload 2 (o_iload 3 (o_iload 4 (o_callV 6 4 r_x_unreadable true (o_istore 5 (o_iload 5 (o_ifeq
      (o_aload 0 (o_aload 0 (o_getr 6 37 (o_aload 0 (o_getr 6 7 (o_iload 1 (o_aload 0 (o_getr 6 1 (o_aload 0 (o_getr 6 1 (o_iload 2 (o_iload 3 (o_callW 4 3 r_W_placeOf true (o_iload 4 (o_callV 2 6 r_F_kinds true (o_callV 6 2 r_x_fine true o_iret))))))))))))))))
      (o_aload 0 (o_iload 5 (o_callV 6 2 r_x_found true o_iret)))))))))))
      (b_x_sorts_29)))))))
      (b_x_sorts_29)))))
      (b_x_sorts_29)))))
def r_x_sortw (as : List Value) (M : Mi) : Option (Value × Mi) := match as with
  | [.ref a, .int a0, .int a1, .int a2, .int a3] => b_x_sortw_0 [.ref a, .int a0, .int a1, .int a2, .int a3, .null] [] M
  | _ => none
set_option maxHeartbeats 10000000 in
set_option maxRecDepth 20000 in
theorem s_x_sortw_0 (G : GG) : Sq kE G (kF G (6) mi_x_sorts) mi_x_sorts 0 b_x_sortw_0 := by
  unfold b_x_sortw_0
  exact (sq_aload_n (pc := 0) dX6_sorts_0 rfl
    (sq_iload_n (pc := 1) dX6_sorts_1 rfl
    (sq_callV (d := 6) (d' := 0) (mi' := mi_x_noSleeper) (pc := 2) dX6_sorts_2 ml_X6_161 in_x_noSleeper se_x_noSleeper ok_x_noSleeper ar_x_noSleeper (by decide) rfl (by decide) (k_ok_kF G (6) mi_x_sorts) (m_x_noSleeper G)
    (sq_ifne (pc := 5) dX6_sorts_5 (tgt := 29) rfl
    (sq_aload_n (pc := 8) dX6_sorts_8 rfl
    (sq_iload_n (pc := 9) dX6_sorts_9 rfl
    (sq_callV (d := 6) (d' := 0) (mi' := mi_x_noRow) (pc := 10) dX6_sorts_10 ml_X6_61 in_x_noRow se_x_noRow ok_x_noRow ar_x_noRow (by decide) rfl (by decide) (k_ok_kF G (6) mi_x_sorts) (m_x_noRow G)
    (sq_ifne (pc := 13) dX6_sorts_13 (tgt := 29) rfl
    (sq_iload (pc := 16) dX6_sorts_16
    (sq_iconst (pc := 18) dX6_sorts_18 kc_i_1
    (sq_clt (pc := 19) dX6_sorts_19 (tgt := 29) rfl
    (s_x_sorts_29 G)
    (sq_iload (pc := 22) dX6_sorts_22
    (sq_bipush (pc := 24) dX6_sorts_24 kc_b_16
    (sq_cle (pc := 26) dX6_sorts_26 (tgt := 32) rfl
    (sq_aload_n (pc := 32) dX6_sorts_32 rfl
    (sq_iload_n (pc := 33) dX6_sorts_33 rfl
    (sq_iload_n (pc := 34) dX6_sorts_34 rfl
    (sq_iload (pc := 35) dX6_sorts_35
    (sq_callV (d := 6) (d' := 1) (mi' := mi_x_unreadable) (pc := 37) dX6_sorts_37 ml_X6_240 in_x_unreadable se_x_unreadable ok_x_unreadable ar_x_unreadable (by decide) rfl (by decide) (k_ok_kF G (6) mi_x_sorts) (m_x_unreadable G)
    (sq_istore (pc := 40) dX6_sorts_40
    (sq_iload (pc := 42) dX6_sorts_42
    (sq_ifeq (pc := 44) dX6_sorts_44 (tgt := 54) rfl
    (sq_aload_n (pc := 54) dX6_sorts_54 rfl
    (sq_aload_n (pc := 55) dX6_sorts_55 rfl
    (sq_getr (pc := 56) dX6_sorts_56 fl_X6_46 rfl rfl (by decide)
    (sq_aload_n (pc := 59) dX6_sorts_59 rfl
    (sq_getr (pc := 60) dX6_sorts_60 fl_X6_26 rfl rfl (by decide)
    (sq_iload_n (pc := 63) dX6_sorts_63 rfl
    (sq_aload_n (pc := 64) dX6_sorts_64 rfl
    (sq_getr (pc := 65) dX6_sorts_65 fl_X6_10 rfl rfl (by decide)
    (sq_aload_n (pc := 68) dX6_sorts_68 rfl
    (sq_getr (pc := 69) dX6_sorts_69 fl_X6_10 rfl rfl (by decide)
    (sq_iload_n (pc := 72) dX6_sorts_72 rfl
    (sq_iload_n (pc := 73) dX6_sorts_73 rfl
    (sq_callW (d := 6) (d' := 0) (mi' := mi_W_placeOf) (pc := 74) dX6_sorts_74 ml_X6_243 in_W_placeOf se_W_placeOf ok_W_placeOf ar_W_placeOf (by decide) rfl (by decide) (k_ok_kF G (6) mi_x_sorts) (m_W_placeOf G)
    (sq_iload (pc := 77) dX6_sorts_77
    (sq_callV (d := 6) (d' := 5) (mi' := mi_F_kinds) (pc := 79) dX6_sorts_79 ml_X6_252 in_F_kinds se_F_kinds ok_F_kinds ar_F_kinds (by decide) rfl (by decide) (k_ok_kF G (6) mi_x_sorts) (m_F_kinds G)
    (sq_callV (d := 6) (d' := 0) (mi' := mi_x_fine) (pc := 82) dX6_sorts_82 ml_X6_74 in_x_fine se_x_fine ok_x_fine ar_x_fine (by decide) rfl (by decide) (k_ok_kF G (6) mi_x_sorts) (m_x_fine G)
    (sq_iret rfl (pc := 85) dX6_sorts_85)))))))))))))))))
    (sq_aload_n (pc := 47) dX6_sorts_47 rfl
    (sq_iload (pc := 48) dX6_sorts_48
    (sq_callV (d := 6) (d' := 0) (mi' := mi_x_found) (pc := 50) dX6_sorts_50 ml_X6_66 in_x_found se_x_found ok_x_found ar_x_found (by decide) rfl (by decide) (k_ok_kF G (6) mi_x_sorts) (m_x_found G)
    (sq_iret rfl (pc := 53) dX6_sorts_53))))))))))))
    (s_x_sorts_29 G)))))))
    (s_x_sorts_29 G)))))
    (s_x_sorts_29 G)))))
theorem m_x_sortw (G : GG) : RS kE G 6 mi_x_sorts r_x_sortw := by
  intro as M v M' h
  unfold r_x_sortw at h
  split at h
  · exact mc_of ok_x_sorts (s_x_sortw_0 G) (k_c1 _ rfl) (Nat.le_of_ble_eq_true rfl) rfl h
  · cases h
