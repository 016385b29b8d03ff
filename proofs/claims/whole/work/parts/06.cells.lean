/-! ===== the cells, walked ===== -/
section CellsSq
variable {G : GG} {Φ : Ph} {mi : MI} {pc d idx ci f : Nat} {K : Kt Mi}
theorem sq_geti (hd : decode mi.2.1 pc = .ok (.getfield idx, 3)) (hF : k_FL mi.1.cls idx ci f) (hr : k_isr ci f = false) (hk : Sq kE G Φ mi (pc + 3) K) : Sq kE G Φ mi pc (o_geti ci f K) := by
  intro L st M v M' h
  unfold o_geti at h
  split at h
  · split at h
    · next hs =>
      obtain ⟨hm, hw⟩ := hk _ _ _ _ _ h
      exact ⟨hm, wq_geti hd hF hr (M := kE M) (k_sh_lt hs (by omega)) hs hw⟩
    · cases h
  · cases h
theorem sq_getr {off : Nat} (hd : decode mi.2.1 pc = .ok (.getfield idx, 3)) (hF : k_FL mi.1.cls idx ci f) (hr : k_isr ci f = true) (ho : k_off ci f = off) (ho2 : off < 800) (hk : Sq kE G Φ mi (pc + 3) K) : Sq kE G Φ mi pc (o_getr ci off K) := by
  intro L st M v M' h
  unfold o_getr at h
  split at h
  · next k st =>
    split at h
    · next hs =>
      obtain ⟨hm, hw⟩ := hk _ _ _ _ _ h
      have h65 := k_sh_lt hs (by omega)
      have hp : (kE M).2.2 k f = some (k + off) := by
        show some (k + k_off (k_sh k).2 f) = _
        rw [hs, ← ho]
      exact ⟨hm, wq_getr hd hF hr (M := kE M) h65 hs hp (Nat.lt_of_lt_of_le (Nat.add_lt_add h65 ho2) (by decide)) hw⟩
    · cases h
  · cases h
theorem sq_puti (hd : decode mi.2.1 pc = .ok (.putfield idx, 3)) (hF : k_FL mi.1.cls idx ci f) (hty : k_ty ci f = .int) (hfin : ((k_cl ci).2.1 f).2.2.2 = false) (hk : Sq kE G Φ mi (pc + 3) K) : Sq kE G Φ mi pc (o_puti ci f K) := by
  intro L st M v M' h
  unfold o_puti at h
  split at h
  · split at h
    · next hs =>
      obtain ⟨hm, hw⟩ := hk _ _ _ _ _ h
      exact ⟨hm, wq_puti hd hF (by rw [k_isr, hty]) hfin (by rw [hty]; rfl) (by rw [hty]; rfl) (M := kE M) (k_sh_lt hs (by omega)) hs hw⟩
    · cases h
  · cases h
theorem sq_putz (hd : decode mi.2.1 pc = .ok (.putfield idx, 3)) (hF : k_FL mi.1.cls idx ci f) (hty : k_ty ci f = .boolean) (hfin : ((k_cl ci).2.1 f).2.2.2 = false) (hk : Sq kE G Φ mi (pc + 3) K) : Sq kE G Φ mi pc (o_putz ci f K) := by
  intro L st M v M' h
  unfold o_putz at h
  split at h
  · split at h
    · next hs =>
      obtain ⟨hs, h01⟩ := hs
      obtain ⟨hm, hw⟩ := hk _ _ _ _ _ h
      exact ⟨hm, wq_puti hd hF (by rw [k_isr, hty]) hfin (by rw [hty]; rcases h01 with rfl | rfl <;> rfl) (by rw [hty]; rcases h01 with rfl | rfl <;> rfl) (M := kE M) (k_sh_lt hs (by omega)) hs hw⟩
    · cases h
  · cases h
theorem sq_iald (hd : decode mi.2.1 pc = .ok (.iaload, 1)) (hk : Sq kE G Φ mi (pc + 1) K) : Sq kE G Φ mi pc (o_iald K) := by
  intro L st M v M' h
  unfold o_iald at h
  split at h
  · split at h
    · next hs =>
      obtain ⟨hm, hw⟩ := hk _ _ _ _ _ h
      exact ⟨hm, wq_iald hd (M := kE M) (k_sh_lt0 (by rw [hs.1]; decide)) hs.1 (k_inb_in hs.2) hw⟩
    · cases h
  · cases h
theorem sq_iast (hd : decode mi.2.1 pc = .ok (.iastore, 1)) (hk : Sq kE G Φ mi (pc + 1) K) : Sq kE G Φ mi pc (o_iast K) := by
  intro L st M v M' h
  unfold o_iast at h
  split at h
  · split at h
    · next hs =>
      obtain ⟨hm, hw⟩ := hk _ _ _ _ _ h
      exact ⟨hm, wq_iast hd (M := kE M) (k_sh_lt0 (by rw [hs.1]; decide)) hs.1 (k_inb_in hs.2) hw⟩
    · cases h
  · cases h
theorem sq_zald (hd : decode mi.2.1 pc = .ok (.baload, 1)) (hk : Sq kE G Φ mi (pc + 1) K) : Sq kE G Φ mi pc (o_zald K) := by
  intro L st M v M' h
  unfold o_zald at h
  split at h
  · split at h
    · next hs =>
      obtain ⟨hm, hw⟩ := hk _ _ _ _ _ h
      exact ⟨hm, wq_zald hd (M := kE M) (k_sh_lt0 (by rw [hs.1]; decide)) hs.1 (k_inb_in hs.2) hw⟩
    · cases h
  · cases h
theorem sq_zast (hd : decode mi.2.1 pc = .ok (.bastore, 1)) (hk : Sq kE G Φ mi (pc + 1) K) : Sq kE G Φ mi pc (o_zast K) := by
  intro L st M v M' h
  unfold o_zast at h
  split at h
  · split at h
    · next hs =>
      obtain ⟨hm, hw⟩ := hk _ _ _ _ _ h
      exact ⟨hm, wq_zast hd (M := kE M) (k_sh_lt0 (by rw [hs.1]; decide)) hs.1 (k_inb_in hs.2.1) hs.2.2 hw⟩
    · cases h
  · cases h
theorem sq_alen (hd : decode mi.2.1 pc = .ok (.arraylength, 1)) (hk : Sq kE G Φ mi (pc + 1) K) : Sq kE G Φ mi pc (o_alen K) := by
  intro L st M v M' h
  unfold o_alen at h
  split at h
  · split at h
    · next hs =>
      obtain ⟨hm, hw⟩ := hk _ _ _ _ _ h
      exact ⟨hm, wq_alen hd (M := kE M) (k_sh_lt0 (by rw [hs]; decide)) hs hw⟩
    · cases h
  · cases h
theorem k_nfw : nativeFrameWords "java/lang/System" "arraycopy" 5 ≤ 40 := by decide +kernel
theorem sq_copy (hd : decode mi.2.1 pc = .ok (.invokestatic idx, 3)) (hlk : Cond.methodLink mi.1.cls idx arraycopyName ∈ lw_tbl) (hnat : Cond.native arraycopyName ∈ lw_tbl) (hst : Cond.static arraycopyName ∈ lw_tbl) (hini : Cond.initialized "java/lang/System" ∈ lw_tbl) (hd1 : 1 ≤ d) (hΦ : k_ok Φ d) (hk : Sq kE G Φ mi (pc + 3) K) : Sq kE G Φ mi pc (o_copy K) := by
  intro L st M v M' h
  unfold o_copy at h
  split at h
  · next n dp k1 sp k0 st =>
    split at h
    · next hs =>
      obtain ⟨h0, h1, hsp, hdp, hn, hb0, hb1, hlen⟩ := hs
      obtain ⟨hm, hw⟩ := hk _ _ _ _ _ h
      have q0 : k0 < 65 := k_sh_lt0 (by rw [h0]; decide)
      have q1 : k1 < 65 := k_sh_lt0 (by rw [h1]; decide)
      refine ⟨hm, fun n0 p e s m args below meth c hC H locs ls hn0 hP hS hl => ?_⟩
      obtain ⟨hx, hb, hrt, hml, hown, hts, hlk2, hnm, hU, hsz⟩ := id hC
      obtain ⟨f1, f2, -, -⟩ := hΦ v (kE M') n0 (kE M').1 args s below (Nat.le_refl _) (Nat.le_trans hn0 hm)
      have r0 := k_ref (G := G) (Nat.lt_trans q0 (by decide))
      have r1 := k_ref (G := G) (Nat.lt_trans q1 (by decide))
      rw [List.map_cons, List.map_cons, List.map_cons, List.map_cons, List.map_cons, r0, r1]
      have e1 : (k_ws G (kE M)).set k1 (G.2.2.1 + k1, .inl (G.2.2.2.1, (k_sh k1).2, .inl (va_cpy (M k0) (M k1) sp.toNatClampNeg dp.toNatClampNeg n.toNatClampNeg))) = k_ws G (kE (k_mc M k0 k1 sp.toNatClampNeg dp.toNatClampNeg n.toNatClampNeg)) := by
        refine k_ws_set (M := kE M) (M1 := kE (k_mc M k0 k1 sp.toNatClampNeg dp.toNatClampNeg n.toNatClampNeg)) rfl q1 ?_ (fun j hj => k_cell_ne (if_neg hj) rfl)
        rw [k_cell_int h1]
        show Sum.inl (_, _, Sum.inl (k_mc M k0 k1 _ _ _ k1)) = _
        simp [k_mc]
      have hcat := k_cats (st.map (k_v G))
      rw [List.length_map] at hcat
      have hnf := k_nfw
      refine va_copyi (D := G.2.1) (ty := .int) (f := M k0) (g := M k1) hx hb (hml.trans hl.1.1.symm) hown (hts _ (k_tb_mem hlk rfl)) (hts _ (k_tb_mem hnat rfl)) (hts _ (k_tb_mem hst rfl)) (hts _ (k_tb_mem hini rfl)) hU.1 hP (k_ws_D G (kE M)) hS k0 k1 0 0 (by rw [k_ws_get (show k0 < (kE M).1 from q0), k_cell_int h0]; rfl) (by rw [k_ws_get (show k1 < (kE M).1 from q1), k_cell_int h1]; rfl) rfl rfl rfl hsp hdp hn hb0 hb1 (fun _ _ => rfl) (by omega) (by omega) hd (fun H1 locs1 hP1 _ hS1 => ?_)
      rw [e1] at hP1
      exact hw n0 p e s m args below meth c hC H1 locs1 ls hn0 hP1 hS1 hl
    · cases h
  · cases h
theorem k_v_st {G : GG} (j : Nat) : k_v G (.ref (1000 + j)) = .ref (G.2.2.2.2.2.1 j) := by
  have : ¬ 1000 + j < 900 := by omega
  simp only [k_v, if_neg this]
  rw [Nat.add_sub_cancel_left]
theorem sq_gets0 (hd : decode mi.2.1 pc = .ok (.getstatic idx, 3)) (hlk : Cond.fieldLink mi.1.cls idx RX6 "ALSO" "[I" ∈ lw_tbl) (hk : Sq kE G Φ mi (pc + 3) K) : Sq kE G Φ mi pc (o_gets 0 K) := by
  intro L st M v M' h
  obtain ⟨hm, hw⟩ := hk _ _ _ _ _ h
  refine ⟨hm, fun n0 p e s m args below meth c hC H locs ls hn hP hS hl => ?_⟩
  have hw := hw n0 p e s m args below meth c hC H locs ls hn hP hS hl
  rw [List.map_cons, k_v_st] at hw
  exact va_gets hC.1 hC.2.1 hC.2.2.2.2.2.2.2.2.1.2.2.1.1 hS hC.2.2.2.2.1 (hC.2.2.2.2.2.1 _ (k_tb_mem hlk rfl)) (fun _ h => h) hd hw
theorem sq_gets0N {host : String} (hd : decode mi.2.1 pc = .ok (.getstatic idx, 3)) (hlk : Cond.fieldLinkNest mi.1.cls idx RX6 "ALSO" "[I" host ∈ k_nw) (hk : Sq kE G Φ mi (pc + 3) K) : Sq kE G Φ mi pc (o_gets 0 K) := by
  intro L st M v M' h
  obtain ⟨hm, hw⟩ := hk _ _ _ _ _ h
  refine ⟨hm, fun n0 p e s m args below meth c hC H locs ls hn hP hS hl => ?_⟩
  have hw := hw n0 p e s m args below meth c hC H locs ls hn hP hS hl
  rw [List.map_cons, k_v_st] at hw
  exact va_getsN hC.1 hC.2.1 hC.2.2.2.2.2.2.2.2.1.2.2.1.1 hS hC.2.2.2.2.1 (va_Nw.use rfl (hC.2.2.2.2.2.2.2.2.1.2.1 _ hlk)) (fun _ h => h) hd hw
theorem sq_gets1 (hd : decode mi.2.1 pc = .ok (.getstatic idx, 3)) (hlk : Cond.fieldLink mi.1.cls idx RX1 "SIZES" "[I" ∈ lw_tbl) (hk : Sq kE G Φ mi (pc + 3) K) : Sq kE G Φ mi pc (o_gets 1 K) := by
  intro L st M v M' h
  obtain ⟨hm, hw⟩ := hk _ _ _ _ _ h
  refine ⟨hm, fun n0 p e s m args below meth c hC H locs ls hn hP hS hl => ?_⟩
  have hw := hw n0 p e s m args below meth c hC H locs ls hn hP hS hl
  rw [List.map_cons, k_v_st] at hw
  exact va_gets hC.1 hC.2.1 hC.2.2.2.2.2.2.2.2.1.2.2.2.1.1 hS hC.2.2.2.2.1 (hC.2.2.2.2.2.1 _ (k_tb_mem hlk rfl)) (fun _ h => h) hd hw
theorem sq_gets2 (hd : decode mi.2.1 pc = .ok (.getstatic idx, 3)) (hlk : Cond.fieldLink mi.1.cls idx RX1 "MARKS" "[I" ∈ lw_tbl) (hk : Sq kE G Φ mi (pc + 3) K) : Sq kE G Φ mi pc (o_gets 2 K) := by
  intro L st M v M' h
  obtain ⟨hm, hw⟩ := hk _ _ _ _ _ h
  refine ⟨hm, fun n0 p e s m args below meth c hC H locs ls hn hP hS hl => ?_⟩
  have hw := hw n0 p e s m args below meth c hC H locs ls hn hP hS hl
  rw [List.map_cons, k_v_st] at hw
  exact va_gets hC.1 hC.2.1 hC.2.2.2.2.2.2.2.2.1.2.2.2.2.1.1 hS hC.2.2.2.2.1 (hC.2.2.2.2.2.1 _ (k_tb_mem hlk rfl)) (fun _ h => h) hd hw
theorem k_st_T {s : State} {k : Nat} (hZ : k_Z G s) (h1 : 1000 ≤ k) (h2 : k < 1003) : va_T .int (G.2.2.2.2.2.1 (k - 1000)) 6 (fun j => .int (k_st (k - 1000) j)) (k_A G) s s.heap := by
  obtain ⟨j, rfl⟩ : ∃ j, k = 1000 + j := ⟨k - 1000, by omega⟩
  rw [Nat.add_sub_cancel_left]
  match j, (show j < 3 by omega) with
  | 0, _ => exact hZ.1.2
  | 1, _ => exact hZ.2.1.2
  | 2, _ => exact hZ.2.2.1.2
theorem k_v_st2 {k : Nat} (h1 : 1000 ≤ k) : k_v G (.ref k) = .ref (G.2.2.2.2.2.1 (k - 1000)) := by
  have : ¬ k < 900 := by omega
  simp only [k_v, if_neg this]
theorem sq_sald (hd : decode mi.2.1 pc = .ok (.iaload, 1)) (hk : Sq kE G Φ mi (pc + 1) K) : Sq kE G Φ mi pc (o_sald K) := by
  intro L st M v M' h
  unfold o_sald at h
  split at h
  · split at h
    · next hs =>
      obtain ⟨hm, hw⟩ := hk _ _ _ _ _ h
      refine ⟨hm, fun n0 p e s m args below meth c hC H locs ls hn hP hS hl => ?_⟩
      rw [List.map_cons, List.map_cons, k_v_st2 hs.1]
      exact va_ti hC.1 hC.2.1 (k_st_T hC.2.2.2.2.2.2.2.2.1.2.2 hs.1 hs.2.1) hS (k_inb_in hs.2.2) rfl hd (hw n0 p e s m args below meth c hC H locs ls hn hP hS hl)
    · cases h
  · cases h
theorem sq_salen (hd : decode mi.2.1 pc = .ok (.arraylength, 1)) (hk : Sq kE G Φ mi (pc + 1) K) : Sq kE G Φ mi pc (o_salen K) := by
  intro L st M v M' h
  unfold o_salen at h
  split at h
  · split at h
    · next hs =>
      obtain ⟨hm, hw⟩ := hk _ _ _ _ _ h
      refine ⟨hm, fun n0 p e s m args below meth c hC H locs ls hn hP hS hl => ?_⟩
      rw [List.map_cons, k_v_st2 hs.1]
      exact va_tlen hC.1 hC.2.1 (k_st_T hC.2.2.2.2.2.2.2.2.1.2.2 hs.1 hs.2) hS rfl hd (hw n0 p e s m args below meth c hC H locs ls hn hP hS hl)
    · cases h
  · cases h
/-- the script -/
def o_xald (n : Nat) (xs : Nat → Int32) (K : Kt Mi) : Kt Mi := fun L st M => match st with
  | .int i :: .ref k :: st => if k = 1003 ∧ k_inb i n = true then K L (.int (xs i.toNatClampNeg) :: st) M else none
  | _ => none
def o_xlen (n : Nat) (K : Kt Mi) : Kt Mi := fun L st M => match st with
  | .ref k :: st => if k = 1003 then K L (.int (nI n) :: st) M else none
  | _ => none
theorem sq_xald (hd : decode mi.2.1 pc = .ok (.iaload, 1)) (hk : Sq kE G Φ mi (pc + 1) K) : Sq kE G Φ mi pc (o_xald G.2.2.2.2.2.2.1 G.2.2.2.2.2.2.2 K) := by
  intro L st M v M' h
  unfold o_xald at h
  split at h
  · split at h
    · next hs =>
      obtain ⟨rfl, hi⟩ := hs
      obtain ⟨hm, hw⟩ := hk _ _ _ _ _ h
      refine ⟨hm, fun n0 p e s m args below meth c hC H locs ls hn hP hS hl => ?_⟩
      rw [List.map_cons, List.map_cons, k_v_st2 (by decide)]
      obtain ⟨x1, x2, x3⟩ := hC.2.2.2.2.2.2.2.2.1.2.2.2.2.2
      exact va_sld hC.1 hC.2.1 x1 x2 x3 hS (k_inb_in hi) hd (hw n0 p e s m args below meth c hC H locs ls hn hP hS hl)
    · cases h
  · cases h
theorem sq_xlen (hd : decode mi.2.1 pc = .ok (.arraylength, 1)) (hk : Sq kE G Φ mi (pc + 1) K) : Sq kE G Φ mi pc (o_xlen G.2.2.2.2.2.2.1 K) := by
  intro L st M v M' h
  unfold o_xlen at h
  split at h
  · split at h
    · next hs =>
      subst hs
      obtain ⟨hm, hw⟩ := hk _ _ _ _ _ h
      refine ⟨hm, fun n0 p e s m args below meth c hC H locs ls hn hP hS hl => ?_⟩
      rw [List.map_cons, k_v_st2 (by decide)]
      obtain ⟨x1, x2, x3⟩ := hC.2.2.2.2.2.2.2.2.1.2.2.2.2.2
      exact va_slen hC.1 hC.2.1 x1 x2 x3 hS hd (hw n0 p e s m args below meth c hC H locs ls hn hP hS hl)
    · cases h
  · cases h
end CellsSq
section MakeSq
variable {G : GG} {Φ : Ph} {mi : MI} {pc d idx ci f : Nat} {K : Kt Mw}
abbrev kId : Mw → Mw := fun M => M
theorem sq_cputr (hd : decode mi.2.1 pc = .ok (.putfield idx, 3)) (hF : k_FL mi.1.cls idx ci f) (hr : k_isr ci f = true) (hfin : ((k_cl ci).2.1 f).2.2.2 = true) (hdec : ((k_cl ci).2.1 f).1 = mi.1.cls) (hin2 : mi.1.name = "<init>") (hx0 : ∀ a, narrow (k_ty ci f) (.ref a) = .ref a) (hx1 : ∀ a, fits (k_ty ci f) (.ref a) = true) (hk : Sq kId G Φ mi (pc + 3) K) : Sq kId G Φ mi pc (c_putr ci f K) := by
  intro L st M v M' h
  unfold c_putr at h
  split at h
  · split at h
    · next hs =>
      obtain ⟨hm, hw⟩ := hk _ _ _ _ _ h
      exact ⟨hm, wq_putr hd hF hr hfin hdec hin2 hx0 hx1 (M := M) hs.1 hs.2.1 hs.2.2 hw⟩
    · cases h
  · cases h
theorem sq_cputi (hd : decode mi.2.1 pc = .ok (.putfield idx, 3)) (hF : k_FL mi.1.cls idx ci f) (hty : k_ty ci f = .int) (hfin : ((k_cl ci).2.1 f).2.2.2 = false) (hk : Sq kId G Φ mi (pc + 3) K) : Sq kId G Φ mi pc (c_puti ci f K) := by
  intro L st M v M' h
  unfold c_puti at h
  split at h
  · split at h
    · next hs =>
      obtain ⟨hm, hw⟩ := hk _ _ _ _ _ h
      exact ⟨hm, wq_puti hd hF (by rw [k_isr, hty]) hfin (by rw [hty]; rfl) (by rw [hty]; rfl) (M := M) hs.1 hs.2 hw⟩
    · cases h
  · cases h
theorem sq_cputz (hd : decode mi.2.1 pc = .ok (.putfield idx, 3)) (hF : k_FL mi.1.cls idx ci f) (hty : k_ty ci f = .boolean) (hfin : ((k_cl ci).2.1 f).2.2.2 = false) (hk : Sq kId G Φ mi (pc + 3) K) : Sq kId G Φ mi pc (c_putz ci f K) := by
  intro L st M v M' h
  unfold c_putz at h
  split at h
  · split at h
    · next hs =>
      obtain ⟨hs0, hs, h01⟩ := hs
      obtain ⟨hm, hw⟩ := hk _ _ _ _ _ h
      exact ⟨hm, wq_puti hd hF (by rw [k_isr, hty]) hfin (by rw [hty]; rcases h01 with rfl | rfl <;> rfl) (by rw [hty]; rcases h01 with rfl | rfl <;> rfl) (M := M) hs0 hs hw⟩
    · cases h
  · cases h
theorem sq_cgetr (hd : decode mi.2.1 pc = .ok (.getfield idx, 3)) (hF : k_FL mi.1.cls idx ci f) (hr : k_isr ci f = true) (hk : Sq kId G Φ mi (pc + 3) K) : Sq kId G Φ mi pc (c_getr ci f K) := by
  intro L st M v M' h
  unfold c_getr at h
  split at h
  · split at h
    · next hs =>
      split at h
      · next q hq =>
        split at h
        · next hq9 =>
          obtain ⟨hm, hw⟩ := hk _ _ _ _ _ h
          exact ⟨hm, wq_getr hd hF hr (M := M) hs.1 hs.2 hq hq9 hw⟩
        · cases h
      · cases h
    · cases h
  · cases h
theorem sq_ciast (hd : decode mi.2.1 pc = .ok (.iastore, 1)) (hk : Sq kId G Φ mi (pc + 1) K) : Sq kId G Φ mi pc (c_iast K) := by
  intro L st M v M' h
  unfold c_iast at h
  split at h
  · split at h
    · next hs =>
      obtain ⟨hm, hw⟩ := hk _ _ _ _ _ h
      exact ⟨hm, wq_iast hd (M := M) hs.1 hs.2.1 (k_inb_in hs.2.2) hw⟩
    · cases h
  · cases h
theorem sq_cobj (hd : decode mi.2.1 pc = .ok (.invokespecial idx, 3)) (hlk : Cond.methodLink mi.1.cls idx objectInit ∈ lw_tbl) (hin : Cond.instanceMethod objectInit ∈ lw_tbl) (hco : Cond.code objectInit ⟨#[0xb1]⟩ 1 none ∈ lw_tbl) (hd1 : 1 ≤ d) (hΦ : k_ok Φ d) (hk : Sq kId G Φ mi (pc + 3) K) : Sq kId G Φ mi pc (c_obj K) := by
  intro L st M v M' h
  unfold c_obj at h
  split at h
  · next k st =>
    split at h
    · next hlen =>
      obtain ⟨hm, hw⟩ := hk _ _ _ _ _ h
      refine ⟨hm, fun n0 p e s m args below meth c hC H locs ls hn hP hS hl => ?_⟩
      obtain ⟨hx, hb, hrt, hml, hown, hts, hlk2, hnm, hU, hsz⟩ := id hC
      obtain ⟨f1, f2, -, -⟩ := hΦ v M' n0 M'.1 args s below (Nat.le_refl _) (Nat.le_trans hn hm)
      have hcat := k_cats (st.map (k_v G))
      rw [List.length_map] at hcat
      exact W.objInit (a := (if k < 900 then G.2.2.1 + k else G.2.2.2.2.2.1 (k - 1000))) (rest := st.map (k_v G)) hx hb hown (hts _ (k_tb_mem hlk rfl)) (hts _ (k_tb_mem hin rfl)) (hts _ (k_tb_mem hco rfl)) rfl (by rw [hml]; exact hl.1.1) rfl hd (by show 1 ≤ (Φ v M' n0 args s below).1.frames; omega) (by show 2 * 0 + _ + 12 ≤ (Φ v M' n0 args s below).1.locals; omega) (hw n0 p e s m args below meth c hC H locs ls hn hP hS hl)
    · cases h
  · cases h
theorem k_grow_cell {M : Mw} {j : Nat} (h : j < M.1) : k_cell G (k_grow M) j = k_cell G M j := by
  have h1 : ¬ j = M.1 := by omega
  exact k_cell_ne (if_neg h1) (if_neg h1)
theorem k_default {ci : Nat} (h : ci < 8) : ∀ j, j < (k_cl ci).2.2 → defaultValue (k_ty ci j) = if k_isr ci j then .null else .int 0 := by
  match ci, h with
  | 0, _ => decide +kernel
  | 1, _ => decide +kernel
  | 2, _ => decide +kernel
  | 3, _ => decide +kernel
  | 4, _ => decide +kernel
  | 5, _ => decide +kernel
  | 6, _ => decide +kernel
  | 7, _ => decide +kernel
/-- where the new cell lies -/
theorem k_fresh {s : State} {H1 : Heap} {M : Mw} {n0 q : Nat} {x : va_E} (hn : n0 ≤ M.1) (hsz : s.heap.size = G.2.2.1 + n0) (hP1 : va_P G.2.1 vwCl (k_ws G M ++ [(q, x)]) H1) (hD1 : va_D (k_A G) (k_ws G M ++ [(q, x)])) (hz : H1.size ≤ s.heap.size + (M.1 - n0 + 1)) : q = G.2.2.1 + M.1 := by
  have hl : (k_ws G M).length = M.1 := by simp [k_ws]
  have hq : (k_ws G M ++ [(q, x)])[M.1]? = some (q, x) := by
    rw [List.getElem?_append_right (by omega), hl, Nat.sub_self]
    rfl
  have h1 : q < H1.size := (hP1 _ _ hq).lt
  have h2 : G.2.2.1 ≤ q := hD1.2 _ _ hq
  rcases Nat.lt_or_ge q (G.2.2.1 + M.1) with z | z
  · exfalso
    have hj : q - G.2.2.1 < M.1 := by omega
    have h3 : (k_ws G M ++ [(q, x)])[q - G.2.2.1]? = some (G.2.2.1 + (q - G.2.2.1), k_cell G M (q - G.2.2.1)) := by
      rw [List.getElem?_append_left (by omega), k_ws_get hj]
    have h4 := hD1.1 _ _ _ _ hq h3 (by show q = G.2.2.1 + (q - G.2.2.1); omega)
    omega
  · omega
theorem sq_cnew (hd : decode mi.2.1 pc = .ok (.new idx, 3)) (hci : ci < 8) (hcl : Cond.classLink mi.1.cls idx (k_cl ci).1 ∈ lw_tbl) (hins : Cond.instantiable (k_cl ci).1 (k_cl ci).2.2 ∈ lw_tbl) (hini : Cond.initialized (k_cl ci).1 ∈ lw_tbl) (hΦ : k_ok Φ d) (hk : Sq kId G Φ mi (pc + 3) K) : Sq kId G Φ mi pc (c_new ci K) := by
  intro L st M v M' h
  unfold c_new at h
  split at h
  · next hs =>
    obtain ⟨hm, hw⟩ := hk _ _ _ _ _ h
    have h65 := k_sh_lt hs (by omega)
    have hm1 : M.1 + 1 ≤ M'.1 := hm
    refine ⟨by show M.1 ≤ M'.1; omega, fun n0 p e s m args below meth c hC H locs ls hn hP hS hl => ?_⟩
    obtain ⟨hx, hb, hrt, hml, hown, hts, hlk2, hnm, hU, hsz⟩ := id hC
    have hn' : n0 ≤ M.1 := hn
    obtain ⟨-, -, f3, f4⟩ := hΦ v M' n0 (M.1 + 1) args s below hm (by omega)
    have hcs : k_cs (M.1 + 1) = k_cs M.1 + (k_cl ci).2.2 := by
      show k_cs M.1 + k_sz M.1 = _
      simp [k_sz, hs]
    have hc0 := k_cs_mono hn'
    have hfs : ∀ j, j < (k_cl ci).2.2 → defaultValue (k_ty ci j) = vp_V (k_fs G ci (fun _ => 0) (fun _ => none)) j := by
      intro j hj
      rw [k_default hci j hj, vp_V, List.getD_eq_getElem?_getD, k_fs_get hj]
      rfl
    refine va_new (D := G.2.1) (ci := ci) (fs := k_fs G ci (fun _ => 0) (fun _ => none)) (C := (k_cl ci).1) (T := (k_cl ci).2.1) (N := (k_cl ci).2.2) hx hb hts (k_in hci) (k_ty ci) (k_tyok hci) hown (hts _ (k_tb_mem hcl rfl)) (hts _ (k_tb_mem hins rfl)) (hts _ (k_tb_mem hini rfl)) hU.1 hP (k_ws_D G M) hS (fun q hq => by show G.2.2.1 ≤ q; omega) (k_get hci) hfs (by show M.1 - n0 + 1 ≤ (Φ v M' n0 args s below).1.cells; omega) (by show k_cs M.1 - k_cs n0 + _ ≤ (Φ v M' n0 args s below).1.slots; omega) hd (fun q H1 hP1 hD1 hS1 => ?_)
    refine k_W_size fun hz => ?_
    have hq := k_fresh hn' hsz hP1 hD1 hz
    subst hq
    rw [k_ws_push (M := M) (M1 := k_grow M) rfl (by rw [k_cell_obj hs]; simp [k_grow]) (fun j hj => k_grow_cell hj)] at hP1
    have hw := hw n0 p e s m args below meth c hC H1 locs ls (by show n0 ≤ M.1 + 1; omega) hP1 hS1 hl
    rw [List.map_cons, k_ref (Nat.lt_trans h65 (by decide))] at hw
    rw [show M.1 - n0 + 1 = (k_grow M).1 - n0 by show _ = M.1 + 1 - n0; omega, show k_cs M.1 - k_cs n0 + (k_cl ci).2.2 = k_cs (k_grow M).1 - k_cs n0 by show _ = k_cs (M.1 + 1) - k_cs n0; omega]
    exact hw
  · cases h
theorem k_shb (k : Nat) : (k_sh k).2 ≤ 1128 := by
  rcases Nat.lt_or_ge k 65 with q | q
  · revert k
    decide +kernel
  · unfold k_sh
    rw [List.getD_eq_getElem?_getD, List.getElem?_eq_none (by show k_shl.length ≤ k; exact q)]
    decide
theorem sq_cnewi (hd : decode mi.2.1 pc = .ok (.newarray .int, 2)) (hac : Cond.arrayClass .int ∈ lw_tbl) (hΦ : k_ok Φ d) (hk : Sq kId G Φ mi (pc + 2) K) : Sq kId G Φ mi pc (c_newi K) := by
  intro L st M v M' h
  unfold c_newi at h
  split at h
  · next n st =>
    split at h
    · next hs =>
      obtain ⟨hs, hn0⟩ := hs
      obtain ⟨hm, hw⟩ := hk _ _ _ _ _ h
      have h65 := k_sh_lt hs (by omega)
      have hm1 : M.1 + 1 ≤ M'.1 := hm
      refine ⟨by show M.1 ≤ M'.1; omega, fun n0 p e s m args below meth c hC H locs ls hn hP hS hl => ?_⟩
      obtain ⟨hx, hb, hrt, hml, hown, hts, hlk2, hnm, hU, hsz⟩ := id hC
      have hn' : n0 ≤ M.1 := hn
      obtain ⟨-, -, f3, f4⟩ := hΦ v M' n0 (M.1 + 1) args s below hm (by omega)
      have hcs : k_cs (M.1 + 1) = k_cs M.1 + n.toNatClampNeg := by
        show k_cs M.1 + k_sz M.1 = _
        simp [k_sz, hs]
      have hc0 := k_cs_mono hn'
      have hbd := k_shb M.1
      rw [hs] at hbd
      dsimp only at hbd
      refine va_newa (D := G.2.1) (a0 := (n.toNatClampNeg, .inl (fun _ => 0))) hx hb (hts _ (k_tb_mem hac rfl)) (atype := .int) rfl hU.1 hP (k_ws_D G M) hS (fun q hq => by show G.2.2.1 ≤ q; omega) (fun _ => rfl) hn0 rfl (by show n.toNatClampNeg * 4 ≤ _; omega) (by show M.1 - n0 + 1 ≤ (Φ v M' n0 args s below).1.cells; omega) (by show k_cs M.1 - k_cs n0 + _ ≤ (Φ v M' n0 args s below).1.slots; omega) hd (fun q cA H1 hK1 hP1 hD1 hS1 => ?_)
      refine k_W_size fun hz => ?_
      have hq := k_fresh hn' hsz hP1 hD1 hz
      subst hq
      have hcA : cA = G.2.2.2.1 := by
        have h1 : s.vm.findClass ("[" ++ FieldType.int.toString) = some cA := (hK1.2 2 (cA, .int) rfl).2
        have h2 : s.vm.findClass ("[" ++ FieldType.int.toString) = some G.2.2.2.1 := (hU.1.2 0 (G.2.2.2.1, .int) rfl).2
        exact Option.some.inj (h1.symm.trans h2)
      subst hcA
      rw [k_ws_push (M := M) (M1 := k_grow M) rfl (by rw [k_cell_int (by rw [hs]), hs]; simp [k_grow]) (fun j hj => k_grow_cell hj)] at hP1
      have hw := hw n0 p e s m args below meth c hC H1 locs ls (by show n0 ≤ M.1 + 1; omega) hP1 hS1 hl
      rw [List.map_cons, k_ref (Nat.lt_trans h65 (by decide))] at hw
      rw [show M.1 - n0 + 1 = (k_grow M).1 - n0 by show _ = M.1 + 1 - n0; omega, show k_cs M.1 - k_cs n0 + n.toNatClampNeg = k_cs (k_grow M).1 - k_cs n0 by show _ = k_cs (M.1 + 1) - k_cs n0; omega]
      exact hw
    · cases h
  · cases h
theorem sq_cnewz (hd : decode mi.2.1 pc = .ok (.newarray .boolean, 2)) (hac : Cond.arrayClass .boolean ∈ lw_tbl) (hΦ : k_ok Φ d) (hk : Sq kId G Φ mi (pc + 2) K) : Sq kId G Φ mi pc (c_newz K) := by
  intro L st M v M' h
  unfold c_newz at h
  split at h
  · next n st =>
    split at h
    · next hs =>
      obtain ⟨hs, hn0⟩ := hs
      obtain ⟨hm, hw⟩ := hk _ _ _ _ _ h
      have h65 := k_sh_lt hs (by omega)
      have hm1 : M.1 + 1 ≤ M'.1 := hm
      refine ⟨by show M.1 ≤ M'.1; omega, fun n0 p e s m args below meth c hC H locs ls hn hP hS hl => ?_⟩
      obtain ⟨hx, hb, hrt, hml, hown, hts, hlk2, hnm, hU, hsz⟩ := id hC
      have hn' : n0 ≤ M.1 := hn
      obtain ⟨-, -, f3, f4⟩ := hΦ v M' n0 (M.1 + 1) args s below hm (by omega)
      have hcs : k_cs (M.1 + 1) = k_cs M.1 + n.toNatClampNeg := by
        show k_cs M.1 + k_sz M.1 = _
        simp [k_sz, hs]
      have hc0 := k_cs_mono hn'
      have hbd := k_shb M.1
      rw [hs] at hbd
      dsimp only at hbd
      refine va_newa (D := G.2.1) (a0 := (n.toNatClampNeg, .inl (fun _ => 0))) hx hb (hts _ (k_tb_mem hac rfl)) (atype := .boolean) rfl hU.1 hP (k_ws_D G M) hS (fun q hq => by show G.2.2.1 ≤ q; omega) (fun _ => rfl) hn0 rfl (by show n.toNatClampNeg * 1 ≤ _; omega) (by show M.1 - n0 + 1 ≤ (Φ v M' n0 args s below).1.cells; omega) (by show k_cs M.1 - k_cs n0 + _ ≤ (Φ v M' n0 args s below).1.slots; omega) hd (fun q cA H1 hK1 hP1 hD1 hS1 => ?_)
      refine k_W_size fun hz => ?_
      have hq := k_fresh hn' hsz hP1 hD1 hz
      subst hq
      have hcA : cA = G.2.2.2.2.1 := by
        have h1 : s.vm.findClass ("[" ++ FieldType.boolean.toString) = some cA := (hK1.2 2 (cA, .boolean) rfl).2
        have h2 : s.vm.findClass ("[" ++ FieldType.boolean.toString) = some G.2.2.2.2.1 := (hU.1.2 1 (G.2.2.2.2.1, .boolean) rfl).2
        exact Option.some.inj (h1.symm.trans h2)
      subst hcA
      rw [k_ws_push (M := M) (M1 := k_grow M) rfl (by rw [k_cell_bool (by rw [hs]), hs]; simp [k_grow]) (fun j hj => k_grow_cell hj)] at hP1
      have hw := hw n0 p e s m args below meth c hC H1 locs ls (by show n0 ≤ M.1 + 1; omega) hP1 hS1 hl
      rw [List.map_cons, k_ref (Nat.lt_trans h65 (by decide))] at hw
      rw [show M.1 - n0 + 1 = (k_grow M).1 - n0 by show _ = M.1 + 1 - n0; omega, show k_cs M.1 - k_cs n0 + n.toNatClampNeg = k_cs (k_grow M).1 - k_cs n0 by show _ = k_cs (M.1 + 1) - k_cs n0; omega]
      exact hw
    · cases h
  · cases h
end MakeSq
