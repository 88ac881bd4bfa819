/-! CONTRACTS (printed by wip/pm/cts.py) -/
section CT10
theorem ct_54 {X : pm_X} {d : Nat} {h : pm_H} {t0 : Nat} {t1 : Nat} {x2 : Int32} (hd : 1 ≤ d) (ht0 : ty_sp t0) (ht1 : ty_tr t1) : ty_M X ty_Wc d 54 [.ref t0, .ref t1, .int x2] h ty_pv := by
  intro J H hJ
  obtain ⟨d, rfl⟩ : ∃ e, d = e + 1 := ⟨d - 1, by omega⟩
  have I := H.1 h hJ
  have lt0 := ty_spl ht0
  have lt1 := ty_trl ht1
  have ax2 := nm_lo x2
  have bx2 := nm_hi x2
  refine hq_M.enter (q := (⟨"TrainBearers$Steps", "keep", "(LTrainBearers$Train;I)V"⟩, _, 4, none, 5, 3, pm_c54)) rfl rfl ?_
  show hq_W X d 5 false (none) pm_c54 (0, [some (.ref t0), some (.ref t1), some (.int x2), none], [], h) (fun h' v => J h' ∧ ty_pv h' v)
  refine hq_p rfl rfl ?_
  refine ty_gI I rfl (ty_sps ht0) (by omega) (by decide) rfl (ty_spf1 ht0) (fun z1 ez1 az1 bz1 => ?_)
  refine hq_p rfl rfl ?_
  refine ty_gI I rfl (ty_sps ht0) (by omega) (by decide) rfl (ty_spf2 ht0) (fun z2 ez2 az2 bz2 => ?_)
  refine hq_p rfl rfl (ty_ge (n := z1.toInt + z2.toInt) (nm_add (by omega) (by omega)) (fun z3 ez3 => ?_))
  refine hq_p rfl rfl (ty_ge (n := 16) nk_b16 (fun z4 ez4 => ?_))
  refine hq_irem rfl (nm_nz (by omega)) (ty_ge (n := z3.toInt % 16) (nm_rem ez4 (by omega) (by omega)) (fun z5 ez5 => ?_))
  refine hq_p rfl rfl (ty_ge (n := 28) nk_b28 (fun z6 ez6 => ?_))
  refine hq_p rfl rfl (ty_ge (n := 28 * z5.toInt) (nm_mulc ez6 (by omega) (by omega)) (fun z7 ez7 => ?_))
  refine hq_p (ls' := [some (.ref t0), some (.ref t1), some (.int x2), some (.int z7)]) rfl rfl ?_
  refine hq_p rfl rfl ?_
  refine hq_gR I.1 rfl (ty_trs ht1) (by omega) (by decide) rfl ?_
  refine hq_p rfl rfl (ty_ge (n := 0) nk_i0 (fun z8 ez8 => ?_))
  refine hq_p rfl rfl ?_
  refine hq_gR I.1 rfl (ty_sps ht0) (by omega) (by decide) rfl ?_
  refine hq_p rfl rfl ?_
  refine hq_p rfl rfl (ty_ge (n := 0) nk_i0 (fun z9 ez9 => ?_))
  refine hq_p rfl rfl (ty_ge (n := z7.toInt + z9.toInt) (nm_add (by omega) (by omega)) (fun z10 ez10 => ?_))
  refine hq_p rfl rfl (ty_ge (n := 8) nk_b8 (fun z11 ez11 => ?_))
  refine ty_cpy (W := ty_Wc) H hJ rfl (ty_sps1 ht0) (by omega) (ty_trs2 ht1) (by omega) (by omega) (by omega) (by omega) (by omega) (by omega) (by omega) (fun i _ _ => by unfold ty_Wc; omega) (fun i _ => by rw [ty_spa1 ht0, ty_tra2 ht1, show ((z10.toInt.toNat + i) % 28 == 24) = false from beq_false_of_ne (by omega)]; exact ⟨Int.le_refl _, Int.le_refl _⟩) rfl (fun h12 Jh12 => ?_)
  have Ih12 := H.1 h12 Jh12
  refine hq_p rfl rfl ?_
  refine hq_gR Ih12.1 rfl (ty_trs ht1) (by omega) (by decide) rfl ?_
  refine hq_p rfl rfl (ty_ge (n := 0) nk_i0 (fun z13 ez13 => ?_))
  refine hq_p rfl rfl ?_
  refine hq_gR Ih12.1 rfl (ty_sps ht0) (by omega) (by decide) rfl ?_
  refine hq_p rfl rfl ?_
  refine hq_p rfl rfl (ty_ge (n := 8) nk_b8 (fun z14 ez14 => ?_))
  refine hq_p rfl rfl (ty_ge (n := z7.toInt + z14.toInt) (nm_add (by omega) (by omega)) (fun z15 ez15 => ?_))
  refine hq_p rfl rfl (ty_ge (n := 8) nk_b8 (fun z16 ez16 => ?_))
  refine ty_cpy (W := ty_Wc) H Jh12 rfl (ty_sps1 ht0) (by omega) (ty_trs4 ht1) (by omega) (by omega) (by omega) (by omega) (by omega) (by omega) (by omega) (fun i _ _ => by unfold ty_Wc; omega) (fun i _ => by rw [ty_spa1 ht0, ty_tra4 ht1, show ((z15.toInt.toNat + i) % 28 == 24) = false from beq_false_of_ne (by omega)]; exact ⟨Int.le_refl _, Int.le_refl _⟩) rfl (fun h17 Jh17 => ?_)
  have Ih17 := H.1 h17 Jh17
  refine hq_p rfl rfl ?_
  refine hq_gR Ih17.1 rfl (ty_trs ht1) (by omega) (by decide) rfl ?_
  refine hq_p rfl rfl (ty_ge (n := 0) nk_i0 (fun z18 ez18 => ?_))
  refine hq_p rfl rfl ?_
  refine hq_gR Ih17.1 rfl (ty_sps ht0) (by omega) (by decide) rfl ?_
  refine hq_p rfl rfl ?_
  refine hq_p rfl rfl (ty_ge (n := 16) nk_b16 (fun z19 ez19 => ?_))
  refine hq_p rfl rfl (ty_ge (n := z7.toInt + z19.toInt) (nm_add (by omega) (by omega)) (fun z20 ez20 => ?_))
  refine hq_p rfl rfl (ty_ge (n := 8) nk_b8 (fun z21 ez21 => ?_))
  refine ty_cpy (W := ty_Wc) H Jh17 rfl (ty_sps1 ht0) (by omega) (ty_trs5 ht1) (by omega) (by omega) (by omega) (by omega) (by omega) (by omega) (by omega) (fun i _ _ => by unfold ty_Wc; omega) (fun i _ => by rw [ty_spa1 ht0, ty_tra5 ht1, show ((z20.toInt.toNat + i) % 28 == 24) = false from beq_false_of_ne (by omega)]; exact ⟨Int.le_refl _, Int.le_refl _⟩) rfl (fun h22 Jh22 => ?_)
  have Ih22 := H.1 h22 Jh22
  refine hq_p rfl rfl ?_
  refine hq_gR Ih22.1 rfl (ty_sps ht0) (by omega) (by decide) rfl ?_
  refine hq_p rfl rfl ?_
  refine hq_p rfl rfl (ty_ge (n := 24) nk_b24 (fun z23 ez23 => ?_))
  refine hq_p rfl rfl (ty_ge (n := z7.toInt + z23.toInt) (nm_add (by omega) (by omega)) (fun z24 ez24 => ?_))
  refine hq_p rfl rfl ?_
  refine ty_gI Ih22 rfl (ty_trs ht1) (by omega) (by decide) rfl (ty_trf ht1 8) (fun z25 ez25 az25 bz25 => ?_)
  refine ty_aS (W := ty_Wc) H Jh22 rfl (ty_sps1 ht0) (by omega) (by omega) (by omega) (fun i e => by unfold ty_Wc; omega) (fun i e => ty_eg (lo := 0) (hi := 5) ((ty_spa1 ht0 i).trans (by rw [show i % 28 = 24 by omega]; try rfl))) (by omega) (by omega) (fun e1 e2 w => by omega) (fun h26 eh26 Jh26 => ?_)
  have Ih26 := H.1 h26 Jh26
  refine hq_p rfl rfl ?_
  refine hq_gR Ih26.1 rfl (ty_sps ht0) (by omega) (by decide) rfl ?_
  refine hq_p rfl rfl ?_
  refine hq_p rfl rfl (ty_ge (n := 25) nk_b25 (fun z27 ez27 => ?_))
  refine hq_p rfl rfl (ty_ge (n := z7.toInt + z27.toInt) (nm_add (by omega) (by omega)) (fun z28 ez28 => ?_))
  refine hq_p rfl rfl ?_
  refine ty_gI Ih26 rfl (ty_trs ht1) (by omega) (by decide) rfl (ty_trf ht1 9) (fun z29 ez29 az29 bz29 => ?_)
  refine ty_aS (W := ty_Wc) H Jh26 rfl (ty_sps1 ht0) (by omega) (by omega) (by omega) (fun i e => by unfold ty_Wc; omega) (fun i e => ty_eg (lo := -2147483648) (hi := 2147483647) ((ty_spa1 ht0 i).trans (by rw [show i % 28 = 25 by omega]; try rfl))) (by omega) (by omega) (fun e1 e2 w => by omega) (fun h30 eh30 Jh30 => ?_)
  have Ih30 := H.1 h30 Jh30
  refine hq_p rfl rfl ?_
  refine hq_gR Ih30.1 rfl (ty_sps ht0) (by omega) (by decide) rfl ?_
  refine hq_p rfl rfl ?_
  refine hq_p rfl rfl (ty_ge (n := 26) nk_b26 (fun z31 ez31 => ?_))
  refine hq_p rfl rfl (ty_ge (n := z7.toInt + z31.toInt) (nm_add (by omega) (by omega)) (fun z32 ez32 => ?_))
  refine hq_p rfl rfl ?_
  refine hq_gR Ih30.1 rfl (ty_trs ht1) (by omega) (by decide) rfl ?_
  refine hq_p rfl rfl (ty_ge (n := 0) nk_i0 (fun z33 ez33 => ?_))
  refine ty_aL Ih30 rfl (ty_trs9 ht1) (by omega) (by omega) (by omega) (fun i _ => ty_le (ty_tra9 ht1 i)) (fun z34 ez34 az34 bz34 => ?_)
  rw [show z33.toInt.toNat = 0 by omega] at ez34
  refine ty_aS (W := ty_Wc) H Jh30 rfl (ty_sps1 ht0) (by omega) (by omega) (by omega) (fun i e => by unfold ty_Wc; omega) (fun i e => ty_eg (lo := -2147483648) (hi := 2147483647) ((ty_spa1 ht0 i).trans (by rw [show i % 28 = 26 by omega]; try rfl))) (by omega) (by omega) (fun e1 e2 w => by omega) (fun h35 eh35 Jh35 => ?_)
  have Ih35 := H.1 h35 Jh35
  refine hq_p rfl rfl ?_
  refine hq_gR Ih35.1 rfl (ty_sps ht0) (by omega) (by decide) rfl ?_
  refine hq_p rfl rfl ?_
  refine hq_p rfl rfl (ty_ge (n := 27) nk_b27 (fun z36 ez36 => ?_))
  refine hq_p rfl rfl (ty_ge (n := z7.toInt + z36.toInt) (nm_add (by omega) (by omega)) (fun z37 ez37 => ?_))
  refine hq_p rfl rfl ?_
  refine ty_aS (W := ty_Wc) H Jh35 rfl (ty_sps1 ht0) (by omega) (by omega) (by omega) (fun i e => by unfold ty_Wc; omega) (fun i e => ty_eg (lo := -2147483648) (hi := 2147483647) ((ty_spa1 ht0 i).trans (by rw [show i % 28 = 27 by omega]; try rfl))) (by omega) (by omega) (fun e1 e2 w => by omega) (fun h38 eh38 Jh38 => ?_)
  have Ih38 := H.1 h38 Jh38
  refine hq_p rfl rfl ?_
  refine ty_gI Ih38 rfl (ty_sps ht0) (by omega) (by decide) rfl (ty_spf2 ht0) (fun z39 ez39 az39 bz39 => ?_)
  refine hq_p rfl rfl (ty_ge (n := 16) nk_b16 (fun z40 ez40 => ?_))
  refine ty_ige rfl (fun c41 => ?_) (fun c41 => ?_)
  · refine hq_p rfl rfl ?_
    refine hq_p rfl rfl ?_
    refine ty_gI Ih38 rfl (ty_sps ht0) (by omega) (by decide) rfl (ty_spf1 ht0) (fun z42 ez42 az42 bz42 => ?_)
    refine hq_p rfl rfl (ty_ge (n := 1) nk_i1 (fun z43 ez43 => ?_))
    refine hq_p rfl rfl (ty_ge (n := z42.toInt + z43.toInt) (nm_add (by omega) (by omega)) (fun z44 ez44 => ?_))
    refine hq_p rfl rfl (ty_ge (n := 16) nk_b16 (fun z45 ez45 => ?_))
    refine hq_irem rfl (nm_nz (by omega)) (ty_ge (n := z44.toInt % 16) (nm_rem ez45 (by omega) (by omega)) (fun z46 ez46 => ?_))
    refine ty_pI (W := ty_Wc) H Jh38 rfl (ty_sps ht0) (by omega) rfl rfl (by unfold ty_Wc; omega) (ty_spf1 ht0) (by omega) (by omega) (fun h47 eh47 Jh47 => ?_)
    have wh47 : (hs_fI h47 t0 1).toInt = z46.toInt := by rw [eh47]; exact congrArg Int32.toInt (ty_fI_eq Ih38.1 (ty_sps ht0) (by omega) rfl)
    have Ih47 := H.1 h47 Jh47
    exact hq_W.ret rfl rfl rfl ⟨Jh47, rfl⟩
  · refine hq_p rfl rfl ?_
    refine hq_p rfl rfl ?_
    have r49 : (hs_fI h26 t0 2).toInt = (hs_fI h22 t0 2).toInt := by rw [eh26]; exact congrArg Int32.toInt (ty_fI_ne (by omega))
    have r50 : (hs_fI h30 t0 2).toInt = (hs_fI h26 t0 2).toInt := by rw [eh30]; exact congrArg Int32.toInt (ty_fI_ne (by omega))
    have r51 : (hs_fI h35 t0 2).toInt = (hs_fI h30 t0 2).toInt := by rw [eh35]; exact congrArg Int32.toInt (ty_fI_ne (by omega))
    have r52 : (hs_fI h38 t0 2).toInt = (hs_fI h35 t0 2).toInt := by rw [eh38]; exact congrArg Int32.toInt (ty_fI_ne (by omega))
    refine ty_gI Ih38 rfl (ty_sps ht0) (by omega) (by decide) rfl (ty_spf2 ht0) (fun z48 ez48 az48 bz48 => ?_)
    refine hq_p rfl rfl (ty_ge (n := 1) nk_i1 (fun z53 ez53 => ?_))
    refine hq_p rfl rfl (ty_ge (n := z48.toInt + z53.toInt) (nm_add (by omega) (by omega)) (fun z54 ez54 => ?_))
    refine ty_pI (W := ty_Wc) H Jh38 rfl (ty_sps ht0) (by omega) rfl rfl (by unfold ty_Wc; omega) (ty_spf2 ht0) (by omega) (by omega) (fun h55 eh55 Jh55 => ?_)
    have wh55 : (hs_fI h55 t0 2).toInt = z54.toInt := by rw [eh55]; exact congrArg Int32.toInt (ty_fI_eq Ih38.1 (ty_sps ht0) (by omega) rfl)
    have Ih55 := H.1 h55 Jh55
    refine hq_p rfl rfl ?_
    exact hq_W.ret rfl rfl rfl ⟨Jh55, rfl⟩
theorem ct_55 {X : pm_X} {d : Nat} {h : pm_H} {t0 : Nat} {t1 : Nat} (hd : 1 ≤ d) (ht0 : ty_sp t0) (ht1 : ty_tr t1) : ty_M X ty_Wc d 55 [.ref t0, .ref t1] h (ty_pi (-2147483648) 2147483647) := by
  intro J H hJ
  obtain ⟨d, rfl⟩ : ∃ e, d = e + 1 := ⟨d - 1, by omega⟩
  have I := H.1 h hJ
  have lt0 := ty_spl ht0
  have lt1 := ty_trl ht1
  refine hq_M.enter (q := (⟨"TrainBearers$Steps", "takeBack", "(LTrainBearers$Train;)I"⟩, _, 3, some .int, 5, 2, pm_c55)) rfl rfl ?_
  show hq_W X d 5 false (some .int) pm_c55 (0, [some (.ref t0), some (.ref t1), none], [], h) (fun h' v => J h' ∧ (ty_pi (-2147483648) 2147483647) h' v)
  refine hq_p rfl rfl ?_
  refine ty_gI I rfl (ty_sps ht0) (by omega) (by decide) rfl (ty_spf2 ht0) (fun z1 ez1 az1 bz1 => ?_)
  refine ty_zne rfl (fun c2 => ?_) (fun c2 => ?_)
  · replace c2 : 1 ≤ z1.toInt ∧ z1.toInt ≤ 16 := by omega
    refine hq_p rfl rfl ?_
    refine hq_p rfl rfl ?_
    refine ty_gI I rfl (ty_sps ht0) (by omega) (by decide) rfl (ty_spf2 ht0) (fun z3 ez3 az3 bz3 => ?_)
    refine hq_p rfl rfl (ty_ge (n := 1) nk_i1 (fun z4 ez4 => ?_))
    refine hq_p rfl rfl (ty_ge (n := z3.toInt - z4.toInt) (nm_sub (by omega) (by omega)) (fun z5 ez5 => ?_))
    refine ty_pI (W := ty_Wc) H hJ rfl (ty_sps ht0) (by omega) rfl rfl (by unfold ty_Wc; omega) (ty_spf2 ht0) (by omega) (by omega) (fun h6 eh6 Jh6 => ?_)
    have wh6 : (hs_fI h6 t0 2).toInt = z5.toInt := by rw [eh6]; exact congrArg Int32.toInt (ty_fI_eq I.1 (ty_sps ht0) (by omega) rfl)
    have Ih6 := H.1 h6 Jh6
    refine hq_p rfl rfl ?_
    refine ty_gI Ih6 rfl (ty_sps ht0) (by omega) (by decide) rfl (ty_spf1 ht0) (fun z7 ez7 az7 bz7 => ?_)
    refine hq_p rfl rfl ?_
    refine ty_gI Ih6 rfl (ty_sps ht0) (by omega) (by decide) rfl (ty_spf2 ht0) (fun z8 ez8 az8 bz8 => ?_)
    refine hq_p rfl rfl (ty_ge (n := z7.toInt + z8.toInt) (nm_add (by omega) (by omega)) (fun z9 ez9 => ?_))
    refine hq_p rfl rfl (ty_ge (n := 16) nk_b16 (fun z10 ez10 => ?_))
    refine hq_irem rfl (nm_nz (by omega)) (ty_ge (n := z9.toInt % 16) (nm_rem ez10 (by omega) (by omega)) (fun z11 ez11 => ?_))
    refine hq_p rfl rfl (ty_ge (n := 28) nk_b28 (fun z12 ez12 => ?_))
    refine hq_p rfl rfl (ty_ge (n := 28 * z11.toInt) (nm_mulc ez12 (by omega) (by omega)) (fun z13 ez13 => ?_))
    refine hq_p (ls' := [some (.ref t0), some (.ref t1), some (.int z13)]) rfl rfl ?_
    refine hq_p rfl rfl ?_
    refine hq_gR Ih6.1 rfl (ty_sps ht0) (by omega) (by decide) rfl ?_
    refine hq_p rfl rfl ?_
    refine hq_p rfl rfl (ty_ge (n := 0) nk_i0 (fun z14 ez14 => ?_))
    refine hq_p rfl rfl (ty_ge (n := z13.toInt + z14.toInt) (nm_add (by omega) (by omega)) (fun z15 ez15 => ?_))
    refine hq_p rfl rfl ?_
    refine hq_gR Ih6.1 rfl (ty_trs ht1) (by omega) (by decide) rfl ?_
    refine hq_p rfl rfl (ty_ge (n := 0) nk_i0 (fun z16 ez16 => ?_))
    refine hq_p rfl rfl (ty_ge (n := 8) nk_b8 (fun z17 ez17 => ?_))
    refine ty_cpy (W := ty_Wc) H Jh6 rfl (ty_trs2 ht1) (by omega) (ty_sps1 ht0) (by omega) (by omega) (by omega) (by omega) (by omega) (by omega) (by omega) (fun i _ _ => by unfold ty_Wc; omega) (fun i _ => by rw [ty_spa1 ht0, ty_tra2 ht1, show ((z15.toInt.toNat + i) % 28 == 24) = false from beq_false_of_ne (by omega)]; exact ⟨Int.le_refl _, Int.le_refl _⟩) rfl (fun h18 Jh18 => ?_)
    have Ih18 := H.1 h18 Jh18
    refine hq_p rfl rfl ?_
    refine hq_gR Ih18.1 rfl (ty_sps ht0) (by omega) (by decide) rfl ?_
    refine hq_p rfl rfl ?_
    refine hq_p rfl rfl (ty_ge (n := 8) nk_b8 (fun z19 ez19 => ?_))
    refine hq_p rfl rfl (ty_ge (n := z13.toInt + z19.toInt) (nm_add (by omega) (by omega)) (fun z20 ez20 => ?_))
    refine hq_p rfl rfl ?_
    refine hq_gR Ih18.1 rfl (ty_trs ht1) (by omega) (by decide) rfl ?_
    refine hq_p rfl rfl (ty_ge (n := 0) nk_i0 (fun z21 ez21 => ?_))
    refine hq_p rfl rfl (ty_ge (n := 8) nk_b8 (fun z22 ez22 => ?_))
    refine ty_cpy (W := ty_Wc) H Jh18 rfl (ty_trs4 ht1) (by omega) (ty_sps1 ht0) (by omega) (by omega) (by omega) (by omega) (by omega) (by omega) (by omega) (fun i _ _ => by unfold ty_Wc; omega) (fun i _ => by rw [ty_spa1 ht0, ty_tra4 ht1, show ((z20.toInt.toNat + i) % 28 == 24) = false from beq_false_of_ne (by omega)]; exact ⟨Int.le_refl _, Int.le_refl _⟩) rfl (fun h23 Jh23 => ?_)
    have Ih23 := H.1 h23 Jh23
    refine hq_p rfl rfl ?_
    refine hq_gR Ih23.1 rfl (ty_sps ht0) (by omega) (by decide) rfl ?_
    refine hq_p rfl rfl ?_
    refine hq_p rfl rfl (ty_ge (n := 16) nk_b16 (fun z24 ez24 => ?_))
    refine hq_p rfl rfl (ty_ge (n := z13.toInt + z24.toInt) (nm_add (by omega) (by omega)) (fun z25 ez25 => ?_))
    refine hq_p rfl rfl ?_
    refine hq_gR Ih23.1 rfl (ty_trs ht1) (by omega) (by decide) rfl ?_
    refine hq_p rfl rfl (ty_ge (n := 0) nk_i0 (fun z26 ez26 => ?_))
    refine hq_p rfl rfl (ty_ge (n := 8) nk_b8 (fun z27 ez27 => ?_))
    refine ty_cpy (W := ty_Wc) H Jh23 rfl (ty_trs5 ht1) (by omega) (ty_sps1 ht0) (by omega) (by omega) (by omega) (by omega) (by omega) (by omega) (by omega) (fun i _ _ => by unfold ty_Wc; omega) (fun i _ => by rw [ty_spa1 ht0, ty_tra5 ht1, show ((z25.toInt.toNat + i) % 28 == 24) = false from beq_false_of_ne (by omega)]; exact ⟨Int.le_refl _, Int.le_refl _⟩) rfl (fun h28 Jh28 => ?_)
    have Ih28 := H.1 h28 Jh28
    refine hq_p rfl rfl ?_
    refine hq_p rfl rfl ?_
    refine hq_gR Ih28.1 rfl (ty_sps ht0) (by omega) (by decide) rfl ?_
    refine hq_p rfl rfl ?_
    refine hq_p rfl rfl (ty_ge (n := 24) nk_b24 (fun z29 ez29 => ?_))
    refine hq_p rfl rfl (ty_ge (n := z13.toInt + z29.toInt) (nm_add (by omega) (by omega)) (fun z30 ez30 => ?_))
    refine ty_aL Ih28 rfl (ty_sps1 ht0) (by omega) (by omega) (by omega) (fun i e => ty_le (lo := 0) (hi := 5) ((ty_spa1 ht0 i).trans (by rw [show i % 28 = 24 by omega]; try rfl))) (fun z31 ez31 az31 bz31 => ?_)
    refine ty_pI (W := ty_Wc) H Jh28 rfl (ty_trs ht1) (by omega) rfl rfl (by unfold ty_Wc; omega) (ty_trf ht1 8) (by omega) (by omega) (fun h32 eh32 Jh32 => ?_)
    have wh32 : (hs_fI h32 t1 8).toInt = z31.toInt := by rw [eh32]; exact congrArg Int32.toInt (ty_fI_eq Ih28.1 (ty_trs ht1) (by omega) rfl)
    have Ih32 := H.1 h32 Jh32
    refine hq_p rfl rfl ?_
    refine hq_p rfl rfl ?_
    refine hq_gR Ih32.1 rfl (ty_sps ht0) (by omega) (by decide) rfl ?_
    refine hq_p rfl rfl ?_
    refine hq_p rfl rfl (ty_ge (n := 25) nk_b25 (fun z33 ez33 => ?_))
    refine hq_p rfl rfl (ty_ge (n := z13.toInt + z33.toInt) (nm_add (by omega) (by omega)) (fun z34 ez34 => ?_))
    refine ty_aL Ih32 rfl (ty_sps1 ht0) (by omega) (by omega) (by omega) (fun i e => ty_le (lo := -2147483648) (hi := 2147483647) ((ty_spa1 ht0 i).trans (by rw [show i % 28 = 25 by omega]; try rfl))) (fun z35 ez35 az35 bz35 => ?_)
    refine ty_pI (W := ty_Wc) H Jh32 rfl (ty_trs ht1) (by omega) rfl rfl (by unfold ty_Wc; omega) (ty_trf ht1 9) (by omega) (by omega) (fun h36 eh36 Jh36 => ?_)
    have wh36 : (hs_fI h36 t1 9).toInt = z35.toInt := by rw [eh36]; exact congrArg Int32.toInt (ty_fI_eq Ih32.1 (ty_trs ht1) (by omega) rfl)
    have Ih36 := H.1 h36 Jh36
    refine hq_p rfl rfl ?_
    refine hq_gR Ih36.1 rfl (ty_trs ht1) (by omega) (by decide) rfl ?_
    refine hq_p rfl rfl (ty_ge (n := 0) nk_i0 (fun z37 ez37 => ?_))
    refine hq_p rfl rfl ?_
    refine hq_gR Ih36.1 rfl (ty_sps ht0) (by omega) (by decide) rfl ?_
    refine hq_p rfl rfl ?_
    refine hq_p rfl rfl (ty_ge (n := 26) nk_b26 (fun z38 ez38 => ?_))
    refine hq_p rfl rfl (ty_ge (n := z13.toInt + z38.toInt) (nm_add (by omega) (by omega)) (fun z39 ez39 => ?_))
    refine ty_aL Ih36 rfl (ty_sps1 ht0) (by omega) (by omega) (by omega) (fun i e => ty_le (lo := -2147483648) (hi := 2147483647) ((ty_spa1 ht0 i).trans (by rw [show i % 28 = 26 by omega]; try rfl))) (fun z40 ez40 az40 bz40 => ?_)
    refine ty_aS (W := ty_Wc) H Jh36 rfl (ty_trs9 ht1) (by omega) (by omega) (by omega) (fun i e => by unfold ty_Wc; omega) (fun i _ => ty_eg (ty_tra9 ht1 i)) (by omega) (by omega) (fun e1 e2 w => by omega) (fun h41 eh41 Jh41 => ?_)
    have Ih41 := H.1 h41 Jh41
    refine hq_p rfl rfl ?_
    refine hq_gR Ih41.1 rfl (ty_sps ht0) (by omega) (by decide) rfl ?_
    refine hq_p rfl rfl ?_
    refine hq_p rfl rfl (ty_ge (n := 27) nk_b27 (fun z42 ez42 => ?_))
    refine hq_p rfl rfl (ty_ge (n := z13.toInt + z42.toInt) (nm_add (by omega) (by omega)) (fun z43 ez43 => ?_))
    refine ty_aL Ih41 rfl (ty_sps1 ht0) (by omega) (by omega) (by omega) (fun i e => ty_le (lo := -2147483648) (hi := 2147483647) ((ty_spa1 ht0 i).trans (by rw [show i % 28 = 27 by omega]; try rfl))) (fun z44 ez44 az44 bz44 => ?_)
    exact hq_W.ret rfl rfl rfl ⟨Jh41, _, rfl, by omega, by omega⟩
  · refine hq_p rfl rfl (ty_ge (n := -3) nk_bm3 (fun z45 ez45 => ?_))
    exact hq_W.ret rfl rfl rfl ⟨hJ, _, rfl, by omega, by omega⟩
theorem ct_56 {X : pm_X} {d : Nat} {h : pm_H} {t0 : Nat} {t1 : Nat} (hd : 1 ≤ d) (ht0 : ty_sp t0) (ht1 : ty_sp t1) : ty_M X ty_Wc d 56 [.ref t0, .ref t1] h ty_pv := by
  intro J H hJ
  obtain ⟨d, rfl⟩ : ∃ e, d = e + 1 := ⟨d - 1, by omega⟩
  have I := H.1 h hJ
  have lt0 := ty_spl ht0
  have lt1 := ty_spl ht1
  refine hq_M.enter (q := (⟨"TrainBearers$Steps", "copyFrom", "(LTrainBearers$Steps;)V"⟩, _, 2, none, 5, 2, pm_c56)) rfl rfl ?_
  show hq_W X d 5 false (none) pm_c56 (0, [some (.ref t0), some (.ref t1)], [], h) (fun h' v => J h' ∧ ty_pv h' v)
  refine hq_p rfl rfl ?_
  refine hq_p rfl rfl ?_
  refine ty_gI I rfl (ty_sps ht1) (by omega) (by decide) rfl (ty_spf1 ht1) (fun z1 ez1 az1 bz1 => ?_)
  refine ty_pI (W := ty_Wc) H hJ rfl (ty_sps ht0) (by omega) rfl rfl (by unfold ty_Wc; omega) (ty_spf1 ht0) (by omega) (by omega) (fun h2 eh2 Jh2 => ?_)
  have wh2 : (hs_fI h2 t0 1).toInt = z1.toInt := by rw [eh2]; exact congrArg Int32.toInt (ty_fI_eq I.1 (ty_sps ht0) (by omega) rfl)
  have Ih2 := H.1 h2 Jh2
  refine hq_p rfl rfl ?_
  refine hq_p rfl rfl ?_
  refine ty_gI Ih2 rfl (ty_sps ht1) (by omega) (by decide) rfl (ty_spf2 ht1) (fun z3 ez3 az3 bz3 => ?_)
  refine ty_pI (W := ty_Wc) H Jh2 rfl (ty_sps ht0) (by omega) rfl rfl (by unfold ty_Wc; omega) (ty_spf2 ht0) (by omega) (by omega) (fun h4 eh4 Jh4 => ?_)
  have wh4 : (hs_fI h4 t0 2).toInt = z3.toInt := by rw [eh4]; exact congrArg Int32.toInt (ty_fI_eq Ih2.1 (ty_sps ht0) (by omega) rfl)
  have Ih4 := H.1 h4 Jh4
  refine hq_p rfl rfl ?_
  refine hq_gR Ih4.1 rfl (ty_sps ht1) (by omega) (by decide) rfl ?_
  refine hq_p rfl rfl (ty_ge (n := 0) nk_i0 (fun z5 ez5 => ?_))
  refine hq_p rfl rfl ?_
  refine hq_gR Ih4.1 rfl (ty_sps ht0) (by omega) (by decide) rfl ?_
  refine hq_p rfl rfl (ty_ge (n := 0) nk_i0 (fun z6 ez6 => ?_))
  refine hq_p rfl rfl ?_
  refine hq_gR Ih4.1 rfl (ty_sps ht0) (by omega) (by decide) rfl ?_
  refine hq_alen rfl (hs_iarr Ih4.1 (ty_sps1 ht0) (by omega)) rfl (ty_ge (c := Int32.ofNat 448) (n := 448) (by decide) (fun z7 ez7 => ?_))
  refine ty_cpy (W := ty_Wc) H Jh4 rfl (ty_sps1 ht0) (by omega) (ty_sps1 ht1) (by omega) (by omega) (by omega) (by omega) (by omega) (by omega) (by omega) (fun i _ _ => by unfold ty_Wc; omega) (fun i _ => by rw [ty_spa1 ht0, ty_spa1 ht1, show z6.toInt.toNat + i = i by omega, show z5.toInt.toNat + i = i by omega]; exact ⟨Int.le_refl _, Int.le_refl _⟩) rfl (fun h8 Jh8 => ?_)
  have Ih8 := H.1 h8 Jh8
  exact hq_W.ret rfl rfl rfl ⟨Jh8, rfl⟩
theorem ct_68 {X : pm_X} {d : Nat} {h : pm_H} {t0 : Nat} {t1 : Nat} (hd : 1 ≤ d) (ht0 : ty_tr t0) (ht1 : ty_tr t1) : ty_M X ty_Wc d 68 [.ref t0, .ref t1] h ty_pv := by
  intro J H hJ
  obtain ⟨d, rfl⟩ : ∃ e, d = e + 1 := ⟨d - 1, by omega⟩
  have I := H.1 h hJ
  have lt0 := ty_trl ht0
  have lt1 := ty_trl ht1
  refine hq_M.enter (q := (⟨"TrainBearers$Train", "copyFrom", "(LTrainBearers$Train;)V"⟩, _, 3, none, 8, 2, pm_c68)) rfl rfl ?_
  show hq_W X d 8 false (none) pm_c68 (0, [some (.ref t0), some (.ref t1), none], [], h) (fun h' v => J h' ∧ ty_pv h' v)
  refine hq_p rfl rfl ?_
  refine hq_p rfl rfl ?_
  refine ty_gI I rfl (ty_trs ht1) (by omega) (by decide) rfl (ty_trf ht1 0) (fun z1 ez1 az1 bz1 => ?_)
  refine ty_pI (W := ty_Wc) H hJ rfl (ty_trs ht0) (by omega) rfl rfl (by unfold ty_Wc; omega) (ty_trf ht0 0) (by omega) (by omega) (fun h2 eh2 Jh2 => ?_)
  have wh2 : (hs_fI h2 t0 0).toInt = z1.toInt := by rw [eh2]; exact congrArg Int32.toInt (ty_fI_eq I.1 (ty_trs ht0) (by omega) rfl)
  have Ih2 := H.1 h2 Jh2
  refine hq_p rfl rfl ?_
  refine hq_p rfl rfl ?_
  refine ty_gI Ih2 rfl (ty_trs ht1) (by omega) (by decide) rfl (ty_trf ht1 3) (fun z3 ez3 az3 bz3 => ?_)
  refine ty_pI (W := ty_Wc) H Jh2 rfl (ty_trs ht0) (by omega) rfl rfl (by unfold ty_Wc; omega) (ty_trf ht0 3) (by omega) (by omega) (fun h4 eh4 Jh4 => ?_)
  have wh4 : (hs_fI h4 t0 3).toInt = z3.toInt := by rw [eh4]; exact congrArg Int32.toInt (ty_fI_eq Ih2.1 (ty_trs ht0) (by omega) rfl)
  have Ih4 := H.1 h4 Jh4
  refine hq_p rfl rfl ?_
  refine hq_p rfl rfl ?_
  refine ty_gI Ih4 rfl (ty_trs ht1) (by omega) (by decide) rfl (ty_trf ht1 8) (fun z5 ez5 az5 bz5 => ?_)
  refine ty_pI (W := ty_Wc) H Jh4 rfl (ty_trs ht0) (by omega) rfl rfl (by unfold ty_Wc; omega) (ty_trf ht0 8) (by omega) (by omega) (fun h6 eh6 Jh6 => ?_)
  have wh6 : (hs_fI h6 t0 8).toInt = z5.toInt := by rw [eh6]; exact congrArg Int32.toInt (ty_fI_eq Ih4.1 (ty_trs ht0) (by omega) rfl)
  have Ih6 := H.1 h6 Jh6
  refine hq_p rfl rfl ?_
  refine hq_p rfl rfl ?_
  refine ty_gI Ih6 rfl (ty_trs ht1) (by omega) (by decide) rfl (ty_trf ht1 9) (fun z7 ez7 az7 bz7 => ?_)
  refine ty_pI (W := ty_Wc) H Jh6 rfl (ty_trs ht0) (by omega) rfl rfl (by unfold ty_Wc; omega) (ty_trf ht0 9) (by omega) (by omega) (fun h8 eh8 Jh8 => ?_)
  have wh8 : (hs_fI h8 t0 9).toInt = z7.toInt := by rw [eh8]; exact congrArg Int32.toInt (ty_fI_eq Ih6.1 (ty_trs ht0) (by omega) rfl)
  have Ih8 := H.1 h8 Jh8
  refine hq_p rfl rfl ?_
  refine hq_p rfl rfl ?_
  refine ty_gI Ih8 rfl (ty_trs ht1) (by omega) (by decide) rfl (ty_trf ht1 10) (fun z9 ez9 az9 bz9 => ?_)
  refine ty_pI (W := ty_Wc) H Jh8 rfl (ty_trs ht0) (by omega) rfl rfl (by unfold ty_Wc; omega) (ty_trf ht0 10) (by omega) (by omega) (fun h10 eh10 Jh10 => ?_)
  have wh10 : (hs_fI h10 t0 10).toInt = z9.toInt := by rw [eh10]; exact congrArg Int32.toInt (ty_fI_eq Ih8.1 (ty_trs ht0) (by omega) rfl)
  have Ih10 := H.1 h10 Jh10
  refine hq_p rfl rfl ?_
  refine hq_p rfl rfl ?_
  refine ty_gI Ih10 rfl (ty_trs ht1) (by omega) (by decide) rfl (ty_trf ht1 14) (fun z11 ez11 az11 bz11 => ?_)
  refine ty_pI (W := ty_Wc) H Jh10 rfl (ty_trs ht0) (by omega) rfl rfl (by unfold ty_Wc; omega) (ty_trf ht0 14) (by omega) (by omega) (fun h12 eh12 Jh12 => ?_)
  have wh12 : (hs_fI h12 t0 14).toInt = z11.toInt := by rw [eh12]; exact congrArg Int32.toInt (ty_fI_eq Ih10.1 (ty_trs ht0) (by omega) rfl)
  have Ih12 := H.1 h12 Jh12
  refine hq_p rfl rfl ?_
  refine hq_p rfl rfl ?_
  refine ty_gI Ih12 rfl (ty_trs ht1) (by omega) (by decide) rfl (ty_trf ht1 16) (fun z13 ez13 az13 bz13 => ?_)
  refine ty_pI (W := ty_Wc) H Jh12 rfl (ty_trs ht0) (by omega) rfl rfl (by unfold ty_Wc; omega) (ty_trf ht0 16) (by omega) (by omega) (fun h14 eh14 Jh14 => ?_)
  have wh14 : (hs_fI h14 t0 16).toInt = z13.toInt := by rw [eh14]; exact congrArg Int32.toInt (ty_fI_eq Ih12.1 (ty_trs ht0) (by omega) rfl)
  have Ih14 := H.1 h14 Jh14
  refine hq_p rfl rfl ?_
  refine hq_gR Ih14.1 rfl (ty_trs ht1) (by omega) (by decide) rfl ?_
  refine hq_p rfl rfl (ty_ge (n := 0) nk_i0 (fun z15 ez15 => ?_))
  refine hq_p rfl rfl ?_
  refine hq_gR Ih14.1 rfl (ty_trs ht0) (by omega) (by decide) rfl ?_
  refine hq_p rfl rfl (ty_ge (n := 0) nk_i0 (fun z16 ez16 => ?_))
  refine hq_p rfl rfl (ty_ge (n := 8) nk_b8 (fun z17 ez17 => ?_))
  refine ty_cpy (W := ty_Wc) H Jh14 rfl (ty_trs1 ht0) (by omega) (ty_trs1 ht1) (by omega) (by omega) (by omega) (by omega) (by omega) (by omega) (by omega) (fun i _ _ => by unfold ty_Wc; omega) (fun i _ => ty_pe ((ty_tra1 ht0 _).trans (ty_tra1 ht1 _).symm)) rfl (fun h18 Jh18 => ?_)
  have Ih18 := H.1 h18 Jh18
  refine hq_p rfl rfl ?_
  refine hq_gR Ih18.1 rfl (ty_trs ht1) (by omega) (by decide) rfl ?_
  refine hq_p rfl rfl (ty_ge (n := 0) nk_i0 (fun z19 ez19 => ?_))
  refine hq_p rfl rfl ?_
  refine hq_gR Ih18.1 rfl (ty_trs ht0) (by omega) (by decide) rfl ?_
  refine hq_p rfl rfl (ty_ge (n := 0) nk_i0 (fun z20 ez20 => ?_))
  refine hq_p rfl rfl (ty_ge (n := 8) nk_b8 (fun z21 ez21 => ?_))
  refine ty_cpy (W := ty_Wc) H Jh18 rfl (ty_trs2 ht0) (by omega) (ty_trs2 ht1) (by omega) (by omega) (by omega) (by omega) (by omega) (by omega) (by omega) (fun i _ _ => by unfold ty_Wc; omega) (fun i _ => ty_pe ((ty_tra2 ht0 _).trans (ty_tra2 ht1 _).symm)) rfl (fun h22 Jh22 => ?_)
  have Ih22 := H.1 h22 Jh22
  refine hq_p rfl rfl ?_
  refine hq_gR Ih22.1 rfl (ty_trs ht1) (by omega) (by decide) rfl ?_
  refine hq_p rfl rfl (ty_ge (n := 0) nk_i0 (fun z23 ez23 => ?_))
  refine hq_p rfl rfl ?_
  refine hq_gR Ih22.1 rfl (ty_trs ht0) (by omega) (by decide) rfl ?_
  refine hq_p rfl rfl (ty_ge (n := 0) nk_i0 (fun z24 ez24 => ?_))
  refine hq_p rfl rfl (ty_ge (n := 8) nk_b8 (fun z25 ez25 => ?_))
  refine ty_cpy (W := ty_Wc) H Jh22 rfl (ty_trs3 ht0) (by omega) (ty_trs3 ht1) (by omega) (by omega) (by omega) (by omega) (by omega) (by omega) (by omega) (fun i _ _ => by unfold ty_Wc; omega) (fun i _ => ty_pe ((ty_tra3 ht0 _).trans (ty_tra3 ht1 _).symm)) rfl (fun h26 Jh26 => ?_)
  have Ih26 := H.1 h26 Jh26
  refine hq_p rfl rfl ?_
  refine hq_gR Ih26.1 rfl (ty_trs ht1) (by omega) (by decide) rfl ?_
  refine hq_p rfl rfl (ty_ge (n := 0) nk_i0 (fun z27 ez27 => ?_))
  refine hq_p rfl rfl ?_
  refine hq_gR Ih26.1 rfl (ty_trs ht0) (by omega) (by decide) rfl ?_
  refine hq_p rfl rfl (ty_ge (n := 0) nk_i0 (fun z28 ez28 => ?_))
  refine hq_p rfl rfl (ty_ge (n := 8) nk_b8 (fun z29 ez29 => ?_))
  refine ty_cpy (W := ty_Wc) H Jh26 rfl (ty_trs4 ht0) (by omega) (ty_trs4 ht1) (by omega) (by omega) (by omega) (by omega) (by omega) (by omega) (by omega) (fun i _ _ => by unfold ty_Wc; omega) (fun i _ => ty_pe ((ty_tra4 ht0 _).trans (ty_tra4 ht1 _).symm)) rfl (fun h30 Jh30 => ?_)
  have Ih30 := H.1 h30 Jh30
  refine hq_p rfl rfl ?_
  refine hq_gR Ih30.1 rfl (ty_trs ht1) (by omega) (by decide) rfl ?_
  refine hq_p rfl rfl (ty_ge (n := 0) nk_i0 (fun z31 ez31 => ?_))
  refine hq_p rfl rfl ?_
  refine hq_gR Ih30.1 rfl (ty_trs ht0) (by omega) (by decide) rfl ?_
  refine hq_p rfl rfl (ty_ge (n := 0) nk_i0 (fun z32 ez32 => ?_))
  refine hq_p rfl rfl (ty_ge (n := 8) nk_b8 (fun z33 ez33 => ?_))
  refine ty_cpy (W := ty_Wc) H Jh30 rfl (ty_trs5 ht0) (by omega) (ty_trs5 ht1) (by omega) (by omega) (by omega) (by omega) (by omega) (by omega) (by omega) (fun i _ _ => by unfold ty_Wc; omega) (fun i _ => ty_pe ((ty_tra5 ht0 _).trans (ty_tra5 ht1 _).symm)) rfl (fun h34 Jh34 => ?_)
  have Ih34 := H.1 h34 Jh34
  refine hq_p rfl rfl ?_
  refine hq_gR Ih34.1 rfl (ty_trs ht1) (by omega) (by decide) rfl ?_
  refine hq_p rfl rfl (ty_ge (n := 0) nk_i0 (fun z35 ez35 => ?_))
  refine hq_p rfl rfl ?_
  refine hq_gR Ih34.1 rfl (ty_trs ht0) (by omega) (by decide) rfl ?_
  refine hq_p rfl rfl (ty_ge (n := 0) nk_i0 (fun z36 ez36 => ?_))
  refine hq_p rfl rfl (ty_ge (n := 36) nk_b36 (fun z37 ez37 => ?_))
  refine ty_cpy (W := ty_Wc) H Jh34 rfl (ty_trs6 ht0) (by omega) (ty_trs6 ht1) (by omega) (by omega) (by omega) (by omega) (by omega) (by omega) (by omega) (fun i _ _ => by unfold ty_Wc; omega) (fun i _ => ty_pe ((ty_tra6 ht0 _).trans (ty_tra6 ht1 _).symm)) rfl (fun h38 Jh38 => ?_)
  have Ih38 := H.1 h38 Jh38
  refine hq_p rfl rfl ?_
  refine hq_gR Ih38.1 rfl (ty_trs ht1) (by omega) (by decide) rfl ?_
  refine hq_p rfl rfl (ty_ge (n := 0) nk_i0 (fun z39 ez39 => ?_))
  refine hq_p rfl rfl ?_
  refine hq_gR Ih38.1 rfl (ty_trs ht0) (by omega) (by decide) rfl ?_
  refine hq_p rfl rfl (ty_ge (n := 0) nk_i0 (fun z40 ez40 => ?_))
  refine hq_p rfl rfl (ty_ge (n := 6) nk_b6 (fun z41 ez41 => ?_))
  refine ty_cpy (W := ty_Wc) H Jh38 rfl (ty_trs7 ht0) (by omega) (ty_trs7 ht1) (by omega) (by omega) (by omega) (by omega) (by omega) (by omega) (by omega) (fun i _ _ => by unfold ty_Wc; omega) (fun i _ => ty_pe ((ty_tra7 ht0 _).trans (ty_tra7 ht1 _).symm)) rfl (fun h42 Jh42 => ?_)
  have Ih42 := H.1 h42 Jh42
  refine hq_p rfl rfl ?_
  refine hq_gR Ih42.1 rfl (ty_trs ht1) (by omega) (by decide) rfl ?_
  refine hq_p rfl rfl (ty_ge (n := 0) nk_i0 (fun z43 ez43 => ?_))
  refine hq_p rfl rfl ?_
  refine hq_gR Ih42.1 rfl (ty_trs ht0) (by omega) (by decide) rfl ?_
  refine hq_p rfl rfl (ty_ge (n := 0) nk_i0 (fun z44 ez44 => ?_))
  refine hq_p rfl rfl (ty_ge (n := 6) nk_b6 (fun z45 ez45 => ?_))
  refine ty_cpy (W := ty_Wc) H Jh42 rfl (ty_trs8 ht0) (by omega) (ty_trs8 ht1) (by omega) (by omega) (by omega) (by omega) (by omega) (by omega) (by omega) (fun i _ _ => by unfold ty_Wc; omega) (fun i _ => ty_pe ((ty_tra8 ht0 _).trans (ty_tra8 ht1 _).symm)) rfl (fun h46 Jh46 => ?_)
  have Ih46 := H.1 h46 Jh46
  refine hq_p rfl rfl ?_
  refine hq_gR Ih46.1 rfl (ty_trs ht1) (by omega) (by decide) rfl ?_
  refine hq_p rfl rfl (ty_ge (n := 0) nk_i0 (fun z47 ez47 => ?_))
  refine hq_p rfl rfl ?_
  refine hq_gR Ih46.1 rfl (ty_trs ht0) (by omega) (by decide) rfl ?_
  refine hq_p rfl rfl (ty_ge (n := 0) nk_i0 (fun z48 ez48 => ?_))
  refine hq_p rfl rfl ?_
  refine hq_gR Ih46.1 rfl (ty_trs ht0) (by omega) (by decide) rfl ?_
  refine hq_alen rfl (hs_iarr Ih46.1 (ty_trs9 ht0) (by omega)) rfl (ty_ge (c := Int32.ofNat 3) (n := 3) (by decide) (fun z49 ez49 => ?_))
  refine ty_cpy (W := ty_Wc) H Jh46 rfl (ty_trs9 ht0) (by omega) (ty_trs9 ht1) (by omega) (by omega) (by omega) (by omega) (by omega) (by omega) (by omega) (fun i _ _ => by unfold ty_Wc; omega) (fun i _ => ty_pe ((ty_tra9 ht0 _).trans (ty_tra9 ht1 _).symm)) rfl (fun h50 Jh50 => ?_)
  have Ih50 := H.1 h50 Jh50
  refine hq_p rfl rfl (ty_ge (n := 0) nk_i0 (fun z51 ez51 => ?_))
  refine hq_p (ls' := [some (.ref t0), some (.ref t1), some (.int z51)]) rfl rfl ?_
  have L196_n70 : ∀ n70 : Nat, ∀ (y66 : Int32) (h67 : pm_H), (6 - y66.toInt).toNat = n70 → 0 ≤ y66.toInt → y66.toInt ≤ 6 → J h67 → hq_W X d 8 false (none) pm_c68 (196, [some (.ref t0), some (.ref t1), some (.int y66)], [], h67) (fun h' v => J h' ∧ ty_pv h' v) := by
    intro n70
    induction n70 using Nat.strongRecOn with
    | ind n70 ihn70 =>
      intro y66 h67 mn70 ay66 by66 Jh67
      have Ih67 := H.1 h67 Jh67
      refine hq_p rfl rfl ?_
      refine hq_p rfl rfl (ty_ge (n := 6) nk_b6 (fun z71 ez71 => ?_))
      refine ty_ige rfl (fun c72 => ?_) (fun c72 => ?_)
      · exact hq_W.ret rfl rfl rfl ⟨Jh67, rfl⟩
      · refine hq_p rfl rfl ?_
        refine hq_gR Ih67.1 rfl (ty_trs ht0) (by omega) (by decide) rfl ?_
        refine hq_p rfl rfl ?_
        refine hq_p rfl rfl ?_
        refine hq_gR Ih67.1 rfl (ty_trs ht1) (by omega) (by decide) rfl ?_
        refine hq_p rfl rfl ?_
        refine ty_rL Ih67 ht1 rfl (by omega) (by omega) (fun v73 xv73 => ?_)
        refine ty_rS (W := ty_Wc) H Jh67 ht0 rfl (by omega) (by omega) (fun i => by unfold ty_Wc; omega) xv73 (fun h74 eh74 Jh74 => ?_)
        have Ih74 := H.1 h74 Jh74
        refine ty_inc (ls' := fun z75 => [some (.ref t0), some (.ref t1), some (.int z75)]) rfl rfl (fun _ => rfl) (nm_addc nk_i1 (by omega) (by omega)) (fun z75 ez75 => ?_)
        refine hq_p rfl rfl ?_
        exact ihn70 ((6 - z75.toInt).toNat) (by omega) z75 h74 rfl (by omega) (by omega) Jh74
  exact L196_n70 _ z51 h50 rfl (by omega) (by omega) Jh50
theorem ct_12 {X : pm_X} {d : Nat} {h : pm_H} {t1 : Nat} {x2 : Int32} {x3 : Int32} (hd : 2 ≤ d) (ht1 : ty_tr t1) (ax2 : 0 ≤ x2.toInt) (bx2 : x2.toInt ≤ 5) : ty_M X ty_Wc d 12 [.ref 76, .ref t1, .int x2, .int x3] h ty_pv := by
  intro J H hJ
  obtain ⟨d, rfl⟩ : ∃ e, d = e + 1 := ⟨d - 1, by omega⟩
  have I := H.1 h hJ
  have lt1 := ty_trl ht1
  have ax3 := nm_lo x3
  have bx3 := nm_hi x3
  refine hq_M.enter (q := (⟨"TrainBearers$Deeds", "goThere", "(LTrainBearers$Train;II)V"⟩, _, 5, none, 1, 4, pm_c12)) rfl rfl ?_
  show hq_W X d 1 false (none) pm_c12 (0, [some (.ref 76), some (.ref t1), some (.int x2), some (.int x3), none], [], h) (fun h' v => J h' ∧ ty_pv h' v)
  refine hq_p rfl rfl (ty_ge (n := 0) nk_i0 (fun z1 ez1 => ?_))
  refine hq_p (ls' := [some (.ref 76), some (.ref t1), some (.int x2), some (.int x3), some (.int z1)]) rfl rfl ?_
  have L3_n24 : ∀ n24 : Nat, ∀ (y20 : Int32) (h21 : pm_H), (8 - y20.toInt).toNat = n24 → 0 ≤ y20.toInt → y20.toInt ≤ 8 → J h21 → hq_W X d 1 false (none) pm_c12 (3, [some (.ref 76), some (.ref t1), some (.int x2), some (.int x3), some (.int y20)], [], h21) (fun h' v => J h' ∧ ty_pv h' v) := by
    intro n24
    induction n24 using Nat.strongRecOn with
    | ind n24 ihn24 =>
      intro y20 h21 mn24 ay20 by20 Jh21
      have Ih21 := H.1 h21 Jh21
      refine hq_p rfl rfl ?_
      refine hq_p rfl rfl ?_
      refine ty_gI Ih21 rfl (ty_trs ht1) (by omega) (by decide) rfl (ty_trf ht1 0) (fun z25 ez25 az25 bz25 => ?_)
      refine ty_ige rfl (fun c26 => ?_) (fun c26 => ?_)
      · refine hq_p rfl rfl (ty_ge (n := 0) nk_i0 (fun z27 ez27 => ?_))
        refine hq_p (ls' := [some (.ref 76), some (.ref t1), some (.int x2), some (.int x3), some (.int z27)]) rfl rfl ?_
        have L52_n50 : ∀ n50 : Nat, ∀ (y46 : Int32) (h47 : pm_H), (8 - y46.toInt).toNat = n50 → 0 ≤ y46.toInt → y46.toInt ≤ 8 → J h47 → hq_W X d 1 false (none) pm_c12 (52, [some (.ref 76), some (.ref t1), some (.int x2), some (.int x3), some (.int y46)], [], h47) (fun h' v => J h' ∧ ty_pv h' v) := by
          intro n50
          induction n50 using Nat.strongRecOn with
          | ind n50 ihn50 =>
            intro y46 h47 mn50 ay46 by46 Jh47
            have Ih47 := H.1 h47 Jh47
            refine hq_p rfl rfl ?_
            refine hq_p rfl rfl ?_
            refine ty_gI Ih47 rfl (ty_trs ht1) (by omega) (by decide) rfl (ty_trf ht1 3) (fun z51 ez51 az51 bz51 => ?_)
            refine ty_ige rfl (fun c52 => ?_) (fun c52 => ?_)
            · refine hq_p rfl rfl ?_
              refine hq_p rfl rfl (ty_ge (n := 9999) nk_s9999 (fun z53 ez53 => ?_))
              refine hq_p rfl rfl ?_
              refine ty_gI Ih47 rfl (ty_trs ht1) (by omega) (by decide) rfl (ty_trf ht1 9) (fun z54 ez54 az54 bz54 => ?_)
              refine hq_p rfl rfl ?_
              refine hq_p rfl rfl (ty_ga (fun z55 az55 bz55 => ?_))
              refine ty_callp 1 Ih47 rfl (fun _ => rfl) rfl rfl rfl rfl (ct_259 (x0 := z53) (x1 := z55) (by omega)) (fun _ P56 => ?_)
              obtain ⟨z57, rfl, fz57, dz57, oz57⟩ := P56
              have iz57 : -2147483648 ≤ z57.toInt ∧ z57.toInt ≤ 9999 := by omega
              clear oz57
              refine ty_pI (W := ty_Wc) H Jh47 rfl (ty_trs ht1) (by omega) rfl rfl (by unfold ty_Wc; omega) (ty_trf ht1 9) (by omega) (by omega) (fun h58 eh58 Jh58 => ?_)
              have wh58 : (hs_fI h58 t1 9).toInt = z57.toInt := by rw [eh58]; exact congrArg Int32.toInt (ty_fI_eq Ih47.1 (ty_trs ht1) (by omega) rfl)
              have Ih58 := H.1 h58 Jh58
              refine hq_p rfl rfl ?_
              refine hq_p rfl rfl ?_
              refine ty_pI (W := ty_Wc) H Jh58 rfl (ty_trs ht1) (by omega) rfl rfl (by unfold ty_Wc; omega) (ty_trf ht1 8) (by omega) (by omega) (fun h59 eh59 Jh59 => ?_)
              have wh59 : (hs_fI h59 t1 8).toInt = x2.toInt := by rw [eh59]; exact congrArg Int32.toInt (ty_fI_eq Ih58.1 (ty_trs ht1) (by omega) rfl)
              have Ih59 := H.1 h59 Jh59
              exact hq_W.ret rfl rfl rfl ⟨Jh59, rfl⟩
            · refine hq_p rfl rfl ?_
              refine hq_gR Ih47.1 rfl (ty_trs ht1) (by omega) (by decide) rfl ?_
              refine hq_p rfl rfl ?_
              refine hq_p rfl rfl (ty_ge (n := 9) nk_b9 (fun z60 ez60 => ?_))
              refine hq_p rfl rfl ?_
              refine hq_gR Ih47.1 rfl (ty_trs ht1) (by omega) (by decide) rfl ?_
              refine hq_p rfl rfl ?_
              refine ty_aL Ih47 rfl (ty_trs4 ht1) (by omega) (by omega) (by omega) (fun i _ => ty_le (ty_tra4 ht1 i)) (fun z61 ez61 az61 bz61 => ?_)
              refine hq_p rfl rfl ?_
              refine hq_gR Ih47.1 rfl rfl (by decide) (by decide) rfl ?_
              refine hq_p rfl rfl ?_
              refine ty_aL Ih47 rfl rfl (by decide) (by omega) (by omega) (fun _ _ => ty_le rfl) (fun z62 ez62 az62 bz62 => ?_)
              refine hq_p rfl rfl (ty_ga (fun z63 az63 bz63 => ?_))
              refine ty_callp 1 Ih47 rfl (fun _ => rfl) rfl rfl rfl rfl (ct_259 (x0 := z60) (x1 := z63) (by omega)) (fun _ P64 => ?_)
              obtain ⟨z65, rfl, fz65, dz65, oz65⟩ := P64
              have iz65 : -2147483648 ≤ z65.toInt ∧ z65.toInt ≤ 9 := by omega
              clear oz65
              refine ty_aS (W := ty_Wc) H Jh47 rfl (ty_trs4 ht1) (by omega) (by omega) (by omega) (fun i e => by unfold ty_Wc; omega) (fun i _ => ty_eg (ty_tra4 ht1 i)) (by omega) (by omega) (fun e1 e2 w => by omega) (fun h66 eh66 Jh66 => ?_)
              have Ih66 := H.1 h66 Jh66
              refine ty_inc (ls' := fun z67 => [some (.ref 76), some (.ref t1), some (.int x2), some (.int x3), some (.int z67)]) rfl rfl (fun _ => rfl) (nm_addc nk_i1 (by omega) (by omega)) (fun z67 ez67 => ?_)
              refine hq_p rfl rfl ?_
              exact ihn50 ((8 - z67.toInt).toNat) (by omega) z67 h66 rfl (by omega) (by omega) Jh66
        exact L52_n50 _ z27 h21 rfl (by omega) (by omega) Jh21
      · refine hq_p rfl rfl ?_
        refine hq_gR Ih21.1 rfl rfl (by decide) (by decide) rfl ?_
        refine hq_p rfl rfl ?_
        refine ty_aL Ih21 rfl rfl (by decide) (by omega) (by omega) (fun _ _ => ty_le rfl) (fun z68 ez68 az68 bz68 => ?_)
        refine ty_zle rfl (fun c69 => ?_) (fun c69 => ?_)
        · refine ty_inc (ls' := fun z70 => [some (.ref 76), some (.ref t1), some (.int x2), some (.int x3), some (.int z70)]) rfl rfl (fun _ => rfl) (nm_addc nk_i1 (by omega) (by omega)) (fun z70 ez70 => ?_)
          refine hq_p rfl rfl ?_
          exact ihn24 ((8 - z70.toInt).toNat) (by omega) z70 h21 rfl (by omega) (by omega) Jh21
        · refine hq_p rfl rfl ?_
          refine hq_gR Ih21.1 rfl (ty_trs ht1) (by omega) (by decide) rfl ?_
          refine hq_p rfl rfl ?_
          refine hq_p rfl rfl (ty_ge (n := 9) nk_b9 (fun z71 ez71 => ?_))
          refine hq_p rfl rfl ?_
          refine hq_gR Ih21.1 rfl (ty_trs ht1) (by omega) (by decide) rfl ?_
          refine hq_p rfl rfl ?_
          refine ty_aL Ih21 rfl (ty_trs2 ht1) (by omega) (by omega) (by omega) (fun i _ => ty_le (ty_tra2 ht1 i)) (fun z72 ez72 az72 bz72 => ?_)
          refine hq_p rfl rfl (ty_ge (n := 1) nk_i1 (fun z73 ez73 => ?_))
          refine hq_p rfl rfl (ty_ga (fun z74 az74 bz74 => ?_))
          refine ty_callp 1 Ih21 rfl (fun _ => rfl) rfl rfl rfl rfl (ct_259 (x0 := z71) (x1 := z74) (by omega)) (fun _ P75 => ?_)
          obtain ⟨z76, rfl, fz76, dz76, oz76⟩ := P75
          have iz76 : -2147483648 ≤ z76.toInt ∧ z76.toInt ≤ 9 := by omega
          clear oz76
          refine ty_aS (W := ty_Wc) H Jh21 rfl (ty_trs2 ht1) (by omega) (by omega) (by omega) (fun i e => by unfold ty_Wc; omega) (fun i _ => ty_eg (ty_tra2 ht1 i)) (by omega) (by omega) (fun e1 e2 w => by omega) (fun h77 eh77 Jh77 => ?_)
          have Ih77 := H.1 h77 Jh77
          refine ty_inc (ls' := fun z78 => [some (.ref 76), some (.ref t1), some (.int x2), some (.int x3), some (.int z78)]) rfl rfl (fun _ => rfl) (nm_addc nk_i1 (by omega) (by omega)) (fun z78 ez78 => ?_)
          refine hq_p rfl rfl ?_
          exact ihn24 ((8 - z78.toInt).toNat) (by omega) z78 h77 rfl (by omega) (by omega) Jh77
  exact L3_n24 _ z1 h rfl (by omega) (by omega) hJ
theorem ct_9 {X : pm_X} {d : Nat} {h : pm_H} {t1 : Nat} {t2 : Nat} {x3 : Int32} {x4 : Int32} (hd : 6 ≤ d) (ht1 : ty_tr t1) (ht2 : ty_sp t2) : ty_M X ty_Wc d 9 [.ref 76, .ref t1, .ref t2, .int x3, .int x4] h (ty_pi (-3) 2147483647) := by
  intro J H hJ
  obtain ⟨d, rfl⟩ : ∃ e, d = e + 1 := ⟨d - 1, by omega⟩
  have I := H.1 h hJ
  have lt1 := ty_trl ht1
  have lt2 := ty_spl ht2
  have ax3 := nm_lo x3
  have bx3 := nm_hi x3
  have ax4 := nm_lo x4
  have bx4 := nm_hi x4
  refine hq_M.enter (q := (⟨"TrainBearers$Deeds", "takeHold", "(LTrainBearers$Train;LTrainBearers$Steps;II)I"⟩, _, 5, some .int, 1, 5, pm_c9)) rfl rfl ?_
  show hq_W X d 1 false (some .int) pm_c9 (0, [some (.ref 76), some (.ref t1), some (.ref t2), some (.int x3), some (.int x4)], [], h) (fun h' v => J h' ∧ (ty_pi (-3) 2147483647) h' v)
  refine hq_p rfl rfl ?_
  refine hq_p rfl rfl ?_
  refine ty_callp 0 I rfl (fun _ => rfl) rfl rfl rfl (hq_pre_o I.1 (x := t1) (ci := 8) (ty_trs ht1) (by omega) rfl rfl rfl rfl) (ct_70 (t0 := t1) (x1 := x3) (by omega) ht1) (fun _ P1 => ?_)
  obtain ⟨z2, rfl, az2, bz2, iz2⟩ := P1
  refine ty_zeq rfl (fun c3 => ?_) (fun c3 => ?_)
  · clear iz2
    refine hq_p rfl rfl (ty_ge (n := -2) nk_bm2 (fun z4 ez4 => ?_))
    exact hq_W.ret rfl rfl rfl ⟨hJ, _, rfl, by omega, by omega⟩
  · replace c3 : 1 ≤ z2.toInt ∧ z2.toInt ≤ 1 := by omega
    have f5 := iz2 (by omega)
    clear iz2
    refine hq_p rfl rfl ?_
    refine hq_p rfl rfl ?_
    refine ty_callp 0 I rfl (fun _ => rfl) rfl rfl rfl (hq_pre_o I.1 (x := t1) (ci := 8) (ty_trs ht1) (by omega) rfl rfl rfl rfl) (ct_69 (t0 := t1) (x1 := x4) (by omega) ht1) (fun _ P6 => ?_)
    obtain ⟨z7, rfl, az7, bz7, iz7⟩ := P6
    refine ty_zne rfl (fun c8 => ?_) (fun c8 => ?_)
    · replace c8 : 1 ≤ z7.toInt ∧ z7.toInt ≤ 1 := by omega
      have f9 := iz7 (by omega)
      clear iz7
      refine hq_p rfl rfl ?_
      refine hq_gR I.1 rfl (ty_trs ht1) (by omega) (by decide) rfl ?_
      refine hq_p rfl rfl ?_
      refine ty_aL I rfl (ty_trs5 ht1) (by omega) (by omega) (by omega) (fun i _ => ty_le (ty_tra5 ht1 i)) (fun z10 ez10 az10 bz10 => ?_)
      refine hq_p rfl rfl ?_
      refine ty_ieq rfl (fun c11 => ?_) (fun c11 => ?_)
      · refine hq_p rfl rfl (ty_ge (n := -3) nk_bm3 (fun z12 ez12 => ?_))
        exact hq_W.ret rfl rfl rfl ⟨hJ, _, rfl, by omega, by omega⟩
      · clear c11
        refine hq_p rfl rfl ?_
        refine hq_p rfl rfl ?_
        refine ty_callp 0 I rfl (fun _ => rfl) rfl rfl rfl (hq_pre_o I.1 (x := t1) (ci := 8) (ty_trs ht1) (by omega) rfl rfl rfl rfl) (ct_73 (t0 := t1) (x1 := x4) (by omega) ht1) (fun _ P13 => ?_)
        obtain ⟨z14, rfl, az14, bz14⟩ := P13
        refine ty_callp 1 I rfl (fun _ => rfl) rfl rfl rfl rfl (ct_257 (x0 := z14) (by omega)) (fun _ P15 => ?_)
        obtain ⟨z16, rfl, az16, bz16⟩ := P15
        refine hq_p rfl rfl (ty_ge (n := 2) nk_i2 (fun z17 ez17 => ?_))
        refine ty_ige rfl (fun c18 => ?_) (fun c18 => ?_)
        · refine hq_p rfl rfl (ty_ge (n := -3) nk_bm3 (fun z19 ez19 => ?_))
          exact hq_W.ret rfl rfl rfl ⟨hJ, _, rfl, by omega, by omega⟩
        · refine hq_p rfl rfl ?_
          refine hq_gR I.1 rfl rfl (by decide) (by decide) rfl ?_
          refine hq_p rfl rfl ?_
          refine hq_p rfl rfl ?_
          refine hq_p rfl rfl ?_
          refine ty_callj 0 (W := ty_Wc) H hJ rfl (fun _ => rfl) rfl rfl rfl (hq_pre_o I.1 (x := 77) (ci := 4) rfl (by decide) rfl rfl rfl rfl) (fun a k w => by unfold ty_Wu at w; unfold ty_Wc; omega) (by unfold ty_Wu ty_Wc; omega) (ct_45 (t0 := 77) (t1 := t1) (x2 := x3) (x3 := x4) (by omega) (show ty_ru 77 by simp [ty_ru]) ht1) (fun h21 _ Jh21 P20 => ?_)
          have Ih21 := H.1 h21 Jh21
          obtain ⟨z22, rfl, az22, bz22⟩ := P20
          refine ty_zeq rfl (fun c23 => ?_) (fun c23 => ?_)
          · refine hq_p rfl rfl ?_
            refine hq_p rfl rfl ?_
            refine hq_p rfl rfl (ty_ge (n := 0) nk_i0 (fun z24 ez24 => ?_))
            refine ty_callj 0 (W := ty_Wc) H Jh21 rfl (fun _ => rfl) rfl rfl rfl (hq_pre_o Ih21.1 (x := t2) (ci := 5) (ty_sps ht2) (by omega) rfl rfl rfl rfl) (fun _ _ w => w) (fun _ w => w) (ct_54 (t0 := t2) (t1 := t1) (x2 := z24) (by omega) ht2 ht1) (fun h26 _ Jh26 P25 => ?_)
            have Ih26 := H.1 h26 Jh26
            subst P25
            refine hq_p rfl rfl ?_
            refine hq_gR Ih26.1 rfl (ty_trs ht1) (by omega) (by decide) rfl ?_
            refine hq_p rfl rfl ?_
            refine hq_p rfl rfl ?_
            refine ty_aS (W := ty_Wc) H Jh26 rfl (ty_trs5 ht1) (by omega) (by omega) (by omega) (fun i e => by unfold ty_Wc; omega) (fun i _ => ty_eg (ty_tra5 ht1 i)) (by omega) (by omega) (fun e1 e2 w => by omega) (fun h27 eh27 Jh27 => ?_)
            have Ih27 := H.1 h27 Jh27
            refine hq_p rfl rfl ?_
            refine hq_gR Ih27.1 rfl rfl (by decide) (by decide) rfl ?_
            refine hq_p rfl rfl ?_
            refine hq_p rfl rfl ?_
            refine ty_callj 0 (W := ty_Wc) H Jh27 rfl (fun _ => rfl) rfl rfl rfl (hq_pre_o Ih27.1 (x := 77) (ci := 4) rfl (by decide) rfl rfl rfl rfl) (fun a k w => by unfold ty_Wu at w; unfold ty_Wc; omega) (by unfold ty_Wu ty_Wc; omega) (ct_48 (t0 := 77) (t1 := t1) (x2 := x4) (by omega) (show ty_ru 77 by simp [ty_ru]) ht1) (fun h29 _ Jh29 P28 => ?_)
            have Ih29 := H.1 h29 Jh29
            obtain ⟨z30, rfl, az30, bz30⟩ := P28
            exact hq_W.ret rfl rfl rfl ⟨Jh29, _, rfl, by omega, by omega⟩
          · replace c23 : 1 ≤ z22.toInt ∧ z22.toInt ≤ 1 := by omega
            refine hq_p rfl rfl (ty_ge (n := -3) nk_bm3 (fun z31 ez31 => ?_))
            exact hq_W.ret rfl rfl rfl ⟨Jh21, _, rfl, by omega, by omega⟩
    · clear iz7
      refine hq_p rfl rfl (ty_ge (n := -2) nk_bm2 (fun z32 ez32 => ?_))
      exact hq_W.ret rfl rfl rfl ⟨hJ, _, rfl, by omega, by omega⟩
theorem ct_10 {X : pm_X} {d : Nat} {h : pm_H} {t1 : Nat} {t2 : Nat} {x3 : Int32} (hd : 2 ≤ d) (ht1 : ty_tr t1) (ht2 : ty_sp t2) : ty_M X ty_Wc d 10 [.ref 76, .ref t1, .ref t2, .int x3] h (ty_pi (-2147483648) 2147483647) := by
  intro J H hJ
  obtain ⟨d, rfl⟩ : ∃ e, d = e + 1 := ⟨d - 1, by omega⟩
  have I := H.1 h hJ
  have lt1 := ty_trl ht1
  have lt2 := ty_spl ht2
  have ax3 := nm_lo x3
  have bx3 := nm_hi x3
  refine hq_M.enter (q := (⟨"TrainBearers$Deeds", "letDrop", "(LTrainBearers$Train;LTrainBearers$Steps;I)I"⟩, _, 5, some .int, 1, 4, pm_c10)) rfl rfl ?_
  show hq_W X d 1 false (some .int) pm_c10 (0, [some (.ref 76), some (.ref t1), some (.ref t2), some (.int x3), none], [], h) (fun h' v => J h' ∧ (ty_pi (-2147483648) 2147483647) h' v)
  refine hq_p rfl rfl ?_
  refine hq_p rfl rfl ?_
  refine ty_callp 0 I rfl (fun _ => rfl) rfl rfl rfl (hq_pre_o I.1 (x := t1) (ci := 8) (ty_trs ht1) (by omega) rfl rfl rfl rfl) (ct_70 (t0 := t1) (x1 := x3) (by omega) ht1) (fun _ P1 => ?_)
  obtain ⟨z2, rfl, az2, bz2, iz2⟩ := P1
  refine ty_zne rfl (fun c3 => ?_) (fun c3 => ?_)
  · replace c3 : 1 ≤ z2.toInt ∧ z2.toInt ≤ 1 := by omega
    have f4 := iz2 (by omega)
    clear iz2
    refine hq_p rfl rfl ?_
    refine hq_gR I.1 rfl (ty_trs ht1) (by omega) (by decide) rfl ?_
    refine hq_p rfl rfl ?_
    refine ty_aL I rfl (ty_trs5 ht1) (by omega) (by omega) (by omega) (fun i _ => ty_le (ty_tra5 ht1 i)) (fun z5 ez5 az5 bz5 => ?_)
    refine hq_p (ls' := [some (.ref 76), some (.ref t1), some (.ref t2), some (.int x3), some (.int z5)]) rfl rfl ?_
    refine hq_p rfl rfl ?_
    refine hq_p rfl rfl (ty_ge (n := -1) nk_im1 (fun z6 ez6 => ?_))
    refine ty_ine rfl (fun c7 => ?_) (fun c7 => ?_)
    · clear c7
      refine hq_p rfl rfl ?_
      refine hq_p rfl rfl ?_
      refine hq_p rfl rfl (ty_ge (n := 1) nk_i1 (fun z8 ez8 => ?_))
      refine ty_callj 0 (W := ty_Wc) H hJ rfl (fun _ => rfl) rfl rfl rfl (hq_pre_o I.1 (x := t2) (ci := 5) (ty_sps ht2) (by omega) rfl rfl rfl rfl) (fun _ _ w => w) (fun _ w => w) (ct_54 (t0 := t2) (t1 := t1) (x2 := z8) (by omega) ht2 ht1) (fun h10 _ Jh10 P9 => ?_)
      have Ih10 := H.1 h10 Jh10
      subst P9
      refine hq_p rfl rfl ?_
      refine hq_gR Ih10.1 rfl (ty_trs ht1) (by omega) (by decide) rfl ?_
      refine hq_p rfl rfl ?_
      refine hq_p rfl rfl (ty_ge (n := -1) nk_im1 (fun z11 ez11 => ?_))
      refine ty_aS (W := ty_Wc) H Jh10 rfl (ty_trs5 ht1) (by omega) (by omega) (by omega) (fun i e => by unfold ty_Wc; omega) (fun i _ => ty_eg (ty_tra5 ht1 i)) (by omega) (by omega) (fun e1 e2 w => by omega) (fun h12 eh12 Jh12 => ?_)
      have Ih12 := H.1 h12 Jh12
      refine hq_p rfl rfl ?_
      exact hq_W.ret rfl rfl rfl ⟨Jh12, _, rfl, by omega, by omega⟩
    · refine hq_p rfl rfl (ty_ge (n := -3) nk_bm3 (fun z13 ez13 => ?_))
      exact hq_W.ret rfl rfl rfl ⟨hJ, _, rfl, by omega, by omega⟩
  · clear iz2
    refine hq_p rfl rfl (ty_ge (n := -2) nk_bm2 (fun z14 ez14 => ?_))
    exact hq_W.ret rfl rfl rfl ⟨hJ, _, rfl, by omega, by omega⟩
theorem ct_11 {X : pm_X} {d : Nat} {h : pm_H} {t1 : Nat} {t2 : Nat} {x3 : Int32} (hd : 6 ≤ d) (ht1 : ty_tr t1) (ht2 : ty_sp t2) : ty_M X ty_Wc d 11 [.ref 76, .ref t1, .ref t2, .int x3] h (ty_pi (-2147483648) 2147483647) := by
  intro J H hJ
  obtain ⟨d, rfl⟩ : ∃ e, d = e + 1 := ⟨d - 1, by omega⟩
  have I := H.1 h hJ
  have lt1 := ty_trl ht1
  have lt2 := ty_spl ht2
  have ax3 := nm_lo x3
  have bx3 := nm_hi x3
  refine hq_M.enter (q := (⟨"TrainBearers$Deeds", "walkTo", "(LTrainBearers$Train;LTrainBearers$Steps;I)I"⟩, _, 8, some .int, 1, 4, pm_c11)) rfl rfl ?_
  show hq_W X d 1 false (some .int) pm_c11 (0, [some (.ref 76), some (.ref t1), some (.ref t2), some (.int x3), none, none, none, none], [], h) (fun h' v => J h' ∧ (ty_pi (-2147483648) 2147483647) h' v)
  refine hq_p rfl rfl ?_
  refine ty_callp 1 I rfl (fun _ => rfl) rfl rfl rfl rfl (ct_128 (x0 := x3) (by omega)) (fun _ P1 => ?_)
  obtain ⟨z2, rfl, az2, bz2, iz2⟩ := P1
  refine ty_zne rfl (fun c3 => ?_) (fun c3 => ?_)
  · replace c3 : 1 ≤ z2.toInt ∧ z2.toInt ≤ 1 := by omega
    have f4 := iz2 (by omega)
    clear iz2
    refine hq_p rfl rfl ?_
    refine hq_p rfl rfl ?_
    refine ty_gI I rfl (ty_trs ht1) (by omega) (by decide) rfl (ty_trf ht1 8) (fun z5 ez5 az5 bz5 => ?_)
    refine hq_p rfl rfl ?_
    refine ty_callp 0 I rfl (fun _ => rfl) rfl rfl rfl (hq_pre_o I.1 (x := t1) (ci := 8) (ty_trs ht1) (by omega) rfl rfl rfl rfl) (ct_75 (t0 := t1) (x1 := z5) (x2 := x3) (by omega) ht1) (fun _ P6 => ?_)
    obtain ⟨z7, rfl, az7, bz7⟩ := P6
    refine hq_p (ls' := [some (.ref 76), some (.ref t1), some (.ref t2), some (.int x3), some (.int z7), none, none, none]) rfl rfl ?_
    refine hq_p rfl rfl ?_
    refine hq_p rfl rfl (ty_ge (n := -1) nk_im1 (fun z8 ez8 => ?_))
    refine ty_ine rfl (fun c9 => ?_) (fun c9 => ?_)
    · clear c9
      refine hq_p rfl rfl ?_
      refine hq_p rfl rfl ?_
      refine hq_p rfl rfl (ty_ge (n := 2) nk_i2 (fun z10 ez10 => ?_))
      refine ty_callj 0 (W := ty_Wc) H hJ rfl (fun _ => rfl) rfl rfl rfl (hq_pre_o I.1 (x := t2) (ci := 5) (ty_sps ht2) (by omega) rfl rfl rfl rfl) (fun _ _ w => w) (fun _ w => w) (ct_54 (t0 := t2) (t1 := t1) (x2 := z10) (by omega) ht2 ht1) (fun h12 _ Jh12 P11 => ?_)
      have Ih12 := H.1 h12 Jh12
      subst P11
      refine hq_p rfl rfl (ty_ge (n := 0) nk_i0 (fun z13 ez13 => ?_))
      refine hq_p (ls' := [some (.ref 76), some (.ref t1), some (.ref t2), some (.int x3), some (.int z7), some (.int z13), none, none]) rfl rfl ?_
      refine hq_p rfl rfl (ty_ge (n := 0) nk_i0 (fun z14 ez14 => ?_))
      refine hq_p (ls' := [some (.ref 76), some (.ref t1), some (.ref t2), some (.int x3), some (.int z7), some (.int z13), some (.int z14), none]) rfl rfl ?_
      have L41_n60 : ∀ n60 : Nat, ∀ (y54 : Int32) (y55 : Int32) (h56 : pm_H), (8 - y55.toInt).toNat = n60 → -2147483648 ≤ y54.toInt → y54.toInt ≤ 2147483647 → 0 ≤ y55.toInt → y55.toInt ≤ 8 → J h56 → hq_W X d 1 false (some .int) pm_c11 (41, [some (.ref 76), some (.ref t1), some (.ref t2), some (.int x3), some (.int z7), some (.int y54), some (.int y55), none], [], h56) (fun h' v => J h' ∧ (ty_pi (-2147483648) 2147483647) h' v) := by
        intro n60
        induction n60 using Nat.strongRecOn with
        | ind n60 ihn60 =>
          intro y54 y55 h56 mn60 ay54 by54 ay55 by55 Jh56
          have Ih56 := H.1 h56 Jh56
          refine hq_p rfl rfl ?_
          refine hq_p rfl rfl ?_
          refine ty_gI Ih56 rfl (ty_trs ht1) (by omega) (by decide) rfl (ty_trf ht1 0) (fun z61 ez61 az61 bz61 => ?_)
          refine ty_ige rfl (fun c62 => ?_) (fun c62 => ?_)
          · refine hq_p rfl rfl (ty_ge (n := 0) nk_i0 (fun z63 ez63 => ?_))
            refine hq_p (ls' := [some (.ref 76), some (.ref t1), some (.ref t2), some (.int x3), some (.int z7), some (.int y54), some (.int z63), none]) rfl rfl ?_
            have L98_n97 : ∀ n97 : Nat, ∀ (y91 : Int32) (w92 : Option Value) (h93 : pm_H), (8 - y91.toInt).toNat = n97 → 0 ≤ y91.toInt → y91.toInt ≤ 8 → pm_two w92 = false → J h93 → hq_W X d 1 false (some .int) pm_c11 (98, [some (.ref 76), some (.ref t1), some (.ref t2), some (.int x3), some (.int z7), some (.int y54), some (.int y91), w92], [], h93) (fun h' v => J h' ∧ (ty_pi (-2147483648) 2147483647) h' v) := by
              intro n97
              induction n97 using Nat.strongRecOn with
              | ind n97 ihn97 =>
                intro y91 w92 h93 mn97 ay91 by91 kw92 Jh93
                have Ih93 := H.1 h93 Jh93
                refine hq_p rfl rfl ?_
                refine hq_p rfl rfl ?_
                refine ty_gI Ih93 rfl (ty_trs ht1) (by omega) (by decide) rfl (ty_trf ht1 3) (fun z98 ez98 az98 bz98 => ?_)
                refine ty_ige rfl (fun c99 => ?_) (fun c99 => ?_)
                · refine hq_p rfl rfl ?_
                  refine hq_p rfl rfl ?_
                  refine hq_p rfl rfl ?_
                  refine hq_p rfl rfl ?_
                  refine ty_callj 0 (W := ty_Wc) H Jh93 rfl (fun _ => rfl) rfl rfl rfl (hq_pre_o Ih93.1 (x := 76) (ci := 1) rfl (by decide) rfl rfl rfl rfl) (fun _ _ w => w) (fun _ w => w) (ct_12 (t1 := t1) (x2 := x3) (x3 := y54) (by omega) ht1 (by omega) (by omega)) (fun h101 _ Jh101 P100 => ?_)
                  have Ih101 := H.1 h101 Jh101
                  subst P100
                  refine hq_p rfl rfl ?_
                  exact hq_W.ret rfl rfl rfl ⟨Jh101, _, rfl, by omega, by omega⟩
                · refine hq_p rfl rfl ?_
                  refine hq_gR Ih93.1 rfl (ty_trs ht1) (by omega) (by decide) rfl ?_
                  refine hq_p rfl rfl ?_
                  refine ty_aL Ih93 rfl (ty_trs5 ht1) (by omega) (by omega) (by omega) (fun i _ => ty_le (ty_tra5 ht1 i)) (fun z102 ez102 az102 bz102 => ?_)
                  refine hq_p (ls' := [some (.ref 76), some (.ref t1), some (.ref t2), some (.int x3), some (.int z7), some (.int y54), some (.int y91), some (.int z102)]) rfl rfl ?_
                  refine hq_p rfl rfl ?_
                  refine hq_gR Ih93.1 rfl rfl (by decide) (by decide) rfl ?_
                  refine hq_p rfl rfl ?_
                  refine hq_p rfl rfl ?_
                  refine hq_p rfl rfl (ty_ge (n := -1) nk_im1 (fun z103 ez103 => ?_))
                  refine ty_ine rfl (fun c104 => ?_) (fun c104 => ?_)
                  · clear c104
                    refine hq_p rfl rfl ?_
                    refine hq_gR Ih93.1 rfl rfl (by decide) (by decide) rfl ?_
                    refine hq_p rfl rfl ?_
                    refine hq_p rfl rfl ?_
                    refine hq_p rfl rfl ?_
                    refine hq_p rfl rfl ?_
                    refine ty_callj 0 (W := ty_Wc) H Jh93 rfl (fun _ => rfl) rfl rfl rfl (hq_pre_o Ih93.1 (x := 77) (ci := 4) rfl (by decide) rfl rfl rfl rfl) (fun a k w => by unfold ty_Wu at w; unfold ty_Wc; omega) (by unfold ty_Wu ty_Wc; omega) (ct_46 (t0 := 77) (t1 := t1) (x2 := y91) (x3 := z102) (x4 := z7) (by omega) (show ty_ru 77 by simp [ty_ru]) ht1) (fun h106 _ Jh106 P105 => ?_)
                    have Ih106 := H.1 h106 Jh106
                    obtain ⟨z107, rfl, az107, bz107⟩ := P105
                    refine ty_aS (W := ty_Wc) H Jh106 rfl rfl (by decide) (by omega) (by omega) (fun i e => by unfold ty_Wc; omega) (fun _ _ => ty_eg rfl) (by omega) (by omega) (fun e1 e2 w => by omega) (fun h108 eh108 Jh108 => ?_)
                    have Ih108 := H.1 h108 Jh108
                    refine ty_inc (ls' := fun z109 => [some (.ref 76), some (.ref t1), some (.ref t2), some (.int x3), some (.int z7), some (.int y54), some (.int z109), some (.int z102)]) rfl rfl (fun _ => rfl) (nm_addc nk_i1 (by omega) (by omega)) (fun z109 ez109 => ?_)
                    refine hq_p rfl rfl ?_
                    exact ihn97 ((8 - z109.toInt).toNat) (by omega) z109 (some (.int z102)) h108 rfl (by omega) (by omega) rfl Jh108
                  · refine hq_p rfl rfl (ty_ge (n := 0) nk_i0 (fun z110 ez110 => ?_))
                    refine hq_p rfl rfl ?_
                    refine ty_aS (W := ty_Wc) H Jh93 rfl rfl (by decide) (by omega) (by omega) (fun i e => by unfold ty_Wc; omega) (fun _ _ => ty_eg rfl) (by omega) (by omega) (fun e1 e2 w => by omega) (fun h111 eh111 Jh111 => ?_)
                    have Ih111 := H.1 h111 Jh111
                    refine ty_inc (ls' := fun z112 => [some (.ref 76), some (.ref t1), some (.ref t2), some (.int x3), some (.int z7), some (.int y54), some (.int z112), some (.int z102)]) rfl rfl (fun _ => rfl) (nm_addc nk_i1 (by omega) (by omega)) (fun z112 ez112 => ?_)
                    refine hq_p rfl rfl ?_
                    exact ihn97 ((8 - z112.toInt).toNat) (by omega) z112 (some (.int z102)) h111 rfl (by omega) (by omega) rfl Jh111
            exact L98_n97 _ z63 none h56 rfl (by omega) (by omega) rfl Jh56
          · refine hq_p rfl rfl ?_
            refine hq_gR Ih56.1 rfl rfl (by decide) (by decide) rfl ?_
            refine hq_p rfl rfl ?_
            refine hq_p rfl rfl ?_
            refine hq_gR Ih56.1 rfl rfl (by decide) (by decide) rfl ?_
            refine hq_p rfl rfl ?_
            refine hq_p rfl rfl ?_
            refine ty_callj 0 (W := ty_Wc) H Jh56 rfl (fun _ => rfl) rfl rfl rfl (hq_pre_o Ih56.1 (x := 77) (ci := 4) rfl (by decide) rfl rfl rfl rfl) (fun a k w => by unfold ty_Wu at w; unfold ty_Wc; omega) (by unfold ty_Wu ty_Wc; omega) (ct_48 (t0 := 77) (t1 := t1) (x2 := y55) (by omega) (show ty_ru 77 by simp [ty_ru]) ht1) (fun h114 _ Jh114 P113 => ?_)
            have Ih114 := H.1 h114 Jh114
            obtain ⟨z115, rfl, az115, bz115⟩ := P113
            refine ty_aS (W := ty_Wc) H Jh114 rfl rfl (by decide) (by omega) (by omega) (fun i e => by unfold ty_Wc; omega) (fun _ _ => ty_eg rfl) (by omega) (by omega) (fun e1 e2 w => by omega) (fun h116 eh116 Jh116 => ?_)
            have Ih116 := H.1 h116 Jh116
            refine hq_p rfl rfl ?_
            refine hq_p rfl rfl ?_
            refine hq_gR Ih116.1 rfl rfl (by decide) (by decide) rfl ?_
            refine hq_p rfl rfl ?_
            refine hq_p rfl rfl ?_
            refine hq_p rfl rfl ?_
            refine hq_gR Ih116.1 rfl rfl (by decide) (by decide) rfl ?_
            refine hq_p rfl rfl ?_
            refine ty_aL Ih116 rfl rfl (by decide) (by omega) (by omega) (fun _ _ => ty_le rfl) (fun z117 ez117 az117 bz117 => ?_)
            refine ty_callj 0 (W := ty_Wc) H Jh116 rfl (fun _ => rfl) rfl rfl rfl (hq_pre_o Ih116.1 (x := 77) (ci := 4) rfl (by decide) rfl rfl rfl rfl) (fun a k w => by unfold ty_Wu at w; unfold ty_Wc; omega) (by unfold ty_Wu ty_Wc; omega) (ct_47 (t0 := 77) (t1 := t1) (x2 := y55) (x3 := z117) (by omega) (show ty_ru 77 by simp [ty_ru]) ht1) (fun h119 _ Jh119 P118 => ?_)
            have Ih119 := H.1 h119 Jh119
            obtain ⟨z120, rfl, az120, bz120⟩ := P118
            refine hq_p rfl rfl (ty_ga (fun z121 az121 bz121 => ?_))
            refine hq_p (ls' := [some (.ref 76), some (.ref t1), some (.ref t2), some (.int x3), some (.int z7), some (.int z121), some (.int y55), none]) rfl rfl ?_
            refine ty_inc (ls' := fun z122 => [some (.ref 76), some (.ref t1), some (.ref t2), some (.int x3), some (.int z7), some (.int z121), some (.int z122), none]) rfl rfl (fun _ => rfl) (nm_addc nk_i1 (by omega) (by omega)) (fun z122 ez122 => ?_)
            refine hq_p rfl rfl ?_
            exact ihn60 ((8 - z122.toInt).toNat) (by omega) z121 z122 h119 rfl (by omega) (by omega) (by omega) (by omega) Jh119
      exact L41_n60 _ z13 z14 h12 rfl (by omega) (by omega) (by omega) (by omega) Jh12
    · refine hq_p rfl rfl (ty_ge (n := -3) nk_bm3 (fun z123 ez123 => ?_))
      exact hq_W.ret rfl rfl rfl ⟨hJ, _, rfl, by omega, by omega⟩
  · clear iz2
    refine hq_p rfl rfl (ty_ge (n := -1) nk_im1 (fun z124 ez124 => ?_))
    exact hq_W.ret rfl rfl rfl ⟨hJ, _, rfl, by omega, by omega⟩
theorem ct_13 {X : pm_X} {d : Nat} {h : pm_H} {t1 : Nat} {t2 : Nat} (hd : 2 ≤ d) (ht1 : ty_tr t1) (ht2 : ty_sp t2) : ty_M X ty_Wc d 13 [.ref 76, .ref t1, .ref t2] h (ty_pi (-2147483648) 2147483647) := by
  intro J H hJ
  obtain ⟨d, rfl⟩ : ∃ e, d = e + 1 := ⟨d - 1, by omega⟩
  have I := H.1 h hJ
  have lt1 := ty_trl ht1
  have lt2 := ty_spl ht2
  refine hq_M.enter (q := (⟨"TrainBearers$Deeds", "restAll", "(LTrainBearers$Train;LTrainBearers$Steps;)I"⟩, _, 4, some .int, 1, 3, pm_c13)) rfl rfl ?_
  show hq_W X d 1 false (some .int) pm_c13 (0, [some (.ref 76), some (.ref t1), some (.ref t2), none], [], h) (fun h' v => J h' ∧ (ty_pi (-2147483648) 2147483647) h' v)
  refine hq_p rfl rfl ?_
  refine hq_gR I.1 rfl (ty_trs ht1) (by omega) (by decide) rfl ?_
  refine hq_p rfl rfl (ty_ge (n := 0) nk_i0 (fun z1 ez1 => ?_))
  refine ty_aL I rfl (ty_trs9 ht1) (by omega) (by omega) (by omega) (fun i _ => ty_le (ty_tra9 ht1 i)) (fun z2 ez2 az2 bz2 => ?_)
  rw [show z1.toInt.toNat = 0 by omega] at ez2
  refine hq_p rfl rfl (ty_ge (n := 999) nk_s999 (fun z3 ez3 => ?_))
  refine ty_ilt rfl (fun c4 => ?_) (fun c4 => ?_)
  · refine hq_p rfl rfl ?_
    refine hq_p rfl rfl ?_
    refine hq_p rfl rfl (ty_ge (n := 3) nk_i3 (fun z5 ez5 => ?_))
    refine ty_callj 0 (W := ty_Wc) H hJ rfl (fun _ => rfl) rfl rfl rfl (hq_pre_o I.1 (x := t2) (ci := 5) (ty_sps ht2) (by omega) rfl rfl rfl rfl) (fun _ _ w => w) (fun _ w => w) (ct_54 (t0 := t2) (t1 := t1) (x2 := z5) (by omega) ht2 ht1) (fun h7 _ Jh7 P6 => ?_)
    have Ih7 := H.1 h7 Jh7
    subst P6
    refine hq_p rfl rfl (ty_ge (n := 0) nk_i0 (fun z8 ez8 => ?_))
    refine hq_p (ls' := [some (.ref 76), some (.ref t1), some (.ref t2), some (.int z8)]) rfl rfl ?_
    have L23_n31 : ∀ n31 : Nat, ∀ (y27 : Int32) (h28 : pm_H), (8 - y27.toInt).toNat = n31 → 0 ≤ y27.toInt → y27.toInt ≤ 8 → J h28 → hq_W X d 1 false (some .int) pm_c13 (23, [some (.ref 76), some (.ref t1), some (.ref t2), some (.int y27)], [], h28) (fun h' v => J h' ∧ (ty_pi (-2147483648) 2147483647) h' v) := by
      intro n31
      induction n31 using Nat.strongRecOn with
      | ind n31 ihn31 =>
        intro y27 h28 mn31 ay27 by27 Jh28
        have Ih28 := H.1 h28 Jh28
        refine hq_p rfl rfl ?_
        refine hq_p rfl rfl ?_
        refine ty_gI Ih28 rfl (ty_trs ht1) (by omega) (by decide) rfl (ty_trf ht1 3) (fun z32 ez32 az32 bz32 => ?_)
        refine ty_ige rfl (fun c33 => ?_) (fun c33 => ?_)
        · refine hq_p rfl rfl ?_
          refine hq_gR Ih28.1 rfl (ty_trs ht1) (by omega) (by decide) rfl ?_
          refine hq_p rfl rfl (ty_ge (n := 0) nk_i0 (fun z34 ez34 => ?_))
          refine hq_p rfl rfl ?_
          refine ty_aL Ih28 rfl (ty_trs9 ht1) (by omega) (by omega) (by omega) (fun i _ => ty_le (ty_tra9 ht1 i)) (fun z35 ez35 az35 bz35 => ?_)
          rw [show z34.toInt.toNat = 0 by omega] at ez35
          refine hq_p rfl rfl (ty_ge (n := 1) nk_i1 (fun z36 ez36 => ?_))
          refine hq_p rfl rfl (ty_ga (fun z37 az37 bz37 => ?_))
          refine ty_aS (W := ty_Wc) H Jh28 rfl (ty_trs9 ht1) (by omega) (by omega) (by omega) (fun i e => by unfold ty_Wc; omega) (fun i _ => ty_eg (ty_tra9 ht1 i)) (by omega) (by omega) (fun e1 e2 w => by omega) (fun h38 eh38 Jh38 => ?_)
          have Ih38 := H.1 h38 Jh38
          refine hq_p rfl rfl ?_
          refine hq_gR Ih38.1 rfl (ty_trs ht1) (by omega) (by decide) rfl ?_
          refine hq_p rfl rfl (ty_ge (n := 0) nk_i0 (fun z39 ez39 => ?_))
          refine ty_aL Ih38 rfl (ty_trs9 ht1) (by omega) (by omega) (by omega) (fun i _ => ty_le (ty_tra9 ht1 i)) (fun z40 ez40 az40 bz40 => ?_)
          rw [show z39.toInt.toNat = 0 by omega] at ez40
          exact hq_W.ret rfl rfl rfl ⟨Jh38, _, rfl, by omega, by omega⟩
        · refine hq_p rfl rfl ?_
          refine hq_gR Ih28.1 rfl (ty_trs ht1) (by omega) (by decide) rfl ?_
          refine hq_p rfl rfl ?_
          refine hq_p rfl rfl (ty_ge (n := 0) nk_i0 (fun z41 ez41 => ?_))
          refine hq_p rfl rfl ?_
          refine hq_gR Ih28.1 rfl (ty_trs ht1) (by omega) (by decide) rfl ?_
          refine hq_p rfl rfl ?_
          refine ty_aL Ih28 rfl (ty_trs4 ht1) (by omega) (by omega) (by omega) (fun i _ => ty_le (ty_tra4 ht1 i)) (fun z42 ez42 az42 bz42 => ?_)
          refine hq_p rfl rfl (ty_ge (n := 1) nk_i1 (fun z43 ez43 => ?_))
          refine hq_p rfl rfl (ty_ga (fun z44 az44 bz44 => ?_))
          refine ty_callp 1 Ih28 rfl (fun _ => rfl) rfl rfl rfl rfl (ct_258 (x0 := z41) (x1 := z44) (by omega)) (fun _ P45 => ?_)
          obtain ⟨z46, rfl, fz46, dz46, oz46⟩ := P45
          have iz46 : 0 ≤ z46.toInt ∧ z46.toInt ≤ 2147483647 := by omega
          clear oz46
          refine ty_aS (W := ty_Wc) H Jh28 rfl (ty_trs4 ht1) (by omega) (by omega) (by omega) (fun i e => by unfold ty_Wc; omega) (fun i _ => ty_eg (ty_tra4 ht1 i)) (by omega) (by omega) (fun e1 e2 w => by omega) (fun h47 eh47 Jh47 => ?_)
          have Ih47 := H.1 h47 Jh47
          refine ty_inc (ls' := fun z48 => [some (.ref 76), some (.ref t1), some (.ref t2), some (.int z48)]) rfl rfl (fun _ => rfl) (nm_addc nk_i1 (by omega) (by omega)) (fun z48 ez48 => ?_)
          refine hq_p rfl rfl ?_
          exact ihn31 ((8 - z48.toInt).toNat) (by omega) z48 h47 rfl (by omega) (by omega) Jh47
    exact L23_n31 _ z8 h7 rfl (by omega) (by omega) Jh7
  · refine hq_p rfl rfl (ty_ge (n := -3) nk_bm3 (fun z49 ez49 => ?_))
    exact hq_W.ret rfl rfl rfl ⟨hJ, _, rfl, by omega, by omega⟩
theorem ct_15 {X : pm_X} {d : Nat} {h : pm_H} {t1 : Nat} {x2 : Int32} {x3 : Int32} {x4 : Int32} (hd : 6 ≤ d) (ht1 : ty_tr t1) : ty_M X ty_Wc d 15 [.ref 76, .ref t1, .int x2, .int x3, .int x4] h ty_pv := by
  intro J H hJ
  obtain ⟨d, rfl⟩ : ∃ e, d = e + 1 := ⟨d - 1, by omega⟩
  have I := H.1 h hJ
  have lt1 := ty_trl ht1
  have ax2 := nm_lo x2
  have bx2 := nm_hi x2
  have ax3 := nm_lo x3
  have bx3 := nm_hi x3
  have ax4 := nm_lo x4
  have bx4 := nm_hi x4
  refine hq_M.enter (q := (⟨"TrainBearers$Deeds", "fillWords", "(LTrainBearers$Train;III)V"⟩, _, 6, none, 1, 5, pm_c15)) rfl rfl ?_
  show hq_W X d 1 false (none) pm_c15 (0, [some (.ref 76), some (.ref t1), some (.int x2), some (.int x3), some (.int x4), none], [], h) (fun h' v => J h' ∧ ty_pv h' v)
  refine hq_p rfl rfl ?_
  refine hq_gR I.1 rfl rfl (by decide) (by decide) rfl ?_
  refine hq_p rfl rfl (ty_ge (n := 0) nk_i0 (fun z1 ez1 => ?_))
  refine hq_p rfl rfl ?_
  refine hq_gR I.1 rfl (ty_trs ht1) (by omega) (by decide) rfl ?_
  refine hq_p rfl rfl (ty_ge (n := 0) nk_i0 (fun z2 ez2 => ?_))
  refine ty_aL I rfl (ty_trs9 ht1) (by omega) (by omega) (by omega) (fun i _ => ty_le (ty_tra9 ht1 i)) (fun z3 ez3 az3 bz3 => ?_)
  rw [show z2.toInt.toNat = 0 by omega] at ez3
  refine ty_aS (W := ty_Wc) H hJ rfl rfl (by decide) (by omega) (by omega) (fun i e => by unfold ty_Wc; omega) (fun _ _ => ty_eg rfl) (by omega) (by omega) (fun e1 e2 w => by omega) (fun h4 eh4 Jh4 => ?_)
  have Ih4 := H.1 h4 Jh4
  refine hq_p rfl rfl ?_
  refine hq_gR Ih4.1 rfl rfl (by decide) (by decide) rfl ?_
  refine hq_p rfl rfl (ty_ge (n := 1) nk_i1 (fun z5 ez5 => ?_))
  refine hq_p rfl rfl ?_
  refine ty_aS (W := ty_Wc) H Jh4 rfl rfl (by decide) (by omega) (by omega) (fun i e => by unfold ty_Wc; omega) (fun _ _ => ty_eg rfl) (by omega) (by omega) (fun e1 e2 w => by omega) (fun h6 eh6 Jh6 => ?_)
  have Ih6 := H.1 h6 Jh6
  refine hq_p rfl rfl ?_
  refine hq_gR Ih6.1 rfl rfl (by decide) (by decide) rfl ?_
  refine hq_p rfl rfl (ty_ge (n := 2) nk_i2 (fun z7 ez7 => ?_))
  refine hq_p rfl rfl ?_
  refine ty_aS (W := ty_Wc) H Jh6 rfl rfl (by decide) (by omega) (by omega) (fun i e => by unfold ty_Wc; omega) (fun _ _ => ty_eg rfl) (by omega) (by omega) (fun e1 e2 w => by omega) (fun h8 eh8 Jh8 => ?_)
  have Ih8 := H.1 h8 Jh8
  refine hq_p rfl rfl ?_
  refine hq_gR Ih8.1 rfl rfl (by decide) (by decide) rfl ?_
  refine hq_p rfl rfl (ty_ge (n := 3) nk_i3 (fun z9 ez9 => ?_))
  refine hq_p rfl rfl ?_
  refine ty_gI Ih8 rfl (ty_trs ht1) (by omega) (by decide) rfl (ty_trf ht1 9) (fun z10 ez10 az10 bz10 => ?_)
  refine ty_aS (W := ty_Wc) H Jh8 rfl rfl (by decide) (by omega) (by omega) (fun i e => by unfold ty_Wc; omega) (fun _ _ => ty_eg rfl) (by omega) (by omega) (fun e1 e2 w => by omega) (fun h11 eh11 Jh11 => ?_)
  have Ih11 := H.1 h11 Jh11
  refine hq_p rfl rfl ?_
  refine hq_gR Ih11.1 rfl rfl (by decide) (by decide) rfl ?_
  refine hq_p rfl rfl (ty_ge (n := 4) nk_i4 (fun z12 ez12 => ?_))
  refine hq_p rfl rfl ?_
  refine ty_gI Ih11 rfl (ty_trs ht1) (by omega) (by decide) rfl (ty_trf ht1 8) (fun z13 ez13 az13 bz13 => ?_)
  refine ty_aS (W := ty_Wc) H Jh11 rfl rfl (by decide) (by omega) (by omega) (fun i e => by unfold ty_Wc; omega) (fun _ _ => ty_eg rfl) (by omega) (by omega) (fun e1 e2 w => by omega) (fun h14 eh14 Jh14 => ?_)
  have Ih14 := H.1 h14 Jh14
  refine hq_p rfl rfl (ty_ge (n := 0) nk_i0 (fun z15 ez15 => ?_))
  refine hq_p (ls' := [some (.ref 76), some (.ref t1), some (.int x2), some (.int x3), some (.int x4), some (.int z15)]) rfl rfl ?_
  have L50_n38 : ∀ n38 : Nat, ∀ (y34 : Int32) (h35 : pm_H), (8 - y34.toInt).toNat = n38 → 0 ≤ y34.toInt → y34.toInt ≤ 8 → J h35 → hq_W X d 1 false (none) pm_c15 (50, [some (.ref 76), some (.ref t1), some (.int x2), some (.int x3), some (.int x4), some (.int y34)], [], h35) (fun h' v => J h' ∧ ty_pv h' v) := by
    intro n38
    induction n38 using Nat.strongRecOn with
    | ind n38 ihn38 =>
      intro y34 h35 mn38 ay34 by34 Jh35
      have Ih35 := H.1 h35 Jh35
      refine hq_p rfl rfl ?_
      refine hq_p rfl rfl (ty_ge (n := 8) nk_b8 (fun z39 ez39 => ?_))
      refine ty_ige rfl (fun c40 => ?_) (fun c40 => ?_)
      · exact hq_W.ret rfl rfl rfl ⟨Jh35, rfl⟩
      · refine hq_p rfl rfl ?_
        refine hq_p rfl rfl ?_
        refine hq_p rfl rfl (ty_ga (fun z41 az41 bz41 => ?_))
        refine hq_p rfl rfl (ty_ge (n := 1) nk_i1 (fun z42 ez42 => ?_))
        refine hq_p rfl rfl (ty_gb (c := z41 &&& z42) (lo := 0) (hi := 1) (by have q := nm_and_r (x := z41) (y := z42) (by omega); omega) (fun z43 az43 bz43 => ?_))
        refine ty_zeq rfl (fun c44 => ?_) (fun c44 => ?_)
        · refine hq_p rfl rfl ?_
          refine hq_gR Ih35.1 rfl rfl (by decide) (by decide) rfl ?_
          refine hq_p rfl rfl (ty_ge (n := 13) nk_b13 (fun z45 ez45 => ?_))
          refine hq_p rfl rfl ?_
          refine hq_p rfl rfl (ty_ge (n := z45.toInt + y34.toInt) (nm_add (by omega) (by omega)) (fun z46 ez46 => ?_))
          refine hq_p rfl rfl ?_
          refine hq_p rfl rfl ?_
          refine ty_callp 0 Ih35 rfl (fun _ => rfl) rfl rfl rfl (hq_pre_o Ih35.1 (x := t1) (ci := 8) (ty_trs ht1) (by omega) rfl rfl rfl rfl) (ct_70 (t0 := t1) (x1 := y34) (by omega) ht1) (fun _ P47 => ?_)
          obtain ⟨z48, rfl, az48, bz48, iz48⟩ := P47
          refine ty_zeq rfl (fun c49 => ?_) (fun c49 => ?_)
          · clear iz48
            refine hq_p rfl rfl (ty_ge (n := -1) nk_im1 (fun z50 ez50 => ?_))
            refine ty_aS (W := ty_Wc) H Jh35 rfl rfl (by decide) (by omega) (by omega) (fun i e => by unfold ty_Wc; omega) (fun _ _ => ty_eg rfl) (by omega) (by omega) (fun e1 e2 w => by omega) (fun h51 eh51 Jh51 => ?_)
            have Ih51 := H.1 h51 Jh51
            refine ty_inc (ls' := fun z52 => [some (.ref 76), some (.ref t1), some (.int x2), some (.int x3), some (.int x4), some (.int z52)]) rfl rfl (fun _ => rfl) (nm_addc nk_i1 (by omega) (by omega)) (fun z52 ez52 => ?_)
            refine hq_p rfl rfl ?_
            exact ihn38 ((8 - z52.toInt).toNat) (by omega) z52 h51 rfl (by omega) (by omega) Jh51
          · replace c49 : 1 ≤ z48.toInt ∧ z48.toInt ≤ 1 := by omega
            have f53 := iz48 (by omega)
            clear iz48
            refine hq_p rfl rfl ?_
            refine hq_gR Ih35.1 rfl (ty_trs ht1) (by omega) (by decide) rfl ?_
            refine hq_p rfl rfl ?_
            refine ty_aL Ih35 rfl (ty_trs4 ht1) (by omega) (by omega) (by omega) (fun i _ => ty_le (ty_tra4 ht1 i)) (fun z54 ez54 az54 bz54 => ?_)
            refine hq_p rfl rfl ?_
            refine ty_aS (W := ty_Wc) H Jh35 rfl rfl (by decide) (by omega) (by omega) (fun i e => by unfold ty_Wc; omega) (fun _ _ => ty_eg rfl) (by omega) (by omega) (fun e1 e2 w => by omega) (fun h55 eh55 Jh55 => ?_)
            have Ih55 := H.1 h55 Jh55
            refine ty_inc (ls' := fun z56 => [some (.ref 76), some (.ref t1), some (.int x2), some (.int x3), some (.int x4), some (.int z56)]) rfl rfl (fun _ => rfl) (nm_addc nk_i1 (by omega) (by omega)) (fun z56 ez56 => ?_)
            refine hq_p rfl rfl ?_
            exact ihn38 ((8 - z56.toInt).toNat) (by omega) z56 h55 rfl (by omega) (by omega) Jh55
        · replace c44 : 1 ≤ z43.toInt ∧ z43.toInt ≤ 1 := by omega
          refine hq_p rfl rfl ?_
          refine hq_gR Ih35.1 rfl rfl (by decide) (by decide) rfl ?_
          refine hq_p rfl rfl (ty_ge (n := 5) nk_i5 (fun z57 ez57 => ?_))
          refine hq_p rfl rfl ?_
          refine hq_p rfl rfl (ty_ge (n := z57.toInt + y34.toInt) (nm_add (by omega) (by omega)) (fun z58 ez58 => ?_))
          refine hq_p rfl rfl ?_
          refine hq_gR Ih35.1 rfl rfl (by decide) (by decide) rfl ?_
          refine hq_p rfl rfl ?_
          refine hq_p rfl rfl ?_
          refine ty_callj 0 (W := ty_Wc) H Jh35 rfl (fun _ => rfl) rfl rfl rfl (hq_pre_o Ih35.1 (x := 77) (ci := 4) rfl (by decide) rfl rfl rfl rfl) (fun a k w => by unfold ty_Wu at w; unfold ty_Wc; omega) (by unfold ty_Wu ty_Wc; omega) (ct_48 (t0 := 77) (t1 := t1) (x2 := y34) (by omega) (show ty_ru 77 by simp [ty_ru]) ht1) (fun h60 _ Jh60 P59 => ?_)
          have Ih60 := H.1 h60 Jh60
          obtain ⟨z61, rfl, az61, bz61⟩ := P59
          refine ty_aS (W := ty_Wc) H Jh60 rfl rfl (by decide) (by omega) (by omega) (fun i e => by unfold ty_Wc; omega) (fun _ _ => ty_eg rfl) (by omega) (by omega) (fun e1 e2 w => by omega) (fun h62 eh62 Jh62 => ?_)
          have Ih62 := H.1 h62 Jh62
          refine hq_p rfl rfl ?_
          refine hq_gR Ih62.1 rfl rfl (by decide) (by decide) rfl ?_
          refine hq_p rfl rfl (ty_ge (n := 13) nk_b13 (fun z63 ez63 => ?_))
          refine hq_p rfl rfl ?_
          refine hq_p rfl rfl (ty_ge (n := z63.toInt + y34.toInt) (nm_add (by omega) (by omega)) (fun z64 ez64 => ?_))
          refine hq_p rfl rfl ?_
          refine hq_p rfl rfl ?_
          refine ty_callp 0 Ih62 rfl (fun _ => rfl) rfl rfl rfl (hq_pre_o Ih62.1 (x := t1) (ci := 8) (ty_trs ht1) (by omega) rfl rfl rfl rfl) (ct_70 (t0 := t1) (x1 := y34) (by omega) ht1) (fun _ P65 => ?_)
          obtain ⟨z66, rfl, az66, bz66, iz66⟩ := P65
          refine ty_zeq rfl (fun c67 => ?_) (fun c67 => ?_)
          · clear iz66
            refine hq_p rfl rfl (ty_ge (n := -1) nk_im1 (fun z68 ez68 => ?_))
            refine ty_aS (W := ty_Wc) H Jh62 rfl rfl (by decide) (by omega) (by omega) (fun i e => by unfold ty_Wc; omega) (fun _ _ => ty_eg rfl) (by omega) (by omega) (fun e1 e2 w => by omega) (fun h69 eh69 Jh69 => ?_)
            have Ih69 := H.1 h69 Jh69
            refine ty_inc (ls' := fun z70 => [some (.ref 76), some (.ref t1), some (.int x2), some (.int x3), some (.int x4), some (.int z70)]) rfl rfl (fun _ => rfl) (nm_addc nk_i1 (by omega) (by omega)) (fun z70 ez70 => ?_)
            refine hq_p rfl rfl ?_
            exact ihn38 ((8 - z70.toInt).toNat) (by omega) z70 h69 rfl (by omega) (by omega) Jh69
          · replace c67 : 1 ≤ z66.toInt ∧ z66.toInt ≤ 1 := by omega
            have f71 := iz66 (by omega)
            clear iz66
            refine hq_p rfl rfl ?_
            refine hq_gR Ih62.1 rfl (ty_trs ht1) (by omega) (by decide) rfl ?_
            refine hq_p rfl rfl ?_
            refine ty_aL Ih62 rfl (ty_trs4 ht1) (by omega) (by omega) (by omega) (fun i _ => ty_le (ty_tra4 ht1 i)) (fun z72 ez72 az72 bz72 => ?_)
            refine hq_p rfl rfl ?_
            refine ty_aS (W := ty_Wc) H Jh62 rfl rfl (by decide) (by omega) (by omega) (fun i e => by unfold ty_Wc; omega) (fun _ _ => ty_eg rfl) (by omega) (by omega) (fun e1 e2 w => by omega) (fun h73 eh73 Jh73 => ?_)
            have Ih73 := H.1 h73 Jh73
            refine ty_inc (ls' := fun z74 => [some (.ref 76), some (.ref t1), some (.int x2), some (.int x3), some (.int x4), some (.int z74)]) rfl rfl (fun _ => rfl) (nm_addc nk_i1 (by omega) (by omega)) (fun z74 ez74 => ?_)
            refine hq_p rfl rfl ?_
            exact ihn38 ((8 - z74.toInt).toNat) (by omega) z74 h73 rfl (by omega) (by omega) Jh73
  exact L50_n38 _ z15 h14 rfl (by omega) (by omega) Jh14
set_option maxHeartbeats 20000000 in
theorem ct_16 {X : pm_X} {d : Nat} {h : pm_H} {t1 : Nat} {t2 : Nat} {x3 : Int32} {x4 : Int32} (hd : 7 ≤ d) (ht1 : ty_tr t1) (ht2 : ty_sp t2) : ty_M X ty_Wc d 16 [.ref 76, .ref t1, .ref t2, .int x3, .int x4] h ty_pv := by
  intro J H hJ
  obtain ⟨d, rfl⟩ : ∃ e, d = e + 1 := ⟨d - 1, by omega⟩
  have I := H.1 h hJ
  have lt1 := ty_trl ht1
  have lt2 := ty_spl ht2
  have ax3 := nm_lo x3
  have bx3 := nm_hi x3
  have ax4 := nm_lo x4
  have bx4 := nm_hi x4
  refine hq_M.enter (q := (⟨"TrainBearers$Deeds", "drawGenerations", "(LTrainBearers$Train;LTrainBearers$Steps;II)V"⟩, _, 11, none, 1, 5, pm_c16)) rfl rfl ?_
  show hq_W X d 1 false (none) pm_c16 (0, [some (.ref 76), some (.ref t1), some (.ref t2), some (.int x3), some (.int x4), none, none, none, none, none, none], [], h) (fun h' v => J h' ∧ ty_pv h' v)
  refine hq_p rfl rfl ?_
  refine hq_p (ls' := [some (.ref 76), some (.ref t1), some (.ref t2), some (.int x3), some (.int x4), some (.int x3), none, none, none, none, none]) rfl rfl ?_
  refine hq_p rfl rfl (ty_ge (n := 0) nk_i0 (fun z1 ez1 => ?_))
  refine hq_p (ls' := [some (.ref 76), some (.ref t1), some (.ref t2), some (.int x3), some (.int x4), some (.int x3), some (.int z1), none, none, none, none]) rfl rfl ?_
  have L6_n359 : ∀ n359 : Nat, ∀ (y345 : Int32) (y346 : Int32) (w347 : Option Value) (w348 : Option Value) (w349 : Option Value) (w350 : Option Value) (h351 : pm_H), (2147483647 - y346.toInt).toNat = n359 → -2147483648 ≤ y345.toInt → y345.toInt ≤ 2147483647 → 0 ≤ y346.toInt → y346.toInt ≤ 2147483647 → pm_two w347 = false → pm_two w348 = false → pm_two w349 = false → pm_two w350 = false → J h351 → hq_W X d 1 false (none) pm_c16 (6, [some (.ref 76), some (.ref t1), some (.ref t2), some (.int x3), some (.int x4), some (.int y345), some (.int y346), w347, w348, w349, w350], [], h351) (fun h' v => J h' ∧ ty_pv h' v) := by
    intro n359
    induction n359 using Nat.strongRecOn with
    | ind n359 ihn359 =>
      intro y345 y346 w347 w348 w349 w350 h351 mn359 ay345 by345 ay346 by346 kw347 kw348 kw349 kw350 Jh351
      have Ih351 := H.1 h351 Jh351
      refine hq_p rfl rfl ?_
      refine hq_p rfl rfl ?_
      refine ty_ige rfl (fun c360 => ?_) (fun c360 => ?_)
      · exact hq_W.ret rfl rfl rfl ⟨Jh351, rfl⟩
      · refine hq_p rfl rfl ?_
        refine hq_gR Ih351.1 rfl (ty_trs ht1) (by omega) (by decide) rfl ?_
        refine hq_p rfl rfl (ty_ge (n := 0) nk_i0 (fun z361 ez361 => ?_))
        refine ty_aL Ih351 rfl (ty_trs9 ht1) (by omega) (by omega) (by omega) (fun i _ => ty_le (ty_tra9 ht1 i)) (fun z362 ez362 az362 bz362 => ?_)
        rw [show z361.toInt.toNat = 0 by omega] at ez362
        refine hq_p rfl rfl (ty_ge (n := 999) nk_s999 (fun z363 ez363 => ?_))
        refine ty_ige rfl (fun c364 => ?_) (fun c364 => ?_)
        · exact hq_W.ret rfl rfl rfl ⟨Jh351, rfl⟩
        · refine hq_p rfl rfl ?_
          refine ty_callp 1 Ih351 rfl (fun _ => rfl) rfl rfl rfl rfl (ct_17 (x0 := y345) (by omega)) (fun _ P365 => ?_)
          obtain ⟨z366, rfl, az366, bz366⟩ := P365
          refine hq_p (ls' := [some (.ref 76), some (.ref t1), some (.ref t2), some (.int x3), some (.int x4), some (.int z366), some (.int y346), w347, w348, w349, w350]) rfl rfl ?_
          refine hq_p rfl rfl ?_
          refine ty_gI Ih351 rfl (ty_trs ht1) (by omega) (by decide) rfl (ty_trf ht1 3) (fun z367 ez367 az367 bz367 => ?_)
          refine ty_zle rfl (fun c368 => ?_) (fun c368 => ?_)
          · refine hq_p rfl rfl (ty_ge (n := -1) nk_im1 (fun z369 ez369 => ?_))
            refine hq_p (ls' := [some (.ref 76), some (.ref t1), some (.ref t2), some (.int x3), some (.int x4), some (.int z366), some (.int y346), some (.int z369), w348, w349, w350]) rfl rfl ?_
            refine hq_p rfl rfl ?_
            refine ty_callp 1 Ih351 rfl (fun _ => rfl) rfl rfl rfl rfl (ct_17 (x0 := z366) (by omega)) (fun _ P370 => ?_)
            obtain ⟨z371, rfl, az371, bz371⟩ := P370
            refine hq_p (ls' := [some (.ref 76), some (.ref t1), some (.ref t2), some (.int x3), some (.int x4), some (.int z371), some (.int y346), some (.int z369), w348, w349, w350]) rfl rfl ?_
            refine hq_p rfl rfl ?_
            refine ty_gI Ih351 rfl (ty_trs ht1) (by omega) (by decide) rfl (ty_trf ht1 0) (fun z372 ez372 az372 bz372 => ?_)
            refine ty_zle rfl (fun c373 => ?_) (fun c373 => ?_)
            · refine hq_p rfl rfl (ty_ge (n := -1) nk_im1 (fun z374 ez374 => ?_))
              refine hq_p (ls' := [some (.ref 76), some (.ref t1), some (.ref t2), some (.int x3), some (.int x4), some (.int z371), some (.int y346), some (.int z369), some (.int z374), w349, w350]) rfl rfl ?_
              refine hq_p rfl rfl ?_
              refine ty_callp 1 Ih351 rfl (fun _ => rfl) rfl rfl rfl rfl (ct_17 (x0 := z371) (by omega)) (fun _ P375 => ?_)
              obtain ⟨z376, rfl, az376, bz376⟩ := P375
              refine hq_p (ls' := [some (.ref 76), some (.ref t1), some (.ref t2), some (.int x3), some (.int x4), some (.int z376), some (.int y346), some (.int z369), some (.int z374), w349, w350]) rfl rfl ?_
              refine hq_p rfl rfl ?_
              refine hq_p rfl rfl (ty_ge (n := 6) nk_b6 (fun z377 ez377 => ?_))
              refine hq_irem rfl (nm_nz (by omega)) (ty_ga (fun z378 az378 bz378 => ?_))
              refine hq_p (ls' := [some (.ref 76), some (.ref t1), some (.ref t2), some (.int x3), some (.int x4), some (.int z376), some (.int y346), some (.int z369), some (.int z374), some (.int z378), w350]) rfl rfl ?_
              refine hq_p rfl rfl ?_
              refine ty_callp 1 Ih351 rfl (fun _ => rfl) rfl rfl rfl rfl (ct_17 (x0 := z376) (by omega)) (fun _ P379 => ?_)
              obtain ⟨z380, rfl, az380, bz380⟩ := P379
              refine hq_p (ls' := [some (.ref 76), some (.ref t1), some (.ref t2), some (.int x3), some (.int x4), some (.int z380), some (.int y346), some (.int z369), some (.int z374), some (.int z378), w350]) rfl rfl ?_
              refine hq_p rfl rfl ?_
              refine hq_p rfl rfl (ty_ge (n := 4) nk_i4 (fun z381 ez381 => ?_))
              refine hq_irem rfl (nm_nz (by omega)) (ty_ga (fun z382 az382 bz382 => ?_))
              refine hq_p (ls' := [some (.ref 76), some (.ref t1), some (.ref t2), some (.int x3), some (.int x4), some (.int z380), some (.int y346), some (.int z369), some (.int z374), some (.int z378), some (.int z382)]) rfl rfl ?_
              refine hq_p rfl rfl ?_
              refine ty_zne rfl (fun c383 => ?_) (fun c383 => ?_)
              · clear c383
                refine hq_p rfl rfl ?_
                refine hq_p rfl rfl (ty_ge (n := 1) nk_i1 (fun z384 ez384 => ?_))
                refine ty_ine rfl (fun c385 => ?_) (fun c385 => ?_)
                · clear c385
                  refine hq_p rfl rfl ?_
                  refine hq_p rfl rfl (ty_ge (n := 2) nk_i2 (fun z386 ez386 => ?_))
                  refine ty_ine rfl (fun c387 => ?_) (fun c387 => ?_)
                  · clear c387
                    refine hq_p rfl rfl ?_
                    refine hq_p rfl rfl ?_
                    refine hq_p rfl rfl ?_
                    refine ty_callj 0 (W := ty_Wc) H Jh351 rfl (fun _ => rfl) rfl rfl rfl (hq_pre_o Ih351.1 (x := 76) (ci := 1) rfl (by decide) rfl rfl rfl rfl) (fun _ _ w => w) (fun _ w => w) (ct_13 (t1 := t1) (t2 := t2) (by omega) ht1 ht2) (fun h389 _ Jh389 P388 => ?_)
                    have Ih389 := H.1 h389 Jh389
                    obtain ⟨z390, rfl, az390, bz390⟩ := P388
                    refine hq_p rfl rfl ?_
                    refine ty_inc (ls' := fun z391 => [some (.ref 76), some (.ref t1), some (.ref t2), some (.int x3), some (.int x4), some (.int z380), some (.int z391), some (.int z369), some (.int z374), some (.int z378), some (.int z382)]) rfl rfl (fun _ => rfl) (nm_addc nk_i1 (by omega) (by omega)) (fun z391 ez391 => ?_)
                    refine hq_p rfl rfl ?_
                    exact ihn359 ((2147483647 - z391.toInt).toNat) (by omega) z380 z391 (some (.int z369)) (some (.int z374)) (some (.int z378)) (some (.int z382)) h389 rfl (by omega) (by omega) (by omega) (by omega) rfl rfl rfl rfl Jh389
                  · refine hq_p rfl rfl ?_
                    refine hq_p rfl rfl ?_
                    refine hq_p rfl rfl ?_
                    refine hq_p rfl rfl ?_
                    refine ty_callj 0 (W := ty_Wc) H Jh351 rfl (fun _ => rfl) rfl rfl rfl (hq_pre_o Ih351.1 (x := 76) (ci := 1) rfl (by decide) rfl rfl rfl rfl) (fun _ _ w => w) (fun _ w => w) (ct_11 (t1 := t1) (t2 := t2) (x3 := z378) (by omega) ht1 ht2) (fun h393 _ Jh393 P392 => ?_)
                    have Ih393 := H.1 h393 Jh393
                    obtain ⟨z394, rfl, az394, bz394⟩ := P392
                    refine hq_p rfl rfl ?_
                    refine hq_p rfl rfl ?_
                    refine hq_p rfl rfl ?_
                    refine hq_p rfl rfl ?_
                    refine ty_callj 0 (W := ty_Wc) H Jh393 rfl (fun _ => rfl) rfl rfl rfl (hq_pre_o Ih393.1 (x := 76) (ci := 1) rfl (by decide) rfl rfl rfl rfl) (fun _ _ w => w) (fun _ w => w) (ct_13 (t1 := t1) (t2 := t2) (by omega) ht1 ht2) (fun h396 _ Jh396 P395 => ?_)
                    have Ih396 := H.1 h396 Jh396
                    obtain ⟨z397, rfl, az397, bz397⟩ := P395
                    refine hq_p rfl rfl ?_
                    refine ty_inc (ls' := fun z398 => [some (.ref 76), some (.ref t1), some (.ref t2), some (.int x3), some (.int x4), some (.int z380), some (.int z398), some (.int z369), some (.int z374), some (.int z378), some (.int z382)]) rfl rfl (fun _ => rfl) (nm_addc nk_i1 (by omega) (by omega)) (fun z398 ez398 => ?_)
                    refine hq_p rfl rfl ?_
                    exact ihn359 ((2147483647 - z398.toInt).toNat) (by omega) z380 z398 (some (.int z369)) (some (.int z374)) (some (.int z378)) (some (.int z382)) h396 rfl (by omega) (by omega) (by omega) (by omega) rfl rfl rfl rfl Jh396
                · refine hq_p rfl rfl ?_
                  refine hq_p rfl rfl ?_
                  refine hq_p rfl rfl ?_
                  refine hq_p rfl rfl ?_
                  refine ty_callj 0 (W := ty_Wc) H Jh351 rfl (fun _ => rfl) rfl rfl rfl (hq_pre_o Ih351.1 (x := 76) (ci := 1) rfl (by decide) rfl rfl rfl rfl) (fun _ _ w => w) (fun _ w => w) (ct_10 (t1 := t1) (t2 := t2) (x3 := z369) (by omega) ht1 ht2) (fun h400 _ Jh400 P399 => ?_)
                  have Ih400 := H.1 h400 Jh400
                  obtain ⟨z401, rfl, az401, bz401⟩ := P399
                  refine hq_p rfl rfl ?_
                  refine hq_p rfl rfl ?_
                  refine hq_p rfl rfl ?_
                  refine hq_p rfl rfl ?_
                  refine hq_p rfl rfl ?_
                  refine ty_callj 0 (W := ty_Wc) H Jh400 rfl (fun _ => rfl) rfl rfl rfl (hq_pre_o Ih400.1 (x := 76) (ci := 1) rfl (by decide) rfl rfl rfl rfl) (fun _ _ w => w) (fun _ w => w) (ct_13 (t1 := t1) (t2 := t2) (by omega) ht1 ht2) (fun h403 _ Jh403 P402 => ?_)
                  have Ih403 := H.1 h403 Jh403
                  obtain ⟨z404, rfl, az404, bz404⟩ := P402
                  refine hq_p rfl rfl ?_
                  refine ty_inc (ls' := fun z405 => [some (.ref 76), some (.ref t1), some (.ref t2), some (.int x3), some (.int x4), some (.int z380), some (.int z405), some (.int z369), some (.int z374), some (.int z378), some (.int z382)]) rfl rfl (fun _ => rfl) (nm_addc nk_i1 (by omega) (by omega)) (fun z405 ez405 => ?_)
                  refine hq_p rfl rfl ?_
                  exact ihn359 ((2147483647 - z405.toInt).toNat) (by omega) z380 z405 (some (.int z369)) (some (.int z374)) (some (.int z378)) (some (.int z382)) h403 rfl (by omega) (by omega) (by omega) (by omega) rfl rfl rfl rfl Jh403
              · refine hq_p rfl rfl ?_
                refine hq_p rfl rfl ?_
                refine hq_p rfl rfl ?_
                refine hq_p rfl rfl ?_
                refine hq_p rfl rfl ?_
                refine ty_callj 0 (W := ty_Wc) H Jh351 rfl (fun _ => rfl) rfl rfl rfl (hq_pre_o Ih351.1 (x := 76) (ci := 1) rfl (by decide) rfl rfl rfl rfl) (fun _ _ w => w) (fun _ w => w) (ct_9 (t1 := t1) (t2 := t2) (x3 := z369) (x4 := z374) (by omega) ht1 ht2) (fun h407 _ Jh407 P406 => ?_)
                have Ih407 := H.1 h407 Jh407
                obtain ⟨z408, rfl, az408, bz408⟩ := P406
                refine hq_p rfl rfl ?_
                refine hq_p rfl rfl ?_
                refine hq_p rfl rfl ?_
                refine hq_p rfl rfl ?_
                refine hq_p rfl rfl ?_
                refine ty_callj 0 (W := ty_Wc) H Jh407 rfl (fun _ => rfl) rfl rfl rfl (hq_pre_o Ih407.1 (x := 76) (ci := 1) rfl (by decide) rfl rfl rfl rfl) (fun _ _ w => w) (fun _ w => w) (ct_13 (t1 := t1) (t2 := t2) (by omega) ht1 ht2) (fun h410 _ Jh410 P409 => ?_)
                have Ih410 := H.1 h410 Jh410
                obtain ⟨z411, rfl, az411, bz411⟩ := P409
                refine hq_p rfl rfl ?_
                refine ty_inc (ls' := fun z412 => [some (.ref 76), some (.ref t1), some (.ref t2), some (.int x3), some (.int x4), some (.int z380), some (.int z412), some (.int z369), some (.int z374), some (.int z378), some (.int z382)]) rfl rfl (fun _ => rfl) (nm_addc nk_i1 (by omega) (by omega)) (fun z412 ez412 => ?_)
                refine hq_p rfl rfl ?_
                exact ihn359 ((2147483647 - z412.toInt).toNat) (by omega) z380 z412 (some (.int z369)) (some (.int z374)) (some (.int z378)) (some (.int z382)) h410 rfl (by omega) (by omega) (by omega) (by omega) rfl rfl rfl rfl Jh410
            · refine hq_p rfl rfl ?_
              refine hq_p rfl rfl ?_
              refine ty_gI Ih351 rfl (ty_trs ht1) (by omega) (by decide) rfl (ty_trf ht1 0) (fun z413 ez413 az413 bz413 => ?_)
              refine hq_irem rfl (nm_nz (by omega)) (ty_ga (fun z414 az414 bz414 => ?_))
              refine hq_p rfl rfl ?_
              refine hq_p (ls' := [some (.ref 76), some (.ref t1), some (.ref t2), some (.int x3), some (.int x4), some (.int z371), some (.int y346), some (.int z369), some (.int z414), w349, w350]) rfl rfl ?_
              refine hq_p rfl rfl ?_
              refine ty_callp 1 Ih351 rfl (fun _ => rfl) rfl rfl rfl rfl (ct_17 (x0 := z371) (by omega)) (fun _ P415 => ?_)
              obtain ⟨z416, rfl, az416, bz416⟩ := P415
              refine hq_p (ls' := [some (.ref 76), some (.ref t1), some (.ref t2), some (.int x3), some (.int x4), some (.int z416), some (.int y346), some (.int z369), some (.int z414), w349, w350]) rfl rfl ?_
              refine hq_p rfl rfl ?_
              refine hq_p rfl rfl (ty_ge (n := 6) nk_b6 (fun z417 ez417 => ?_))
              refine hq_irem rfl (nm_nz (by omega)) (ty_ga (fun z418 az418 bz418 => ?_))
              refine hq_p (ls' := [some (.ref 76), some (.ref t1), some (.ref t2), some (.int x3), some (.int x4), some (.int z416), some (.int y346), some (.int z369), some (.int z414), some (.int z418), w350]) rfl rfl ?_
              refine hq_p rfl rfl ?_
              refine ty_callp 1 Ih351 rfl (fun _ => rfl) rfl rfl rfl rfl (ct_17 (x0 := z416) (by omega)) (fun _ P419 => ?_)
              obtain ⟨z420, rfl, az420, bz420⟩ := P419
              refine hq_p (ls' := [some (.ref 76), some (.ref t1), some (.ref t2), some (.int x3), some (.int x4), some (.int z420), some (.int y346), some (.int z369), some (.int z414), some (.int z418), w350]) rfl rfl ?_
              refine hq_p rfl rfl ?_
              refine hq_p rfl rfl (ty_ge (n := 4) nk_i4 (fun z421 ez421 => ?_))
              refine hq_irem rfl (nm_nz (by omega)) (ty_ga (fun z422 az422 bz422 => ?_))
              refine hq_p (ls' := [some (.ref 76), some (.ref t1), some (.ref t2), some (.int x3), some (.int x4), some (.int z420), some (.int y346), some (.int z369), some (.int z414), some (.int z418), some (.int z422)]) rfl rfl ?_
              refine hq_p rfl rfl ?_
              refine ty_zne rfl (fun c423 => ?_) (fun c423 => ?_)
              · clear c423
                refine hq_p rfl rfl ?_
                refine hq_p rfl rfl (ty_ge (n := 1) nk_i1 (fun z424 ez424 => ?_))
                refine ty_ine rfl (fun c425 => ?_) (fun c425 => ?_)
                · clear c425
                  refine hq_p rfl rfl ?_
                  refine hq_p rfl rfl (ty_ge (n := 2) nk_i2 (fun z426 ez426 => ?_))
                  refine ty_ine rfl (fun c427 => ?_) (fun c427 => ?_)
                  · clear c427
                    refine hq_p rfl rfl ?_
                    refine hq_p rfl rfl ?_
                    refine hq_p rfl rfl ?_
                    refine ty_callj 0 (W := ty_Wc) H Jh351 rfl (fun _ => rfl) rfl rfl rfl (hq_pre_o Ih351.1 (x := 76) (ci := 1) rfl (by decide) rfl rfl rfl rfl) (fun _ _ w => w) (fun _ w => w) (ct_13 (t1 := t1) (t2 := t2) (by omega) ht1 ht2) (fun h429 _ Jh429 P428 => ?_)
                    have Ih429 := H.1 h429 Jh429
                    obtain ⟨z430, rfl, az430, bz430⟩ := P428
                    refine hq_p rfl rfl ?_
                    refine ty_inc (ls' := fun z431 => [some (.ref 76), some (.ref t1), some (.ref t2), some (.int x3), some (.int x4), some (.int z420), some (.int z431), some (.int z369), some (.int z414), some (.int z418), some (.int z422)]) rfl rfl (fun _ => rfl) (nm_addc nk_i1 (by omega) (by omega)) (fun z431 ez431 => ?_)
                    refine hq_p rfl rfl ?_
                    exact ihn359 ((2147483647 - z431.toInt).toNat) (by omega) z420 z431 (some (.int z369)) (some (.int z414)) (some (.int z418)) (some (.int z422)) h429 rfl (by omega) (by omega) (by omega) (by omega) rfl rfl rfl rfl Jh429
                  · refine hq_p rfl rfl ?_
                    refine hq_p rfl rfl ?_
                    refine hq_p rfl rfl ?_
                    refine hq_p rfl rfl ?_
                    refine ty_callj 0 (W := ty_Wc) H Jh351 rfl (fun _ => rfl) rfl rfl rfl (hq_pre_o Ih351.1 (x := 76) (ci := 1) rfl (by decide) rfl rfl rfl rfl) (fun _ _ w => w) (fun _ w => w) (ct_11 (t1 := t1) (t2 := t2) (x3 := z418) (by omega) ht1 ht2) (fun h433 _ Jh433 P432 => ?_)
                    have Ih433 := H.1 h433 Jh433
                    obtain ⟨z434, rfl, az434, bz434⟩ := P432
                    refine hq_p rfl rfl ?_
                    refine hq_p rfl rfl ?_
                    refine hq_p rfl rfl ?_
                    refine hq_p rfl rfl ?_
                    refine ty_callj 0 (W := ty_Wc) H Jh433 rfl (fun _ => rfl) rfl rfl rfl (hq_pre_o Ih433.1 (x := 76) (ci := 1) rfl (by decide) rfl rfl rfl rfl) (fun _ _ w => w) (fun _ w => w) (ct_13 (t1 := t1) (t2 := t2) (by omega) ht1 ht2) (fun h436 _ Jh436 P435 => ?_)
                    have Ih436 := H.1 h436 Jh436
                    obtain ⟨z437, rfl, az437, bz437⟩ := P435
                    refine hq_p rfl rfl ?_
                    refine ty_inc (ls' := fun z438 => [some (.ref 76), some (.ref t1), some (.ref t2), some (.int x3), some (.int x4), some (.int z420), some (.int z438), some (.int z369), some (.int z414), some (.int z418), some (.int z422)]) rfl rfl (fun _ => rfl) (nm_addc nk_i1 (by omega) (by omega)) (fun z438 ez438 => ?_)
                    refine hq_p rfl rfl ?_
                    exact ihn359 ((2147483647 - z438.toInt).toNat) (by omega) z420 z438 (some (.int z369)) (some (.int z414)) (some (.int z418)) (some (.int z422)) h436 rfl (by omega) (by omega) (by omega) (by omega) rfl rfl rfl rfl Jh436
                · refine hq_p rfl rfl ?_
                  refine hq_p rfl rfl ?_
                  refine hq_p rfl rfl ?_
                  refine hq_p rfl rfl ?_
                  refine ty_callj 0 (W := ty_Wc) H Jh351 rfl (fun _ => rfl) rfl rfl rfl (hq_pre_o Ih351.1 (x := 76) (ci := 1) rfl (by decide) rfl rfl rfl rfl) (fun _ _ w => w) (fun _ w => w) (ct_10 (t1 := t1) (t2 := t2) (x3 := z369) (by omega) ht1 ht2) (fun h440 _ Jh440 P439 => ?_)
                  have Ih440 := H.1 h440 Jh440
                  obtain ⟨z441, rfl, az441, bz441⟩ := P439
                  refine hq_p rfl rfl ?_
                  refine hq_p rfl rfl ?_
                  refine hq_p rfl rfl ?_
                  refine hq_p rfl rfl ?_
                  refine hq_p rfl rfl ?_
                  refine ty_callj 0 (W := ty_Wc) H Jh440 rfl (fun _ => rfl) rfl rfl rfl (hq_pre_o Ih440.1 (x := 76) (ci := 1) rfl (by decide) rfl rfl rfl rfl) (fun _ _ w => w) (fun _ w => w) (ct_13 (t1 := t1) (t2 := t2) (by omega) ht1 ht2) (fun h443 _ Jh443 P442 => ?_)
                  have Ih443 := H.1 h443 Jh443
                  obtain ⟨z444, rfl, az444, bz444⟩ := P442
                  refine hq_p rfl rfl ?_
                  refine ty_inc (ls' := fun z445 => [some (.ref 76), some (.ref t1), some (.ref t2), some (.int x3), some (.int x4), some (.int z420), some (.int z445), some (.int z369), some (.int z414), some (.int z418), some (.int z422)]) rfl rfl (fun _ => rfl) (nm_addc nk_i1 (by omega) (by omega)) (fun z445 ez445 => ?_)
                  refine hq_p rfl rfl ?_
                  exact ihn359 ((2147483647 - z445.toInt).toNat) (by omega) z420 z445 (some (.int z369)) (some (.int z414)) (some (.int z418)) (some (.int z422)) h443 rfl (by omega) (by omega) (by omega) (by omega) rfl rfl rfl rfl Jh443
              · refine hq_p rfl rfl ?_
                refine hq_p rfl rfl ?_
                refine hq_p rfl rfl ?_
                refine hq_p rfl rfl ?_
                refine hq_p rfl rfl ?_
                refine ty_callj 0 (W := ty_Wc) H Jh351 rfl (fun _ => rfl) rfl rfl rfl (hq_pre_o Ih351.1 (x := 76) (ci := 1) rfl (by decide) rfl rfl rfl rfl) (fun _ _ w => w) (fun _ w => w) (ct_9 (t1 := t1) (t2 := t2) (x3 := z369) (x4 := z414) (by omega) ht1 ht2) (fun h447 _ Jh447 P446 => ?_)
                have Ih447 := H.1 h447 Jh447
                obtain ⟨z448, rfl, az448, bz448⟩ := P446
                refine hq_p rfl rfl ?_
                refine hq_p rfl rfl ?_
                refine hq_p rfl rfl ?_
                refine hq_p rfl rfl ?_
                refine hq_p rfl rfl ?_
                refine ty_callj 0 (W := ty_Wc) H Jh447 rfl (fun _ => rfl) rfl rfl rfl (hq_pre_o Ih447.1 (x := 76) (ci := 1) rfl (by decide) rfl rfl rfl rfl) (fun _ _ w => w) (fun _ w => w) (ct_13 (t1 := t1) (t2 := t2) (by omega) ht1 ht2) (fun h450 _ Jh450 P449 => ?_)
                have Ih450 := H.1 h450 Jh450
                obtain ⟨z451, rfl, az451, bz451⟩ := P449
                refine hq_p rfl rfl ?_
                refine ty_inc (ls' := fun z452 => [some (.ref 76), some (.ref t1), some (.ref t2), some (.int x3), some (.int x4), some (.int z420), some (.int z452), some (.int z369), some (.int z414), some (.int z418), some (.int z422)]) rfl rfl (fun _ => rfl) (nm_addc nk_i1 (by omega) (by omega)) (fun z452 ez452 => ?_)
                refine hq_p rfl rfl ?_
                exact ihn359 ((2147483647 - z452.toInt).toNat) (by omega) z420 z452 (some (.int z369)) (some (.int z414)) (some (.int z418)) (some (.int z422)) h450 rfl (by omega) (by omega) (by omega) (by omega) rfl rfl rfl rfl Jh450
          · refine hq_p rfl rfl ?_
            refine hq_p rfl rfl ?_
            refine ty_gI Ih351 rfl (ty_trs ht1) (by omega) (by decide) rfl (ty_trf ht1 3) (fun z453 ez453 az453 bz453 => ?_)
            refine hq_irem rfl (nm_nz (by omega)) (ty_ga (fun z454 az454 bz454 => ?_))
            refine hq_p rfl rfl ?_
            refine hq_p (ls' := [some (.ref 76), some (.ref t1), some (.ref t2), some (.int x3), some (.int x4), some (.int z366), some (.int y346), some (.int z454), w348, w349, w350]) rfl rfl ?_
            refine hq_p rfl rfl ?_
            refine ty_callp 1 Ih351 rfl (fun _ => rfl) rfl rfl rfl rfl (ct_17 (x0 := z366) (by omega)) (fun _ P455 => ?_)
            obtain ⟨z456, rfl, az456, bz456⟩ := P455
            refine hq_p (ls' := [some (.ref 76), some (.ref t1), some (.ref t2), some (.int x3), some (.int x4), some (.int z456), some (.int y346), some (.int z454), w348, w349, w350]) rfl rfl ?_
            refine hq_p rfl rfl ?_
            refine ty_gI Ih351 rfl (ty_trs ht1) (by omega) (by decide) rfl (ty_trf ht1 0) (fun z457 ez457 az457 bz457 => ?_)
            refine ty_zle rfl (fun c458 => ?_) (fun c458 => ?_)
            · refine hq_p rfl rfl (ty_ge (n := -1) nk_im1 (fun z459 ez459 => ?_))
              refine hq_p (ls' := [some (.ref 76), some (.ref t1), some (.ref t2), some (.int x3), some (.int x4), some (.int z456), some (.int y346), some (.int z454), some (.int z459), w349, w350]) rfl rfl ?_
              refine hq_p rfl rfl ?_
              refine ty_callp 1 Ih351 rfl (fun _ => rfl) rfl rfl rfl rfl (ct_17 (x0 := z456) (by omega)) (fun _ P460 => ?_)
              obtain ⟨z461, rfl, az461, bz461⟩ := P460
              refine hq_p (ls' := [some (.ref 76), some (.ref t1), some (.ref t2), some (.int x3), some (.int x4), some (.int z461), some (.int y346), some (.int z454), some (.int z459), w349, w350]) rfl rfl ?_
              refine hq_p rfl rfl ?_
              refine hq_p rfl rfl (ty_ge (n := 6) nk_b6 (fun z462 ez462 => ?_))
              refine hq_irem rfl (nm_nz (by omega)) (ty_ga (fun z463 az463 bz463 => ?_))
              refine hq_p (ls' := [some (.ref 76), some (.ref t1), some (.ref t2), some (.int x3), some (.int x4), some (.int z461), some (.int y346), some (.int z454), some (.int z459), some (.int z463), w350]) rfl rfl ?_
              refine hq_p rfl rfl ?_
              refine ty_callp 1 Ih351 rfl (fun _ => rfl) rfl rfl rfl rfl (ct_17 (x0 := z461) (by omega)) (fun _ P464 => ?_)
              obtain ⟨z465, rfl, az465, bz465⟩ := P464
              refine hq_p (ls' := [some (.ref 76), some (.ref t1), some (.ref t2), some (.int x3), some (.int x4), some (.int z465), some (.int y346), some (.int z454), some (.int z459), some (.int z463), w350]) rfl rfl ?_
              refine hq_p rfl rfl ?_
              refine hq_p rfl rfl (ty_ge (n := 4) nk_i4 (fun z466 ez466 => ?_))
              refine hq_irem rfl (nm_nz (by omega)) (ty_ga (fun z467 az467 bz467 => ?_))
              refine hq_p (ls' := [some (.ref 76), some (.ref t1), some (.ref t2), some (.int x3), some (.int x4), some (.int z465), some (.int y346), some (.int z454), some (.int z459), some (.int z463), some (.int z467)]) rfl rfl ?_
              refine hq_p rfl rfl ?_
              refine ty_zne rfl (fun c468 => ?_) (fun c468 => ?_)
              · clear c468
                refine hq_p rfl rfl ?_
                refine hq_p rfl rfl (ty_ge (n := 1) nk_i1 (fun z469 ez469 => ?_))
                refine ty_ine rfl (fun c470 => ?_) (fun c470 => ?_)
                · clear c470
                  refine hq_p rfl rfl ?_
                  refine hq_p rfl rfl (ty_ge (n := 2) nk_i2 (fun z471 ez471 => ?_))
                  refine ty_ine rfl (fun c472 => ?_) (fun c472 => ?_)
                  · clear c472
                    refine hq_p rfl rfl ?_
                    refine hq_p rfl rfl ?_
                    refine hq_p rfl rfl ?_
                    refine ty_callj 0 (W := ty_Wc) H Jh351 rfl (fun _ => rfl) rfl rfl rfl (hq_pre_o Ih351.1 (x := 76) (ci := 1) rfl (by decide) rfl rfl rfl rfl) (fun _ _ w => w) (fun _ w => w) (ct_13 (t1 := t1) (t2 := t2) (by omega) ht1 ht2) (fun h474 _ Jh474 P473 => ?_)
                    have Ih474 := H.1 h474 Jh474
                    obtain ⟨z475, rfl, az475, bz475⟩ := P473
                    refine hq_p rfl rfl ?_
                    refine ty_inc (ls' := fun z476 => [some (.ref 76), some (.ref t1), some (.ref t2), some (.int x3), some (.int x4), some (.int z465), some (.int z476), some (.int z454), some (.int z459), some (.int z463), some (.int z467)]) rfl rfl (fun _ => rfl) (nm_addc nk_i1 (by omega) (by omega)) (fun z476 ez476 => ?_)
                    refine hq_p rfl rfl ?_
                    exact ihn359 ((2147483647 - z476.toInt).toNat) (by omega) z465 z476 (some (.int z454)) (some (.int z459)) (some (.int z463)) (some (.int z467)) h474 rfl (by omega) (by omega) (by omega) (by omega) rfl rfl rfl rfl Jh474
                  · refine hq_p rfl rfl ?_
                    refine hq_p rfl rfl ?_
                    refine hq_p rfl rfl ?_
                    refine hq_p rfl rfl ?_
                    refine ty_callj 0 (W := ty_Wc) H Jh351 rfl (fun _ => rfl) rfl rfl rfl (hq_pre_o Ih351.1 (x := 76) (ci := 1) rfl (by decide) rfl rfl rfl rfl) (fun _ _ w => w) (fun _ w => w) (ct_11 (t1 := t1) (t2 := t2) (x3 := z463) (by omega) ht1 ht2) (fun h478 _ Jh478 P477 => ?_)
                    have Ih478 := H.1 h478 Jh478
                    obtain ⟨z479, rfl, az479, bz479⟩ := P477
                    refine hq_p rfl rfl ?_
                    refine hq_p rfl rfl ?_
                    refine hq_p rfl rfl ?_
                    refine hq_p rfl rfl ?_
                    refine ty_callj 0 (W := ty_Wc) H Jh478 rfl (fun _ => rfl) rfl rfl rfl (hq_pre_o Ih478.1 (x := 76) (ci := 1) rfl (by decide) rfl rfl rfl rfl) (fun _ _ w => w) (fun _ w => w) (ct_13 (t1 := t1) (t2 := t2) (by omega) ht1 ht2) (fun h481 _ Jh481 P480 => ?_)
                    have Ih481 := H.1 h481 Jh481
                    obtain ⟨z482, rfl, az482, bz482⟩ := P480
                    refine hq_p rfl rfl ?_
                    refine ty_inc (ls' := fun z483 => [some (.ref 76), some (.ref t1), some (.ref t2), some (.int x3), some (.int x4), some (.int z465), some (.int z483), some (.int z454), some (.int z459), some (.int z463), some (.int z467)]) rfl rfl (fun _ => rfl) (nm_addc nk_i1 (by omega) (by omega)) (fun z483 ez483 => ?_)
                    refine hq_p rfl rfl ?_
                    exact ihn359 ((2147483647 - z483.toInt).toNat) (by omega) z465 z483 (some (.int z454)) (some (.int z459)) (some (.int z463)) (some (.int z467)) h481 rfl (by omega) (by omega) (by omega) (by omega) rfl rfl rfl rfl Jh481
                · refine hq_p rfl rfl ?_
                  refine hq_p rfl rfl ?_
                  refine hq_p rfl rfl ?_
                  refine hq_p rfl rfl ?_
                  refine ty_callj 0 (W := ty_Wc) H Jh351 rfl (fun _ => rfl) rfl rfl rfl (hq_pre_o Ih351.1 (x := 76) (ci := 1) rfl (by decide) rfl rfl rfl rfl) (fun _ _ w => w) (fun _ w => w) (ct_10 (t1 := t1) (t2 := t2) (x3 := z454) (by omega) ht1 ht2) (fun h485 _ Jh485 P484 => ?_)
                  have Ih485 := H.1 h485 Jh485
                  obtain ⟨z486, rfl, az486, bz486⟩ := P484
                  refine hq_p rfl rfl ?_
                  refine hq_p rfl rfl ?_
                  refine hq_p rfl rfl ?_
                  refine hq_p rfl rfl ?_
                  refine hq_p rfl rfl ?_
                  refine ty_callj 0 (W := ty_Wc) H Jh485 rfl (fun _ => rfl) rfl rfl rfl (hq_pre_o Ih485.1 (x := 76) (ci := 1) rfl (by decide) rfl rfl rfl rfl) (fun _ _ w => w) (fun _ w => w) (ct_13 (t1 := t1) (t2 := t2) (by omega) ht1 ht2) (fun h488 _ Jh488 P487 => ?_)
                  have Ih488 := H.1 h488 Jh488
                  obtain ⟨z489, rfl, az489, bz489⟩ := P487
                  refine hq_p rfl rfl ?_
                  refine ty_inc (ls' := fun z490 => [some (.ref 76), some (.ref t1), some (.ref t2), some (.int x3), some (.int x4), some (.int z465), some (.int z490), some (.int z454), some (.int z459), some (.int z463), some (.int z467)]) rfl rfl (fun _ => rfl) (nm_addc nk_i1 (by omega) (by omega)) (fun z490 ez490 => ?_)
                  refine hq_p rfl rfl ?_
                  exact ihn359 ((2147483647 - z490.toInt).toNat) (by omega) z465 z490 (some (.int z454)) (some (.int z459)) (some (.int z463)) (some (.int z467)) h488 rfl (by omega) (by omega) (by omega) (by omega) rfl rfl rfl rfl Jh488
              · refine hq_p rfl rfl ?_
                refine hq_p rfl rfl ?_
                refine hq_p rfl rfl ?_
                refine hq_p rfl rfl ?_
                refine hq_p rfl rfl ?_
                refine ty_callj 0 (W := ty_Wc) H Jh351 rfl (fun _ => rfl) rfl rfl rfl (hq_pre_o Ih351.1 (x := 76) (ci := 1) rfl (by decide) rfl rfl rfl rfl) (fun _ _ w => w) (fun _ w => w) (ct_9 (t1 := t1) (t2 := t2) (x3 := z454) (x4 := z459) (by omega) ht1 ht2) (fun h492 _ Jh492 P491 => ?_)
                have Ih492 := H.1 h492 Jh492
                obtain ⟨z493, rfl, az493, bz493⟩ := P491
                refine hq_p rfl rfl ?_
                refine hq_p rfl rfl ?_
                refine hq_p rfl rfl ?_
                refine hq_p rfl rfl ?_
                refine hq_p rfl rfl ?_
                refine ty_callj 0 (W := ty_Wc) H Jh492 rfl (fun _ => rfl) rfl rfl rfl (hq_pre_o Ih492.1 (x := 76) (ci := 1) rfl (by decide) rfl rfl rfl rfl) (fun _ _ w => w) (fun _ w => w) (ct_13 (t1 := t1) (t2 := t2) (by omega) ht1 ht2) (fun h495 _ Jh495 P494 => ?_)
                have Ih495 := H.1 h495 Jh495
                obtain ⟨z496, rfl, az496, bz496⟩ := P494
                refine hq_p rfl rfl ?_
                refine ty_inc (ls' := fun z497 => [some (.ref 76), some (.ref t1), some (.ref t2), some (.int x3), some (.int x4), some (.int z465), some (.int z497), some (.int z454), some (.int z459), some (.int z463), some (.int z467)]) rfl rfl (fun _ => rfl) (nm_addc nk_i1 (by omega) (by omega)) (fun z497 ez497 => ?_)
                refine hq_p rfl rfl ?_
                exact ihn359 ((2147483647 - z497.toInt).toNat) (by omega) z465 z497 (some (.int z454)) (some (.int z459)) (some (.int z463)) (some (.int z467)) h495 rfl (by omega) (by omega) (by omega) (by omega) rfl rfl rfl rfl Jh495
            · refine hq_p rfl rfl ?_
              refine hq_p rfl rfl ?_
              refine ty_gI Ih351 rfl (ty_trs ht1) (by omega) (by decide) rfl (ty_trf ht1 0) (fun z498 ez498 az498 bz498 => ?_)
              refine hq_irem rfl (nm_nz (by omega)) (ty_ga (fun z499 az499 bz499 => ?_))
              refine hq_p rfl rfl ?_
              refine hq_p (ls' := [some (.ref 76), some (.ref t1), some (.ref t2), some (.int x3), some (.int x4), some (.int z456), some (.int y346), some (.int z454), some (.int z499), w349, w350]) rfl rfl ?_
              refine hq_p rfl rfl ?_
              refine ty_callp 1 Ih351 rfl (fun _ => rfl) rfl rfl rfl rfl (ct_17 (x0 := z456) (by omega)) (fun _ P500 => ?_)
              obtain ⟨z501, rfl, az501, bz501⟩ := P500
              refine hq_p (ls' := [some (.ref 76), some (.ref t1), some (.ref t2), some (.int x3), some (.int x4), some (.int z501), some (.int y346), some (.int z454), some (.int z499), w349, w350]) rfl rfl ?_
              refine hq_p rfl rfl ?_
              refine hq_p rfl rfl (ty_ge (n := 6) nk_b6 (fun z502 ez502 => ?_))
              refine hq_irem rfl (nm_nz (by omega)) (ty_ga (fun z503 az503 bz503 => ?_))
              refine hq_p (ls' := [some (.ref 76), some (.ref t1), some (.ref t2), some (.int x3), some (.int x4), some (.int z501), some (.int y346), some (.int z454), some (.int z499), some (.int z503), w350]) rfl rfl ?_
              refine hq_p rfl rfl ?_
              refine ty_callp 1 Ih351 rfl (fun _ => rfl) rfl rfl rfl rfl (ct_17 (x0 := z501) (by omega)) (fun _ P504 => ?_)
              obtain ⟨z505, rfl, az505, bz505⟩ := P504
              refine hq_p (ls' := [some (.ref 76), some (.ref t1), some (.ref t2), some (.int x3), some (.int x4), some (.int z505), some (.int y346), some (.int z454), some (.int z499), some (.int z503), w350]) rfl rfl ?_
              refine hq_p rfl rfl ?_
              refine hq_p rfl rfl (ty_ge (n := 4) nk_i4 (fun z506 ez506 => ?_))
              refine hq_irem rfl (nm_nz (by omega)) (ty_ga (fun z507 az507 bz507 => ?_))
              refine hq_p (ls' := [some (.ref 76), some (.ref t1), some (.ref t2), some (.int x3), some (.int x4), some (.int z505), some (.int y346), some (.int z454), some (.int z499), some (.int z503), some (.int z507)]) rfl rfl ?_
              refine hq_p rfl rfl ?_
              refine ty_zne rfl (fun c508 => ?_) (fun c508 => ?_)
              · clear c508
                refine hq_p rfl rfl ?_
                refine hq_p rfl rfl (ty_ge (n := 1) nk_i1 (fun z509 ez509 => ?_))
                refine ty_ine rfl (fun c510 => ?_) (fun c510 => ?_)
                · clear c510
                  refine hq_p rfl rfl ?_
                  refine hq_p rfl rfl (ty_ge (n := 2) nk_i2 (fun z511 ez511 => ?_))
                  refine ty_ine rfl (fun c512 => ?_) (fun c512 => ?_)
                  · clear c512
                    refine hq_p rfl rfl ?_
                    refine hq_p rfl rfl ?_
                    refine hq_p rfl rfl ?_
                    refine ty_callj 0 (W := ty_Wc) H Jh351 rfl (fun _ => rfl) rfl rfl rfl (hq_pre_o Ih351.1 (x := 76) (ci := 1) rfl (by decide) rfl rfl rfl rfl) (fun _ _ w => w) (fun _ w => w) (ct_13 (t1 := t1) (t2 := t2) (by omega) ht1 ht2) (fun h514 _ Jh514 P513 => ?_)
                    have Ih514 := H.1 h514 Jh514
                    obtain ⟨z515, rfl, az515, bz515⟩ := P513
                    refine hq_p rfl rfl ?_
                    refine ty_inc (ls' := fun z516 => [some (.ref 76), some (.ref t1), some (.ref t2), some (.int x3), some (.int x4), some (.int z505), some (.int z516), some (.int z454), some (.int z499), some (.int z503), some (.int z507)]) rfl rfl (fun _ => rfl) (nm_addc nk_i1 (by omega) (by omega)) (fun z516 ez516 => ?_)
                    refine hq_p rfl rfl ?_
                    exact ihn359 ((2147483647 - z516.toInt).toNat) (by omega) z505 z516 (some (.int z454)) (some (.int z499)) (some (.int z503)) (some (.int z507)) h514 rfl (by omega) (by omega) (by omega) (by omega) rfl rfl rfl rfl Jh514
                  · refine hq_p rfl rfl ?_
                    refine hq_p rfl rfl ?_
                    refine hq_p rfl rfl ?_
                    refine hq_p rfl rfl ?_
                    refine ty_callj 0 (W := ty_Wc) H Jh351 rfl (fun _ => rfl) rfl rfl rfl (hq_pre_o Ih351.1 (x := 76) (ci := 1) rfl (by decide) rfl rfl rfl rfl) (fun _ _ w => w) (fun _ w => w) (ct_11 (t1 := t1) (t2 := t2) (x3 := z503) (by omega) ht1 ht2) (fun h518 _ Jh518 P517 => ?_)
                    have Ih518 := H.1 h518 Jh518
                    obtain ⟨z519, rfl, az519, bz519⟩ := P517
                    refine hq_p rfl rfl ?_
                    refine hq_p rfl rfl ?_
                    refine hq_p rfl rfl ?_
                    refine hq_p rfl rfl ?_
                    refine ty_callj 0 (W := ty_Wc) H Jh518 rfl (fun _ => rfl) rfl rfl rfl (hq_pre_o Ih518.1 (x := 76) (ci := 1) rfl (by decide) rfl rfl rfl rfl) (fun _ _ w => w) (fun _ w => w) (ct_13 (t1 := t1) (t2 := t2) (by omega) ht1 ht2) (fun h521 _ Jh521 P520 => ?_)
                    have Ih521 := H.1 h521 Jh521
                    obtain ⟨z522, rfl, az522, bz522⟩ := P520
                    refine hq_p rfl rfl ?_
                    refine ty_inc (ls' := fun z523 => [some (.ref 76), some (.ref t1), some (.ref t2), some (.int x3), some (.int x4), some (.int z505), some (.int z523), some (.int z454), some (.int z499), some (.int z503), some (.int z507)]) rfl rfl (fun _ => rfl) (nm_addc nk_i1 (by omega) (by omega)) (fun z523 ez523 => ?_)
                    refine hq_p rfl rfl ?_
                    exact ihn359 ((2147483647 - z523.toInt).toNat) (by omega) z505 z523 (some (.int z454)) (some (.int z499)) (some (.int z503)) (some (.int z507)) h521 rfl (by omega) (by omega) (by omega) (by omega) rfl rfl rfl rfl Jh521
                · refine hq_p rfl rfl ?_
                  refine hq_p rfl rfl ?_
                  refine hq_p rfl rfl ?_
                  refine hq_p rfl rfl ?_
                  refine ty_callj 0 (W := ty_Wc) H Jh351 rfl (fun _ => rfl) rfl rfl rfl (hq_pre_o Ih351.1 (x := 76) (ci := 1) rfl (by decide) rfl rfl rfl rfl) (fun _ _ w => w) (fun _ w => w) (ct_10 (t1 := t1) (t2 := t2) (x3 := z454) (by omega) ht1 ht2) (fun h525 _ Jh525 P524 => ?_)
                  have Ih525 := H.1 h525 Jh525
                  obtain ⟨z526, rfl, az526, bz526⟩ := P524
                  refine hq_p rfl rfl ?_
                  refine hq_p rfl rfl ?_
                  refine hq_p rfl rfl ?_
                  refine hq_p rfl rfl ?_
                  refine hq_p rfl rfl ?_
                  refine ty_callj 0 (W := ty_Wc) H Jh525 rfl (fun _ => rfl) rfl rfl rfl (hq_pre_o Ih525.1 (x := 76) (ci := 1) rfl (by decide) rfl rfl rfl rfl) (fun _ _ w => w) (fun _ w => w) (ct_13 (t1 := t1) (t2 := t2) (by omega) ht1 ht2) (fun h528 _ Jh528 P527 => ?_)
                  have Ih528 := H.1 h528 Jh528
                  obtain ⟨z529, rfl, az529, bz529⟩ := P527
                  refine hq_p rfl rfl ?_
                  refine ty_inc (ls' := fun z530 => [some (.ref 76), some (.ref t1), some (.ref t2), some (.int x3), some (.int x4), some (.int z505), some (.int z530), some (.int z454), some (.int z499), some (.int z503), some (.int z507)]) rfl rfl (fun _ => rfl) (nm_addc nk_i1 (by omega) (by omega)) (fun z530 ez530 => ?_)
                  refine hq_p rfl rfl ?_
                  exact ihn359 ((2147483647 - z530.toInt).toNat) (by omega) z505 z530 (some (.int z454)) (some (.int z499)) (some (.int z503)) (some (.int z507)) h528 rfl (by omega) (by omega) (by omega) (by omega) rfl rfl rfl rfl Jh528
              · refine hq_p rfl rfl ?_
                refine hq_p rfl rfl ?_
                refine hq_p rfl rfl ?_
                refine hq_p rfl rfl ?_
                refine hq_p rfl rfl ?_
                refine ty_callj 0 (W := ty_Wc) H Jh351 rfl (fun _ => rfl) rfl rfl rfl (hq_pre_o Ih351.1 (x := 76) (ci := 1) rfl (by decide) rfl rfl rfl rfl) (fun _ _ w => w) (fun _ w => w) (ct_9 (t1 := t1) (t2 := t2) (x3 := z454) (x4 := z499) (by omega) ht1 ht2) (fun h532 _ Jh532 P531 => ?_)
                have Ih532 := H.1 h532 Jh532
                obtain ⟨z533, rfl, az533, bz533⟩ := P531
                refine hq_p rfl rfl ?_
                refine hq_p rfl rfl ?_
                refine hq_p rfl rfl ?_
                refine hq_p rfl rfl ?_
                refine hq_p rfl rfl ?_
                refine ty_callj 0 (W := ty_Wc) H Jh532 rfl (fun _ => rfl) rfl rfl rfl (hq_pre_o Ih532.1 (x := 76) (ci := 1) rfl (by decide) rfl rfl rfl rfl) (fun _ _ w => w) (fun _ w => w) (ct_13 (t1 := t1) (t2 := t2) (by omega) ht1 ht2) (fun h535 _ Jh535 P534 => ?_)
                have Ih535 := H.1 h535 Jh535
                obtain ⟨z536, rfl, az536, bz536⟩ := P534
                refine hq_p rfl rfl ?_
                refine ty_inc (ls' := fun z537 => [some (.ref 76), some (.ref t1), some (.ref t2), some (.int x3), some (.int x4), some (.int z505), some (.int z537), some (.int z454), some (.int z499), some (.int z503), some (.int z507)]) rfl rfl (fun _ => rfl) (nm_addc nk_i1 (by omega) (by omega)) (fun z537 ez537 => ?_)
                refine hq_p rfl rfl ?_
                exact ihn359 ((2147483647 - z537.toInt).toNat) (by omega) z505 z537 (some (.int z454)) (some (.int z499)) (some (.int z503)) (some (.int z507)) h535 rfl (by omega) (by omega) (by omega) (by omega) rfl rfl rfl rfl Jh535
  exact L6_n359 _ x3 z1 none none none none h rfl (by omega) (by omega) (by omega) (by omega) rfl rfl rfl rfl hJ
set_option maxRecDepth 8000 in
set_option maxHeartbeats 20000000 in
theorem ct_14 {X : pm_X} {d : Nat} {h : pm_H} {t2 : Nat} {t3 : Nat} (hd : 7 ≤ d) (ht2 : ty_tr t2) (ht3 : ty_sp t3) : ty_M X ty_Wc d 14 [.ref 76, .ref 64, .ref t2, .ref t3] h (ty_pi (-2147483648) 2147483647) := by
  intro J H hJ
  obtain ⟨d, rfl⟩ : ∃ e, d = e + 1 := ⟨d - 1, by omega⟩
  have I := H.1 h hJ
  have lt2 := ty_trl ht2
  have lt3 := ty_spl ht3
  refine hq_M.enter (q := (⟨"TrainBearers$Deeds", "runText", "(LTrainBearers$Text;LTrainBearers$Train;LTrainBearers$Steps;)I"⟩, _, 11, some .int, 1, 4, pm_c14)) rfl rfl ?_
  show hq_W X d 1 false (some .int) pm_c14 (0, [some (.ref 76), some (.ref 64), some (.ref t2), some (.ref t3), none, none, none, none, none, none, none], [], h) (fun h' v => J h' ∧ (ty_pi (-2147483648) 2147483647) h' v)
  refine hq_p rfl rfl (ty_ge (n := 0) nk_i0 (fun z1 ez1 => ?_))
  refine hq_p (ls' := [some (.ref 76), some (.ref 64), some (.ref t2), some (.ref t3), some (.int z1), none, none, none, none, none, none]) rfl rfl ?_
  refine hq_p rfl rfl (ty_ge (n := -1) nk_im1 (fun z2 ez2 => ?_))
  refine hq_p (ls' := [some (.ref 76), some (.ref 64), some (.ref t2), some (.ref t3), some (.int z1), some (.int z2), none, none, none, none, none]) rfl rfl ?_
  refine hq_p rfl rfl (ty_ge (n := 0) nk_i0 (fun z3 ez3 => ?_))
  refine hq_p (ls' := [some (.ref 76), some (.ref 64), some (.ref t2), some (.ref t3), some (.int z1), some (.int z2), some (.int z3), none, none, none, none]) rfl rfl ?_
  have L9_n116 : ∀ n116 : Nat, ∀ (y100 : Int32) (y101 : Int32) (y102 : Int32) (w103 : Option Value) (w104 : Option Value) (w105 : Option Value) (w106 : Option Value) (h107 : pm_H), (12 - y102.toInt).toNat = n116 → -2147483648 ≤ y100.toInt → y100.toInt ≤ 2147483647 → -1 ≤ y101.toInt → y101.toInt ≤ 2147483647 → 0 ≤ y102.toInt → y102.toInt ≤ 12 → pm_two w103 = false → pm_two w104 = false → pm_two w105 = false → pm_two w106 = false → J h107 → hq_W X d 1 false (some .int) pm_c14 (9, [some (.ref 76), some (.ref 64), some (.ref t2), some (.ref t3), some (.int y100), some (.int y101), some (.int y102), w103, w104, w105, w106], [], h107) (fun h' v => J h' ∧ (ty_pi (-2147483648) 2147483647) h' v) := by
    intro n116
    induction n116 using Nat.strongRecOn with
    | ind n116 ihn116 =>
      intro y100 y101 y102 w103 w104 w105 w106 h107 mn116 ay100 by100 ay101 by101 ay102 by102 kw103 kw104 kw105 kw106 Jh107
      have Ih107 := H.1 h107 Jh107
      refine hq_p rfl rfl ?_
      refine hq_p rfl rfl ?_
      refine ty_gI Ih107 rfl rfl (by decide) (by decide) rfl rfl (fun z117 ez117 az117 bz117 => ?_)
      refine ty_ige rfl (fun c118 => ?_) (fun c118 => ?_)
      · refine hq_p rfl rfl ?_
        exact hq_W.ret rfl rfl rfl ⟨Jh107, _, rfl, by omega, by omega⟩
      · refine hq_p rfl rfl (ty_ge (n := 0) nk_i0 (fun z119 ez119 => ?_))
        refine hq_p (ls' := [some (.ref 76), some (.ref 64), some (.ref t2), some (.ref t3), some (.int y100), some (.int y101), some (.int y102), some (.int z119), w104, w105, w106]) rfl rfl ?_
        have L21_n477 : ∀ n477 : Nat, ∀ (y463 : Int32) (y464 : Int32) (y465 : Int32) (w466 : Option Value) (w467 : Option Value) (w468 : Option Value) (h469 : pm_H), (2147483647 - y465.toInt).toNat = n477 → -2147483648 ≤ y463.toInt → y463.toInt ≤ 2147483647 → -1 ≤ y464.toInt → y464.toInt ≤ 2147483647 → 0 ≤ y465.toInt → y465.toInt ≤ 2147483647 → pm_two w466 = false → pm_two w467 = false → pm_two w468 = false → J h469 → hq_W X d 1 false (some .int) pm_c14 (21, [some (.ref 76), some (.ref 64), some (.ref t2), some (.ref t3), some (.int y463), some (.int y464), some (.int y102), some (.int y465), w466, w467, w468], [], h469) (fun h' v => J h' ∧ (ty_pi (-2147483648) 2147483647) h' v) := by
          intro n477
          induction n477 using Nat.strongRecOn with
          | ind n477 ihn477 =>
            intro y463 y464 y465 w466 w467 w468 h469 mn477 ay463 by463 ay464 by464 ay465 by465 kw466 kw467 kw468 Jh469
            have Ih469 := H.1 h469 Jh469
            refine hq_p rfl rfl ?_
            refine hq_p rfl rfl ?_
            refine hq_gR Ih469.1 rfl rfl (by decide) (by decide) rfl ?_
            refine hq_p rfl rfl ?_
            refine ty_aL Ih469 rfl rfl (by decide) (by omega) (by omega) (fun _ _ => ty_le rfl) (fun z478 ez478 az478 bz478 => ?_)
            refine ty_ige rfl (fun c479 => ?_) (fun c479 => ?_)
            · refine ty_inc (ls' := fun z480 => [some (.ref 76), some (.ref 64), some (.ref t2), some (.ref t3), some (.int y463), some (.int y464), some (.int z480), some (.int y465), w466, w467, w468]) rfl rfl (fun _ => rfl) (nm_addc nk_i1 (by omega) (by omega)) (fun z480 ez480 => ?_)
              refine hq_p rfl rfl ?_
              exact ihn116 ((12 - z480.toInt).toNat) (by omega) y463 y464 z480 (some (.int y465)) (w466) (w467) (w468) h469 rfl (by omega) (by omega) (by omega) (by omega) (by omega) (by omega) rfl kw466 kw467 kw468 Jh469
            · refine hq_p rfl rfl ?_
              refine hq_p rfl rfl ?_
              refine hq_p rfl rfl ?_
              refine ty_gI Ih469 rfl rfl (by decide) (by decide) rfl rfl (fun z481 ez481 az481 bz481 => ?_)
              refine hq_p rfl rfl ?_
              refine hq_p rfl rfl ?_
              refine ty_callj 0 (W := ty_Wc) H Jh469 rfl (fun _ => rfl) rfl rfl rfl (hq_pre_o Ih469.1 (x := 76) (ci := 1) rfl (by decide) rfl rfl rfl rfl) (fun _ _ w => w) (fun _ w => w) (ct_15 (t1 := t2) (x2 := z481) (x3 := y463) (x4 := y464) (by omega) ht2) (fun h483 _ Jh483 P482 => ?_)
              have Ih483 := H.1 h483 Jh483
              subst P482
              refine hq_p rfl rfl ?_
              refine hq_gR Ih483.1 rfl rfl (by decide) (by decide) rfl ?_
              refine hq_p rfl rfl ?_
              refine ty_aL Ih483 rfl rfl (by decide) (by omega) (by omega) (fun _ _ => ty_le rfl) (fun z484 ez484 az484 bz484 => ?_)
              refine hq_p rfl rfl (ty_ge (n := -1) nk_im1 (fun z485 ez485 => ?_))
              refine ty_ieq rfl (fun c486 => ?_) (fun c486 => ?_)
              · refine hq_p rfl rfl ?_
                refine hq_gR Ih483.1 rfl rfl (by decide) (by decide) rfl ?_
                refine hq_p rfl rfl ?_
                refine ty_aL Ih483 rfl rfl (by decide) (by omega) (by omega) (fun _ _ => ty_le rfl) (fun z487 ez487 az487 bz487 => ?_)
                refine hq_p rfl rfl (ty_ge (n := -1) nk_im1 (fun z488 ez488 => ?_))
                refine ty_ine rfl (fun c489 => ?_) (fun c489 => ?_)
                · clear c489
                  refine hq_p rfl rfl ?_
                  refine hq_gR Ih483.1 rfl rfl (by decide) (by decide) rfl ?_
                  refine hq_p rfl rfl ?_
                  refine hq_p rfl rfl ?_
                  refine hq_gR Ih483.1 rfl rfl (by decide) (by decide) rfl ?_
                  refine hq_p rfl rfl ?_
                  refine ty_aL Ih483 rfl rfl (by decide) (by omega) (by omega) (fun _ _ => ty_le rfl) (fun z490 ez490 az490 bz490 => ?_)
                  refine hq_p rfl rfl ?_
                  refine hq_gR Ih483.1 rfl rfl (by decide) (by decide) rfl ?_
                  refine ty_callj 0 (W := ty_Wc) H Jh483 rfl (fun _ => rfl) rfl rfl rfl (hq_pre_o Ih483.1 (x := 81) (ci := 6) rfl (by decide) rfl rfl rfl rfl) (fun a k w => by unfold ty_Wu at w; unfold ty_Wc; omega) (by unfold ty_Wu ty_Wc; omega) (ct_58a (x2 := z490) (by omega)) (fun h492 _ Jh492 P491 => ?_)
                  have Ih492 := H.1 h492 Jh492
                  obtain ⟨z493, rfl, az493, bz493⟩ := P491
                  refine hq_p (ls' := [some (.ref 76), some (.ref 64), some (.ref t2), some (.ref t3), some (.int y463), some (.int y464), some (.int y102), some (.int y465), some (.int z493), w467, w468]) rfl rfl ?_
                  refine hq_p rfl rfl ?_
                  refine hq_gR Ih492.1 rfl rfl (by decide) (by decide) rfl ?_
                  refine hq_p rfl rfl ?_
                  refine ty_aL Ih492 rfl rfl (by decide) (by omega) (by omega) (fun _ _ => ty_le rfl) (fun z494 ez494 az494 bz494 => ?_)
                  refine hq_p rfl rfl (ty_ge (n := -1) nk_im1 (fun z495 ez495 => ?_))
                  refine ty_ine rfl (fun c496 => ?_) (fun c496 => ?_)
                  · clear c496
                    refine hq_p rfl rfl ?_
                    refine hq_gR Ih492.1 rfl rfl (by decide) (by decide) rfl ?_
                    refine hq_p rfl rfl ?_
                    refine hq_p rfl rfl ?_
                    refine hq_gR Ih492.1 rfl rfl (by decide) (by decide) rfl ?_
                    refine hq_p rfl rfl ?_
                    refine ty_aL Ih492 rfl rfl (by decide) (by omega) (by omega) (fun _ _ => ty_le rfl) (fun z497 ez497 az497 bz497 => ?_)
                    refine hq_p rfl rfl ?_
                    refine hq_gR Ih492.1 rfl rfl (by decide) (by decide) rfl ?_
                    refine ty_callj 0 (W := ty_Wc) H Jh492 rfl (fun _ => rfl) rfl rfl rfl (hq_pre_o Ih492.1 (x := 81) (ci := 6) rfl (by decide) rfl rfl rfl rfl) (fun a k w => by unfold ty_Wu at w; unfold ty_Wc; omega) (by unfold ty_Wu ty_Wc; omega) (ct_58a (x2 := z497) (by omega)) (fun h499 _ Jh499 P498 => ?_)
                    have Ih499 := H.1 h499 Jh499
                    obtain ⟨z500, rfl, az500, bz500⟩ := P498
                    refine hq_p (ls' := [some (.ref 76), some (.ref 64), some (.ref t2), some (.ref t3), some (.int y463), some (.int y464), some (.int y102), some (.int y465), some (.int z493), some (.int z500), w468]) rfl rfl ?_
                    refine hq_p rfl rfl (ty_ge (n := -3) nk_bm3 (fun z501 ez501 => ?_))
                    refine hq_p (ls' := [some (.ref 76), some (.ref 64), some (.ref t2), some (.ref t3), some (.int y463), some (.int y464), some (.int y102), some (.int y465), some (.int z493), some (.int z500), some (.int z501)]) rfl rfl ?_
                    refine hq_p rfl rfl ?_
                    refine hq_p rfl rfl (ty_ge (n := -2000000000) nk_dm2000000000 (fun z502 ez502 => ?_))
                    refine ty_ieq rfl (fun c503 => ?_) (fun c503 => ?_)
                    · refine hq_p rfl rfl ?_
                      refine ty_zge rfl (fun c504 => ?_) (fun c504 => ?_)
                      · exfalso; omega
                      · refine hq_p rfl rfl ?_
                        refine hq_p rfl rfl ?_
                        refine ty_pI (W := ty_Wc) H Jh499 rfl rfl (by decide) rfl rfl (by unfold ty_Wc; omega) rfl (by omega) (by omega) (fun h505 eh505 Jh505 => ?_)
                        have wh505 : (hs_fI h505 76 5).toInt = y102.toInt := by rw [eh505]; exact congrArg Int32.toInt (ty_fI_eq Ih499.1 rfl (by decide) rfl)
                        have Ih505 := H.1 h505 Jh505
                        refine hq_p rfl rfl (ty_ge (n := -3) nk_bm3 (fun z506 ez506 => ?_))
                        exact hq_W.ret rfl rfl rfl ⟨Jh505, _, rfl, by omega, by omega⟩
                    · clear c503
                      refine hq_p rfl rfl ?_
                      refine hq_p rfl rfl (ty_ge (n := -2000000000) nk_dm2000000000 (fun z507 ez507 => ?_))
                      refine ty_ieq rfl (fun c508 => ?_) (fun c508 => ?_)
                      · refine hq_p rfl rfl ?_
                        refine ty_zge rfl (fun c509 => ?_) (fun c509 => ?_)
                        · exfalso; omega
                        · refine hq_p rfl rfl ?_
                          refine hq_p rfl rfl ?_
                          refine ty_pI (W := ty_Wc) H Jh499 rfl rfl (by decide) rfl rfl (by unfold ty_Wc; omega) rfl (by omega) (by omega) (fun h510 eh510 Jh510 => ?_)
                          have wh510 : (hs_fI h510 76 5).toInt = y102.toInt := by rw [eh510]; exact congrArg Int32.toInt (ty_fI_eq Ih499.1 rfl (by decide) rfl)
                          have Ih510 := H.1 h510 Jh510
                          refine hq_p rfl rfl (ty_ge (n := -3) nk_bm3 (fun z511 ez511 => ?_))
                          exact hq_W.ret rfl rfl rfl ⟨Jh510, _, rfl, by omega, by omega⟩
                      · clear c508
                        refine hq_p rfl rfl ?_
                        refine hq_gR Ih499.1 rfl rfl (by decide) (by decide) rfl ?_
                        refine hq_p rfl rfl ?_
                        refine ty_aL Ih499 rfl rfl (by decide) (by omega) (by omega) (fun _ _ => ty_le rfl) (fun z512 ez512 az512 bz512 => ?_)
                        rcases (show z512.toInt = 0 ∨ z512.toInt = 1 ∨ z512.toInt = 2 ∨ (z512.toInt < 0 ∨ 2 < z512.toInt) by omega) with c513 | c513 | c513 | c513
                        · refine ty_ts (n := 0) rfl c513 rfl rfl (by decide) ?_
                          refine hq_p rfl rfl ?_
                          refine hq_p rfl rfl ?_
                          refine hq_p rfl rfl ?_
                          refine hq_p rfl rfl ?_
                          refine hq_p rfl rfl ?_
                          refine ty_callj 0 (W := ty_Wc) H Jh499 rfl (fun _ => rfl) rfl rfl rfl (hq_pre_o Ih499.1 (x := 76) (ci := 1) rfl (by decide) rfl rfl rfl rfl) (fun _ _ w => w) (fun _ w => w) (ct_9 (t1 := t2) (t2 := t3) (x3 := z493) (x4 := z500) (by omega) ht2 ht3) (fun h515 _ Jh515 P514 => ?_)
                          have Ih515 := H.1 h515 Jh515
                          obtain ⟨z516, rfl, az516, bz516⟩ := P514
                          refine hq_p (ls' := [some (.ref 76), some (.ref 64), some (.ref t2), some (.ref t3), some (.int y463), some (.int y464), some (.int y102), some (.int y465), some (.int z493), some (.int z500), some (.int z516)]) rfl rfl ?_
                          refine hq_p rfl rfl ?_
                          refine hq_p rfl rfl ?_
                          refine ty_zge rfl (fun c517 => ?_) (fun c517 => ?_)
                          · refine ty_inca (ls' := fun z518 => [some (.ref 76), some (.ref 64), some (.ref t2), some (.ref t3), some (.int z518), some (.int y464), some (.int y102), some (.int y465), some (.int z493), some (.int z500), some (.int z516)]) rfl rfl (fun _ => rfl) (fun z518 az518 bz518 => ?_)
                            refine ty_inc (ls' := fun z519 => [some (.ref 76), some (.ref 64), some (.ref t2), some (.ref t3), some (.int z518), some (.int y464), some (.int y102), some (.int z519), some (.int z493), some (.int z500), some (.int z516)]) rfl rfl (fun _ => rfl) (nm_addc nk_i1 (by omega) (by omega)) (fun z519 ez519 => ?_)
                            refine hq_p rfl rfl ?_
                            exact ihn477 ((2147483647 - z519.toInt).toNat) (by omega) z518 y464 z519 (some (.int z493)) (some (.int z500)) (some (.int z516)) h515 rfl (by omega) (by omega) (by omega) (by omega) (by omega) (by omega) rfl rfl rfl Jh515
                          · refine hq_p rfl rfl ?_
                            refine hq_p rfl rfl ?_
                            refine ty_pI (W := ty_Wc) H Jh515 rfl rfl (by decide) rfl rfl (by unfold ty_Wc; omega) rfl (by omega) (by omega) (fun h520 eh520 Jh520 => ?_)
                            have wh520 : (hs_fI h520 76 5).toInt = y102.toInt := by rw [eh520]; exact congrArg Int32.toInt (ty_fI_eq Ih515.1 rfl (by decide) rfl)
                            have Ih520 := H.1 h520 Jh520
                            refine hq_p rfl rfl (ty_ge (n := -3) nk_bm3 (fun z521 ez521 => ?_))
                            exact hq_W.ret rfl rfl rfl ⟨Jh520, _, rfl, by omega, by omega⟩
                        · refine ty_ts (n := 1) rfl c513 rfl rfl (by decide) ?_
                          refine hq_p rfl rfl ?_
                          refine hq_p rfl rfl ?_
                          refine hq_p rfl rfl ?_
                          refine hq_p rfl rfl ?_
                          refine ty_callj 0 (W := ty_Wc) H Jh499 rfl (fun _ => rfl) rfl rfl rfl (hq_pre_o Ih499.1 (x := 76) (ci := 1) rfl (by decide) rfl rfl rfl rfl) (fun _ _ w => w) (fun _ w => w) (ct_10 (t1 := t2) (t2 := t3) (x3 := z493) (by omega) ht2 ht3) (fun h523 _ Jh523 P522 => ?_)
                          have Ih523 := H.1 h523 Jh523
                          obtain ⟨z524, rfl, az524, bz524⟩ := P522
                          refine hq_p (ls' := [some (.ref 76), some (.ref 64), some (.ref t2), some (.ref t3), some (.int y463), some (.int y464), some (.int y102), some (.int y465), some (.int z493), some (.int z500), some (.int z524)]) rfl rfl ?_
                          refine hq_p rfl rfl ?_
                          refine hq_p rfl rfl ?_
                          refine ty_zge rfl (fun c525 => ?_) (fun c525 => ?_)
                          · refine ty_inca (ls' := fun z526 => [some (.ref 76), some (.ref 64), some (.ref t2), some (.ref t3), some (.int z526), some (.int y464), some (.int y102), some (.int y465), some (.int z493), some (.int z500), some (.int z524)]) rfl rfl (fun _ => rfl) (fun z526 az526 bz526 => ?_)
                            refine ty_inc (ls' := fun z527 => [some (.ref 76), some (.ref 64), some (.ref t2), some (.ref t3), some (.int z526), some (.int y464), some (.int y102), some (.int z527), some (.int z493), some (.int z500), some (.int z524)]) rfl rfl (fun _ => rfl) (nm_addc nk_i1 (by omega) (by omega)) (fun z527 ez527 => ?_)
                            refine hq_p rfl rfl ?_
                            exact ihn477 ((2147483647 - z527.toInt).toNat) (by omega) z526 y464 z527 (some (.int z493)) (some (.int z500)) (some (.int z524)) h523 rfl (by omega) (by omega) (by omega) (by omega) (by omega) (by omega) rfl rfl rfl Jh523
                          · refine hq_p rfl rfl ?_
                            refine hq_p rfl rfl ?_
                            refine ty_pI (W := ty_Wc) H Jh523 rfl rfl (by decide) rfl rfl (by unfold ty_Wc; omega) rfl (by omega) (by omega) (fun h528 eh528 Jh528 => ?_)
                            have wh528 : (hs_fI h528 76 5).toInt = y102.toInt := by rw [eh528]; exact congrArg Int32.toInt (ty_fI_eq Ih523.1 rfl (by decide) rfl)
                            have Ih528 := H.1 h528 Jh528
                            refine hq_p rfl rfl (ty_ge (n := -3) nk_bm3 (fun z529 ez529 => ?_))
                            exact hq_W.ret rfl rfl rfl ⟨Jh528, _, rfl, by omega, by omega⟩
                        · refine ty_ts (n := 2) rfl c513 rfl rfl (by decide) ?_
                          refine hq_p rfl rfl ?_
                          refine hq_p rfl rfl ?_
                          refine hq_p rfl rfl ?_
                          refine hq_p rfl rfl ?_
                          refine ty_callj 0 (W := ty_Wc) H Jh499 rfl (fun _ => rfl) rfl rfl rfl (hq_pre_o Ih499.1 (x := 76) (ci := 1) rfl (by decide) rfl rfl rfl rfl) (fun _ _ w => w) (fun _ w => w) (ct_11 (t1 := t2) (t2 := t3) (x3 := z493) (by omega) ht2 ht3) (fun h531 _ Jh531 P530 => ?_)
                          have Ih531 := H.1 h531 Jh531
                          obtain ⟨z532, rfl, az532, bz532⟩ := P530
                          refine hq_p (ls' := [some (.ref 76), some (.ref 64), some (.ref t2), some (.ref t3), some (.int y463), some (.int y464), some (.int y102), some (.int y465), some (.int z493), some (.int z500), some (.int z532)]) rfl rfl ?_
                          refine hq_p rfl rfl ?_
                          refine hq_p (ls' := [some (.ref 76), some (.ref 64), some (.ref t2), some (.ref t3), some (.int y463), some (.int z532), some (.int y102), some (.int y465), some (.int z493), some (.int z500), some (.int z532)]) rfl rfl ?_
                          refine hq_p rfl rfl ?_
                          refine hq_p rfl rfl ?_
                          refine ty_zge rfl (fun c533 => ?_) (fun c533 => ?_)
                          · refine ty_inca (ls' := fun z534 => [some (.ref 76), some (.ref 64), some (.ref t2), some (.ref t3), some (.int z534), some (.int z532), some (.int y102), some (.int y465), some (.int z493), some (.int z500), some (.int z532)]) rfl rfl (fun _ => rfl) (fun z534 az534 bz534 => ?_)
                            refine ty_inc (ls' := fun z535 => [some (.ref 76), some (.ref 64), some (.ref t2), some (.ref t3), some (.int z534), some (.int z532), some (.int y102), some (.int z535), some (.int z493), some (.int z500), some (.int z532)]) rfl rfl (fun _ => rfl) (nm_addc nk_i1 (by omega) (by omega)) (fun z535 ez535 => ?_)
                            refine hq_p rfl rfl ?_
                            exact ihn477 ((2147483647 - z535.toInt).toNat) (by omega) z534 z532 z535 (some (.int z493)) (some (.int z500)) (some (.int z532)) h531 rfl (by omega) (by omega) (by omega) (by omega) (by omega) (by omega) rfl rfl rfl Jh531
                          · refine hq_p rfl rfl ?_
                            refine hq_p rfl rfl ?_
                            refine ty_pI (W := ty_Wc) H Jh531 rfl rfl (by decide) rfl rfl (by unfold ty_Wc; omega) rfl (by omega) (by omega) (fun h536 eh536 Jh536 => ?_)
                            have wh536 : (hs_fI h536 76 5).toInt = y102.toInt := by rw [eh536]; exact congrArg Int32.toInt (ty_fI_eq Ih531.1 rfl (by decide) rfl)
                            have Ih536 := H.1 h536 Jh536
                            refine hq_p rfl rfl (ty_ge (n := -3) nk_bm3 (fun z537 ez537 => ?_))
                            exact hq_W.ret rfl rfl rfl ⟨Jh536, _, rfl, by omega, by omega⟩
                        · refine ty_td rfl c513 (by decide) ?_
                          refine hq_p rfl rfl ?_
                          refine hq_p rfl rfl ?_
                          refine hq_p rfl rfl ?_
                          refine ty_callj 0 (W := ty_Wc) H Jh499 rfl (fun _ => rfl) rfl rfl rfl (hq_pre_o Ih499.1 (x := 76) (ci := 1) rfl (by decide) rfl rfl rfl rfl) (fun _ _ w => w) (fun _ w => w) (ct_13 (t1 := t2) (t2 := t3) (by omega) ht2 ht3) (fun h539 _ Jh539 P538 => ?_)
                          have Ih539 := H.1 h539 Jh539
                          obtain ⟨z540, rfl, az540, bz540⟩ := P538
                          refine hq_p (ls' := [some (.ref 76), some (.ref 64), some (.ref t2), some (.ref t3), some (.int y463), some (.int y464), some (.int y102), some (.int y465), some (.int z493), some (.int z500), some (.int z540)]) rfl rfl ?_
                          refine hq_p rfl rfl ?_
                          refine ty_zge rfl (fun c541 => ?_) (fun c541 => ?_)
                          · refine ty_inca (ls' := fun z542 => [some (.ref 76), some (.ref 64), some (.ref t2), some (.ref t3), some (.int z542), some (.int y464), some (.int y102), some (.int y465), some (.int z493), some (.int z500), some (.int z540)]) rfl rfl (fun _ => rfl) (fun z542 az542 bz542 => ?_)
                            refine ty_inc (ls' := fun z543 => [some (.ref 76), some (.ref 64), some (.ref t2), some (.ref t3), some (.int z542), some (.int y464), some (.int y102), some (.int z543), some (.int z493), some (.int z500), some (.int z540)]) rfl rfl (fun _ => rfl) (nm_addc nk_i1 (by omega) (by omega)) (fun z543 ez543 => ?_)
                            refine hq_p rfl rfl ?_
                            exact ihn477 ((2147483647 - z543.toInt).toNat) (by omega) z542 y464 z543 (some (.int z493)) (some (.int z500)) (some (.int z540)) h539 rfl (by omega) (by omega) (by omega) (by omega) (by omega) (by omega) rfl rfl rfl Jh539
                          · refine hq_p rfl rfl ?_
                            refine hq_p rfl rfl ?_
                            refine ty_pI (W := ty_Wc) H Jh539 rfl rfl (by decide) rfl rfl (by unfold ty_Wc; omega) rfl (by omega) (by omega) (fun h544 eh544 Jh544 => ?_)
                            have wh544 : (hs_fI h544 76 5).toInt = y102.toInt := by rw [eh544]; exact congrArg Int32.toInt (ty_fI_eq Ih539.1 rfl (by decide) rfl)
                            have Ih544 := H.1 h544 Jh544
                            refine hq_p rfl rfl (ty_ge (n := -3) nk_bm3 (fun z545 ez545 => ?_))
                            exact hq_W.ret rfl rfl rfl ⟨Jh544, _, rfl, by omega, by omega⟩
                  · refine hq_p rfl rfl (ty_ge (n := 0) nk_i0 (fun z546 ez546 => ?_))
                    refine hq_p rfl rfl ?_
                    refine hq_p (ls' := [some (.ref 76), some (.ref 64), some (.ref t2), some (.ref t3), some (.int y463), some (.int y464), some (.int y102), some (.int y465), some (.int z493), some (.int z546), w468]) rfl rfl ?_
                    refine hq_p rfl rfl (ty_ge (n := -3) nk_bm3 (fun z547 ez547 => ?_))
                    refine hq_p (ls' := [some (.ref 76), some (.ref 64), some (.ref t2), some (.ref t3), some (.int y463), some (.int y464), some (.int y102), some (.int y465), some (.int z493), some (.int z546), some (.int z547)]) rfl rfl ?_
                    refine hq_p rfl rfl ?_
                    refine hq_p rfl rfl (ty_ge (n := -2000000000) nk_dm2000000000 (fun z548 ez548 => ?_))
                    refine ty_ieq rfl (fun c549 => ?_) (fun c549 => ?_)
                    · refine hq_p rfl rfl ?_
                      refine ty_zge rfl (fun c550 => ?_) (fun c550 => ?_)
                      · exfalso; omega
                      · refine hq_p rfl rfl ?_
                        refine hq_p rfl rfl ?_
                        refine ty_pI (W := ty_Wc) H Jh492 rfl rfl (by decide) rfl rfl (by unfold ty_Wc; omega) rfl (by omega) (by omega) (fun h551 eh551 Jh551 => ?_)
                        have wh551 : (hs_fI h551 76 5).toInt = y102.toInt := by rw [eh551]; exact congrArg Int32.toInt (ty_fI_eq Ih492.1 rfl (by decide) rfl)
                        have Ih551 := H.1 h551 Jh551
                        refine hq_p rfl rfl (ty_ge (n := -3) nk_bm3 (fun z552 ez552 => ?_))
                        exact hq_W.ret rfl rfl rfl ⟨Jh551, _, rfl, by omega, by omega⟩
                    · clear c549
                      refine hq_p rfl rfl ?_
                      refine hq_p rfl rfl (ty_ge (n := -2000000000) nk_dm2000000000 (fun z553 ez553 => ?_))
                      refine ty_ieq rfl (fun c554 => ?_) (fun c554 => ?_)
                      · exfalso; omega
                      · clear c554
                        refine hq_p rfl rfl ?_
                        refine hq_gR Ih492.1 rfl rfl (by decide) (by decide) rfl ?_
                        refine hq_p rfl rfl ?_
                        refine ty_aL Ih492 rfl rfl (by decide) (by omega) (by omega) (fun _ _ => ty_le rfl) (fun z555 ez555 az555 bz555 => ?_)
                        rcases (show z555.toInt = 0 ∨ z555.toInt = 1 ∨ z555.toInt = 2 ∨ (z555.toInt < 0 ∨ 2 < z555.toInt) by omega) with c556 | c556 | c556 | c556
                        · refine ty_ts (n := 0) rfl c556 rfl rfl (by decide) ?_
                          refine hq_p rfl rfl ?_
                          refine hq_p rfl rfl ?_
                          refine hq_p rfl rfl ?_
                          refine hq_p rfl rfl ?_
                          refine hq_p rfl rfl ?_
                          refine ty_callj 0 (W := ty_Wc) H Jh492 rfl (fun _ => rfl) rfl rfl rfl (hq_pre_o Ih492.1 (x := 76) (ci := 1) rfl (by decide) rfl rfl rfl rfl) (fun _ _ w => w) (fun _ w => w) (ct_9 (t1 := t2) (t2 := t3) (x3 := z493) (x4 := z546) (by omega) ht2 ht3) (fun h558 _ Jh558 P557 => ?_)
                          have Ih558 := H.1 h558 Jh558
                          obtain ⟨z559, rfl, az559, bz559⟩ := P557
                          refine hq_p (ls' := [some (.ref 76), some (.ref 64), some (.ref t2), some (.ref t3), some (.int y463), some (.int y464), some (.int y102), some (.int y465), some (.int z493), some (.int z546), some (.int z559)]) rfl rfl ?_
                          refine hq_p rfl rfl ?_
                          refine hq_p rfl rfl ?_
                          refine ty_zge rfl (fun c560 => ?_) (fun c560 => ?_)
                          · refine ty_inca (ls' := fun z561 => [some (.ref 76), some (.ref 64), some (.ref t2), some (.ref t3), some (.int z561), some (.int y464), some (.int y102), some (.int y465), some (.int z493), some (.int z546), some (.int z559)]) rfl rfl (fun _ => rfl) (fun z561 az561 bz561 => ?_)
                            refine ty_inc (ls' := fun z562 => [some (.ref 76), some (.ref 64), some (.ref t2), some (.ref t3), some (.int z561), some (.int y464), some (.int y102), some (.int z562), some (.int z493), some (.int z546), some (.int z559)]) rfl rfl (fun _ => rfl) (nm_addc nk_i1 (by omega) (by omega)) (fun z562 ez562 => ?_)
                            refine hq_p rfl rfl ?_
                            exact ihn477 ((2147483647 - z562.toInt).toNat) (by omega) z561 y464 z562 (some (.int z493)) (some (.int z546)) (some (.int z559)) h558 rfl (by omega) (by omega) (by omega) (by omega) (by omega) (by omega) rfl rfl rfl Jh558
                          · refine hq_p rfl rfl ?_
                            refine hq_p rfl rfl ?_
                            refine ty_pI (W := ty_Wc) H Jh558 rfl rfl (by decide) rfl rfl (by unfold ty_Wc; omega) rfl (by omega) (by omega) (fun h563 eh563 Jh563 => ?_)
                            have wh563 : (hs_fI h563 76 5).toInt = y102.toInt := by rw [eh563]; exact congrArg Int32.toInt (ty_fI_eq Ih558.1 rfl (by decide) rfl)
                            have Ih563 := H.1 h563 Jh563
                            refine hq_p rfl rfl (ty_ge (n := -3) nk_bm3 (fun z564 ez564 => ?_))
                            exact hq_W.ret rfl rfl rfl ⟨Jh563, _, rfl, by omega, by omega⟩
                        · refine ty_ts (n := 1) rfl c556 rfl rfl (by decide) ?_
                          refine hq_p rfl rfl ?_
                          refine hq_p rfl rfl ?_
                          refine hq_p rfl rfl ?_
                          refine hq_p rfl rfl ?_
                          refine ty_callj 0 (W := ty_Wc) H Jh492 rfl (fun _ => rfl) rfl rfl rfl (hq_pre_o Ih492.1 (x := 76) (ci := 1) rfl (by decide) rfl rfl rfl rfl) (fun _ _ w => w) (fun _ w => w) (ct_10 (t1 := t2) (t2 := t3) (x3 := z493) (by omega) ht2 ht3) (fun h566 _ Jh566 P565 => ?_)
                          have Ih566 := H.1 h566 Jh566
                          obtain ⟨z567, rfl, az567, bz567⟩ := P565
                          refine hq_p (ls' := [some (.ref 76), some (.ref 64), some (.ref t2), some (.ref t3), some (.int y463), some (.int y464), some (.int y102), some (.int y465), some (.int z493), some (.int z546), some (.int z567)]) rfl rfl ?_
                          refine hq_p rfl rfl ?_
                          refine hq_p rfl rfl ?_
                          refine ty_zge rfl (fun c568 => ?_) (fun c568 => ?_)
                          · refine ty_inca (ls' := fun z569 => [some (.ref 76), some (.ref 64), some (.ref t2), some (.ref t3), some (.int z569), some (.int y464), some (.int y102), some (.int y465), some (.int z493), some (.int z546), some (.int z567)]) rfl rfl (fun _ => rfl) (fun z569 az569 bz569 => ?_)
                            refine ty_inc (ls' := fun z570 => [some (.ref 76), some (.ref 64), some (.ref t2), some (.ref t3), some (.int z569), some (.int y464), some (.int y102), some (.int z570), some (.int z493), some (.int z546), some (.int z567)]) rfl rfl (fun _ => rfl) (nm_addc nk_i1 (by omega) (by omega)) (fun z570 ez570 => ?_)
                            refine hq_p rfl rfl ?_
                            exact ihn477 ((2147483647 - z570.toInt).toNat) (by omega) z569 y464 z570 (some (.int z493)) (some (.int z546)) (some (.int z567)) h566 rfl (by omega) (by omega) (by omega) (by omega) (by omega) (by omega) rfl rfl rfl Jh566
                          · refine hq_p rfl rfl ?_
                            refine hq_p rfl rfl ?_
                            refine ty_pI (W := ty_Wc) H Jh566 rfl rfl (by decide) rfl rfl (by unfold ty_Wc; omega) rfl (by omega) (by omega) (fun h571 eh571 Jh571 => ?_)
                            have wh571 : (hs_fI h571 76 5).toInt = y102.toInt := by rw [eh571]; exact congrArg Int32.toInt (ty_fI_eq Ih566.1 rfl (by decide) rfl)
                            have Ih571 := H.1 h571 Jh571
                            refine hq_p rfl rfl (ty_ge (n := -3) nk_bm3 (fun z572 ez572 => ?_))
                            exact hq_W.ret rfl rfl rfl ⟨Jh571, _, rfl, by omega, by omega⟩
                        · refine ty_ts (n := 2) rfl c556 rfl rfl (by decide) ?_
                          refine hq_p rfl rfl ?_
                          refine hq_p rfl rfl ?_
                          refine hq_p rfl rfl ?_
                          refine hq_p rfl rfl ?_
                          refine ty_callj 0 (W := ty_Wc) H Jh492 rfl (fun _ => rfl) rfl rfl rfl (hq_pre_o Ih492.1 (x := 76) (ci := 1) rfl (by decide) rfl rfl rfl rfl) (fun _ _ w => w) (fun _ w => w) (ct_11 (t1 := t2) (t2 := t3) (x3 := z493) (by omega) ht2 ht3) (fun h574 _ Jh574 P573 => ?_)
                          have Ih574 := H.1 h574 Jh574
                          obtain ⟨z575, rfl, az575, bz575⟩ := P573
                          refine hq_p (ls' := [some (.ref 76), some (.ref 64), some (.ref t2), some (.ref t3), some (.int y463), some (.int y464), some (.int y102), some (.int y465), some (.int z493), some (.int z546), some (.int z575)]) rfl rfl ?_
                          refine hq_p rfl rfl ?_
                          refine hq_p (ls' := [some (.ref 76), some (.ref 64), some (.ref t2), some (.ref t3), some (.int y463), some (.int z575), some (.int y102), some (.int y465), some (.int z493), some (.int z546), some (.int z575)]) rfl rfl ?_
                          refine hq_p rfl rfl ?_
                          refine hq_p rfl rfl ?_
                          refine ty_zge rfl (fun c576 => ?_) (fun c576 => ?_)
                          · refine ty_inca (ls' := fun z577 => [some (.ref 76), some (.ref 64), some (.ref t2), some (.ref t3), some (.int z577), some (.int z575), some (.int y102), some (.int y465), some (.int z493), some (.int z546), some (.int z575)]) rfl rfl (fun _ => rfl) (fun z577 az577 bz577 => ?_)
                            refine ty_inc (ls' := fun z578 => [some (.ref 76), some (.ref 64), some (.ref t2), some (.ref t3), some (.int z577), some (.int z575), some (.int y102), some (.int z578), some (.int z493), some (.int z546), some (.int z575)]) rfl rfl (fun _ => rfl) (nm_addc nk_i1 (by omega) (by omega)) (fun z578 ez578 => ?_)
                            refine hq_p rfl rfl ?_
                            exact ihn477 ((2147483647 - z578.toInt).toNat) (by omega) z577 z575 z578 (some (.int z493)) (some (.int z546)) (some (.int z575)) h574 rfl (by omega) (by omega) (by omega) (by omega) (by omega) (by omega) rfl rfl rfl Jh574
                          · refine hq_p rfl rfl ?_
                            refine hq_p rfl rfl ?_
                            refine ty_pI (W := ty_Wc) H Jh574 rfl rfl (by decide) rfl rfl (by unfold ty_Wc; omega) rfl (by omega) (by omega) (fun h579 eh579 Jh579 => ?_)
                            have wh579 : (hs_fI h579 76 5).toInt = y102.toInt := by rw [eh579]; exact congrArg Int32.toInt (ty_fI_eq Ih574.1 rfl (by decide) rfl)
                            have Ih579 := H.1 h579 Jh579
                            refine hq_p rfl rfl (ty_ge (n := -3) nk_bm3 (fun z580 ez580 => ?_))
                            exact hq_W.ret rfl rfl rfl ⟨Jh579, _, rfl, by omega, by omega⟩
                        · refine ty_td rfl c556 (by decide) ?_
                          refine hq_p rfl rfl ?_
                          refine hq_p rfl rfl ?_
                          refine hq_p rfl rfl ?_
                          refine ty_callj 0 (W := ty_Wc) H Jh492 rfl (fun _ => rfl) rfl rfl rfl (hq_pre_o Ih492.1 (x := 76) (ci := 1) rfl (by decide) rfl rfl rfl rfl) (fun _ _ w => w) (fun _ w => w) (ct_13 (t1 := t2) (t2 := t3) (by omega) ht2 ht3) (fun h582 _ Jh582 P581 => ?_)
                          have Ih582 := H.1 h582 Jh582
                          obtain ⟨z583, rfl, az583, bz583⟩ := P581
                          refine hq_p (ls' := [some (.ref 76), some (.ref 64), some (.ref t2), some (.ref t3), some (.int y463), some (.int y464), some (.int y102), some (.int y465), some (.int z493), some (.int z546), some (.int z583)]) rfl rfl ?_
                          refine hq_p rfl rfl ?_
                          refine ty_zge rfl (fun c584 => ?_) (fun c584 => ?_)
                          · refine ty_inca (ls' := fun z585 => [some (.ref 76), some (.ref 64), some (.ref t2), some (.ref t3), some (.int z585), some (.int y464), some (.int y102), some (.int y465), some (.int z493), some (.int z546), some (.int z583)]) rfl rfl (fun _ => rfl) (fun z585 az585 bz585 => ?_)
                            refine ty_inc (ls' := fun z586 => [some (.ref 76), some (.ref 64), some (.ref t2), some (.ref t3), some (.int z585), some (.int y464), some (.int y102), some (.int z586), some (.int z493), some (.int z546), some (.int z583)]) rfl rfl (fun _ => rfl) (nm_addc nk_i1 (by omega) (by omega)) (fun z586 ez586 => ?_)
                            refine hq_p rfl rfl ?_
                            exact ihn477 ((2147483647 - z586.toInt).toNat) (by omega) z585 y464 z586 (some (.int z493)) (some (.int z546)) (some (.int z583)) h582 rfl (by omega) (by omega) (by omega) (by omega) (by omega) (by omega) rfl rfl rfl Jh582
                          · refine hq_p rfl rfl ?_
                            refine hq_p rfl rfl ?_
                            refine ty_pI (W := ty_Wc) H Jh582 rfl rfl (by decide) rfl rfl (by unfold ty_Wc; omega) rfl (by omega) (by omega) (fun h587 eh587 Jh587 => ?_)
                            have wh587 : (hs_fI h587 76 5).toInt = y102.toInt := by rw [eh587]; exact congrArg Int32.toInt (ty_fI_eq Ih582.1 rfl (by decide) rfl)
                            have Ih587 := H.1 h587 Jh587
                            refine hq_p rfl rfl (ty_ge (n := -3) nk_bm3 (fun z588 ez588 => ?_))
                            exact hq_W.ret rfl rfl rfl ⟨Jh587, _, rfl, by omega, by omega⟩
                · refine hq_p rfl rfl (ty_ge (n := 0) nk_i0 (fun z589 ez589 => ?_))
                  refine hq_p rfl rfl ?_
                  refine hq_p (ls' := [some (.ref 76), some (.ref 64), some (.ref t2), some (.ref t3), some (.int y463), some (.int y464), some (.int y102), some (.int y465), some (.int z589), w467, w468]) rfl rfl ?_
                  refine hq_p rfl rfl ?_
                  refine hq_gR Ih483.1 rfl rfl (by decide) (by decide) rfl ?_
                  refine hq_p rfl rfl ?_
                  refine ty_aL Ih483 rfl rfl (by decide) (by omega) (by omega) (fun _ _ => ty_le rfl) (fun z590 ez590 az590 bz590 => ?_)
                  refine hq_p rfl rfl (ty_ge (n := -1) nk_im1 (fun z591 ez591 => ?_))
                  refine ty_ine rfl (fun c592 => ?_) (fun c592 => ?_)
                  · clear c592
                    refine hq_p rfl rfl ?_
                    refine hq_gR Ih483.1 rfl rfl (by decide) (by decide) rfl ?_
                    refine hq_p rfl rfl ?_
                    refine hq_p rfl rfl ?_
                    refine hq_gR Ih483.1 rfl rfl (by decide) (by decide) rfl ?_
                    refine hq_p rfl rfl ?_
                    refine ty_aL Ih483 rfl rfl (by decide) (by omega) (by omega) (fun _ _ => ty_le rfl) (fun z593 ez593 az593 bz593 => ?_)
                    refine hq_p rfl rfl ?_
                    refine hq_gR Ih483.1 rfl rfl (by decide) (by decide) rfl ?_
                    refine ty_callj 0 (W := ty_Wc) H Jh483 rfl (fun _ => rfl) rfl rfl rfl (hq_pre_o Ih483.1 (x := 81) (ci := 6) rfl (by decide) rfl rfl rfl rfl) (fun a k w => by unfold ty_Wu at w; unfold ty_Wc; omega) (by unfold ty_Wu ty_Wc; omega) (ct_58a (x2 := z593) (by omega)) (fun h595 _ Jh595 P594 => ?_)
                    have Ih595 := H.1 h595 Jh595
                    obtain ⟨z596, rfl, az596, bz596⟩ := P594
                    refine hq_p (ls' := [some (.ref 76), some (.ref 64), some (.ref t2), some (.ref t3), some (.int y463), some (.int y464), some (.int y102), some (.int y465), some (.int z589), some (.int z596), w468]) rfl rfl ?_
                    refine hq_p rfl rfl (ty_ge (n := -3) nk_bm3 (fun z597 ez597 => ?_))
                    refine hq_p (ls' := [some (.ref 76), some (.ref 64), some (.ref t2), some (.ref t3), some (.int y463), some (.int y464), some (.int y102), some (.int y465), some (.int z589), some (.int z596), some (.int z597)]) rfl rfl ?_
                    refine hq_p rfl rfl ?_
                    refine hq_p rfl rfl (ty_ge (n := -2000000000) nk_dm2000000000 (fun z598 ez598 => ?_))
                    refine ty_ieq rfl (fun c599 => ?_) (fun c599 => ?_)
                    · exfalso; omega
                    · clear c599
                      refine hq_p rfl rfl ?_
                      refine hq_p rfl rfl (ty_ge (n := -2000000000) nk_dm2000000000 (fun z600 ez600 => ?_))
                      refine ty_ieq rfl (fun c601 => ?_) (fun c601 => ?_)
                      · refine hq_p rfl rfl ?_
                        refine ty_zge rfl (fun c602 => ?_) (fun c602 => ?_)
                        · exfalso; omega
                        · refine hq_p rfl rfl ?_
                          refine hq_p rfl rfl ?_
                          refine ty_pI (W := ty_Wc) H Jh595 rfl rfl (by decide) rfl rfl (by unfold ty_Wc; omega) rfl (by omega) (by omega) (fun h603 eh603 Jh603 => ?_)
                          have wh603 : (hs_fI h603 76 5).toInt = y102.toInt := by rw [eh603]; exact congrArg Int32.toInt (ty_fI_eq Ih595.1 rfl (by decide) rfl)
                          have Ih603 := H.1 h603 Jh603
                          refine hq_p rfl rfl (ty_ge (n := -3) nk_bm3 (fun z604 ez604 => ?_))
                          exact hq_W.ret rfl rfl rfl ⟨Jh603, _, rfl, by omega, by omega⟩
                      · clear c601
                        refine hq_p rfl rfl ?_
                        refine hq_gR Ih595.1 rfl rfl (by decide) (by decide) rfl ?_
                        refine hq_p rfl rfl ?_
                        refine ty_aL Ih595 rfl rfl (by decide) (by omega) (by omega) (fun _ _ => ty_le rfl) (fun z605 ez605 az605 bz605 => ?_)
                        rcases (show z605.toInt = 0 ∨ z605.toInt = 1 ∨ z605.toInt = 2 ∨ (z605.toInt < 0 ∨ 2 < z605.toInt) by omega) with c606 | c606 | c606 | c606
                        · refine ty_ts (n := 0) rfl c606 rfl rfl (by decide) ?_
                          refine hq_p rfl rfl ?_
                          refine hq_p rfl rfl ?_
                          refine hq_p rfl rfl ?_
                          refine hq_p rfl rfl ?_
                          refine hq_p rfl rfl ?_
                          refine ty_callj 0 (W := ty_Wc) H Jh595 rfl (fun _ => rfl) rfl rfl rfl (hq_pre_o Ih595.1 (x := 76) (ci := 1) rfl (by decide) rfl rfl rfl rfl) (fun _ _ w => w) (fun _ w => w) (ct_9 (t1 := t2) (t2 := t3) (x3 := z589) (x4 := z596) (by omega) ht2 ht3) (fun h608 _ Jh608 P607 => ?_)
                          have Ih608 := H.1 h608 Jh608
                          obtain ⟨z609, rfl, az609, bz609⟩ := P607
                          refine hq_p (ls' := [some (.ref 76), some (.ref 64), some (.ref t2), some (.ref t3), some (.int y463), some (.int y464), some (.int y102), some (.int y465), some (.int z589), some (.int z596), some (.int z609)]) rfl rfl ?_
                          refine hq_p rfl rfl ?_
                          refine hq_p rfl rfl ?_
                          refine ty_zge rfl (fun c610 => ?_) (fun c610 => ?_)
                          · refine ty_inca (ls' := fun z611 => [some (.ref 76), some (.ref 64), some (.ref t2), some (.ref t3), some (.int z611), some (.int y464), some (.int y102), some (.int y465), some (.int z589), some (.int z596), some (.int z609)]) rfl rfl (fun _ => rfl) (fun z611 az611 bz611 => ?_)
                            refine ty_inc (ls' := fun z612 => [some (.ref 76), some (.ref 64), some (.ref t2), some (.ref t3), some (.int z611), some (.int y464), some (.int y102), some (.int z612), some (.int z589), some (.int z596), some (.int z609)]) rfl rfl (fun _ => rfl) (nm_addc nk_i1 (by omega) (by omega)) (fun z612 ez612 => ?_)
                            refine hq_p rfl rfl ?_
                            exact ihn477 ((2147483647 - z612.toInt).toNat) (by omega) z611 y464 z612 (some (.int z589)) (some (.int z596)) (some (.int z609)) h608 rfl (by omega) (by omega) (by omega) (by omega) (by omega) (by omega) rfl rfl rfl Jh608
                          · refine hq_p rfl rfl ?_
                            refine hq_p rfl rfl ?_
                            refine ty_pI (W := ty_Wc) H Jh608 rfl rfl (by decide) rfl rfl (by unfold ty_Wc; omega) rfl (by omega) (by omega) (fun h613 eh613 Jh613 => ?_)
                            have wh613 : (hs_fI h613 76 5).toInt = y102.toInt := by rw [eh613]; exact congrArg Int32.toInt (ty_fI_eq Ih608.1 rfl (by decide) rfl)
                            have Ih613 := H.1 h613 Jh613
                            refine hq_p rfl rfl (ty_ge (n := -3) nk_bm3 (fun z614 ez614 => ?_))
                            exact hq_W.ret rfl rfl rfl ⟨Jh613, _, rfl, by omega, by omega⟩
                        · refine ty_ts (n := 1) rfl c606 rfl rfl (by decide) ?_
                          refine hq_p rfl rfl ?_
                          refine hq_p rfl rfl ?_
                          refine hq_p rfl rfl ?_
                          refine hq_p rfl rfl ?_
                          refine ty_callj 0 (W := ty_Wc) H Jh595 rfl (fun _ => rfl) rfl rfl rfl (hq_pre_o Ih595.1 (x := 76) (ci := 1) rfl (by decide) rfl rfl rfl rfl) (fun _ _ w => w) (fun _ w => w) (ct_10 (t1 := t2) (t2 := t3) (x3 := z589) (by omega) ht2 ht3) (fun h616 _ Jh616 P615 => ?_)
                          have Ih616 := H.1 h616 Jh616
                          obtain ⟨z617, rfl, az617, bz617⟩ := P615
                          refine hq_p (ls' := [some (.ref 76), some (.ref 64), some (.ref t2), some (.ref t3), some (.int y463), some (.int y464), some (.int y102), some (.int y465), some (.int z589), some (.int z596), some (.int z617)]) rfl rfl ?_
                          refine hq_p rfl rfl ?_
                          refine hq_p rfl rfl ?_
                          refine ty_zge rfl (fun c618 => ?_) (fun c618 => ?_)
                          · refine ty_inca (ls' := fun z619 => [some (.ref 76), some (.ref 64), some (.ref t2), some (.ref t3), some (.int z619), some (.int y464), some (.int y102), some (.int y465), some (.int z589), some (.int z596), some (.int z617)]) rfl rfl (fun _ => rfl) (fun z619 az619 bz619 => ?_)
                            refine ty_inc (ls' := fun z620 => [some (.ref 76), some (.ref 64), some (.ref t2), some (.ref t3), some (.int z619), some (.int y464), some (.int y102), some (.int z620), some (.int z589), some (.int z596), some (.int z617)]) rfl rfl (fun _ => rfl) (nm_addc nk_i1 (by omega) (by omega)) (fun z620 ez620 => ?_)
                            refine hq_p rfl rfl ?_
                            exact ihn477 ((2147483647 - z620.toInt).toNat) (by omega) z619 y464 z620 (some (.int z589)) (some (.int z596)) (some (.int z617)) h616 rfl (by omega) (by omega) (by omega) (by omega) (by omega) (by omega) rfl rfl rfl Jh616
                          · refine hq_p rfl rfl ?_
                            refine hq_p rfl rfl ?_
                            refine ty_pI (W := ty_Wc) H Jh616 rfl rfl (by decide) rfl rfl (by unfold ty_Wc; omega) rfl (by omega) (by omega) (fun h621 eh621 Jh621 => ?_)
                            have wh621 : (hs_fI h621 76 5).toInt = y102.toInt := by rw [eh621]; exact congrArg Int32.toInt (ty_fI_eq Ih616.1 rfl (by decide) rfl)
                            have Ih621 := H.1 h621 Jh621
                            refine hq_p rfl rfl (ty_ge (n := -3) nk_bm3 (fun z622 ez622 => ?_))
                            exact hq_W.ret rfl rfl rfl ⟨Jh621, _, rfl, by omega, by omega⟩
                        · refine ty_ts (n := 2) rfl c606 rfl rfl (by decide) ?_
                          refine hq_p rfl rfl ?_
                          refine hq_p rfl rfl ?_
                          refine hq_p rfl rfl ?_
                          refine hq_p rfl rfl ?_
                          refine ty_callj 0 (W := ty_Wc) H Jh595 rfl (fun _ => rfl) rfl rfl rfl (hq_pre_o Ih595.1 (x := 76) (ci := 1) rfl (by decide) rfl rfl rfl rfl) (fun _ _ w => w) (fun _ w => w) (ct_11 (t1 := t2) (t2 := t3) (x3 := z589) (by omega) ht2 ht3) (fun h624 _ Jh624 P623 => ?_)
                          have Ih624 := H.1 h624 Jh624
                          obtain ⟨z625, rfl, az625, bz625⟩ := P623
                          refine hq_p (ls' := [some (.ref 76), some (.ref 64), some (.ref t2), some (.ref t3), some (.int y463), some (.int y464), some (.int y102), some (.int y465), some (.int z589), some (.int z596), some (.int z625)]) rfl rfl ?_
                          refine hq_p rfl rfl ?_
                          refine hq_p (ls' := [some (.ref 76), some (.ref 64), some (.ref t2), some (.ref t3), some (.int y463), some (.int z625), some (.int y102), some (.int y465), some (.int z589), some (.int z596), some (.int z625)]) rfl rfl ?_
                          refine hq_p rfl rfl ?_
                          refine hq_p rfl rfl ?_
                          refine ty_zge rfl (fun c626 => ?_) (fun c626 => ?_)
                          · refine ty_inca (ls' := fun z627 => [some (.ref 76), some (.ref 64), some (.ref t2), some (.ref t3), some (.int z627), some (.int z625), some (.int y102), some (.int y465), some (.int z589), some (.int z596), some (.int z625)]) rfl rfl (fun _ => rfl) (fun z627 az627 bz627 => ?_)
                            refine ty_inc (ls' := fun z628 => [some (.ref 76), some (.ref 64), some (.ref t2), some (.ref t3), some (.int z627), some (.int z625), some (.int y102), some (.int z628), some (.int z589), some (.int z596), some (.int z625)]) rfl rfl (fun _ => rfl) (nm_addc nk_i1 (by omega) (by omega)) (fun z628 ez628 => ?_)
                            refine hq_p rfl rfl ?_
                            exact ihn477 ((2147483647 - z628.toInt).toNat) (by omega) z627 z625 z628 (some (.int z589)) (some (.int z596)) (some (.int z625)) h624 rfl (by omega) (by omega) (by omega) (by omega) (by omega) (by omega) rfl rfl rfl Jh624
                          · refine hq_p rfl rfl ?_
                            refine hq_p rfl rfl ?_
                            refine ty_pI (W := ty_Wc) H Jh624 rfl rfl (by decide) rfl rfl (by unfold ty_Wc; omega) rfl (by omega) (by omega) (fun h629 eh629 Jh629 => ?_)
                            have wh629 : (hs_fI h629 76 5).toInt = y102.toInt := by rw [eh629]; exact congrArg Int32.toInt (ty_fI_eq Ih624.1 rfl (by decide) rfl)
                            have Ih629 := H.1 h629 Jh629
                            refine hq_p rfl rfl (ty_ge (n := -3) nk_bm3 (fun z630 ez630 => ?_))
                            exact hq_W.ret rfl rfl rfl ⟨Jh629, _, rfl, by omega, by omega⟩
                        · refine ty_td rfl c606 (by decide) ?_
                          refine hq_p rfl rfl ?_
                          refine hq_p rfl rfl ?_
                          refine hq_p rfl rfl ?_
                          refine ty_callj 0 (W := ty_Wc) H Jh595 rfl (fun _ => rfl) rfl rfl rfl (hq_pre_o Ih595.1 (x := 76) (ci := 1) rfl (by decide) rfl rfl rfl rfl) (fun _ _ w => w) (fun _ w => w) (ct_13 (t1 := t2) (t2 := t3) (by omega) ht2 ht3) (fun h632 _ Jh632 P631 => ?_)
                          have Ih632 := H.1 h632 Jh632
                          obtain ⟨z633, rfl, az633, bz633⟩ := P631
                          refine hq_p (ls' := [some (.ref 76), some (.ref 64), some (.ref t2), some (.ref t3), some (.int y463), some (.int y464), some (.int y102), some (.int y465), some (.int z589), some (.int z596), some (.int z633)]) rfl rfl ?_
                          refine hq_p rfl rfl ?_
                          refine ty_zge rfl (fun c634 => ?_) (fun c634 => ?_)
                          · refine ty_inca (ls' := fun z635 => [some (.ref 76), some (.ref 64), some (.ref t2), some (.ref t3), some (.int z635), some (.int y464), some (.int y102), some (.int y465), some (.int z589), some (.int z596), some (.int z633)]) rfl rfl (fun _ => rfl) (fun z635 az635 bz635 => ?_)
                            refine ty_inc (ls' := fun z636 => [some (.ref 76), some (.ref 64), some (.ref t2), some (.ref t3), some (.int z635), some (.int y464), some (.int y102), some (.int z636), some (.int z589), some (.int z596), some (.int z633)]) rfl rfl (fun _ => rfl) (nm_addc nk_i1 (by omega) (by omega)) (fun z636 ez636 => ?_)
                            refine hq_p rfl rfl ?_
                            exact ihn477 ((2147483647 - z636.toInt).toNat) (by omega) z635 y464 z636 (some (.int z589)) (some (.int z596)) (some (.int z633)) h632 rfl (by omega) (by omega) (by omega) (by omega) (by omega) (by omega) rfl rfl rfl Jh632
                          · refine hq_p rfl rfl ?_
                            refine hq_p rfl rfl ?_
                            refine ty_pI (W := ty_Wc) H Jh632 rfl rfl (by decide) rfl rfl (by unfold ty_Wc; omega) rfl (by omega) (by omega) (fun h637 eh637 Jh637 => ?_)
                            have wh637 : (hs_fI h637 76 5).toInt = y102.toInt := by rw [eh637]; exact congrArg Int32.toInt (ty_fI_eq Ih632.1 rfl (by decide) rfl)
                            have Ih637 := H.1 h637 Jh637
                            refine hq_p rfl rfl (ty_ge (n := -3) nk_bm3 (fun z638 ez638 => ?_))
                            exact hq_W.ret rfl rfl rfl ⟨Jh637, _, rfl, by omega, by omega⟩
                  · refine hq_p rfl rfl (ty_ge (n := 0) nk_i0 (fun z639 ez639 => ?_))
                    refine hq_p rfl rfl ?_
                    refine hq_p (ls' := [some (.ref 76), some (.ref 64), some (.ref t2), some (.ref t3), some (.int y463), some (.int y464), some (.int y102), some (.int y465), some (.int z589), some (.int z639), w468]) rfl rfl ?_
                    refine hq_p rfl rfl (ty_ge (n := -3) nk_bm3 (fun z640 ez640 => ?_))
                    refine hq_p (ls' := [some (.ref 76), some (.ref 64), some (.ref t2), some (.ref t3), some (.int y463), some (.int y464), some (.int y102), some (.int y465), some (.int z589), some (.int z639), some (.int z640)]) rfl rfl ?_
                    refine hq_p rfl rfl ?_
                    refine hq_p rfl rfl (ty_ge (n := -2000000000) nk_dm2000000000 (fun z641 ez641 => ?_))
                    refine ty_ieq rfl (fun c642 => ?_) (fun c642 => ?_)
                    · exfalso; omega
                    · clear c642
                      refine hq_p rfl rfl ?_
                      refine hq_p rfl rfl (ty_ge (n := -2000000000) nk_dm2000000000 (fun z643 ez643 => ?_))
                      refine ty_ieq rfl (fun c644 => ?_) (fun c644 => ?_)
                      · exfalso; omega
                      · clear c644
                        refine hq_p rfl rfl ?_
                        refine hq_gR Ih483.1 rfl rfl (by decide) (by decide) rfl ?_
                        refine hq_p rfl rfl ?_
                        refine ty_aL Ih483 rfl rfl (by decide) (by omega) (by omega) (fun _ _ => ty_le rfl) (fun z645 ez645 az645 bz645 => ?_)
                        rcases (show z645.toInt = 0 ∨ z645.toInt = 1 ∨ z645.toInt = 2 ∨ (z645.toInt < 0 ∨ 2 < z645.toInt) by omega) with c646 | c646 | c646 | c646
                        · refine ty_ts (n := 0) rfl c646 rfl rfl (by decide) ?_
                          refine hq_p rfl rfl ?_
                          refine hq_p rfl rfl ?_
                          refine hq_p rfl rfl ?_
                          refine hq_p rfl rfl ?_
                          refine hq_p rfl rfl ?_
                          refine ty_callj 0 (W := ty_Wc) H Jh483 rfl (fun _ => rfl) rfl rfl rfl (hq_pre_o Ih483.1 (x := 76) (ci := 1) rfl (by decide) rfl rfl rfl rfl) (fun _ _ w => w) (fun _ w => w) (ct_9 (t1 := t2) (t2 := t3) (x3 := z589) (x4 := z639) (by omega) ht2 ht3) (fun h648 _ Jh648 P647 => ?_)
                          have Ih648 := H.1 h648 Jh648
                          obtain ⟨z649, rfl, az649, bz649⟩ := P647
                          refine hq_p (ls' := [some (.ref 76), some (.ref 64), some (.ref t2), some (.ref t3), some (.int y463), some (.int y464), some (.int y102), some (.int y465), some (.int z589), some (.int z639), some (.int z649)]) rfl rfl ?_
                          refine hq_p rfl rfl ?_
                          refine hq_p rfl rfl ?_
                          refine ty_zge rfl (fun c650 => ?_) (fun c650 => ?_)
                          · refine ty_inca (ls' := fun z651 => [some (.ref 76), some (.ref 64), some (.ref t2), some (.ref t3), some (.int z651), some (.int y464), some (.int y102), some (.int y465), some (.int z589), some (.int z639), some (.int z649)]) rfl rfl (fun _ => rfl) (fun z651 az651 bz651 => ?_)
                            refine ty_inc (ls' := fun z652 => [some (.ref 76), some (.ref 64), some (.ref t2), some (.ref t3), some (.int z651), some (.int y464), some (.int y102), some (.int z652), some (.int z589), some (.int z639), some (.int z649)]) rfl rfl (fun _ => rfl) (nm_addc nk_i1 (by omega) (by omega)) (fun z652 ez652 => ?_)
                            refine hq_p rfl rfl ?_
                            exact ihn477 ((2147483647 - z652.toInt).toNat) (by omega) z651 y464 z652 (some (.int z589)) (some (.int z639)) (some (.int z649)) h648 rfl (by omega) (by omega) (by omega) (by omega) (by omega) (by omega) rfl rfl rfl Jh648
                          · refine hq_p rfl rfl ?_
                            refine hq_p rfl rfl ?_
                            refine ty_pI (W := ty_Wc) H Jh648 rfl rfl (by decide) rfl rfl (by unfold ty_Wc; omega) rfl (by omega) (by omega) (fun h653 eh653 Jh653 => ?_)
                            have wh653 : (hs_fI h653 76 5).toInt = y102.toInt := by rw [eh653]; exact congrArg Int32.toInt (ty_fI_eq Ih648.1 rfl (by decide) rfl)
                            have Ih653 := H.1 h653 Jh653
                            refine hq_p rfl rfl (ty_ge (n := -3) nk_bm3 (fun z654 ez654 => ?_))
                            exact hq_W.ret rfl rfl rfl ⟨Jh653, _, rfl, by omega, by omega⟩
                        · refine ty_ts (n := 1) rfl c646 rfl rfl (by decide) ?_
                          refine hq_p rfl rfl ?_
                          refine hq_p rfl rfl ?_
                          refine hq_p rfl rfl ?_
                          refine hq_p rfl rfl ?_
                          refine ty_callj 0 (W := ty_Wc) H Jh483 rfl (fun _ => rfl) rfl rfl rfl (hq_pre_o Ih483.1 (x := 76) (ci := 1) rfl (by decide) rfl rfl rfl rfl) (fun _ _ w => w) (fun _ w => w) (ct_10 (t1 := t2) (t2 := t3) (x3 := z589) (by omega) ht2 ht3) (fun h656 _ Jh656 P655 => ?_)
                          have Ih656 := H.1 h656 Jh656
                          obtain ⟨z657, rfl, az657, bz657⟩ := P655
                          refine hq_p (ls' := [some (.ref 76), some (.ref 64), some (.ref t2), some (.ref t3), some (.int y463), some (.int y464), some (.int y102), some (.int y465), some (.int z589), some (.int z639), some (.int z657)]) rfl rfl ?_
                          refine hq_p rfl rfl ?_
                          refine hq_p rfl rfl ?_
                          refine ty_zge rfl (fun c658 => ?_) (fun c658 => ?_)
                          · refine ty_inca (ls' := fun z659 => [some (.ref 76), some (.ref 64), some (.ref t2), some (.ref t3), some (.int z659), some (.int y464), some (.int y102), some (.int y465), some (.int z589), some (.int z639), some (.int z657)]) rfl rfl (fun _ => rfl) (fun z659 az659 bz659 => ?_)
                            refine ty_inc (ls' := fun z660 => [some (.ref 76), some (.ref 64), some (.ref t2), some (.ref t3), some (.int z659), some (.int y464), some (.int y102), some (.int z660), some (.int z589), some (.int z639), some (.int z657)]) rfl rfl (fun _ => rfl) (nm_addc nk_i1 (by omega) (by omega)) (fun z660 ez660 => ?_)
                            refine hq_p rfl rfl ?_
                            exact ihn477 ((2147483647 - z660.toInt).toNat) (by omega) z659 y464 z660 (some (.int z589)) (some (.int z639)) (some (.int z657)) h656 rfl (by omega) (by omega) (by omega) (by omega) (by omega) (by omega) rfl rfl rfl Jh656
                          · refine hq_p rfl rfl ?_
                            refine hq_p rfl rfl ?_
                            refine ty_pI (W := ty_Wc) H Jh656 rfl rfl (by decide) rfl rfl (by unfold ty_Wc; omega) rfl (by omega) (by omega) (fun h661 eh661 Jh661 => ?_)
                            have wh661 : (hs_fI h661 76 5).toInt = y102.toInt := by rw [eh661]; exact congrArg Int32.toInt (ty_fI_eq Ih656.1 rfl (by decide) rfl)
                            have Ih661 := H.1 h661 Jh661
                            refine hq_p rfl rfl (ty_ge (n := -3) nk_bm3 (fun z662 ez662 => ?_))
                            exact hq_W.ret rfl rfl rfl ⟨Jh661, _, rfl, by omega, by omega⟩
                        · refine ty_ts (n := 2) rfl c646 rfl rfl (by decide) ?_
                          refine hq_p rfl rfl ?_
                          refine hq_p rfl rfl ?_
                          refine hq_p rfl rfl ?_
                          refine hq_p rfl rfl ?_
                          refine ty_callj 0 (W := ty_Wc) H Jh483 rfl (fun _ => rfl) rfl rfl rfl (hq_pre_o Ih483.1 (x := 76) (ci := 1) rfl (by decide) rfl rfl rfl rfl) (fun _ _ w => w) (fun _ w => w) (ct_11 (t1 := t2) (t2 := t3) (x3 := z589) (by omega) ht2 ht3) (fun h664 _ Jh664 P663 => ?_)
                          have Ih664 := H.1 h664 Jh664
                          obtain ⟨z665, rfl, az665, bz665⟩ := P663
                          refine hq_p (ls' := [some (.ref 76), some (.ref 64), some (.ref t2), some (.ref t3), some (.int y463), some (.int y464), some (.int y102), some (.int y465), some (.int z589), some (.int z639), some (.int z665)]) rfl rfl ?_
                          refine hq_p rfl rfl ?_
                          refine hq_p (ls' := [some (.ref 76), some (.ref 64), some (.ref t2), some (.ref t3), some (.int y463), some (.int z665), some (.int y102), some (.int y465), some (.int z589), some (.int z639), some (.int z665)]) rfl rfl ?_
                          refine hq_p rfl rfl ?_
                          refine hq_p rfl rfl ?_
                          refine ty_zge rfl (fun c666 => ?_) (fun c666 => ?_)
                          · refine ty_inca (ls' := fun z667 => [some (.ref 76), some (.ref 64), some (.ref t2), some (.ref t3), some (.int z667), some (.int z665), some (.int y102), some (.int y465), some (.int z589), some (.int z639), some (.int z665)]) rfl rfl (fun _ => rfl) (fun z667 az667 bz667 => ?_)
                            refine ty_inc (ls' := fun z668 => [some (.ref 76), some (.ref 64), some (.ref t2), some (.ref t3), some (.int z667), some (.int z665), some (.int y102), some (.int z668), some (.int z589), some (.int z639), some (.int z665)]) rfl rfl (fun _ => rfl) (nm_addc nk_i1 (by omega) (by omega)) (fun z668 ez668 => ?_)
                            refine hq_p rfl rfl ?_
                            exact ihn477 ((2147483647 - z668.toInt).toNat) (by omega) z667 z665 z668 (some (.int z589)) (some (.int z639)) (some (.int z665)) h664 rfl (by omega) (by omega) (by omega) (by omega) (by omega) (by omega) rfl rfl rfl Jh664
                          · refine hq_p rfl rfl ?_
                            refine hq_p rfl rfl ?_
                            refine ty_pI (W := ty_Wc) H Jh664 rfl rfl (by decide) rfl rfl (by unfold ty_Wc; omega) rfl (by omega) (by omega) (fun h669 eh669 Jh669 => ?_)
                            have wh669 : (hs_fI h669 76 5).toInt = y102.toInt := by rw [eh669]; exact congrArg Int32.toInt (ty_fI_eq Ih664.1 rfl (by decide) rfl)
                            have Ih669 := H.1 h669 Jh669
                            refine hq_p rfl rfl (ty_ge (n := -3) nk_bm3 (fun z670 ez670 => ?_))
                            exact hq_W.ret rfl rfl rfl ⟨Jh669, _, rfl, by omega, by omega⟩
                        · refine ty_td rfl c646 (by decide) ?_
                          refine hq_p rfl rfl ?_
                          refine hq_p rfl rfl ?_
                          refine hq_p rfl rfl ?_
                          refine ty_callj 0 (W := ty_Wc) H Jh483 rfl (fun _ => rfl) rfl rfl rfl (hq_pre_o Ih483.1 (x := 76) (ci := 1) rfl (by decide) rfl rfl rfl rfl) (fun _ _ w => w) (fun _ w => w) (ct_13 (t1 := t2) (t2 := t3) (by omega) ht2 ht3) (fun h672 _ Jh672 P671 => ?_)
                          have Ih672 := H.1 h672 Jh672
                          obtain ⟨z673, rfl, az673, bz673⟩ := P671
                          refine hq_p (ls' := [some (.ref 76), some (.ref 64), some (.ref t2), some (.ref t3), some (.int y463), some (.int y464), some (.int y102), some (.int y465), some (.int z589), some (.int z639), some (.int z673)]) rfl rfl ?_
                          refine hq_p rfl rfl ?_
                          refine ty_zge rfl (fun c674 => ?_) (fun c674 => ?_)
                          · refine ty_inca (ls' := fun z675 => [some (.ref 76), some (.ref 64), some (.ref t2), some (.ref t3), some (.int z675), some (.int y464), some (.int y102), some (.int y465), some (.int z589), some (.int z639), some (.int z673)]) rfl rfl (fun _ => rfl) (fun z675 az675 bz675 => ?_)
                            refine ty_inc (ls' := fun z676 => [some (.ref 76), some (.ref 64), some (.ref t2), some (.ref t3), some (.int z675), some (.int y464), some (.int y102), some (.int z676), some (.int z589), some (.int z639), some (.int z673)]) rfl rfl (fun _ => rfl) (nm_addc nk_i1 (by omega) (by omega)) (fun z676 ez676 => ?_)
                            refine hq_p rfl rfl ?_
                            exact ihn477 ((2147483647 - z676.toInt).toNat) (by omega) z675 y464 z676 (some (.int z589)) (some (.int z639)) (some (.int z673)) h672 rfl (by omega) (by omega) (by omega) (by omega) (by omega) (by omega) rfl rfl rfl Jh672
                          · refine hq_p rfl rfl ?_
                            refine hq_p rfl rfl ?_
                            refine ty_pI (W := ty_Wc) H Jh672 rfl rfl (by decide) rfl rfl (by unfold ty_Wc; omega) rfl (by omega) (by omega) (fun h677 eh677 Jh677 => ?_)
                            have wh677 : (hs_fI h677 76 5).toInt = y102.toInt := by rw [eh677]; exact congrArg Int32.toInt (ty_fI_eq Ih672.1 rfl (by decide) rfl)
                            have Ih677 := H.1 h677 Jh677
                            refine hq_p rfl rfl (ty_ge (n := -3) nk_bm3 (fun z678 ez678 => ?_))
                            exact hq_W.ret rfl rfl rfl ⟨Jh677, _, rfl, by omega, by omega⟩
              · clear c486
                refine hq_p rfl rfl ?_
                refine hq_gR Ih483.1 rfl rfl (by decide) (by decide) rfl ?_
                refine hq_p rfl rfl ?_
                refine hq_p rfl rfl ?_
                refine hq_gR Ih483.1 rfl rfl (by decide) (by decide) rfl ?_
                refine hq_p rfl rfl ?_
                refine ty_aL Ih483 rfl rfl (by decide) (by omega) (by omega) (fun _ _ => ty_le rfl) (fun z679 ez679 az679 bz679 => ?_)
                refine hq_p rfl rfl ?_
                refine hq_gR Ih483.1 rfl rfl (by decide) (by decide) rfl ?_
                refine ty_callj 0 (W := ty_Wc) H Jh483 rfl (fun _ => rfl) rfl rfl rfl (hq_pre_o Ih483.1 (x := 81) (ci := 6) rfl (by decide) rfl rfl rfl rfl) (fun a k w => by unfold ty_Wu at w; unfold ty_Wc; omega) (by unfold ty_Wu ty_Wc; omega) (ct_58a (x2 := z679) (by omega)) (fun h681 _ Jh681 P680 => ?_)
                have Ih681 := H.1 h681 Jh681
                obtain ⟨z682, rfl, az682, bz682⟩ := P680
                refine hq_p rfl rfl (ty_ge (n := 1) nk_i1 (fun z683 ez683 => ?_))
                refine ty_ieq rfl (fun c684 => ?_) (fun c684 => ?_)
                · refine hq_p rfl rfl ?_
                  refine hq_gR Ih681.1 rfl rfl (by decide) (by decide) rfl ?_
                  refine hq_p rfl rfl ?_
                  refine ty_aL Ih681 rfl rfl (by decide) (by omega) (by omega) (fun _ _ => ty_le rfl) (fun z685 ez685 az685 bz685 => ?_)
                  refine hq_p rfl rfl (ty_ge (n := -1) nk_im1 (fun z686 ez686 => ?_))
                  refine ty_ine rfl (fun c687 => ?_) (fun c687 => ?_)
                  · clear c687
                    refine hq_p rfl rfl ?_
                    refine hq_gR Ih681.1 rfl rfl (by decide) (by decide) rfl ?_
                    refine hq_p rfl rfl ?_
                    refine hq_p rfl rfl ?_
                    refine hq_gR Ih681.1 rfl rfl (by decide) (by decide) rfl ?_
                    refine hq_p rfl rfl ?_
                    refine ty_aL Ih681 rfl rfl (by decide) (by omega) (by omega) (fun _ _ => ty_le rfl) (fun z688 ez688 az688 bz688 => ?_)
                    refine hq_p rfl rfl ?_
                    refine hq_gR Ih681.1 rfl rfl (by decide) (by decide) rfl ?_
                    refine ty_callj 0 (W := ty_Wc) H Jh681 rfl (fun _ => rfl) rfl rfl rfl (hq_pre_o Ih681.1 (x := 81) (ci := 6) rfl (by decide) rfl rfl rfl rfl) (fun a k w => by unfold ty_Wu at w; unfold ty_Wc; omega) (by unfold ty_Wu ty_Wc; omega) (ct_58a (x2 := z688) (by omega)) (fun h690 _ Jh690 P689 => ?_)
                    have Ih690 := H.1 h690 Jh690
                    obtain ⟨z691, rfl, az691, bz691⟩ := P689
                    refine hq_p (ls' := [some (.ref 76), some (.ref 64), some (.ref t2), some (.ref t3), some (.int y463), some (.int y464), some (.int y102), some (.int y465), some (.int z691), w467, w468]) rfl rfl ?_
                    refine hq_p rfl rfl ?_
                    refine hq_gR Ih690.1 rfl rfl (by decide) (by decide) rfl ?_
                    refine hq_p rfl rfl ?_
                    refine ty_aL Ih690 rfl rfl (by decide) (by omega) (by omega) (fun _ _ => ty_le rfl) (fun z692 ez692 az692 bz692 => ?_)
                    refine hq_p rfl rfl (ty_ge (n := -1) nk_im1 (fun z693 ez693 => ?_))
                    refine ty_ine rfl (fun c694 => ?_) (fun c694 => ?_)
                    · clear c694
                      refine hq_p rfl rfl ?_
                      refine hq_gR Ih690.1 rfl rfl (by decide) (by decide) rfl ?_
                      refine hq_p rfl rfl ?_
                      refine hq_p rfl rfl ?_
                      refine hq_gR Ih690.1 rfl rfl (by decide) (by decide) rfl ?_
                      refine hq_p rfl rfl ?_
                      refine ty_aL Ih690 rfl rfl (by decide) (by omega) (by omega) (fun _ _ => ty_le rfl) (fun z695 ez695 az695 bz695 => ?_)
                      refine hq_p rfl rfl ?_
                      refine hq_gR Ih690.1 rfl rfl (by decide) (by decide) rfl ?_
                      refine ty_callj 0 (W := ty_Wc) H Jh690 rfl (fun _ => rfl) rfl rfl rfl (hq_pre_o Ih690.1 (x := 81) (ci := 6) rfl (by decide) rfl rfl rfl rfl) (fun a k w => by unfold ty_Wu at w; unfold ty_Wc; omega) (by unfold ty_Wu ty_Wc; omega) (ct_58a (x2 := z695) (by omega)) (fun h697 _ Jh697 P696 => ?_)
                      have Ih697 := H.1 h697 Jh697
                      obtain ⟨z698, rfl, az698, bz698⟩ := P696
                      refine hq_p (ls' := [some (.ref 76), some (.ref 64), some (.ref t2), some (.ref t3), some (.int y463), some (.int y464), some (.int y102), some (.int y465), some (.int z691), some (.int z698), w468]) rfl rfl ?_
                      refine hq_p rfl rfl (ty_ge (n := -3) nk_bm3 (fun z699 ez699 => ?_))
                      refine hq_p (ls' := [some (.ref 76), some (.ref 64), some (.ref t2), some (.ref t3), some (.int y463), some (.int y464), some (.int y102), some (.int y465), some (.int z691), some (.int z698), some (.int z699)]) rfl rfl ?_
                      refine hq_p rfl rfl ?_
                      refine hq_p rfl rfl (ty_ge (n := -2000000000) nk_dm2000000000 (fun z700 ez700 => ?_))
                      refine ty_ieq rfl (fun c701 => ?_) (fun c701 => ?_)
                      · refine hq_p rfl rfl ?_
                        refine ty_zge rfl (fun c702 => ?_) (fun c702 => ?_)
                        · exfalso; omega
                        · refine hq_p rfl rfl ?_
                          refine hq_p rfl rfl ?_
                          refine ty_pI (W := ty_Wc) H Jh697 rfl rfl (by decide) rfl rfl (by unfold ty_Wc; omega) rfl (by omega) (by omega) (fun h703 eh703 Jh703 => ?_)
                          have wh703 : (hs_fI h703 76 5).toInt = y102.toInt := by rw [eh703]; exact congrArg Int32.toInt (ty_fI_eq Ih697.1 rfl (by decide) rfl)
                          have Ih703 := H.1 h703 Jh703
                          refine hq_p rfl rfl (ty_ge (n := -3) nk_bm3 (fun z704 ez704 => ?_))
                          exact hq_W.ret rfl rfl rfl ⟨Jh703, _, rfl, by omega, by omega⟩
                      · clear c701
                        refine hq_p rfl rfl ?_
                        refine hq_p rfl rfl (ty_ge (n := -2000000000) nk_dm2000000000 (fun z705 ez705 => ?_))
                        refine ty_ieq rfl (fun c706 => ?_) (fun c706 => ?_)
                        · refine hq_p rfl rfl ?_
                          refine ty_zge rfl (fun c707 => ?_) (fun c707 => ?_)
                          · exfalso; omega
                          · refine hq_p rfl rfl ?_
                            refine hq_p rfl rfl ?_
                            refine ty_pI (W := ty_Wc) H Jh697 rfl rfl (by decide) rfl rfl (by unfold ty_Wc; omega) rfl (by omega) (by omega) (fun h708 eh708 Jh708 => ?_)
                            have wh708 : (hs_fI h708 76 5).toInt = y102.toInt := by rw [eh708]; exact congrArg Int32.toInt (ty_fI_eq Ih697.1 rfl (by decide) rfl)
                            have Ih708 := H.1 h708 Jh708
                            refine hq_p rfl rfl (ty_ge (n := -3) nk_bm3 (fun z709 ez709 => ?_))
                            exact hq_W.ret rfl rfl rfl ⟨Jh708, _, rfl, by omega, by omega⟩
                        · clear c706
                          refine hq_p rfl rfl ?_
                          refine hq_gR Ih697.1 rfl rfl (by decide) (by decide) rfl ?_
                          refine hq_p rfl rfl ?_
                          refine ty_aL Ih697 rfl rfl (by decide) (by omega) (by omega) (fun _ _ => ty_le rfl) (fun z710 ez710 az710 bz710 => ?_)
                          rcases (show z710.toInt = 0 ∨ z710.toInt = 1 ∨ z710.toInt = 2 ∨ (z710.toInt < 0 ∨ 2 < z710.toInt) by omega) with c711 | c711 | c711 | c711
                          · refine ty_ts (n := 0) rfl c711 rfl rfl (by decide) ?_
                            refine hq_p rfl rfl ?_
                            refine hq_p rfl rfl ?_
                            refine hq_p rfl rfl ?_
                            refine hq_p rfl rfl ?_
                            refine hq_p rfl rfl ?_
                            refine ty_callj 0 (W := ty_Wc) H Jh697 rfl (fun _ => rfl) rfl rfl rfl (hq_pre_o Ih697.1 (x := 76) (ci := 1) rfl (by decide) rfl rfl rfl rfl) (fun _ _ w => w) (fun _ w => w) (ct_9 (t1 := t2) (t2 := t3) (x3 := z691) (x4 := z698) (by omega) ht2 ht3) (fun h713 _ Jh713 P712 => ?_)
                            have Ih713 := H.1 h713 Jh713
                            obtain ⟨z714, rfl, az714, bz714⟩ := P712
                            refine hq_p (ls' := [some (.ref 76), some (.ref 64), some (.ref t2), some (.ref t3), some (.int y463), some (.int y464), some (.int y102), some (.int y465), some (.int z691), some (.int z698), some (.int z714)]) rfl rfl ?_
                            refine hq_p rfl rfl ?_
                            refine hq_p rfl rfl ?_
                            refine ty_zge rfl (fun c715 => ?_) (fun c715 => ?_)
                            · refine ty_inca (ls' := fun z716 => [some (.ref 76), some (.ref 64), some (.ref t2), some (.ref t3), some (.int z716), some (.int y464), some (.int y102), some (.int y465), some (.int z691), some (.int z698), some (.int z714)]) rfl rfl (fun _ => rfl) (fun z716 az716 bz716 => ?_)
                              refine ty_inc (ls' := fun z717 => [some (.ref 76), some (.ref 64), some (.ref t2), some (.ref t3), some (.int z716), some (.int y464), some (.int y102), some (.int z717), some (.int z691), some (.int z698), some (.int z714)]) rfl rfl (fun _ => rfl) (nm_addc nk_i1 (by omega) (by omega)) (fun z717 ez717 => ?_)
                              refine hq_p rfl rfl ?_
                              exact ihn477 ((2147483647 - z717.toInt).toNat) (by omega) z716 y464 z717 (some (.int z691)) (some (.int z698)) (some (.int z714)) h713 rfl (by omega) (by omega) (by omega) (by omega) (by omega) (by omega) rfl rfl rfl Jh713
                            · refine hq_p rfl rfl ?_
                              refine hq_p rfl rfl ?_
                              refine ty_pI (W := ty_Wc) H Jh713 rfl rfl (by decide) rfl rfl (by unfold ty_Wc; omega) rfl (by omega) (by omega) (fun h718 eh718 Jh718 => ?_)
                              have wh718 : (hs_fI h718 76 5).toInt = y102.toInt := by rw [eh718]; exact congrArg Int32.toInt (ty_fI_eq Ih713.1 rfl (by decide) rfl)
                              have Ih718 := H.1 h718 Jh718
                              refine hq_p rfl rfl (ty_ge (n := -3) nk_bm3 (fun z719 ez719 => ?_))
                              exact hq_W.ret rfl rfl rfl ⟨Jh718, _, rfl, by omega, by omega⟩
                          · refine ty_ts (n := 1) rfl c711 rfl rfl (by decide) ?_
                            refine hq_p rfl rfl ?_
                            refine hq_p rfl rfl ?_
                            refine hq_p rfl rfl ?_
                            refine hq_p rfl rfl ?_
                            refine ty_callj 0 (W := ty_Wc) H Jh697 rfl (fun _ => rfl) rfl rfl rfl (hq_pre_o Ih697.1 (x := 76) (ci := 1) rfl (by decide) rfl rfl rfl rfl) (fun _ _ w => w) (fun _ w => w) (ct_10 (t1 := t2) (t2 := t3) (x3 := z691) (by omega) ht2 ht3) (fun h721 _ Jh721 P720 => ?_)
                            have Ih721 := H.1 h721 Jh721
                            obtain ⟨z722, rfl, az722, bz722⟩ := P720
                            refine hq_p (ls' := [some (.ref 76), some (.ref 64), some (.ref t2), some (.ref t3), some (.int y463), some (.int y464), some (.int y102), some (.int y465), some (.int z691), some (.int z698), some (.int z722)]) rfl rfl ?_
                            refine hq_p rfl rfl ?_
                            refine hq_p rfl rfl ?_
                            refine ty_zge rfl (fun c723 => ?_) (fun c723 => ?_)
                            · refine ty_inca (ls' := fun z724 => [some (.ref 76), some (.ref 64), some (.ref t2), some (.ref t3), some (.int z724), some (.int y464), some (.int y102), some (.int y465), some (.int z691), some (.int z698), some (.int z722)]) rfl rfl (fun _ => rfl) (fun z724 az724 bz724 => ?_)
                              refine ty_inc (ls' := fun z725 => [some (.ref 76), some (.ref 64), some (.ref t2), some (.ref t3), some (.int z724), some (.int y464), some (.int y102), some (.int z725), some (.int z691), some (.int z698), some (.int z722)]) rfl rfl (fun _ => rfl) (nm_addc nk_i1 (by omega) (by omega)) (fun z725 ez725 => ?_)
                              refine hq_p rfl rfl ?_
                              exact ihn477 ((2147483647 - z725.toInt).toNat) (by omega) z724 y464 z725 (some (.int z691)) (some (.int z698)) (some (.int z722)) h721 rfl (by omega) (by omega) (by omega) (by omega) (by omega) (by omega) rfl rfl rfl Jh721
                            · refine hq_p rfl rfl ?_
                              refine hq_p rfl rfl ?_
                              refine ty_pI (W := ty_Wc) H Jh721 rfl rfl (by decide) rfl rfl (by unfold ty_Wc; omega) rfl (by omega) (by omega) (fun h726 eh726 Jh726 => ?_)
                              have wh726 : (hs_fI h726 76 5).toInt = y102.toInt := by rw [eh726]; exact congrArg Int32.toInt (ty_fI_eq Ih721.1 rfl (by decide) rfl)
                              have Ih726 := H.1 h726 Jh726
                              refine hq_p rfl rfl (ty_ge (n := -3) nk_bm3 (fun z727 ez727 => ?_))
                              exact hq_W.ret rfl rfl rfl ⟨Jh726, _, rfl, by omega, by omega⟩
                          · refine ty_ts (n := 2) rfl c711 rfl rfl (by decide) ?_
                            refine hq_p rfl rfl ?_
                            refine hq_p rfl rfl ?_
                            refine hq_p rfl rfl ?_
                            refine hq_p rfl rfl ?_
                            refine ty_callj 0 (W := ty_Wc) H Jh697 rfl (fun _ => rfl) rfl rfl rfl (hq_pre_o Ih697.1 (x := 76) (ci := 1) rfl (by decide) rfl rfl rfl rfl) (fun _ _ w => w) (fun _ w => w) (ct_11 (t1 := t2) (t2 := t3) (x3 := z691) (by omega) ht2 ht3) (fun h729 _ Jh729 P728 => ?_)
                            have Ih729 := H.1 h729 Jh729
                            obtain ⟨z730, rfl, az730, bz730⟩ := P728
                            refine hq_p (ls' := [some (.ref 76), some (.ref 64), some (.ref t2), some (.ref t3), some (.int y463), some (.int y464), some (.int y102), some (.int y465), some (.int z691), some (.int z698), some (.int z730)]) rfl rfl ?_
                            refine hq_p rfl rfl ?_
                            refine hq_p (ls' := [some (.ref 76), some (.ref 64), some (.ref t2), some (.ref t3), some (.int y463), some (.int z730), some (.int y102), some (.int y465), some (.int z691), some (.int z698), some (.int z730)]) rfl rfl ?_
                            refine hq_p rfl rfl ?_
                            refine hq_p rfl rfl ?_
                            refine ty_zge rfl (fun c731 => ?_) (fun c731 => ?_)
                            · refine ty_inca (ls' := fun z732 => [some (.ref 76), some (.ref 64), some (.ref t2), some (.ref t3), some (.int z732), some (.int z730), some (.int y102), some (.int y465), some (.int z691), some (.int z698), some (.int z730)]) rfl rfl (fun _ => rfl) (fun z732 az732 bz732 => ?_)
                              refine ty_inc (ls' := fun z733 => [some (.ref 76), some (.ref 64), some (.ref t2), some (.ref t3), some (.int z732), some (.int z730), some (.int y102), some (.int z733), some (.int z691), some (.int z698), some (.int z730)]) rfl rfl (fun _ => rfl) (nm_addc nk_i1 (by omega) (by omega)) (fun z733 ez733 => ?_)
                              refine hq_p rfl rfl ?_
                              exact ihn477 ((2147483647 - z733.toInt).toNat) (by omega) z732 z730 z733 (some (.int z691)) (some (.int z698)) (some (.int z730)) h729 rfl (by omega) (by omega) (by omega) (by omega) (by omega) (by omega) rfl rfl rfl Jh729
                            · refine hq_p rfl rfl ?_
                              refine hq_p rfl rfl ?_
                              refine ty_pI (W := ty_Wc) H Jh729 rfl rfl (by decide) rfl rfl (by unfold ty_Wc; omega) rfl (by omega) (by omega) (fun h734 eh734 Jh734 => ?_)
                              have wh734 : (hs_fI h734 76 5).toInt = y102.toInt := by rw [eh734]; exact congrArg Int32.toInt (ty_fI_eq Ih729.1 rfl (by decide) rfl)
                              have Ih734 := H.1 h734 Jh734
                              refine hq_p rfl rfl (ty_ge (n := -3) nk_bm3 (fun z735 ez735 => ?_))
                              exact hq_W.ret rfl rfl rfl ⟨Jh734, _, rfl, by omega, by omega⟩
                          · refine ty_td rfl c711 (by decide) ?_
                            refine hq_p rfl rfl ?_
                            refine hq_p rfl rfl ?_
                            refine hq_p rfl rfl ?_
                            refine ty_callj 0 (W := ty_Wc) H Jh697 rfl (fun _ => rfl) rfl rfl rfl (hq_pre_o Ih697.1 (x := 76) (ci := 1) rfl (by decide) rfl rfl rfl rfl) (fun _ _ w => w) (fun _ w => w) (ct_13 (t1 := t2) (t2 := t3) (by omega) ht2 ht3) (fun h737 _ Jh737 P736 => ?_)
                            have Ih737 := H.1 h737 Jh737
                            obtain ⟨z738, rfl, az738, bz738⟩ := P736
                            refine hq_p (ls' := [some (.ref 76), some (.ref 64), some (.ref t2), some (.ref t3), some (.int y463), some (.int y464), some (.int y102), some (.int y465), some (.int z691), some (.int z698), some (.int z738)]) rfl rfl ?_
                            refine hq_p rfl rfl ?_
                            refine ty_zge rfl (fun c739 => ?_) (fun c739 => ?_)
                            · refine ty_inca (ls' := fun z740 => [some (.ref 76), some (.ref 64), some (.ref t2), some (.ref t3), some (.int z740), some (.int y464), some (.int y102), some (.int y465), some (.int z691), some (.int z698), some (.int z738)]) rfl rfl (fun _ => rfl) (fun z740 az740 bz740 => ?_)
                              refine ty_inc (ls' := fun z741 => [some (.ref 76), some (.ref 64), some (.ref t2), some (.ref t3), some (.int z740), some (.int y464), some (.int y102), some (.int z741), some (.int z691), some (.int z698), some (.int z738)]) rfl rfl (fun _ => rfl) (nm_addc nk_i1 (by omega) (by omega)) (fun z741 ez741 => ?_)
                              refine hq_p rfl rfl ?_
                              exact ihn477 ((2147483647 - z741.toInt).toNat) (by omega) z740 y464 z741 (some (.int z691)) (some (.int z698)) (some (.int z738)) h737 rfl (by omega) (by omega) (by omega) (by omega) (by omega) (by omega) rfl rfl rfl Jh737
                            · refine hq_p rfl rfl ?_
                              refine hq_p rfl rfl ?_
                              refine ty_pI (W := ty_Wc) H Jh737 rfl rfl (by decide) rfl rfl (by unfold ty_Wc; omega) rfl (by omega) (by omega) (fun h742 eh742 Jh742 => ?_)
                              have wh742 : (hs_fI h742 76 5).toInt = y102.toInt := by rw [eh742]; exact congrArg Int32.toInt (ty_fI_eq Ih737.1 rfl (by decide) rfl)
                              have Ih742 := H.1 h742 Jh742
                              refine hq_p rfl rfl (ty_ge (n := -3) nk_bm3 (fun z743 ez743 => ?_))
                              exact hq_W.ret rfl rfl rfl ⟨Jh742, _, rfl, by omega, by omega⟩
                    · refine hq_p rfl rfl (ty_ge (n := 0) nk_i0 (fun z744 ez744 => ?_))
                      refine hq_p rfl rfl ?_
                      refine hq_p (ls' := [some (.ref 76), some (.ref 64), some (.ref t2), some (.ref t3), some (.int y463), some (.int y464), some (.int y102), some (.int y465), some (.int z691), some (.int z744), w468]) rfl rfl ?_
                      refine hq_p rfl rfl (ty_ge (n := -3) nk_bm3 (fun z745 ez745 => ?_))
                      refine hq_p (ls' := [some (.ref 76), some (.ref 64), some (.ref t2), some (.ref t3), some (.int y463), some (.int y464), some (.int y102), some (.int y465), some (.int z691), some (.int z744), some (.int z745)]) rfl rfl ?_
                      refine hq_p rfl rfl ?_
                      refine hq_p rfl rfl (ty_ge (n := -2000000000) nk_dm2000000000 (fun z746 ez746 => ?_))
                      refine ty_ieq rfl (fun c747 => ?_) (fun c747 => ?_)
                      · refine hq_p rfl rfl ?_
                        refine ty_zge rfl (fun c748 => ?_) (fun c748 => ?_)
                        · exfalso; omega
                        · refine hq_p rfl rfl ?_
                          refine hq_p rfl rfl ?_
                          refine ty_pI (W := ty_Wc) H Jh690 rfl rfl (by decide) rfl rfl (by unfold ty_Wc; omega) rfl (by omega) (by omega) (fun h749 eh749 Jh749 => ?_)
                          have wh749 : (hs_fI h749 76 5).toInt = y102.toInt := by rw [eh749]; exact congrArg Int32.toInt (ty_fI_eq Ih690.1 rfl (by decide) rfl)
                          have Ih749 := H.1 h749 Jh749
                          refine hq_p rfl rfl (ty_ge (n := -3) nk_bm3 (fun z750 ez750 => ?_))
                          exact hq_W.ret rfl rfl rfl ⟨Jh749, _, rfl, by omega, by omega⟩
                      · clear c747
                        refine hq_p rfl rfl ?_
                        refine hq_p rfl rfl (ty_ge (n := -2000000000) nk_dm2000000000 (fun z751 ez751 => ?_))
                        refine ty_ieq rfl (fun c752 => ?_) (fun c752 => ?_)
                        · exfalso; omega
                        · clear c752
                          refine hq_p rfl rfl ?_
                          refine hq_gR Ih690.1 rfl rfl (by decide) (by decide) rfl ?_
                          refine hq_p rfl rfl ?_
                          refine ty_aL Ih690 rfl rfl (by decide) (by omega) (by omega) (fun _ _ => ty_le rfl) (fun z753 ez753 az753 bz753 => ?_)
                          rcases (show z753.toInt = 0 ∨ z753.toInt = 1 ∨ z753.toInt = 2 ∨ (z753.toInt < 0 ∨ 2 < z753.toInt) by omega) with c754 | c754 | c754 | c754
                          · refine ty_ts (n := 0) rfl c754 rfl rfl (by decide) ?_
                            refine hq_p rfl rfl ?_
                            refine hq_p rfl rfl ?_
                            refine hq_p rfl rfl ?_
                            refine hq_p rfl rfl ?_
                            refine hq_p rfl rfl ?_
                            refine ty_callj 0 (W := ty_Wc) H Jh690 rfl (fun _ => rfl) rfl rfl rfl (hq_pre_o Ih690.1 (x := 76) (ci := 1) rfl (by decide) rfl rfl rfl rfl) (fun _ _ w => w) (fun _ w => w) (ct_9 (t1 := t2) (t2 := t3) (x3 := z691) (x4 := z744) (by omega) ht2 ht3) (fun h756 _ Jh756 P755 => ?_)
                            have Ih756 := H.1 h756 Jh756
                            obtain ⟨z757, rfl, az757, bz757⟩ := P755
                            refine hq_p (ls' := [some (.ref 76), some (.ref 64), some (.ref t2), some (.ref t3), some (.int y463), some (.int y464), some (.int y102), some (.int y465), some (.int z691), some (.int z744), some (.int z757)]) rfl rfl ?_
                            refine hq_p rfl rfl ?_
                            refine hq_p rfl rfl ?_
                            refine ty_zge rfl (fun c758 => ?_) (fun c758 => ?_)
                            · refine ty_inca (ls' := fun z759 => [some (.ref 76), some (.ref 64), some (.ref t2), some (.ref t3), some (.int z759), some (.int y464), some (.int y102), some (.int y465), some (.int z691), some (.int z744), some (.int z757)]) rfl rfl (fun _ => rfl) (fun z759 az759 bz759 => ?_)
                              refine ty_inc (ls' := fun z760 => [some (.ref 76), some (.ref 64), some (.ref t2), some (.ref t3), some (.int z759), some (.int y464), some (.int y102), some (.int z760), some (.int z691), some (.int z744), some (.int z757)]) rfl rfl (fun _ => rfl) (nm_addc nk_i1 (by omega) (by omega)) (fun z760 ez760 => ?_)
                              refine hq_p rfl rfl ?_
                              exact ihn477 ((2147483647 - z760.toInt).toNat) (by omega) z759 y464 z760 (some (.int z691)) (some (.int z744)) (some (.int z757)) h756 rfl (by omega) (by omega) (by omega) (by omega) (by omega) (by omega) rfl rfl rfl Jh756
                            · refine hq_p rfl rfl ?_
                              refine hq_p rfl rfl ?_
                              refine ty_pI (W := ty_Wc) H Jh756 rfl rfl (by decide) rfl rfl (by unfold ty_Wc; omega) rfl (by omega) (by omega) (fun h761 eh761 Jh761 => ?_)
                              have wh761 : (hs_fI h761 76 5).toInt = y102.toInt := by rw [eh761]; exact congrArg Int32.toInt (ty_fI_eq Ih756.1 rfl (by decide) rfl)
                              have Ih761 := H.1 h761 Jh761
                              refine hq_p rfl rfl (ty_ge (n := -3) nk_bm3 (fun z762 ez762 => ?_))
                              exact hq_W.ret rfl rfl rfl ⟨Jh761, _, rfl, by omega, by omega⟩
                          · refine ty_ts (n := 1) rfl c754 rfl rfl (by decide) ?_
                            refine hq_p rfl rfl ?_
                            refine hq_p rfl rfl ?_
                            refine hq_p rfl rfl ?_
                            refine hq_p rfl rfl ?_
                            refine ty_callj 0 (W := ty_Wc) H Jh690 rfl (fun _ => rfl) rfl rfl rfl (hq_pre_o Ih690.1 (x := 76) (ci := 1) rfl (by decide) rfl rfl rfl rfl) (fun _ _ w => w) (fun _ w => w) (ct_10 (t1 := t2) (t2 := t3) (x3 := z691) (by omega) ht2 ht3) (fun h764 _ Jh764 P763 => ?_)
                            have Ih764 := H.1 h764 Jh764
                            obtain ⟨z765, rfl, az765, bz765⟩ := P763
                            refine hq_p (ls' := [some (.ref 76), some (.ref 64), some (.ref t2), some (.ref t3), some (.int y463), some (.int y464), some (.int y102), some (.int y465), some (.int z691), some (.int z744), some (.int z765)]) rfl rfl ?_
                            refine hq_p rfl rfl ?_
                            refine hq_p rfl rfl ?_
                            refine ty_zge rfl (fun c766 => ?_) (fun c766 => ?_)
                            · refine ty_inca (ls' := fun z767 => [some (.ref 76), some (.ref 64), some (.ref t2), some (.ref t3), some (.int z767), some (.int y464), some (.int y102), some (.int y465), some (.int z691), some (.int z744), some (.int z765)]) rfl rfl (fun _ => rfl) (fun z767 az767 bz767 => ?_)
                              refine ty_inc (ls' := fun z768 => [some (.ref 76), some (.ref 64), some (.ref t2), some (.ref t3), some (.int z767), some (.int y464), some (.int y102), some (.int z768), some (.int z691), some (.int z744), some (.int z765)]) rfl rfl (fun _ => rfl) (nm_addc nk_i1 (by omega) (by omega)) (fun z768 ez768 => ?_)
                              refine hq_p rfl rfl ?_
                              exact ihn477 ((2147483647 - z768.toInt).toNat) (by omega) z767 y464 z768 (some (.int z691)) (some (.int z744)) (some (.int z765)) h764 rfl (by omega) (by omega) (by omega) (by omega) (by omega) (by omega) rfl rfl rfl Jh764
                            · refine hq_p rfl rfl ?_
                              refine hq_p rfl rfl ?_
                              refine ty_pI (W := ty_Wc) H Jh764 rfl rfl (by decide) rfl rfl (by unfold ty_Wc; omega) rfl (by omega) (by omega) (fun h769 eh769 Jh769 => ?_)
                              have wh769 : (hs_fI h769 76 5).toInt = y102.toInt := by rw [eh769]; exact congrArg Int32.toInt (ty_fI_eq Ih764.1 rfl (by decide) rfl)
                              have Ih769 := H.1 h769 Jh769
                              refine hq_p rfl rfl (ty_ge (n := -3) nk_bm3 (fun z770 ez770 => ?_))
                              exact hq_W.ret rfl rfl rfl ⟨Jh769, _, rfl, by omega, by omega⟩
                          · refine ty_ts (n := 2) rfl c754 rfl rfl (by decide) ?_
                            refine hq_p rfl rfl ?_
                            refine hq_p rfl rfl ?_
                            refine hq_p rfl rfl ?_
                            refine hq_p rfl rfl ?_
                            refine ty_callj 0 (W := ty_Wc) H Jh690 rfl (fun _ => rfl) rfl rfl rfl (hq_pre_o Ih690.1 (x := 76) (ci := 1) rfl (by decide) rfl rfl rfl rfl) (fun _ _ w => w) (fun _ w => w) (ct_11 (t1 := t2) (t2 := t3) (x3 := z691) (by omega) ht2 ht3) (fun h772 _ Jh772 P771 => ?_)
                            have Ih772 := H.1 h772 Jh772
                            obtain ⟨z773, rfl, az773, bz773⟩ := P771
                            refine hq_p (ls' := [some (.ref 76), some (.ref 64), some (.ref t2), some (.ref t3), some (.int y463), some (.int y464), some (.int y102), some (.int y465), some (.int z691), some (.int z744), some (.int z773)]) rfl rfl ?_
                            refine hq_p rfl rfl ?_
                            refine hq_p (ls' := [some (.ref 76), some (.ref 64), some (.ref t2), some (.ref t3), some (.int y463), some (.int z773), some (.int y102), some (.int y465), some (.int z691), some (.int z744), some (.int z773)]) rfl rfl ?_
                            refine hq_p rfl rfl ?_
                            refine hq_p rfl rfl ?_
                            refine ty_zge rfl (fun c774 => ?_) (fun c774 => ?_)
                            · refine ty_inca (ls' := fun z775 => [some (.ref 76), some (.ref 64), some (.ref t2), some (.ref t3), some (.int z775), some (.int z773), some (.int y102), some (.int y465), some (.int z691), some (.int z744), some (.int z773)]) rfl rfl (fun _ => rfl) (fun z775 az775 bz775 => ?_)
                              refine ty_inc (ls' := fun z776 => [some (.ref 76), some (.ref 64), some (.ref t2), some (.ref t3), some (.int z775), some (.int z773), some (.int y102), some (.int z776), some (.int z691), some (.int z744), some (.int z773)]) rfl rfl (fun _ => rfl) (nm_addc nk_i1 (by omega) (by omega)) (fun z776 ez776 => ?_)
                              refine hq_p rfl rfl ?_
                              exact ihn477 ((2147483647 - z776.toInt).toNat) (by omega) z775 z773 z776 (some (.int z691)) (some (.int z744)) (some (.int z773)) h772 rfl (by omega) (by omega) (by omega) (by omega) (by omega) (by omega) rfl rfl rfl Jh772
                            · refine hq_p rfl rfl ?_
                              refine hq_p rfl rfl ?_
                              refine ty_pI (W := ty_Wc) H Jh772 rfl rfl (by decide) rfl rfl (by unfold ty_Wc; omega) rfl (by omega) (by omega) (fun h777 eh777 Jh777 => ?_)
                              have wh777 : (hs_fI h777 76 5).toInt = y102.toInt := by rw [eh777]; exact congrArg Int32.toInt (ty_fI_eq Ih772.1 rfl (by decide) rfl)
                              have Ih777 := H.1 h777 Jh777
                              refine hq_p rfl rfl (ty_ge (n := -3) nk_bm3 (fun z778 ez778 => ?_))
                              exact hq_W.ret rfl rfl rfl ⟨Jh777, _, rfl, by omega, by omega⟩
                          · refine ty_td rfl c754 (by decide) ?_
                            refine hq_p rfl rfl ?_
                            refine hq_p rfl rfl ?_
                            refine hq_p rfl rfl ?_
                            refine ty_callj 0 (W := ty_Wc) H Jh690 rfl (fun _ => rfl) rfl rfl rfl (hq_pre_o Ih690.1 (x := 76) (ci := 1) rfl (by decide) rfl rfl rfl rfl) (fun _ _ w => w) (fun _ w => w) (ct_13 (t1 := t2) (t2 := t3) (by omega) ht2 ht3) (fun h780 _ Jh780 P779 => ?_)
                            have Ih780 := H.1 h780 Jh780
                            obtain ⟨z781, rfl, az781, bz781⟩ := P779
                            refine hq_p (ls' := [some (.ref 76), some (.ref 64), some (.ref t2), some (.ref t3), some (.int y463), some (.int y464), some (.int y102), some (.int y465), some (.int z691), some (.int z744), some (.int z781)]) rfl rfl ?_
                            refine hq_p rfl rfl ?_
                            refine ty_zge rfl (fun c782 => ?_) (fun c782 => ?_)
                            · refine ty_inca (ls' := fun z783 => [some (.ref 76), some (.ref 64), some (.ref t2), some (.ref t3), some (.int z783), some (.int y464), some (.int y102), some (.int y465), some (.int z691), some (.int z744), some (.int z781)]) rfl rfl (fun _ => rfl) (fun z783 az783 bz783 => ?_)
                              refine ty_inc (ls' := fun z784 => [some (.ref 76), some (.ref 64), some (.ref t2), some (.ref t3), some (.int z783), some (.int y464), some (.int y102), some (.int z784), some (.int z691), some (.int z744), some (.int z781)]) rfl rfl (fun _ => rfl) (nm_addc nk_i1 (by omega) (by omega)) (fun z784 ez784 => ?_)
                              refine hq_p rfl rfl ?_
                              exact ihn477 ((2147483647 - z784.toInt).toNat) (by omega) z783 y464 z784 (some (.int z691)) (some (.int z744)) (some (.int z781)) h780 rfl (by omega) (by omega) (by omega) (by omega) (by omega) (by omega) rfl rfl rfl Jh780
                            · refine hq_p rfl rfl ?_
                              refine hq_p rfl rfl ?_
                              refine ty_pI (W := ty_Wc) H Jh780 rfl rfl (by decide) rfl rfl (by unfold ty_Wc; omega) rfl (by omega) (by omega) (fun h785 eh785 Jh785 => ?_)
                              have wh785 : (hs_fI h785 76 5).toInt = y102.toInt := by rw [eh785]; exact congrArg Int32.toInt (ty_fI_eq Ih780.1 rfl (by decide) rfl)
                              have Ih785 := H.1 h785 Jh785
                              refine hq_p rfl rfl (ty_ge (n := -3) nk_bm3 (fun z786 ez786 => ?_))
                              exact hq_W.ret rfl rfl rfl ⟨Jh785, _, rfl, by omega, by omega⟩
                  · refine hq_p rfl rfl (ty_ge (n := 0) nk_i0 (fun z787 ez787 => ?_))
                    refine hq_p rfl rfl ?_
                    refine hq_p (ls' := [some (.ref 76), some (.ref 64), some (.ref t2), some (.ref t3), some (.int y463), some (.int y464), some (.int y102), some (.int y465), some (.int z787), w467, w468]) rfl rfl ?_
                    refine hq_p rfl rfl ?_
                    refine hq_gR Ih681.1 rfl rfl (by decide) (by decide) rfl ?_
                    refine hq_p rfl rfl ?_
                    refine ty_aL Ih681 rfl rfl (by decide) (by omega) (by omega) (fun _ _ => ty_le rfl) (fun z788 ez788 az788 bz788 => ?_)
                    refine hq_p rfl rfl (ty_ge (n := -1) nk_im1 (fun z789 ez789 => ?_))
                    refine ty_ine rfl (fun c790 => ?_) (fun c790 => ?_)
                    · clear c790
                      refine hq_p rfl rfl ?_
                      refine hq_gR Ih681.1 rfl rfl (by decide) (by decide) rfl ?_
                      refine hq_p rfl rfl ?_
                      refine hq_p rfl rfl ?_
                      refine hq_gR Ih681.1 rfl rfl (by decide) (by decide) rfl ?_
                      refine hq_p rfl rfl ?_
                      refine ty_aL Ih681 rfl rfl (by decide) (by omega) (by omega) (fun _ _ => ty_le rfl) (fun z791 ez791 az791 bz791 => ?_)
                      refine hq_p rfl rfl ?_
                      refine hq_gR Ih681.1 rfl rfl (by decide) (by decide) rfl ?_
                      refine ty_callj 0 (W := ty_Wc) H Jh681 rfl (fun _ => rfl) rfl rfl rfl (hq_pre_o Ih681.1 (x := 81) (ci := 6) rfl (by decide) rfl rfl rfl rfl) (fun a k w => by unfold ty_Wu at w; unfold ty_Wc; omega) (by unfold ty_Wu ty_Wc; omega) (ct_58a (x2 := z791) (by omega)) (fun h793 _ Jh793 P792 => ?_)
                      have Ih793 := H.1 h793 Jh793
                      obtain ⟨z794, rfl, az794, bz794⟩ := P792
                      refine hq_p (ls' := [some (.ref 76), some (.ref 64), some (.ref t2), some (.ref t3), some (.int y463), some (.int y464), some (.int y102), some (.int y465), some (.int z787), some (.int z794), w468]) rfl rfl ?_
                      refine hq_p rfl rfl (ty_ge (n := -3) nk_bm3 (fun z795 ez795 => ?_))
                      refine hq_p (ls' := [some (.ref 76), some (.ref 64), some (.ref t2), some (.ref t3), some (.int y463), some (.int y464), some (.int y102), some (.int y465), some (.int z787), some (.int z794), some (.int z795)]) rfl rfl ?_
                      refine hq_p rfl rfl ?_
                      refine hq_p rfl rfl (ty_ge (n := -2000000000) nk_dm2000000000 (fun z796 ez796 => ?_))
                      refine ty_ieq rfl (fun c797 => ?_) (fun c797 => ?_)
                      · exfalso; omega
                      · clear c797
                        refine hq_p rfl rfl ?_
                        refine hq_p rfl rfl (ty_ge (n := -2000000000) nk_dm2000000000 (fun z798 ez798 => ?_))
                        refine ty_ieq rfl (fun c799 => ?_) (fun c799 => ?_)
                        · refine hq_p rfl rfl ?_
                          refine ty_zge rfl (fun c800 => ?_) (fun c800 => ?_)
                          · exfalso; omega
                          · refine hq_p rfl rfl ?_
                            refine hq_p rfl rfl ?_
                            refine ty_pI (W := ty_Wc) H Jh793 rfl rfl (by decide) rfl rfl (by unfold ty_Wc; omega) rfl (by omega) (by omega) (fun h801 eh801 Jh801 => ?_)
                            have wh801 : (hs_fI h801 76 5).toInt = y102.toInt := by rw [eh801]; exact congrArg Int32.toInt (ty_fI_eq Ih793.1 rfl (by decide) rfl)
                            have Ih801 := H.1 h801 Jh801
                            refine hq_p rfl rfl (ty_ge (n := -3) nk_bm3 (fun z802 ez802 => ?_))
                            exact hq_W.ret rfl rfl rfl ⟨Jh801, _, rfl, by omega, by omega⟩
                        · clear c799
                          refine hq_p rfl rfl ?_
                          refine hq_gR Ih793.1 rfl rfl (by decide) (by decide) rfl ?_
                          refine hq_p rfl rfl ?_
                          refine ty_aL Ih793 rfl rfl (by decide) (by omega) (by omega) (fun _ _ => ty_le rfl) (fun z803 ez803 az803 bz803 => ?_)
                          rcases (show z803.toInt = 0 ∨ z803.toInt = 1 ∨ z803.toInt = 2 ∨ (z803.toInt < 0 ∨ 2 < z803.toInt) by omega) with c804 | c804 | c804 | c804
                          · refine ty_ts (n := 0) rfl c804 rfl rfl (by decide) ?_
                            refine hq_p rfl rfl ?_
                            refine hq_p rfl rfl ?_
                            refine hq_p rfl rfl ?_
                            refine hq_p rfl rfl ?_
                            refine hq_p rfl rfl ?_
                            refine ty_callj 0 (W := ty_Wc) H Jh793 rfl (fun _ => rfl) rfl rfl rfl (hq_pre_o Ih793.1 (x := 76) (ci := 1) rfl (by decide) rfl rfl rfl rfl) (fun _ _ w => w) (fun _ w => w) (ct_9 (t1 := t2) (t2 := t3) (x3 := z787) (x4 := z794) (by omega) ht2 ht3) (fun h806 _ Jh806 P805 => ?_)
                            have Ih806 := H.1 h806 Jh806
                            obtain ⟨z807, rfl, az807, bz807⟩ := P805
                            refine hq_p (ls' := [some (.ref 76), some (.ref 64), some (.ref t2), some (.ref t3), some (.int y463), some (.int y464), some (.int y102), some (.int y465), some (.int z787), some (.int z794), some (.int z807)]) rfl rfl ?_
                            refine hq_p rfl rfl ?_
                            refine hq_p rfl rfl ?_
                            refine ty_zge rfl (fun c808 => ?_) (fun c808 => ?_)
                            · refine ty_inca (ls' := fun z809 => [some (.ref 76), some (.ref 64), some (.ref t2), some (.ref t3), some (.int z809), some (.int y464), some (.int y102), some (.int y465), some (.int z787), some (.int z794), some (.int z807)]) rfl rfl (fun _ => rfl) (fun z809 az809 bz809 => ?_)
                              refine ty_inc (ls' := fun z810 => [some (.ref 76), some (.ref 64), some (.ref t2), some (.ref t3), some (.int z809), some (.int y464), some (.int y102), some (.int z810), some (.int z787), some (.int z794), some (.int z807)]) rfl rfl (fun _ => rfl) (nm_addc nk_i1 (by omega) (by omega)) (fun z810 ez810 => ?_)
                              refine hq_p rfl rfl ?_
                              exact ihn477 ((2147483647 - z810.toInt).toNat) (by omega) z809 y464 z810 (some (.int z787)) (some (.int z794)) (some (.int z807)) h806 rfl (by omega) (by omega) (by omega) (by omega) (by omega) (by omega) rfl rfl rfl Jh806
                            · refine hq_p rfl rfl ?_
                              refine hq_p rfl rfl ?_
                              refine ty_pI (W := ty_Wc) H Jh806 rfl rfl (by decide) rfl rfl (by unfold ty_Wc; omega) rfl (by omega) (by omega) (fun h811 eh811 Jh811 => ?_)
                              have wh811 : (hs_fI h811 76 5).toInt = y102.toInt := by rw [eh811]; exact congrArg Int32.toInt (ty_fI_eq Ih806.1 rfl (by decide) rfl)
                              have Ih811 := H.1 h811 Jh811
                              refine hq_p rfl rfl (ty_ge (n := -3) nk_bm3 (fun z812 ez812 => ?_))
                              exact hq_W.ret rfl rfl rfl ⟨Jh811, _, rfl, by omega, by omega⟩
                          · refine ty_ts (n := 1) rfl c804 rfl rfl (by decide) ?_
                            refine hq_p rfl rfl ?_
                            refine hq_p rfl rfl ?_
                            refine hq_p rfl rfl ?_
                            refine hq_p rfl rfl ?_
                            refine ty_callj 0 (W := ty_Wc) H Jh793 rfl (fun _ => rfl) rfl rfl rfl (hq_pre_o Ih793.1 (x := 76) (ci := 1) rfl (by decide) rfl rfl rfl rfl) (fun _ _ w => w) (fun _ w => w) (ct_10 (t1 := t2) (t2 := t3) (x3 := z787) (by omega) ht2 ht3) (fun h814 _ Jh814 P813 => ?_)
                            have Ih814 := H.1 h814 Jh814
                            obtain ⟨z815, rfl, az815, bz815⟩ := P813
                            refine hq_p (ls' := [some (.ref 76), some (.ref 64), some (.ref t2), some (.ref t3), some (.int y463), some (.int y464), some (.int y102), some (.int y465), some (.int z787), some (.int z794), some (.int z815)]) rfl rfl ?_
                            refine hq_p rfl rfl ?_
                            refine hq_p rfl rfl ?_
                            refine ty_zge rfl (fun c816 => ?_) (fun c816 => ?_)
                            · refine ty_inca (ls' := fun z817 => [some (.ref 76), some (.ref 64), some (.ref t2), some (.ref t3), some (.int z817), some (.int y464), some (.int y102), some (.int y465), some (.int z787), some (.int z794), some (.int z815)]) rfl rfl (fun _ => rfl) (fun z817 az817 bz817 => ?_)
                              refine ty_inc (ls' := fun z818 => [some (.ref 76), some (.ref 64), some (.ref t2), some (.ref t3), some (.int z817), some (.int y464), some (.int y102), some (.int z818), some (.int z787), some (.int z794), some (.int z815)]) rfl rfl (fun _ => rfl) (nm_addc nk_i1 (by omega) (by omega)) (fun z818 ez818 => ?_)
                              refine hq_p rfl rfl ?_
                              exact ihn477 ((2147483647 - z818.toInt).toNat) (by omega) z817 y464 z818 (some (.int z787)) (some (.int z794)) (some (.int z815)) h814 rfl (by omega) (by omega) (by omega) (by omega) (by omega) (by omega) rfl rfl rfl Jh814
                            · refine hq_p rfl rfl ?_
                              refine hq_p rfl rfl ?_
                              refine ty_pI (W := ty_Wc) H Jh814 rfl rfl (by decide) rfl rfl (by unfold ty_Wc; omega) rfl (by omega) (by omega) (fun h819 eh819 Jh819 => ?_)
                              have wh819 : (hs_fI h819 76 5).toInt = y102.toInt := by rw [eh819]; exact congrArg Int32.toInt (ty_fI_eq Ih814.1 rfl (by decide) rfl)
                              have Ih819 := H.1 h819 Jh819
                              refine hq_p rfl rfl (ty_ge (n := -3) nk_bm3 (fun z820 ez820 => ?_))
                              exact hq_W.ret rfl rfl rfl ⟨Jh819, _, rfl, by omega, by omega⟩
                          · refine ty_ts (n := 2) rfl c804 rfl rfl (by decide) ?_
                            refine hq_p rfl rfl ?_
                            refine hq_p rfl rfl ?_
                            refine hq_p rfl rfl ?_
                            refine hq_p rfl rfl ?_
                            refine ty_callj 0 (W := ty_Wc) H Jh793 rfl (fun _ => rfl) rfl rfl rfl (hq_pre_o Ih793.1 (x := 76) (ci := 1) rfl (by decide) rfl rfl rfl rfl) (fun _ _ w => w) (fun _ w => w) (ct_11 (t1 := t2) (t2 := t3) (x3 := z787) (by omega) ht2 ht3) (fun h822 _ Jh822 P821 => ?_)
                            have Ih822 := H.1 h822 Jh822
                            obtain ⟨z823, rfl, az823, bz823⟩ := P821
                            refine hq_p (ls' := [some (.ref 76), some (.ref 64), some (.ref t2), some (.ref t3), some (.int y463), some (.int y464), some (.int y102), some (.int y465), some (.int z787), some (.int z794), some (.int z823)]) rfl rfl ?_
                            refine hq_p rfl rfl ?_
                            refine hq_p (ls' := [some (.ref 76), some (.ref 64), some (.ref t2), some (.ref t3), some (.int y463), some (.int z823), some (.int y102), some (.int y465), some (.int z787), some (.int z794), some (.int z823)]) rfl rfl ?_
                            refine hq_p rfl rfl ?_
                            refine hq_p rfl rfl ?_
                            refine ty_zge rfl (fun c824 => ?_) (fun c824 => ?_)
                            · refine ty_inca (ls' := fun z825 => [some (.ref 76), some (.ref 64), some (.ref t2), some (.ref t3), some (.int z825), some (.int z823), some (.int y102), some (.int y465), some (.int z787), some (.int z794), some (.int z823)]) rfl rfl (fun _ => rfl) (fun z825 az825 bz825 => ?_)
                              refine ty_inc (ls' := fun z826 => [some (.ref 76), some (.ref 64), some (.ref t2), some (.ref t3), some (.int z825), some (.int z823), some (.int y102), some (.int z826), some (.int z787), some (.int z794), some (.int z823)]) rfl rfl (fun _ => rfl) (nm_addc nk_i1 (by omega) (by omega)) (fun z826 ez826 => ?_)
                              refine hq_p rfl rfl ?_
                              exact ihn477 ((2147483647 - z826.toInt).toNat) (by omega) z825 z823 z826 (some (.int z787)) (some (.int z794)) (some (.int z823)) h822 rfl (by omega) (by omega) (by omega) (by omega) (by omega) (by omega) rfl rfl rfl Jh822
                            · refine hq_p rfl rfl ?_
                              refine hq_p rfl rfl ?_
                              refine ty_pI (W := ty_Wc) H Jh822 rfl rfl (by decide) rfl rfl (by unfold ty_Wc; omega) rfl (by omega) (by omega) (fun h827 eh827 Jh827 => ?_)
                              have wh827 : (hs_fI h827 76 5).toInt = y102.toInt := by rw [eh827]; exact congrArg Int32.toInt (ty_fI_eq Ih822.1 rfl (by decide) rfl)
                              have Ih827 := H.1 h827 Jh827
                              refine hq_p rfl rfl (ty_ge (n := -3) nk_bm3 (fun z828 ez828 => ?_))
                              exact hq_W.ret rfl rfl rfl ⟨Jh827, _, rfl, by omega, by omega⟩
                          · refine ty_td rfl c804 (by decide) ?_
                            refine hq_p rfl rfl ?_
                            refine hq_p rfl rfl ?_
                            refine hq_p rfl rfl ?_
                            refine ty_callj 0 (W := ty_Wc) H Jh793 rfl (fun _ => rfl) rfl rfl rfl (hq_pre_o Ih793.1 (x := 76) (ci := 1) rfl (by decide) rfl rfl rfl rfl) (fun _ _ w => w) (fun _ w => w) (ct_13 (t1 := t2) (t2 := t3) (by omega) ht2 ht3) (fun h830 _ Jh830 P829 => ?_)
                            have Ih830 := H.1 h830 Jh830
                            obtain ⟨z831, rfl, az831, bz831⟩ := P829
                            refine hq_p (ls' := [some (.ref 76), some (.ref 64), some (.ref t2), some (.ref t3), some (.int y463), some (.int y464), some (.int y102), some (.int y465), some (.int z787), some (.int z794), some (.int z831)]) rfl rfl ?_
                            refine hq_p rfl rfl ?_
                            refine ty_zge rfl (fun c832 => ?_) (fun c832 => ?_)
                            · refine ty_inca (ls' := fun z833 => [some (.ref 76), some (.ref 64), some (.ref t2), some (.ref t3), some (.int z833), some (.int y464), some (.int y102), some (.int y465), some (.int z787), some (.int z794), some (.int z831)]) rfl rfl (fun _ => rfl) (fun z833 az833 bz833 => ?_)
                              refine ty_inc (ls' := fun z834 => [some (.ref 76), some (.ref 64), some (.ref t2), some (.ref t3), some (.int z833), some (.int y464), some (.int y102), some (.int z834), some (.int z787), some (.int z794), some (.int z831)]) rfl rfl (fun _ => rfl) (nm_addc nk_i1 (by omega) (by omega)) (fun z834 ez834 => ?_)
                              refine hq_p rfl rfl ?_
                              exact ihn477 ((2147483647 - z834.toInt).toNat) (by omega) z833 y464 z834 (some (.int z787)) (some (.int z794)) (some (.int z831)) h830 rfl (by omega) (by omega) (by omega) (by omega) (by omega) (by omega) rfl rfl rfl Jh830
                            · refine hq_p rfl rfl ?_
                              refine hq_p rfl rfl ?_
                              refine ty_pI (W := ty_Wc) H Jh830 rfl rfl (by decide) rfl rfl (by unfold ty_Wc; omega) rfl (by omega) (by omega) (fun h835 eh835 Jh835 => ?_)
                              have wh835 : (hs_fI h835 76 5).toInt = y102.toInt := by rw [eh835]; exact congrArg Int32.toInt (ty_fI_eq Ih830.1 rfl (by decide) rfl)
                              have Ih835 := H.1 h835 Jh835
                              refine hq_p rfl rfl (ty_ge (n := -3) nk_bm3 (fun z836 ez836 => ?_))
                              exact hq_W.ret rfl rfl rfl ⟨Jh835, _, rfl, by omega, by omega⟩
                    · refine hq_p rfl rfl (ty_ge (n := 0) nk_i0 (fun z837 ez837 => ?_))
                      refine hq_p rfl rfl ?_
                      refine hq_p (ls' := [some (.ref 76), some (.ref 64), some (.ref t2), some (.ref t3), some (.int y463), some (.int y464), some (.int y102), some (.int y465), some (.int z787), some (.int z837), w468]) rfl rfl ?_
                      refine hq_p rfl rfl (ty_ge (n := -3) nk_bm3 (fun z838 ez838 => ?_))
                      refine hq_p (ls' := [some (.ref 76), some (.ref 64), some (.ref t2), some (.ref t3), some (.int y463), some (.int y464), some (.int y102), some (.int y465), some (.int z787), some (.int z837), some (.int z838)]) rfl rfl ?_
                      refine hq_p rfl rfl ?_
                      refine hq_p rfl rfl (ty_ge (n := -2000000000) nk_dm2000000000 (fun z839 ez839 => ?_))
                      refine ty_ieq rfl (fun c840 => ?_) (fun c840 => ?_)
                      · exfalso; omega
                      · clear c840
                        refine hq_p rfl rfl ?_
                        refine hq_p rfl rfl (ty_ge (n := -2000000000) nk_dm2000000000 (fun z841 ez841 => ?_))
                        refine ty_ieq rfl (fun c842 => ?_) (fun c842 => ?_)
                        · exfalso; omega
                        · clear c842
                          refine hq_p rfl rfl ?_
                          refine hq_gR Ih681.1 rfl rfl (by decide) (by decide) rfl ?_
                          refine hq_p rfl rfl ?_
                          refine ty_aL Ih681 rfl rfl (by decide) (by omega) (by omega) (fun _ _ => ty_le rfl) (fun z843 ez843 az843 bz843 => ?_)
                          rcases (show z843.toInt = 0 ∨ z843.toInt = 1 ∨ z843.toInt = 2 ∨ (z843.toInt < 0 ∨ 2 < z843.toInt) by omega) with c844 | c844 | c844 | c844
                          · refine ty_ts (n := 0) rfl c844 rfl rfl (by decide) ?_
                            refine hq_p rfl rfl ?_
                            refine hq_p rfl rfl ?_
                            refine hq_p rfl rfl ?_
                            refine hq_p rfl rfl ?_
                            refine hq_p rfl rfl ?_
                            refine ty_callj 0 (W := ty_Wc) H Jh681 rfl (fun _ => rfl) rfl rfl rfl (hq_pre_o Ih681.1 (x := 76) (ci := 1) rfl (by decide) rfl rfl rfl rfl) (fun _ _ w => w) (fun _ w => w) (ct_9 (t1 := t2) (t2 := t3) (x3 := z787) (x4 := z837) (by omega) ht2 ht3) (fun h846 _ Jh846 P845 => ?_)
                            have Ih846 := H.1 h846 Jh846
                            obtain ⟨z847, rfl, az847, bz847⟩ := P845
                            refine hq_p (ls' := [some (.ref 76), some (.ref 64), some (.ref t2), some (.ref t3), some (.int y463), some (.int y464), some (.int y102), some (.int y465), some (.int z787), some (.int z837), some (.int z847)]) rfl rfl ?_
                            refine hq_p rfl rfl ?_
                            refine hq_p rfl rfl ?_
                            refine ty_zge rfl (fun c848 => ?_) (fun c848 => ?_)
                            · refine ty_inca (ls' := fun z849 => [some (.ref 76), some (.ref 64), some (.ref t2), some (.ref t3), some (.int z849), some (.int y464), some (.int y102), some (.int y465), some (.int z787), some (.int z837), some (.int z847)]) rfl rfl (fun _ => rfl) (fun z849 az849 bz849 => ?_)
                              refine ty_inc (ls' := fun z850 => [some (.ref 76), some (.ref 64), some (.ref t2), some (.ref t3), some (.int z849), some (.int y464), some (.int y102), some (.int z850), some (.int z787), some (.int z837), some (.int z847)]) rfl rfl (fun _ => rfl) (nm_addc nk_i1 (by omega) (by omega)) (fun z850 ez850 => ?_)
                              refine hq_p rfl rfl ?_
                              exact ihn477 ((2147483647 - z850.toInt).toNat) (by omega) z849 y464 z850 (some (.int z787)) (some (.int z837)) (some (.int z847)) h846 rfl (by omega) (by omega) (by omega) (by omega) (by omega) (by omega) rfl rfl rfl Jh846
                            · refine hq_p rfl rfl ?_
                              refine hq_p rfl rfl ?_
                              refine ty_pI (W := ty_Wc) H Jh846 rfl rfl (by decide) rfl rfl (by unfold ty_Wc; omega) rfl (by omega) (by omega) (fun h851 eh851 Jh851 => ?_)
                              have wh851 : (hs_fI h851 76 5).toInt = y102.toInt := by rw [eh851]; exact congrArg Int32.toInt (ty_fI_eq Ih846.1 rfl (by decide) rfl)
                              have Ih851 := H.1 h851 Jh851
                              refine hq_p rfl rfl (ty_ge (n := -3) nk_bm3 (fun z852 ez852 => ?_))
                              exact hq_W.ret rfl rfl rfl ⟨Jh851, _, rfl, by omega, by omega⟩
                          · refine ty_ts (n := 1) rfl c844 rfl rfl (by decide) ?_
                            refine hq_p rfl rfl ?_
                            refine hq_p rfl rfl ?_
                            refine hq_p rfl rfl ?_
                            refine hq_p rfl rfl ?_
                            refine ty_callj 0 (W := ty_Wc) H Jh681 rfl (fun _ => rfl) rfl rfl rfl (hq_pre_o Ih681.1 (x := 76) (ci := 1) rfl (by decide) rfl rfl rfl rfl) (fun _ _ w => w) (fun _ w => w) (ct_10 (t1 := t2) (t2 := t3) (x3 := z787) (by omega) ht2 ht3) (fun h854 _ Jh854 P853 => ?_)
                            have Ih854 := H.1 h854 Jh854
                            obtain ⟨z855, rfl, az855, bz855⟩ := P853
                            refine hq_p (ls' := [some (.ref 76), some (.ref 64), some (.ref t2), some (.ref t3), some (.int y463), some (.int y464), some (.int y102), some (.int y465), some (.int z787), some (.int z837), some (.int z855)]) rfl rfl ?_
                            refine hq_p rfl rfl ?_
                            refine hq_p rfl rfl ?_
                            refine ty_zge rfl (fun c856 => ?_) (fun c856 => ?_)
                            · refine ty_inca (ls' := fun z857 => [some (.ref 76), some (.ref 64), some (.ref t2), some (.ref t3), some (.int z857), some (.int y464), some (.int y102), some (.int y465), some (.int z787), some (.int z837), some (.int z855)]) rfl rfl (fun _ => rfl) (fun z857 az857 bz857 => ?_)
                              refine ty_inc (ls' := fun z858 => [some (.ref 76), some (.ref 64), some (.ref t2), some (.ref t3), some (.int z857), some (.int y464), some (.int y102), some (.int z858), some (.int z787), some (.int z837), some (.int z855)]) rfl rfl (fun _ => rfl) (nm_addc nk_i1 (by omega) (by omega)) (fun z858 ez858 => ?_)
                              refine hq_p rfl rfl ?_
                              exact ihn477 ((2147483647 - z858.toInt).toNat) (by omega) z857 y464 z858 (some (.int z787)) (some (.int z837)) (some (.int z855)) h854 rfl (by omega) (by omega) (by omega) (by omega) (by omega) (by omega) rfl rfl rfl Jh854
                            · refine hq_p rfl rfl ?_
                              refine hq_p rfl rfl ?_
                              refine ty_pI (W := ty_Wc) H Jh854 rfl rfl (by decide) rfl rfl (by unfold ty_Wc; omega) rfl (by omega) (by omega) (fun h859 eh859 Jh859 => ?_)
                              have wh859 : (hs_fI h859 76 5).toInt = y102.toInt := by rw [eh859]; exact congrArg Int32.toInt (ty_fI_eq Ih854.1 rfl (by decide) rfl)
                              have Ih859 := H.1 h859 Jh859
                              refine hq_p rfl rfl (ty_ge (n := -3) nk_bm3 (fun z860 ez860 => ?_))
                              exact hq_W.ret rfl rfl rfl ⟨Jh859, _, rfl, by omega, by omega⟩
                          · refine ty_ts (n := 2) rfl c844 rfl rfl (by decide) ?_
                            refine hq_p rfl rfl ?_
                            refine hq_p rfl rfl ?_
                            refine hq_p rfl rfl ?_
                            refine hq_p rfl rfl ?_
                            refine ty_callj 0 (W := ty_Wc) H Jh681 rfl (fun _ => rfl) rfl rfl rfl (hq_pre_o Ih681.1 (x := 76) (ci := 1) rfl (by decide) rfl rfl rfl rfl) (fun _ _ w => w) (fun _ w => w) (ct_11 (t1 := t2) (t2 := t3) (x3 := z787) (by omega) ht2 ht3) (fun h862 _ Jh862 P861 => ?_)
                            have Ih862 := H.1 h862 Jh862
                            obtain ⟨z863, rfl, az863, bz863⟩ := P861
                            refine hq_p (ls' := [some (.ref 76), some (.ref 64), some (.ref t2), some (.ref t3), some (.int y463), some (.int y464), some (.int y102), some (.int y465), some (.int z787), some (.int z837), some (.int z863)]) rfl rfl ?_
                            refine hq_p rfl rfl ?_
                            refine hq_p (ls' := [some (.ref 76), some (.ref 64), some (.ref t2), some (.ref t3), some (.int y463), some (.int z863), some (.int y102), some (.int y465), some (.int z787), some (.int z837), some (.int z863)]) rfl rfl ?_
                            refine hq_p rfl rfl ?_
                            refine hq_p rfl rfl ?_
                            refine ty_zge rfl (fun c864 => ?_) (fun c864 => ?_)
                            · refine ty_inca (ls' := fun z865 => [some (.ref 76), some (.ref 64), some (.ref t2), some (.ref t3), some (.int z865), some (.int z863), some (.int y102), some (.int y465), some (.int z787), some (.int z837), some (.int z863)]) rfl rfl (fun _ => rfl) (fun z865 az865 bz865 => ?_)
                              refine ty_inc (ls' := fun z866 => [some (.ref 76), some (.ref 64), some (.ref t2), some (.ref t3), some (.int z865), some (.int z863), some (.int y102), some (.int z866), some (.int z787), some (.int z837), some (.int z863)]) rfl rfl (fun _ => rfl) (nm_addc nk_i1 (by omega) (by omega)) (fun z866 ez866 => ?_)
                              refine hq_p rfl rfl ?_
                              exact ihn477 ((2147483647 - z866.toInt).toNat) (by omega) z865 z863 z866 (some (.int z787)) (some (.int z837)) (some (.int z863)) h862 rfl (by omega) (by omega) (by omega) (by omega) (by omega) (by omega) rfl rfl rfl Jh862
                            · refine hq_p rfl rfl ?_
                              refine hq_p rfl rfl ?_
                              refine ty_pI (W := ty_Wc) H Jh862 rfl rfl (by decide) rfl rfl (by unfold ty_Wc; omega) rfl (by omega) (by omega) (fun h867 eh867 Jh867 => ?_)
                              have wh867 : (hs_fI h867 76 5).toInt = y102.toInt := by rw [eh867]; exact congrArg Int32.toInt (ty_fI_eq Ih862.1 rfl (by decide) rfl)
                              have Ih867 := H.1 h867 Jh867
                              refine hq_p rfl rfl (ty_ge (n := -3) nk_bm3 (fun z868 ez868 => ?_))
                              exact hq_W.ret rfl rfl rfl ⟨Jh867, _, rfl, by omega, by omega⟩
                          · refine ty_td rfl c844 (by decide) ?_
                            refine hq_p rfl rfl ?_
                            refine hq_p rfl rfl ?_
                            refine hq_p rfl rfl ?_
                            refine ty_callj 0 (W := ty_Wc) H Jh681 rfl (fun _ => rfl) rfl rfl rfl (hq_pre_o Ih681.1 (x := 76) (ci := 1) rfl (by decide) rfl rfl rfl rfl) (fun _ _ w => w) (fun _ w => w) (ct_13 (t1 := t2) (t2 := t3) (by omega) ht2 ht3) (fun h870 _ Jh870 P869 => ?_)
                            have Ih870 := H.1 h870 Jh870
                            obtain ⟨z871, rfl, az871, bz871⟩ := P869
                            refine hq_p (ls' := [some (.ref 76), some (.ref 64), some (.ref t2), some (.ref t3), some (.int y463), some (.int y464), some (.int y102), some (.int y465), some (.int z787), some (.int z837), some (.int z871)]) rfl rfl ?_
                            refine hq_p rfl rfl ?_
                            refine ty_zge rfl (fun c872 => ?_) (fun c872 => ?_)
                            · refine ty_inca (ls' := fun z873 => [some (.ref 76), some (.ref 64), some (.ref t2), some (.ref t3), some (.int z873), some (.int y464), some (.int y102), some (.int y465), some (.int z787), some (.int z837), some (.int z871)]) rfl rfl (fun _ => rfl) (fun z873 az873 bz873 => ?_)
                              refine ty_inc (ls' := fun z874 => [some (.ref 76), some (.ref 64), some (.ref t2), some (.ref t3), some (.int z873), some (.int y464), some (.int y102), some (.int z874), some (.int z787), some (.int z837), some (.int z871)]) rfl rfl (fun _ => rfl) (nm_addc nk_i1 (by omega) (by omega)) (fun z874 ez874 => ?_)
                              refine hq_p rfl rfl ?_
                              exact ihn477 ((2147483647 - z874.toInt).toNat) (by omega) z873 y464 z874 (some (.int z787)) (some (.int z837)) (some (.int z871)) h870 rfl (by omega) (by omega) (by omega) (by omega) (by omega) (by omega) rfl rfl rfl Jh870
                            · refine hq_p rfl rfl ?_
                              refine hq_p rfl rfl ?_
                              refine ty_pI (W := ty_Wc) H Jh870 rfl rfl (by decide) rfl rfl (by unfold ty_Wc; omega) rfl (by omega) (by omega) (fun h875 eh875 Jh875 => ?_)
                              have wh875 : (hs_fI h875 76 5).toInt = y102.toInt := by rw [eh875]; exact congrArg Int32.toInt (ty_fI_eq Ih870.1 rfl (by decide) rfl)
                              have Ih875 := H.1 h875 Jh875
                              refine hq_p rfl rfl (ty_ge (n := -3) nk_bm3 (fun z876 ez876 => ?_))
                              exact hq_W.ret rfl rfl rfl ⟨Jh875, _, rfl, by omega, by omega⟩
                · clear c684
                  refine hq_p rfl rfl ?_
                  refine ty_inc (ls' := fun z877 => [some (.ref 76), some (.ref 64), some (.ref t2), some (.ref t3), some (.int y463), some (.int y464), some (.int y102), some (.int z877), w466, w467, w468]) rfl rfl (fun _ => rfl) (nm_addc nk_i1 (by omega) (by omega)) (fun z877 ez877 => ?_)
                  refine hq_p rfl rfl ?_
                  exact ihn477 ((2147483647 - z877.toInt).toNat) (by omega) y463 y464 z877 (w466) (w467) (w468) h681 rfl (by omega) (by omega) (by omega) (by omega) (by omega) (by omega) kw466 kw467 kw468 Jh681
        exact L21_n477 _ y100 y101 z119 (w104) (w105) (w106) h107 rfl (by omega) (by omega) (by omega) (by omega) (by omega) (by omega) kw104 kw105 kw106 Jh107
  exact L9_n116 _ z1 z2 z3 none none none none h rfl (by omega) (by omega) (by omega) (by omega) (by omega) (by omega) rfl rfl rfl rfl hJ
end CT10
