/-! CONTRACTS (printed by wip/pm/cts.py) -/
section CT12
theorem ct_134 {X : pm_X} {d : Nat} {h : pm_H} {x1 : Int32} {x2 : Int32} (hd : 5 ≤ d)  : ty_M X ty_Wc d 134 [.ref 0, .int x1, .int x2] h (ty_pi 0 1) := by
  intro J H hJ
  obtain ⟨d, rfl⟩ : ∃ e, d = e + 1 := ⟨d - 1, by omega⟩
  have I := H.1 h hJ
  have ax1 := nm_lo x1
  have bx1 := nm_hi x1
  have ax2 := nm_lo x2
  have bx2 := nm_hi x2
  refine hq_M.enter (q := (⟨"TrainBearers", "mayTake", "(II)Z"⟩, _, 3, some .boolean, 10, 3, pm_c134)) rfl rfl ?_
  show hq_W X d 10 false (some .boolean) pm_c134 (0, [some (.ref 0), some (.int x1), some (.int x2)], [], h) (fun h' v => J h' ∧ (ty_pi 0 1) h' v)
  refine hq_p rfl rfl ?_
  refine hq_p rfl rfl (ty_ge (n := -1) nk_im1 (fun z1 ez1 => ?_))
  refine ty_ieq rfl (fun c2 => ?_) (fun c2 => ?_)
  · refine hq_p rfl rfl (ty_ge (n := 1) nk_i1 (fun z3 ez3 => ?_))
    refine hq_p rfl rfl ?_
    exact ty_rB rfl rfl (by omega) (by omega) ⟨hJ, _, rfl, by omega, by omega⟩
  · clear c2
    refine hq_p rfl rfl ?_
    refine hq_gR I.1 rfl rfl (by decide) (by decide) rfl ?_
    refine hq_p rfl rfl ?_
    obtain ⟨t4, kt4⟩ : ∃ q, hs_fR h 0 0 = q := ⟨_, rfl⟩
    refine ty_gT I rfl rfl (by decide) (by decide) rfl kt4 (fun ot4 => ?_)
    have pt4 : ty_tr t4 := by rcases ot4 with rfl | rfl; exact Or.inl rfl; exact Or.inr (Or.inl rfl)
    have lt4 := ty_trl pt4
    clear ot4
    refine hq_p rfl rfl ?_
    refine hq_p rfl rfl ?_
    refine ty_callj 0 (W := ty_Wc) H hJ rfl (fun _ => rfl) rfl rfl rfl (hq_pre_o I.1 (x := 72) (ci := 4) rfl (by decide) rfl rfl rfl rfl) (fun a k w => by unfold ty_Wu at w; unfold ty_Wc; omega) (by unfold ty_Wu ty_Wc; omega) (ct_45 (t0 := 72) (t1 := t4) (x2 := x1) (x3 := x2) (by omega) (show ty_ru 72 by simp [ty_ru]) pt4) (fun h6 _ Jh6 P5 => ?_)
    have Ih6 := H.1 h6 Jh6
    obtain ⟨z7, rfl, az7, bz7⟩ := P5
    refine ty_zne rfl (fun c8 => ?_) (fun c8 => ?_)
    · replace c8 : 1 ≤ z7.toInt ∧ z7.toInt ≤ 1 := by omega
      refine hq_p rfl rfl (ty_ge (n := 0) nk_i0 (fun z9 ez9 => ?_))
      exact ty_rB rfl rfl (by omega) (by omega) ⟨Jh6, _, rfl, by omega, by omega⟩
    · refine hq_p rfl rfl (ty_ge (n := 1) nk_i1 (fun z10 ez10 => ?_))
      refine hq_p rfl rfl ?_
      exact ty_rB rfl rfl (by omega) (by omega) ⟨Jh6, _, rfl, by omega, by omega⟩
theorem ct_83 {X : pm_X} {d : Nat} {h : pm_H} {x1 : Int32} (hd : 2 ≤ d)  : ty_M X ty_Wc d 83 [.ref 0, .int x1] h (ty_pi (-5) 7) := by
  intro J H hJ
  obtain ⟨d, rfl⟩ : ∃ e, d = e + 1 := ⟨d - 1, by omega⟩
  have I := H.1 h hJ
  have ax1 := nm_lo x1
  have bx1 := nm_hi x1
  refine hq_M.enter (q := (⟨"TrainBearers", "yard", "(I)I"⟩, _, 2, some .int, 10, 2, pm_c83)) rfl rfl ?_
  show hq_W X d 10 false (some .int) pm_c83 (0, [some (.ref 0), some (.int x1)], [], h) (fun h' v => J h' ∧ (ty_pi (-5) 7) h' v)
  refine hq_p rfl rfl ?_
  refine hq_p rfl rfl (ty_ge (n := 1) nk_i1 (fun z1 ez1 => ?_))
  refine ty_ilt rfl (fun c2 => ?_) (fun c2 => ?_)
  · refine hq_p rfl rfl ?_
    refine hq_p rfl rfl (ty_ge (n := -1) nk_im1 (fun z3 ez3 => ?_))
    refine ty_callj 0 (W := ty_Wc) H hJ rfl (fun _ => rfl) rfl rfl rfl (hq_pre_o I.1 (x := 0) (ci := 10) rfl (by decide) rfl rfl rfl rfl) (fun _ _ w => w) (fun _ w => w) (ct_125 (x1 := z3) (by omega)) (fun h5 _ Jh5 P4 => ?_)
    have Ih5 := H.1 h5 Jh5
    obtain ⟨z6, rfl, fz6⟩ := P4
    exact hq_W.ret rfl rfl rfl ⟨Jh5, _, rfl, by omega, by omega⟩
  · refine hq_p rfl rfl ?_
    refine hq_p rfl rfl (ty_ge (n := 20) nk_b20 (fun z7 ez7 => ?_))
    refine ty_ile rfl (fun c8 => ?_) (fun c8 => ?_)
    · refine hq_p rfl rfl ?_
      obtain ⟨t9, kt9⟩ : ∃ q, hs_fR h 0 0 = q := ⟨_, rfl⟩
      refine ty_gT I rfl rfl (by decide) (by decide) rfl kt9 (fun ot9 => ?_)
      have pt9 : ty_tr t9 := by rcases ot9 with rfl | rfl; exact Or.inl rfl; exact Or.inr (Or.inl rfl)
      have lt9 := ty_trl pt9
      clear ot9
      refine ty_gI I rfl (ty_trs pt9) (by omega) (by decide) rfl (ty_trf pt9 0) (fun z10 ez10 az10 bz10 => ?_)
      refine hq_p rfl rfl (ty_ge (n := 8) nk_b8 (fun z11 ez11 => ?_))
      refine ty_ilt rfl (fun c12 => ?_) (fun c12 => ?_)
      · refine hq_p rfl rfl ?_
        refine ty_gT I rfl rfl (by decide) (by decide) rfl kt9 (fun ot9 => ?_)
        clear ot9
        refine hq_gR I.1 rfl (ty_trs pt9) (by omega) (by decide) rfl ?_
        refine hq_p rfl rfl ?_
        refine ty_gT I rfl rfl (by decide) (by decide) rfl kt9 (fun ot9 => ?_)
        clear ot9
        refine ty_gI I rfl (ty_trs pt9) (by omega) (by decide) rfl (ty_trf pt9 0) (fun z13 ez13 az13 bz13 => ?_)
        refine hq_p rfl rfl ?_
        refine ty_aS (W := ty_Wc) H hJ rfl (ty_trs1 pt9) (by omega) (by omega) (by omega) (fun _ _ => tw_arr pt9 rfl) (fun i _ => ty_eg (ty_tra1 pt9 i)) (by omega) (by omega) (fun e1 e2 w => by omega) (fun h14 eh14 Jh14 => ?_)
        have Ih14 := H.1 h14 Jh14
        refine hq_p rfl rfl ?_
        have r15 : hs_fR h14 0 0 = t9 := by rw [eh14]; exact (ty_fR_ne (by omega)).trans kt9
        refine ty_gT Ih14 rfl rfl (by decide) (by decide) rfl r15 (fun ot9 => ?_)
        clear ot9
        refine hq_gR Ih14.1 rfl (ty_trs pt9) (by omega) (by decide) rfl ?_
        refine hq_p rfl rfl ?_
        refine ty_gT Ih14 rfl rfl (by decide) (by decide) rfl r15 (fun ot9 => ?_)
        clear ot9
        have r17 : (hs_fI h14 t9 0).toInt = (hs_fI h t9 0).toInt := by rw [eh14]; exact congrArg Int32.toInt (ty_fI_ne (by omega))
        refine ty_gI Ih14 rfl (ty_trs pt9) (by omega) (by decide) rfl (ty_trf pt9 0) (fun z16 ez16 az16 bz16 => ?_)
        refine hq_p rfl rfl (ty_ge (n := 0) nk_i0 (fun z18 ez18 => ?_))
        refine ty_aS (W := ty_Wc) H Jh14 rfl (ty_trs2 pt9) (by omega) (by omega) (by omega) (fun _ _ => tw_arr pt9 rfl) (fun i _ => ty_eg (ty_tra2 pt9 i)) (by omega) (by omega) (fun e1 e2 w => by omega) (fun h19 eh19 Jh19 => ?_)
        have Ih19 := H.1 h19 Jh19
        refine hq_p rfl rfl ?_
        have r20 : hs_fR h19 0 0 = t9 := by rw [eh19]; exact (ty_fR_ne (by omega)).trans r15
        refine ty_gT Ih19 rfl rfl (by decide) (by decide) rfl r20 (fun ot9 => ?_)
        clear ot9
        refine hq_p rfl rfl ?_
        have r22 : (hs_fI h19 t9 0).toInt = (hs_fI h14 t9 0).toInt := by rw [eh19]; exact congrArg Int32.toInt (ty_fI_ne (by omega))
        refine ty_gI Ih19 rfl (ty_trs pt9) (by omega) (by decide) rfl (ty_trf pt9 0) (fun z21 ez21 az21 bz21 => ?_)
        refine hq_p rfl rfl (ty_ge (n := 1) nk_i1 (fun z23 ez23 => ?_))
        refine hq_p rfl rfl (ty_ge (n := z21.toInt + z23.toInt) (nm_add (by omega) (by omega)) (fun z24 ez24 => ?_))
        refine ty_pI (W := ty_Wc) H Jh19 rfl (ty_trs pt9) (by omega) rfl rfl (tw_fld pt9 (Or.inr trivial)) (ty_trf pt9 0) (by omega) (by omega) (fun h25 eh25 Jh25 => ?_)
        have wh25 : (hs_fI h25 t9 0).toInt = z24.toInt := by rw [eh25]; exact congrArg Int32.toInt (ty_fI_eq Ih19.1 (ty_trs pt9) (by omega) rfl)
        have Ih25 := H.1 h25 Jh25
        refine hq_p rfl rfl ?_
        obtain ⟨t26, kt26⟩ : ∃ q, hs_fR h25 0 5 = q := ⟨_, rfl⟩
        refine ty_gS Ih25 rfl rfl (by decide) (by decide) rfl kt26 (fun ot26 => ?_)
        have pt26 : ty_sp t26 := ot26
        have lt26 := ty_spl pt26
        clear ot26
        refine ty_callj 0 (W := ty_Wc) H Jh25 rfl (fun _ => rfl) rfl rfl rfl (hq_pre_o Ih25.1 (x := t26) (ci := 5) (ty_sps pt26) (by omega) rfl rfl rfl rfl) (fun _ _ w => w) (fun _ w => w) (ct_53 (t0 := t26) (by omega) pt26) (fun h28 _ Jh28 P27 => ?_)
        have Ih28 := H.1 h28 Jh28
        subst P27
        refine hq_p rfl rfl ?_
        refine hq_p rfl rfl ?_
        obtain ⟨t29, kt29⟩ : ∃ q, hs_fR h28 0 0 = q := ⟨_, rfl⟩
        refine ty_gT Ih28 rfl rfl (by decide) (by decide) rfl kt29 (fun ot29 => ?_)
        have pt29 : ty_tr t29 := by rcases ot29 with rfl | rfl; exact Or.inl rfl; exact Or.inr (Or.inl rfl)
        have lt29 := ty_trl pt29
        clear ot29
        refine ty_gI Ih28 rfl (ty_trs pt29) (by omega) (by decide) rfl (ty_trf pt29 0) (fun z30 ez30 az30 bz30 => ?_)
        refine hq_p rfl rfl (ty_ge (n := 1) nk_i1 (fun z31 ez31 => ?_))
        refine hq_p rfl rfl (ty_ge (n := z30.toInt - z31.toInt) (nm_sub (by omega) (by omega)) (fun z32 ez32 => ?_))
        refine ty_callj 0 (W := ty_Wc) H Jh28 rfl (fun _ => rfl) rfl rfl rfl (hq_pre_o Ih28.1 (x := 0) (ci := 10) rfl (by decide) rfl rfl rfl rfl) (fun _ _ w => w) (fun _ w => w) (ct_126 (x1 := z32) (by omega)) (fun h34 _ Jh34 P33 => ?_)
        have Ih34 := H.1 h34 Jh34
        obtain ⟨z35, rfl, fz35⟩ := P33
        exact hq_W.ret rfl rfl rfl ⟨Jh34, _, rfl, by omega, by omega⟩
      · refine hq_p rfl rfl ?_
        refine hq_p rfl rfl (ty_ge (n := -5) nk_bm5 (fun z36 ez36 => ?_))
        refine ty_callj 0 (W := ty_Wc) H hJ rfl (fun _ => rfl) rfl rfl rfl (hq_pre_o I.1 (x := 0) (ci := 10) rfl (by decide) rfl rfl rfl rfl) (fun _ _ w => w) (fun _ w => w) (ct_125 (x1 := z36) (by omega)) (fun h38 _ Jh38 P37 => ?_)
        have Ih38 := H.1 h38 Jh38
        obtain ⟨z39, rfl, fz39⟩ := P37
        exact hq_W.ret rfl rfl rfl ⟨Jh38, _, rfl, by omega, by omega⟩
    · refine hq_p rfl rfl ?_
      refine hq_p rfl rfl (ty_ge (n := -1) nk_im1 (fun z40 ez40 => ?_))
      refine ty_callj 0 (W := ty_Wc) H hJ rfl (fun _ => rfl) rfl rfl rfl (hq_pre_o I.1 (x := 0) (ci := 10) rfl (by decide) rfl rfl rfl rfl) (fun _ _ w => w) (fun _ w => w) (ct_125 (x1 := z40) (by omega)) (fun h42 _ Jh42 P41 => ?_)
      have Ih42 := H.1 h42 Jh42
      obtain ⟨z43, rfl, fz43⟩ := P41
      exact hq_W.ret rfl rfl rfl ⟨Jh42, _, rfl, by omega, by omega⟩
theorem ct_85 {X : pm_X} {d : Nat} {h : pm_H} {x1 : Int32} (hd : 2 ≤ d)  : ty_M X ty_Wc d 85 [.ref 0, .int x1] h (ty_pi (-5) 7) := by
  intro J H hJ
  obtain ⟨d, rfl⟩ : ∃ e, d = e + 1 := ⟨d - 1, by omega⟩
  have I := H.1 h hJ
  have ax1 := nm_lo x1
  have bx1 := nm_hi x1
  refine hq_M.enter (q := (⟨"TrainBearers", "girl", "(I)I"⟩, _, 2, some .int, 10, 2, pm_c85)) rfl rfl ?_
  show hq_W X d 10 false (some .int) pm_c85 (0, [some (.ref 0), some (.int x1)], [], h) (fun h' v => J h' ∧ (ty_pi (-5) 7) h' v)
  refine hq_p rfl rfl ?_
  refine ty_zlt rfl (fun c1 => ?_) (fun c1 => ?_)
  · refine hq_p rfl rfl ?_
    refine hq_p rfl rfl (ty_ge (n := -1) nk_im1 (fun z2 ez2 => ?_))
    refine ty_callj 0 (W := ty_Wc) H hJ rfl (fun _ => rfl) rfl rfl rfl (hq_pre_o I.1 (x := 0) (ci := 10) rfl (by decide) rfl rfl rfl rfl) (fun _ _ w => w) (fun _ w => w) (ct_125 (x1 := z2) (by omega)) (fun h4 _ Jh4 P3 => ?_)
    have Ih4 := H.1 h4 Jh4
    obtain ⟨z5, rfl, fz5⟩ := P3
    exact hq_W.ret rfl rfl rfl ⟨Jh4, _, rfl, by omega, by omega⟩
  · refine hq_p rfl rfl ?_
    refine hq_p rfl rfl (ty_ge (n := 9) nk_b9 (fun z6 ez6 => ?_))
    refine ty_ile rfl (fun c7 => ?_) (fun c7 => ?_)
    · refine hq_p rfl rfl ?_
      obtain ⟨t8, kt8⟩ : ∃ q, hs_fR h 0 0 = q := ⟨_, rfl⟩
      refine ty_gT I rfl rfl (by decide) (by decide) rfl kt8 (fun ot8 => ?_)
      have pt8 : ty_tr t8 := by rcases ot8 with rfl | rfl; exact Or.inl rfl; exact Or.inr (Or.inl rfl)
      have lt8 := ty_trl pt8
      clear ot8
      refine ty_gI I rfl (ty_trs pt8) (by omega) (by decide) rfl (ty_trf pt8 3) (fun z9 ez9 az9 bz9 => ?_)
      refine hq_p rfl rfl (ty_ge (n := 8) nk_b8 (fun z10 ez10 => ?_))
      refine ty_ilt rfl (fun c11 => ?_) (fun c11 => ?_)
      · refine hq_p rfl rfl ?_
        refine ty_gT I rfl rfl (by decide) (by decide) rfl kt8 (fun ot8 => ?_)
        clear ot8
        refine hq_gR I.1 rfl (ty_trs pt8) (by omega) (by decide) rfl ?_
        refine hq_p rfl rfl ?_
        refine ty_gT I rfl rfl (by decide) (by decide) rfl kt8 (fun ot8 => ?_)
        clear ot8
        refine ty_gI I rfl (ty_trs pt8) (by omega) (by decide) rfl (ty_trf pt8 3) (fun z12 ez12 az12 bz12 => ?_)
        refine hq_p rfl rfl ?_
        refine ty_aS (W := ty_Wc) H hJ rfl (ty_trs3 pt8) (by omega) (by omega) (by omega) (fun _ _ => tw_arr pt8 rfl) (fun i _ => ty_eg (ty_tra3 pt8 i)) (by omega) (by omega) (fun e1 e2 w => by omega) (fun h13 eh13 Jh13 => ?_)
        have Ih13 := H.1 h13 Jh13
        refine hq_p rfl rfl ?_
        have r14 : hs_fR h13 0 0 = t8 := by rw [eh13]; exact (ty_fR_ne (by omega)).trans kt8
        refine ty_gT Ih13 rfl rfl (by decide) (by decide) rfl r14 (fun ot8 => ?_)
        clear ot8
        refine hq_gR Ih13.1 rfl (ty_trs pt8) (by omega) (by decide) rfl ?_
        refine hq_p rfl rfl ?_
        refine ty_gT Ih13 rfl rfl (by decide) (by decide) rfl r14 (fun ot8 => ?_)
        clear ot8
        have r16 : (hs_fI h13 t8 3).toInt = (hs_fI h t8 3).toInt := by rw [eh13]; exact congrArg Int32.toInt (ty_fI_ne (by omega))
        refine ty_gI Ih13 rfl (ty_trs pt8) (by omega) (by decide) rfl (ty_trf pt8 3) (fun z15 ez15 az15 bz15 => ?_)
        refine hq_p rfl rfl (ty_ge (n := 0) nk_i0 (fun z17 ez17 => ?_))
        refine ty_aS (W := ty_Wc) H Jh13 rfl (ty_trs4 pt8) (by omega) (by omega) (by omega) (fun _ _ => tw_arr pt8 rfl) (fun i _ => ty_eg (ty_tra4 pt8 i)) (by omega) (by omega) (fun e1 e2 w => by omega) (fun h18 eh18 Jh18 => ?_)
        have Ih18 := H.1 h18 Jh18
        refine hq_p rfl rfl ?_
        have r19 : hs_fR h18 0 0 = t8 := by rw [eh18]; exact (ty_fR_ne (by omega)).trans r14
        refine ty_gT Ih18 rfl rfl (by decide) (by decide) rfl r19 (fun ot8 => ?_)
        clear ot8
        refine hq_gR Ih18.1 rfl (ty_trs pt8) (by omega) (by decide) rfl ?_
        refine hq_p rfl rfl ?_
        refine ty_gT Ih18 rfl rfl (by decide) (by decide) rfl r19 (fun ot8 => ?_)
        clear ot8
        have r21 : (hs_fI h18 t8 3).toInt = (hs_fI h13 t8 3).toInt := by rw [eh18]; exact congrArg Int32.toInt (ty_fI_ne (by omega))
        refine ty_gI Ih18 rfl (ty_trs pt8) (by omega) (by decide) rfl (ty_trf pt8 3) (fun z20 ez20 az20 bz20 => ?_)
        refine hq_p rfl rfl (ty_ge (n := -1) nk_im1 (fun z22 ez22 => ?_))
        refine ty_aS (W := ty_Wc) H Jh18 rfl (ty_trs5 pt8) (by omega) (by omega) (by omega) (fun _ _ => tw_arr pt8 rfl) (fun i _ => ty_eg (ty_tra5 pt8 i)) (by omega) (by omega) (fun e1 e2 w => by omega) (fun h23 eh23 Jh23 => ?_)
        have Ih23 := H.1 h23 Jh23
        refine hq_p rfl rfl ?_
        have r24 : hs_fR h23 0 0 = t8 := by rw [eh23]; exact (ty_fR_ne (by omega)).trans r19
        refine ty_gT Ih23 rfl rfl (by decide) (by decide) rfl r24 (fun ot8 => ?_)
        clear ot8
        refine hq_p rfl rfl ?_
        have r26 : (hs_fI h23 t8 3).toInt = (hs_fI h18 t8 3).toInt := by rw [eh23]; exact congrArg Int32.toInt (ty_fI_ne (by omega))
        refine ty_gI Ih23 rfl (ty_trs pt8) (by omega) (by decide) rfl (ty_trf pt8 3) (fun z25 ez25 az25 bz25 => ?_)
        refine hq_p rfl rfl (ty_ge (n := 1) nk_i1 (fun z27 ez27 => ?_))
        refine hq_p rfl rfl (ty_ge (n := z25.toInt + z27.toInt) (nm_add (by omega) (by omega)) (fun z28 ez28 => ?_))
        refine ty_pI (W := ty_Wc) H Jh23 rfl (ty_trs pt8) (by omega) rfl rfl (tw_fld pt8 (Or.inr trivial)) (ty_trf pt8 3) (by omega) (by omega) (fun h29 eh29 Jh29 => ?_)
        have wh29 : (hs_fI h29 t8 3).toInt = z28.toInt := by rw [eh29]; exact congrArg Int32.toInt (ty_fI_eq Ih23.1 (ty_trs pt8) (by omega) rfl)
        have Ih29 := H.1 h29 Jh29
        refine hq_p rfl rfl ?_
        obtain ⟨t30, kt30⟩ : ∃ q, hs_fR h29 0 5 = q := ⟨_, rfl⟩
        refine ty_gS Ih29 rfl rfl (by decide) (by decide) rfl kt30 (fun ot30 => ?_)
        have pt30 : ty_sp t30 := ot30
        have lt30 := ty_spl pt30
        clear ot30
        refine ty_callj 0 (W := ty_Wc) H Jh29 rfl (fun _ => rfl) rfl rfl rfl (hq_pre_o Ih29.1 (x := t30) (ci := 5) (ty_sps pt30) (by omega) rfl rfl rfl rfl) (fun _ _ w => w) (fun _ w => w) (ct_53 (t0 := t30) (by omega) pt30) (fun h32 _ Jh32 P31 => ?_)
        have Ih32 := H.1 h32 Jh32
        subst P31
        refine hq_p rfl rfl ?_
        refine hq_p rfl rfl ?_
        obtain ⟨t33, kt33⟩ : ∃ q, hs_fR h32 0 0 = q := ⟨_, rfl⟩
        refine ty_gT Ih32 rfl rfl (by decide) (by decide) rfl kt33 (fun ot33 => ?_)
        have pt33 : ty_tr t33 := by rcases ot33 with rfl | rfl; exact Or.inl rfl; exact Or.inr (Or.inl rfl)
        have lt33 := ty_trl pt33
        clear ot33
        refine ty_gI Ih32 rfl (ty_trs pt33) (by omega) (by decide) rfl (ty_trf pt33 3) (fun z34 ez34 az34 bz34 => ?_)
        refine hq_p rfl rfl (ty_ge (n := 1) nk_i1 (fun z35 ez35 => ?_))
        refine hq_p rfl rfl (ty_ge (n := z34.toInt - z35.toInt) (nm_sub (by omega) (by omega)) (fun z36 ez36 => ?_))
        refine ty_callj 0 (W := ty_Wc) H Jh32 rfl (fun _ => rfl) rfl rfl rfl (hq_pre_o Ih32.1 (x := 0) (ci := 10) rfl (by decide) rfl rfl rfl rfl) (fun _ _ w => w) (fun _ w => w) (ct_126 (x1 := z36) (by omega)) (fun h38 _ Jh38 P37 => ?_)
        have Ih38 := H.1 h38 Jh38
        obtain ⟨z39, rfl, fz39⟩ := P37
        exact hq_W.ret rfl rfl rfl ⟨Jh38, _, rfl, by omega, by omega⟩
      · refine hq_p rfl rfl ?_
        refine hq_p rfl rfl (ty_ge (n := -5) nk_bm5 (fun z40 ez40 => ?_))
        refine ty_callj 0 (W := ty_Wc) H hJ rfl (fun _ => rfl) rfl rfl rfl (hq_pre_o I.1 (x := 0) (ci := 10) rfl (by decide) rfl rfl rfl rfl) (fun _ _ w => w) (fun _ w => w) (ct_125 (x1 := z40) (by omega)) (fun h42 _ Jh42 P41 => ?_)
        have Ih42 := H.1 h42 Jh42
        obtain ⟨z43, rfl, fz43⟩ := P41
        exact hq_W.ret rfl rfl rfl ⟨Jh42, _, rfl, by omega, by omega⟩
    · refine hq_p rfl rfl ?_
      refine hq_p rfl rfl (ty_ge (n := -1) nk_im1 (fun z44 ez44 => ?_))
      refine ty_callj 0 (W := ty_Wc) H hJ rfl (fun _ => rfl) rfl rfl rfl (hq_pre_o I.1 (x := 0) (ci := 10) rfl (by decide) rfl rfl rfl rfl) (fun _ _ w => w) (fun _ w => w) (ct_125 (x1 := z44) (by omega)) (fun h46 _ Jh46 P45 => ?_)
      have Ih46 := H.1 h46 Jh46
      obtain ⟨z47, rfl, fz47⟩ := P45
      exact hq_W.ret rfl rfl rfl ⟨Jh46, _, rfl, by omega, by omega⟩
theorem ct_90 {X : pm_X} {d : Nat} {h : pm_H} {x1 : Int32} {x2 : Int32} (hd : 2 ≤ d) (hX : ty_SX X)  : ty_M X ty_Wc d 90 [.ref 0, .int x1, .int x2] h (ty_pi (-2147483648) 2147483647) := by
  intro J H hJ
  obtain ⟨d, rfl⟩ : ∃ e, d = e + 1 := ⟨d - 1, by omega⟩
  have I := H.1 h hJ
  have ax1 := nm_lo x1
  have bx1 := nm_hi x1
  have ax2 := nm_lo x2
  have bx2 := nm_hi x2
  refine hq_M.enter (q := (⟨"TrainBearers", "terms", "(II)I"⟩, _, 4, some .int, 10, 3, pm_c90)) rfl rfl ?_
  show hq_W X d 10 false (some .int) pm_c90 (0, [some (.ref 0), some (.int x1), some (.int x2), none], [], h) (fun h' v => J h' ∧ (ty_pi (-2147483648) 2147483647) h' v)
  refine hq_p rfl rfl ?_
  refine ty_zlt rfl (fun c1 => ?_) (fun c1 => ?_)
  · refine hq_p rfl rfl ?_
    refine hq_p rfl rfl (ty_ge (n := -1) nk_im1 (fun z2 ez2 => ?_))
    refine ty_callj 0 (W := ty_Wc) H hJ rfl (fun _ => rfl) rfl rfl rfl (hq_pre_o I.1 (x := 0) (ci := 10) rfl (by decide) rfl rfl rfl rfl) (fun _ _ w => w) (fun _ w => w) (ct_125 (x1 := z2) (by omega)) (fun h4 _ Jh4 P3 => ?_)
    have Ih4 := H.1 h4 Jh4
    obtain ⟨z5, rfl, fz5⟩ := P3
    exact hq_W.ret rfl rfl rfl ⟨Jh4, _, rfl, by omega, by omega⟩
  · refine hq_p rfl rfl ?_
    refine hq_p rfl rfl ?_
    refine hq_alen rfl (ty_x201 hX) rfl (ty_ge (c := Int32.ofNat 3) (n := 3) (by decide) (fun z6 ez6 => ?_))
    refine ty_ige rfl (fun c7 => ?_) (fun c7 => ?_)
    · refine hq_p rfl rfl ?_
      refine hq_p rfl rfl (ty_ge (n := -1) nk_im1 (fun z8 ez8 => ?_))
      refine ty_callj 0 (W := ty_Wc) H hJ rfl (fun _ => rfl) rfl rfl rfl (hq_pre_o I.1 (x := 0) (ci := 10) rfl (by decide) rfl rfl rfl rfl) (fun _ _ w => w) (fun _ w => w) (ct_125 (x1 := z8) (by omega)) (fun h10 _ Jh10 P9 => ?_)
      have Ih10 := H.1 h10 Jh10
      obtain ⟨z11, rfl, fz11⟩ := P9
      exact hq_W.ret rfl rfl rfl ⟨Jh10, _, rfl, by omega, by omega⟩
    · refine hq_p rfl rfl ?_
      refine ty_zlt rfl (fun c12 => ?_) (fun c12 => ?_)
      · refine hq_p rfl rfl ?_
        refine hq_p rfl rfl (ty_ge (n := -1) nk_im1 (fun z13 ez13 => ?_))
        refine ty_callj 0 (W := ty_Wc) H hJ rfl (fun _ => rfl) rfl rfl rfl (hq_pre_o I.1 (x := 0) (ci := 10) rfl (by decide) rfl rfl rfl rfl) (fun _ _ w => w) (fun _ w => w) (ct_125 (x1 := z13) (by omega)) (fun h15 _ Jh15 P14 => ?_)
        have Ih15 := H.1 h15 Jh15
        obtain ⟨z16, rfl, fz16⟩ := P14
        exact hq_W.ret rfl rfl rfl ⟨Jh15, _, rfl, by omega, by omega⟩
      · refine hq_p rfl rfl ?_
        refine hq_p rfl rfl ?_
        refine hq_p rfl rfl ?_
        refine hq_iald rfl (ty_x201 hX) (hs_in (by omega) (by omega)) (ty_ga (fun z17 az17 bz17 => ?_))
        refine ty_ile rfl (fun c18 => ?_) (fun c18 => ?_)
        · refine hq_p rfl rfl ?_
          obtain ⟨t19, kt19⟩ : ∃ q, hs_fR h 0 0 = q := ⟨_, rfl⟩
          refine ty_gT I rfl rfl (by decide) (by decide) rfl kt19 (fun ot19 => ?_)
          have pt19 : ty_tr t19 := by rcases ot19 with rfl | rfl; exact Or.inl rfl; exact Or.inr (Or.inl rfl)
          have lt19 := ty_trl pt19
          clear ot19
          refine hq_gR I.1 rfl (ty_trs pt19) (by omega) (by decide) rfl ?_
          refine hq_p rfl rfl ?_
          refine ty_aL I rfl (ty_trs9 pt19) (by omega) (by omega) (by omega) (fun i _ => ty_le (ty_tra9 pt19 i)) (fun z20 ez20 az20 bz20 => ?_)
          refine hq_p (ls' := [some (.ref 0), some (.int x1), some (.int x2), some (.int z20)]) rfl rfl ?_
          refine hq_p rfl rfl ?_
          refine ty_gT I rfl rfl (by decide) (by decide) rfl kt19 (fun ot19 => ?_)
          clear ot19
          refine hq_gR I.1 rfl (ty_trs pt19) (by omega) (by decide) rfl ?_
          refine hq_p rfl rfl ?_
          refine hq_p rfl rfl ?_
          refine ty_aS (W := ty_Wc) H hJ rfl (ty_trs9 pt19) (by omega) (by omega) (by omega) (fun _ _ => tw_arr pt19 rfl) (fun i _ => ty_eg (ty_tra9 pt19 i)) (by omega) (by omega) (fun e1 e2 w => by omega) (fun h21 eh21 Jh21 => ?_)
          have Ih21 := H.1 h21 Jh21
          refine hq_p rfl rfl ?_
          obtain ⟨t22, kt22⟩ : ∃ q, hs_fR h21 0 5 = q := ⟨_, rfl⟩
          refine ty_gS Ih21 rfl rfl (by decide) (by decide) rfl kt22 (fun ot22 => ?_)
          have pt22 : ty_sp t22 := ot22
          have lt22 := ty_spl pt22
          clear ot22
          refine ty_callj 0 (W := ty_Wc) H Jh21 rfl (fun _ => rfl) rfl rfl rfl (hq_pre_o Ih21.1 (x := t22) (ci := 5) (ty_sps pt22) (by omega) rfl rfl rfl rfl) (fun _ _ w => w) (fun _ w => w) (ct_53 (t0 := t22) (by omega) pt22) (fun h24 _ Jh24 P23 => ?_)
          have Ih24 := H.1 h24 Jh24
          subst P23
          refine hq_p rfl rfl ?_
          refine hq_p rfl rfl ?_
          refine ty_callj 0 (W := ty_Wc) H Jh24 rfl (fun _ => rfl) rfl rfl rfl (hq_pre_o Ih24.1 (x := 0) (ci := 10) rfl (by decide) rfl rfl rfl rfl) (fun _ _ w => w) (fun _ w => w) (ct_126 (x1 := z20) (by omega)) (fun h26 _ Jh26 P25 => ?_)
          have Ih26 := H.1 h26 Jh26
          obtain ⟨z27, rfl, fz27⟩ := P25
          exact hq_W.ret rfl rfl rfl ⟨Jh26, _, rfl, by omega, by omega⟩
        · refine hq_p rfl rfl ?_
          refine hq_p rfl rfl (ty_ge (n := -1) nk_im1 (fun z28 ez28 => ?_))
          refine ty_callj 0 (W := ty_Wc) H hJ rfl (fun _ => rfl) rfl rfl rfl (hq_pre_o I.1 (x := 0) (ci := 10) rfl (by decide) rfl rfl rfl rfl) (fun _ _ w => w) (fun _ w => w) (ct_125 (x1 := z28) (by omega)) (fun h30 _ Jh30 P29 => ?_)
          have Ih30 := H.1 h30 Jh30
          obtain ⟨z31, rfl, fz31⟩ := P29
          exact hq_W.ret rfl rfl rfl ⟨Jh30, _, rfl, by omega, by omega⟩
end CT12
