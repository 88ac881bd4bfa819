/-! CONTRACTS (printed by wip/pm/cts.py) -/
section CT12
theorem ct_76 {X : pm_X} {d : Nat} {h : pm_H} {t0 : Nat} {x1 : Int32} {x2 : Int32} {x3 : Int32} (hd : 2 ≤ d) (ht0 : ty_tr t0) : ty_M X ty_Wc d 76 [.ref t0, .int x1, .int x2, .int x3] h ty_pv := by
  intro J H hJ
  obtain ⟨d, rfl⟩ : ∃ e, d = e + 1 := ⟨d - 1, by omega⟩
  have I := H.1 h hJ
  have lt0 := ty_trl ht0
  have ax1 := nm_lo x1
  have bx1 := nm_hi x1
  have ax2 := nm_lo x2
  have bx2 := nm_hi x2
  have ax3 := nm_lo x3
  have bx3 := nm_hi x3
  refine hq_M.enter (q := (⟨"TrainBearers$Train", "layLane", "(III)V"⟩, _, 4, none, 8, 4, pm_c76)) rfl rfl ?_
  show hq_W X d 8 false (none) pm_c76 (0, [some (.ref t0), some (.int x1), some (.int x2), some (.int x3)], [], h) (fun h' v => J h' ∧ ty_pv h' v)
  refine hq_p rfl rfl ?_
  refine ty_callp 1 I rfl (fun _ => rfl) rfl rfl rfl rfl (ct_128 (x0 := x1) (by omega)) (fun _ P1 => ?_)
  obtain ⟨z2, rfl, az2, bz2, iz2⟩ := P1
  refine ty_zeq rfl (fun c3 => ?_) (fun c3 => ?_)
  · clear iz2
    exact hq_W.ret rfl rfl rfl ⟨hJ, rfl⟩
  · replace c3 : 1 ≤ z2.toInt ∧ z2.toInt ≤ 1 := by omega
    have f4 := iz2 (by omega)
    clear iz2
    refine hq_p rfl rfl ?_
    refine ty_callp 1 I rfl (fun _ => rfl) rfl rfl rfl rfl (ct_128 (x0 := x2) (by omega)) (fun _ P5 => ?_)
    obtain ⟨z6, rfl, az6, bz6, iz6⟩ := P5
    refine ty_zeq rfl (fun c7 => ?_) (fun c7 => ?_)
    · clear iz6
      exact hq_W.ret rfl rfl rfl ⟨hJ, rfl⟩
    · replace c7 : 1 ≤ z6.toInt ∧ z6.toInt ≤ 1 := by omega
      have f8 := iz6 (by omega)
      clear iz6
      refine hq_p rfl rfl ?_
      refine hq_gR I.1 rfl (ty_trs ht0) (by omega) (by decide) rfl ?_
      refine hq_p rfl rfl ?_
      refine hq_p rfl rfl (ty_ge (n := 6) nk_b6 (fun z9 ez9 => ?_))
      refine hq_p rfl rfl (ty_ge (n := 6 * x1.toInt) (nm_mulc ez9 (by omega) (by omega)) (fun z10 ez10 => ?_))
      refine hq_p rfl rfl ?_
      refine hq_p rfl rfl (ty_ge (n := z10.toInt + x2.toInt) (nm_add (by omega) (by omega)) (fun z11 ez11 => ?_))
      refine hq_p rfl rfl ?_
      refine ty_aS (W := ty_Wc) H hJ rfl (ty_trs6 ht0) (by omega) (by omega) (by omega) (fun _ _ => tw_arr ht0 rfl) (fun i _ => ty_eg (ty_tra6 ht0 i)) (by omega) (by omega) (fun e1 e2 w => by omega) (fun h12 eh12 Jh12 => ?_)
      have Ih12 := H.1 h12 Jh12
      refine hq_p rfl rfl ?_
      refine hq_gR Ih12.1 rfl (ty_trs ht0) (by omega) (by decide) rfl ?_
      refine hq_p rfl rfl ?_
      refine hq_p rfl rfl (ty_ge (n := 6) nk_b6 (fun z13 ez13 => ?_))
      refine hq_p rfl rfl (ty_ge (n := 6 * x2.toInt) (nm_mulc ez13 (by omega) (by omega)) (fun z14 ez14 => ?_))
      refine hq_p rfl rfl ?_
      refine hq_p rfl rfl (ty_ge (n := z14.toInt + x1.toInt) (nm_add (by omega) (by omega)) (fun z15 ez15 => ?_))
      refine hq_p rfl rfl ?_
      refine ty_aS (W := ty_Wc) H Jh12 rfl (ty_trs6 ht0) (by omega) (by omega) (by omega) (fun _ _ => tw_arr ht0 rfl) (fun i _ => ty_eg (ty_tra6 ht0 i)) (by omega) (by omega) (fun e1 e2 w => by omega) (fun h16 eh16 Jh16 => ?_)
      have Ih16 := H.1 h16 Jh16
      exact hq_W.ret rfl rfl rfl ⟨Jh16, rfl⟩
theorem ct_134 {X : pm_X} {d : Nat} {h : pm_H} {x1 : Int32} {x2 : Int32} (hd : 5 ≤ d)  : ty_M X ty_Wc d 134 [.ref 0, .int x1, .int x2] h (ty_pi 0 1) := by
  intro J H hJ
  obtain ⟨d, rfl⟩ : ∃ e, d = e + 1 := ⟨d - 1, by omega⟩
  have I := H.1 h hJ
  have ax1 := nm_lo x1
  have bx1 := nm_hi x1
  have ax2 := nm_lo x2
  have bx2 := nm_hi x2
  refine hq_M.enter (q := (⟨"TrainBearers", "mayTake", "(II)Z"⟩, _, 3, some .boolean, 10, 3, pm_c134)) rfl rfl ?_
  show hq_W X d 10 false (some .boolean) pm_c134 (0, [some (.ref 0), some (.int x1), some (.int x2)], [], h) (fun h' v => J h' ∧ (ty_pi 0 1) h' v)
  refine hq_p rfl rfl ?_
  refine hq_p rfl rfl (ty_ge (n := -1) nk_im1 (fun z1 ez1 => ?_))
  refine ty_ieq rfl (fun c2 => ?_) (fun c2 => ?_)
  · refine hq_p rfl rfl (ty_ge (n := 1) nk_i1 (fun z3 ez3 => ?_))
    refine hq_p rfl rfl ?_
    exact ty_rB rfl rfl (by omega) (by omega) ⟨hJ, _, rfl, by omega, by omega⟩
  · clear c2
    refine hq_p rfl rfl ?_
    refine hq_gR I.1 rfl rfl (by decide) (by decide) rfl ?_
    refine hq_p rfl rfl ?_
    obtain ⟨t4, kt4⟩ : ∃ q, hs_fR h 0 0 = q := ⟨_, rfl⟩
    refine ty_gT I rfl rfl (by decide) (by decide) rfl kt4 (fun ot4 => ?_)
    have pt4 : ty_tr t4 := by rcases ot4 with rfl | rfl; exact Or.inl rfl; exact Or.inr (Or.inl rfl)
    have lt4 := ty_trl pt4
    clear ot4
    refine hq_p rfl rfl ?_
    refine hq_p rfl rfl ?_
    refine ty_callj 0 (W := ty_Wc) H hJ rfl (fun _ => rfl) rfl rfl rfl (hq_pre_o I.1 (x := 72) (ci := 4) rfl (by decide) rfl rfl rfl rfl) (fun a k w => by unfold ty_Wu at w; unfold ty_Wc; omega) (by unfold ty_Wu ty_Wc; omega) (ct_45 (t0 := 72) (t1 := t4) (x2 := x1) (x3 := x2) (by omega) (show ty_ru 72 by simp [ty_ru]) pt4) (fun h6 _ Jh6 P5 => ?_)
    have Ih6 := H.1 h6 Jh6
    obtain ⟨z7, rfl, az7, bz7⟩ := P5
    refine ty_zne rfl (fun c8 => ?_) (fun c8 => ?_)
    · replace c8 : 1 ≤ z7.toInt ∧ z7.toInt ≤ 1 := by omega
      refine hq_p rfl rfl (ty_ge (n := 0) nk_i0 (fun z9 ez9 => ?_))
      exact ty_rB rfl rfl (by omega) (by omega) ⟨Jh6, _, rfl, by omega, by omega⟩
    · refine hq_p rfl rfl (ty_ge (n := 1) nk_i1 (fun z10 ez10 => ?_))
      refine hq_p rfl rfl ?_
      exact ty_rB rfl rfl (by omega) (by omega) ⟨Jh6, _, rfl, by omega, by omega⟩
theorem ct_131 {X : pm_X} {d : Nat} {h : pm_H} {x1 : Int32} (hd : 3 ≤ d) (ax1 : 0 ≤ x1.toInt) (bx1 : x1.toInt ≤ 400) : ty_M X ty_Wc d 131 [.ref 0, .int x1] h (ty_pi 0 1) := by
  intro J H hJ
  obtain ⟨d, rfl⟩ : ∃ e, d = e + 1 := ⟨d - 1, by omega⟩
  have I := H.1 h hJ
  refine hq_M.enter (q := (⟨"TrainBearers", "layTold", "(I)Z"⟩, _, 3, some .boolean, 10, 2, pm_c131)) rfl rfl ?_
  show hq_W X d 10 false (some .boolean) pm_c131 (0, [some (.ref 0), some (.int x1), none], [], h) (fun h' v => J h' ∧ (ty_pi 0 1) h' v)
  refine hq_p rfl rfl ?_
  refine hq_p rfl rfl (ty_ge (n := 2) nk_i2 (fun z1 ez1 => ?_))
  refine hq_p rfl rfl (ty_ge (n := x1.toInt + z1.toInt) (nm_add (by omega) (by omega)) (fun z2 ez2 => ?_))
  refine hq_p rfl rfl ?_
  refine hq_gR I.1 rfl rfl (by decide) (by decide) rfl ?_
  refine ty_gI I rfl rfl (by decide) (by decide) rfl rfl (fun z3 ez3 az3 bz3 => ?_)
  refine ty_ilt rfl (fun c4 => ?_) (fun c4 => ?_)
  · refine hq_p rfl rfl ?_
    refine hq_gR I.1 rfl rfl (by decide) (by decide) rfl ?_
    refine hq_gR I.1 rfl rfl (by decide) (by decide) rfl ?_
    refine hq_p rfl rfl ?_
    refine hq_p rfl rfl (ty_ge (n := 2) nk_i2 (fun z5 ez5 => ?_))
    refine hq_p rfl rfl (ty_ge (n := x1.toInt + z5.toInt) (nm_add (by omega) (by omega)) (fun z6 ez6 => ?_))
    refine ty_aL I rfl rfl (by decide) (by omega) (by omega) (fun _ _ => ty_le rfl) (fun z7 ez7 az7 bz7 => ?_)
    refine hq_p rfl rfl (ty_ge (n := 255) nk_s255 (fun z8 ez8 => ?_))
    refine ty_ine rfl (fun c9 => ?_) (fun c9 => ?_)
    · clear c9
      refine hq_p rfl rfl ?_
      refine hq_gR I.1 rfl rfl (by decide) (by decide) rfl ?_
      refine hq_gR I.1 rfl rfl (by decide) (by decide) rfl ?_
      refine hq_p rfl rfl ?_
      refine hq_p rfl rfl (ty_ge (n := 2) nk_i2 (fun z10 ez10 => ?_))
      refine hq_p rfl rfl (ty_ge (n := x1.toInt + z10.toInt) (nm_add (by omega) (by omega)) (fun z11 ez11 => ?_))
      refine ty_aL I rfl rfl (by decide) (by omega) (by omega) (fun _ _ => ty_le rfl) (fun z12 ez12 az12 bz12 => ?_)
      refine hq_p (ls' := [some (.ref 0), some (.int x1), some (.int z12)]) rfl rfl ?_
      refine hq_p rfl rfl ?_
      refine hq_gR I.1 rfl rfl (by decide) (by decide) rfl ?_
      refine hq_gR I.1 rfl rfl (by decide) (by decide) rfl ?_
      refine hq_p rfl rfl ?_
      refine ty_aL I rfl rfl (by decide) (by omega) (by omega) (fun _ _ => ty_le rfl) (fun z13 ez13 az13 bz13 => ?_)
      refine hq_p rfl rfl ?_
      refine hq_gR I.1 rfl rfl (by decide) (by decide) rfl ?_
      refine hq_gR I.1 rfl rfl (by decide) (by decide) rfl ?_
      refine hq_p rfl rfl ?_
      refine hq_p rfl rfl (ty_ge (n := 1) nk_i1 (fun z14 ez14 => ?_))
      refine hq_p rfl rfl (ty_ge (n := x1.toInt + z14.toInt) (nm_add (by omega) (by omega)) (fun z15 ez15 => ?_))
      refine ty_aL I rfl rfl (by decide) (by omega) (by omega) (fun _ _ => ty_le rfl) (fun z16 ez16 az16 bz16 => ?_)
      refine hq_p rfl rfl ?_
      refine ty_callp 1 I rfl (fun _ => rfl) rfl rfl rfl rfl (ct_129 (x0 := z13) (x1 := z16) (x2 := z12) (by omega)) (fun _ P17 => ?_)
      obtain ⟨z18, rfl, az18, bz18, iz18⟩ := P17
      refine ty_zne rfl (fun c19 => ?_) (fun c19 => ?_)
      · replace c19 : 1 ≤ z18.toInt ∧ z18.toInt ≤ 1 := by omega
        have f20 := iz18 (by omega)
        clear iz18
        refine hq_p rfl rfl ?_
        obtain ⟨t21, kt21⟩ : ∃ q, hs_fR h 0 0 = q := ⟨_, rfl⟩
        refine ty_gT I rfl rfl (by decide) (by decide) rfl kt21 (fun ot21 => ?_)
        have pt21 : ty_tr t21 := by rcases ot21 with rfl | rfl; exact Or.inl rfl; exact Or.inr (Or.inl rfl)
        have lt21 := ty_trl pt21
        clear ot21
        refine hq_p rfl rfl ?_
        refine hq_gR I.1 rfl rfl (by decide) (by decide) rfl ?_
        refine hq_gR I.1 rfl rfl (by decide) (by decide) rfl ?_
        refine hq_p rfl rfl ?_
        refine ty_aL I rfl rfl (by decide) (by omega) (by omega) (fun _ _ => ty_le rfl) (fun z22 ez22 az22 bz22 => ?_)
        refine hq_p rfl rfl ?_
        refine hq_gR I.1 rfl rfl (by decide) (by decide) rfl ?_
        refine hq_gR I.1 rfl rfl (by decide) (by decide) rfl ?_
        refine hq_p rfl rfl ?_
        refine hq_p rfl rfl (ty_ge (n := 1) nk_i1 (fun z23 ez23 => ?_))
        refine hq_p rfl rfl (ty_ge (n := x1.toInt + z23.toInt) (nm_add (by omega) (by omega)) (fun z24 ez24 => ?_))
        refine ty_aL I rfl rfl (by decide) (by omega) (by omega) (fun _ _ => ty_le rfl) (fun z25 ez25 az25 bz25 => ?_)
        refine hq_p rfl rfl ?_
        refine ty_callj 0 (W := ty_Wc) H hJ rfl (fun _ => rfl) rfl rfl rfl (hq_pre_o I.1 (x := t21) (ci := 8) (ty_trs pt21) (by omega) rfl rfl rfl rfl) (fun _ _ w => w) (fun _ w => w) (ct_76 (t0 := t21) (x1 := z22) (x2 := z25) (x3 := z12) (by omega) pt21) (fun h27 _ Jh27 P26 => ?_)
        have Ih27 := H.1 h27 Jh27
        subst P26
        refine hq_p rfl rfl (ty_ge (n := 1) nk_i1 (fun z28 ez28 => ?_))
        exact ty_rB rfl rfl (by omega) (by omega) ⟨Jh27, _, rfl, by omega, by omega⟩
      · clear iz18
        refine hq_p rfl rfl (ty_ge (n := 0) nk_i0 (fun z29 ez29 => ?_))
        exact ty_rB rfl rfl (by omega) (by omega) ⟨hJ, _, rfl, by omega, by omega⟩
    · refine hq_p rfl rfl (ty_ge (n := -1) nk_im1 (fun z30 ez30 => ?_))
      refine hq_p rfl rfl ?_
      refine hq_p (ls' := [some (.ref 0), some (.int x1), some (.int z30)]) rfl rfl ?_
      refine hq_p rfl rfl ?_
      refine hq_gR I.1 rfl rfl (by decide) (by decide) rfl ?_
      refine hq_gR I.1 rfl rfl (by decide) (by decide) rfl ?_
      refine hq_p rfl rfl ?_
      refine ty_aL I rfl rfl (by decide) (by omega) (by omega) (fun _ _ => ty_le rfl) (fun z31 ez31 az31 bz31 => ?_)
      refine hq_p rfl rfl ?_
      refine hq_gR I.1 rfl rfl (by decide) (by decide) rfl ?_
      refine hq_gR I.1 rfl rfl (by decide) (by decide) rfl ?_
      refine hq_p rfl rfl ?_
      refine hq_p rfl rfl (ty_ge (n := 1) nk_i1 (fun z32 ez32 => ?_))
      refine hq_p rfl rfl (ty_ge (n := x1.toInt + z32.toInt) (nm_add (by omega) (by omega)) (fun z33 ez33 => ?_))
      refine ty_aL I rfl rfl (by decide) (by omega) (by omega) (fun _ _ => ty_le rfl) (fun z34 ez34 az34 bz34 => ?_)
      refine hq_p rfl rfl ?_
      refine ty_callp 1 I rfl (fun _ => rfl) rfl rfl rfl rfl (ct_129 (x0 := z31) (x1 := z34) (x2 := z30) (by omega)) (fun _ P35 => ?_)
      obtain ⟨z36, rfl, az36, bz36, iz36⟩ := P35
      refine ty_zne rfl (fun c37 => ?_) (fun c37 => ?_)
      · replace c37 : 1 ≤ z36.toInt ∧ z36.toInt ≤ 1 := by omega
        have f38 := iz36 (by omega)
        clear iz36
        refine hq_p rfl rfl ?_
        obtain ⟨t39, kt39⟩ : ∃ q, hs_fR h 0 0 = q := ⟨_, rfl⟩
        refine ty_gT I rfl rfl (by decide) (by decide) rfl kt39 (fun ot39 => ?_)
        have pt39 : ty_tr t39 := by rcases ot39 with rfl | rfl; exact Or.inl rfl; exact Or.inr (Or.inl rfl)
        have lt39 := ty_trl pt39
        clear ot39
        refine hq_p rfl rfl ?_
        refine hq_gR I.1 rfl rfl (by decide) (by decide) rfl ?_
        refine hq_gR I.1 rfl rfl (by decide) (by decide) rfl ?_
        refine hq_p rfl rfl ?_
        refine ty_aL I rfl rfl (by decide) (by omega) (by omega) (fun _ _ => ty_le rfl) (fun z40 ez40 az40 bz40 => ?_)
        refine hq_p rfl rfl ?_
        refine hq_gR I.1 rfl rfl (by decide) (by decide) rfl ?_
        refine hq_gR I.1 rfl rfl (by decide) (by decide) rfl ?_
        refine hq_p rfl rfl ?_
        refine hq_p rfl rfl (ty_ge (n := 1) nk_i1 (fun z41 ez41 => ?_))
        refine hq_p rfl rfl (ty_ge (n := x1.toInt + z41.toInt) (nm_add (by omega) (by omega)) (fun z42 ez42 => ?_))
        refine ty_aL I rfl rfl (by decide) (by omega) (by omega) (fun _ _ => ty_le rfl) (fun z43 ez43 az43 bz43 => ?_)
        refine hq_p rfl rfl ?_
        refine ty_callj 0 (W := ty_Wc) H hJ rfl (fun _ => rfl) rfl rfl rfl (hq_pre_o I.1 (x := t39) (ci := 8) (ty_trs pt39) (by omega) rfl rfl rfl rfl) (fun _ _ w => w) (fun _ w => w) (ct_76 (t0 := t39) (x1 := z40) (x2 := z43) (x3 := z30) (by omega) pt39) (fun h45 _ Jh45 P44 => ?_)
        have Ih45 := H.1 h45 Jh45
        subst P44
        refine hq_p rfl rfl (ty_ge (n := 1) nk_i1 (fun z46 ez46 => ?_))
        exact ty_rB rfl rfl (by omega) (by omega) ⟨Jh45, _, rfl, by omega, by omega⟩
      · clear iz36
        refine hq_p rfl rfl (ty_ge (n := 0) nk_i0 (fun z47 ez47 => ?_))
        exact ty_rB rfl rfl (by omega) (by omega) ⟨hJ, _, rfl, by omega, by omega⟩
  · refine hq_p rfl rfl (ty_ge (n := 0) nk_i0 (fun z48 ez48 => ?_))
    exact ty_rB rfl rfl (by omega) (by omega) ⟨hJ, _, rfl, by omega, by omega⟩
theorem ct_90 {X : pm_X} {d : Nat} {h : pm_H} {x1 : Int32} {x2 : Int32} (hd : 2 ≤ d) (hX : ty_SX X)  : ty_M X ty_Wc d 90 [.ref 0, .int x1, .int x2] h (ty_pi (-2147483648) 2147483647) := by
  intro J H hJ
  obtain ⟨d, rfl⟩ : ∃ e, d = e + 1 := ⟨d - 1, by omega⟩
  have I := H.1 h hJ
  have ax1 := nm_lo x1
  have bx1 := nm_hi x1
  have ax2 := nm_lo x2
  have bx2 := nm_hi x2
  refine hq_M.enter (q := (⟨"TrainBearers", "terms", "(II)I"⟩, _, 4, some .int, 10, 3, pm_c90)) rfl rfl ?_
  show hq_W X d 10 false (some .int) pm_c90 (0, [some (.ref 0), some (.int x1), some (.int x2), none], [], h) (fun h' v => J h' ∧ (ty_pi (-2147483648) 2147483647) h' v)
  refine hq_p rfl rfl ?_
  refine ty_zlt rfl (fun c1 => ?_) (fun c1 => ?_)
  · refine hq_p rfl rfl ?_
    refine hq_p rfl rfl (ty_ge (n := -1) nk_im1 (fun z2 ez2 => ?_))
    refine ty_callj 0 (W := ty_Wc) H hJ rfl (fun _ => rfl) rfl rfl rfl (hq_pre_o I.1 (x := 0) (ci := 10) rfl (by decide) rfl rfl rfl rfl) (fun _ _ w => w) (fun _ w => w) (ct_125 (x1 := z2) (by omega)) (fun h4 _ Jh4 P3 => ?_)
    have Ih4 := H.1 h4 Jh4
    obtain ⟨z5, rfl, fz5⟩ := P3
    exact hq_W.ret rfl rfl rfl ⟨Jh4, _, rfl, by omega, by omega⟩
  · refine hq_p rfl rfl ?_
    refine hq_p rfl rfl ?_
    refine hq_alen rfl (ty_x201 hX) rfl (ty_ge (c := Int32.ofNat 3) (n := 3) (by decide) (fun z6 ez6 => ?_))
    refine ty_ige rfl (fun c7 => ?_) (fun c7 => ?_)
    · refine hq_p rfl rfl ?_
      refine hq_p rfl rfl (ty_ge (n := -1) nk_im1 (fun z8 ez8 => ?_))
      refine ty_callj 0 (W := ty_Wc) H hJ rfl (fun _ => rfl) rfl rfl rfl (hq_pre_o I.1 (x := 0) (ci := 10) rfl (by decide) rfl rfl rfl rfl) (fun _ _ w => w) (fun _ w => w) (ct_125 (x1 := z8) (by omega)) (fun h10 _ Jh10 P9 => ?_)
      have Ih10 := H.1 h10 Jh10
      obtain ⟨z11, rfl, fz11⟩ := P9
      exact hq_W.ret rfl rfl rfl ⟨Jh10, _, rfl, by omega, by omega⟩
    · refine hq_p rfl rfl ?_
      refine ty_zlt rfl (fun c12 => ?_) (fun c12 => ?_)
      · refine hq_p rfl rfl ?_
        refine hq_p rfl rfl (ty_ge (n := -1) nk_im1 (fun z13 ez13 => ?_))
        refine ty_callj 0 (W := ty_Wc) H hJ rfl (fun _ => rfl) rfl rfl rfl (hq_pre_o I.1 (x := 0) (ci := 10) rfl (by decide) rfl rfl rfl rfl) (fun _ _ w => w) (fun _ w => w) (ct_125 (x1 := z13) (by omega)) (fun h15 _ Jh15 P14 => ?_)
        have Ih15 := H.1 h15 Jh15
        obtain ⟨z16, rfl, fz16⟩ := P14
        exact hq_W.ret rfl rfl rfl ⟨Jh15, _, rfl, by omega, by omega⟩
      · refine hq_p rfl rfl ?_
        refine hq_p rfl rfl ?_
        refine hq_p rfl rfl ?_
        refine hq_iald rfl (ty_x201 hX) (hs_in (by omega) (by omega)) (ty_ga (fun z17 az17 bz17 => ?_))
        refine ty_ile rfl (fun c18 => ?_) (fun c18 => ?_)
        · refine hq_p rfl rfl ?_
          obtain ⟨t19, kt19⟩ : ∃ q, hs_fR h 0 0 = q := ⟨_, rfl⟩
          refine ty_gT I rfl rfl (by decide) (by decide) rfl kt19 (fun ot19 => ?_)
          have pt19 : ty_tr t19 := by rcases ot19 with rfl | rfl; exact Or.inl rfl; exact Or.inr (Or.inl rfl)
          have lt19 := ty_trl pt19
          clear ot19
          refine hq_gR I.1 rfl (ty_trs pt19) (by omega) (by decide) rfl ?_
          refine hq_p rfl rfl ?_
          refine ty_aL I rfl (ty_trs9 pt19) (by omega) (by omega) (by omega) (fun i _ => ty_le (ty_tra9 pt19 i)) (fun z20 ez20 az20 bz20 => ?_)
          refine hq_p (ls' := [some (.ref 0), some (.int x1), some (.int x2), some (.int z20)]) rfl rfl ?_
          refine hq_p rfl rfl ?_
          refine ty_gT I rfl rfl (by decide) (by decide) rfl kt19 (fun ot19 => ?_)
          clear ot19
          refine hq_gR I.1 rfl (ty_trs pt19) (by omega) (by decide) rfl ?_
          refine hq_p rfl rfl ?_
          refine hq_p rfl rfl ?_
          refine ty_aS (W := ty_Wc) H hJ rfl (ty_trs9 pt19) (by omega) (by omega) (by omega) (fun _ _ => tw_arr pt19 rfl) (fun i _ => ty_eg (ty_tra9 pt19 i)) (by omega) (by omega) (fun e1 e2 w => by omega) (fun h21 eh21 Jh21 => ?_)
          have Ih21 := H.1 h21 Jh21
          refine hq_p rfl rfl ?_
          obtain ⟨t22, kt22⟩ : ∃ q, hs_fR h21 0 5 = q := ⟨_, rfl⟩
          refine ty_gS Ih21 rfl rfl (by decide) (by decide) rfl kt22 (fun ot22 => ?_)
          have pt22 : ty_sp t22 := ot22
          have lt22 := ty_spl pt22
          clear ot22
          refine ty_callj 0 (W := ty_Wc) H Jh21 rfl (fun _ => rfl) rfl rfl rfl (hq_pre_o Ih21.1 (x := t22) (ci := 5) (ty_sps pt22) (by omega) rfl rfl rfl rfl) (fun _ _ w => w) (fun _ w => w) (ct_53 (t0 := t22) (by omega) pt22) (fun h24 _ Jh24 P23 => ?_)
          have Ih24 := H.1 h24 Jh24
          subst P23
          refine hq_p rfl rfl ?_
          refine hq_p rfl rfl ?_
          refine ty_callj 0 (W := ty_Wc) H Jh24 rfl (fun _ => rfl) rfl rfl rfl (hq_pre_o Ih24.1 (x := 0) (ci := 10) rfl (by decide) rfl rfl rfl rfl) (fun _ _ w => w) (fun _ w => w) (ct_126 (x1 := z20) (by omega)) (fun h26 _ Jh26 P25 => ?_)
          have Ih26 := H.1 h26 Jh26
          obtain ⟨z27, rfl, fz27⟩ := P25
          exact hq_W.ret rfl rfl rfl ⟨Jh26, _, rfl, by omega, by omega⟩
        · refine hq_p rfl rfl ?_
          refine hq_p rfl rfl (ty_ge (n := -1) nk_im1 (fun z28 ez28 => ?_))
          refine ty_callj 0 (W := ty_Wc) H hJ rfl (fun _ => rfl) rfl rfl rfl (hq_pre_o I.1 (x := 0) (ci := 10) rfl (by decide) rfl rfl rfl rfl) (fun _ _ w => w) (fun _ w => w) (ct_125 (x1 := z28) (by omega)) (fun h30 _ Jh30 P29 => ?_)
          have Ih30 := H.1 h30 Jh30
          obtain ⟨z31, rfl, fz31⟩ := P29
          exact hq_W.ret rfl rfl rfl ⟨Jh30, _, rfl, by omega, by omega⟩
end CT12
