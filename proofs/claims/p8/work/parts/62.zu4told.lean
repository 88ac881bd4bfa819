/-! CONTRACTS (printed by wip/pm/cts.py) -/
section CT46
theorem ct_131a {X : pm_X} {d : Nat} {h : pm_H} {x1 : Int32} (hd : 3 ≤ d) (ax1 : 0 ≤ x1.toInt) (bx1 : x1.toInt ≤ 400) (hn : hs_fR h 0 0 = 1) (hp : hs_fR h 0 1 = 12) : ty_M X (ty_Wcl 7) d 131 [.ref 0, .int x1] h (fun h1 v => ∃ z : Int32, v = some (.int z) ∧ 0 ≤ z.toInt ∧ z.toInt ≤ 1 ∧ (z.toInt = 1 → lt (hs_aI h 63) (hs_fI h 62 1).toInt x1.toInt ∧ hs_aI h1 7 = ly (hs_aI h 7) ((hs_aI h 63) x1.toInt.toNat).toInt ((hs_aI h 63) (x1.toInt + 1).toNat).toInt (sb ((hs_aI h 63) (x1.toInt + 2).toNat))) ∧ (z.toInt = 0 → ¬ lt (hs_aI h 63) (hs_fI h 62 1).toInt x1.toInt ∧ hs_aI h1 7 = hs_aI h 7)) := by
  intro J0 H0 hJ0
  obtain ⟨J, eJ⟩ : ∃ J : pm_H → Prop, J = fun h' => J0 h' ∧ hs_fR h' 0 0 = 1 ∧ hs_fR h' 0 1 = 12 := ⟨_, rfl⟩
  have H : ty_C (ty_Wcl 7) J := by rw [eJ]; exact H0.refs 1 12
  have hJ : J h := by rw [eJ]; exact ⟨hJ0, hn, hp⟩
  refine hq_M.mono (Nat.le_refl _) (Q := fun h' v => J h' ∧ (fun h1 v => ∃ z : Int32, v = some (.int z) ∧ 0 ≤ z.toInt ∧ z.toInt ≤ 1 ∧ (z.toInt = 1 → lt (hs_aI h 63) (hs_fI h 62 1).toInt x1.toInt ∧ hs_aI h1 7 = ly (hs_aI h 7) ((hs_aI h 63) x1.toInt.toNat).toInt ((hs_aI h 63) (x1.toInt + 1).toNat).toInt (sb ((hs_aI h 63) (x1.toInt + 2).toNat))) ∧ (z.toInt = 0 → ¬ lt (hs_aI h 63) (hs_fI h 62 1).toInt x1.toInt ∧ hs_aI h1 7 = hs_aI h 7)) h' v) (fun h' v q => ⟨by have q1 := q.1; rw [eJ] at q1; exact q1.1, q.2⟩) ?_
  have p1 : ty_tr 1 := by simp [ty_tr]
  have l1 := ty_trl p1
  have p12 : ty_tr 12 := by simp [ty_tr]
  have l12 := ty_trl p12
  obtain ⟨d, rfl⟩ : ∃ e, d = e + 1 := ⟨d - 1, by omega⟩
  have I := H.1 h hJ
  obtain ⟨q1, eq1⟩ : ∃ q : Int32, q.toInt = (hs_fI h 62 1).toInt := ⟨_, rfl⟩
  have gq10 : 0 ≤ (hs_fI h 62 1).toInt := (I.2.1 62 1 (by decide)).1
  have gq11 : (hs_fI h 62 1).toInt ≤ 400 := (I.2.1 62 1 (by decide)).2
  refine hq_M.enter (q := (⟨"TrainBearers", "layTold", "(I)Z"⟩, _, 3, some .boolean, 10, 2, pm_c131)) rfl rfl ?_
  show hq_W X d 10 false (some .boolean) pm_c131 (0, [some (.ref 0), some (.int x1), none], [], h) (fun h' v => J h' ∧ (fun h1 v => ∃ z : Int32, v = some (.int z) ∧ 0 ≤ z.toInt ∧ z.toInt ≤ 1 ∧ (z.toInt = 1 → lt (hs_aI h 63) (hs_fI h 62 1).toInt x1.toInt ∧ hs_aI h1 7 = ly (hs_aI h 7) ((hs_aI h 63) x1.toInt.toNat).toInt ((hs_aI h 63) (x1.toInt + 1).toNat).toInt (sb ((hs_aI h 63) (x1.toInt + 2).toNat))) ∧ (z.toInt = 0 → ¬ lt (hs_aI h 63) (hs_fI h 62 1).toInt x1.toInt ∧ hs_aI h1 7 = hs_aI h 7)) h' v)
  refine hq_p rfl rfl ?_
  refine hq_p rfl rfl (ty_ge (n := 2) nk_i2 (fun z1 ez1 => ?_))
  refine hq_p rfl rfl (ty_ge (n := x1.toInt + z1.toInt) (nm_add (by omega) (by omega)) (fun z2 ez2 => ?_))
  refine hq_p rfl rfl ?_
  refine hq_gR I.1 rfl rfl (by decide) (by decide) rfl ?_
  refine ty_gI I rfl rfl (by decide) (by decide) rfl rfl (fun z3 ez3 az3 bz3 => ?_)
  refine ty_ilt rfl (fun c4 => ?_) (fun c4 => ?_)
  · refine hq_p rfl rfl ?_
    refine hq_gR I.1 rfl rfl (by decide) (by decide) rfl ?_
    refine hq_gR I.1 rfl rfl (by decide) (by decide) rfl ?_
    refine hq_p rfl rfl ?_
    refine hq_p rfl rfl (ty_ge (n := 2) nk_i2 (fun z5 ez5 => ?_))
    refine hq_p rfl rfl (ty_ge (n := x1.toInt + z5.toInt) (nm_add (by omega) (by omega)) (fun z6 ez6 => ?_))
    refine ty_aL I rfl rfl (by decide) (by omega) (by omega) (fun _ _ => ty_le rfl) (fun z7 ez7 az7 bz7 => ?_)
    have nz7 : z7.toInt = ((hs_aI h 63) (x1.toInt + 2).toNat).toInt := by rw [ez7, show z6.toInt.toNat = (x1.toInt + 2).toNat by omega]
    refine hq_p rfl rfl (ty_ge (n := 255) nk_s255 (fun z8 ez8 => ?_))
    refine ty_ine rfl (fun c9 => ?_) (fun c9 => ?_)
    · replace c9 : z7.toInt ≠ z8.toInt := by omega
      refine hq_p rfl rfl ?_
      refine hq_gR I.1 rfl rfl (by decide) (by decide) rfl ?_
      refine hq_gR I.1 rfl rfl (by decide) (by decide) rfl ?_
      refine hq_p rfl rfl ?_
      refine hq_p rfl rfl (ty_ge (n := 2) nk_i2 (fun z10 ez10 => ?_))
      refine hq_p rfl rfl (ty_ge (n := x1.toInt + z10.toInt) (nm_add (by omega) (by omega)) (fun z11 ez11 => ?_))
      refine ty_aL I rfl rfl (by decide) (by omega) (by omega) (fun _ _ => ty_le rfl) (fun z12 ez12 az12 bz12 => ?_)
      have nz12 : z12.toInt = ((hs_aI h 63) (x1.toInt + 2).toNat).toInt := by rw [ez12, show z11.toInt.toNat = (x1.toInt + 2).toNat by omega]
      refine hq_p (ls' := [some (.ref 0), some (.int x1), some (.int z12)]) rfl rfl ?_
      refine hq_p rfl rfl ?_
      refine hq_gR I.1 rfl rfl (by decide) (by decide) rfl ?_
      refine hq_gR I.1 rfl rfl (by decide) (by decide) rfl ?_
      refine hq_p rfl rfl ?_
      refine ty_aL I rfl rfl (by decide) (by omega) (by omega) (fun _ _ => ty_le rfl) (fun z13 ez13 az13 bz13 => ?_)
      have nz13 : z13.toInt = ((hs_aI h 63) x1.toInt.toNat).toInt := ez13
      refine hq_p rfl rfl ?_
      refine hq_gR I.1 rfl rfl (by decide) (by decide) rfl ?_
      refine hq_gR I.1 rfl rfl (by decide) (by decide) rfl ?_
      refine hq_p rfl rfl ?_
      refine hq_p rfl rfl (ty_ge (n := 1) nk_i1 (fun z14 ez14 => ?_))
      refine hq_p rfl rfl (ty_ge (n := x1.toInt + z14.toInt) (nm_add (by omega) (by omega)) (fun z15 ez15 => ?_))
      refine ty_aL I rfl rfl (by decide) (by omega) (by omega) (fun _ _ => ty_le rfl) (fun z16 ez16 az16 bz16 => ?_)
      have nz16 : z16.toInt = ((hs_aI h 63) (x1.toInt + 1).toNat).toInt := by rw [ez16, show z15.toInt.toNat = (x1.toInt + 1).toNat by omega]
      refine hq_p rfl rfl ?_
      refine ty_callp 1 I rfl (fun _ => rfl) rfl rfl rfl rfl (ct_129e (x0 := z13) (x1 := z16) (x2 := z12) (by omega)) (fun _ P17 => ?_)
      obtain ⟨z18, rfl, az18, bz18, iz18, jz18⟩ := P17
      refine ty_zne rfl (fun c19 => ?_) (fun c19 => ?_)
      · replace c19 : 1 ≤ z18.toInt ∧ z18.toInt ≤ 1 := by omega
        have yz18 := iz18 (by omega)
        clear iz18 jz18
        refine hq_p rfl rfl ?_
        refine ty_gT (t := 1) I rfl rfl (by decide) (by decide) rfl (by have q := hJ; rw [eJ] at q; exact q.2.1) (fun _ => ?_)
        refine hq_p rfl rfl ?_
        refine hq_gR I.1 rfl rfl (by decide) (by decide) rfl ?_
        refine hq_gR I.1 rfl rfl (by decide) (by decide) rfl ?_
        refine hq_p rfl rfl ?_
        refine ty_aL I rfl rfl (by decide) (by omega) (by omega) (fun _ _ => ty_le rfl) (fun z20 ez20 az20 bz20 => ?_)
        have nz20 : z20.toInt = ((hs_aI h 63) x1.toInt.toNat).toInt := ez20
        refine hq_p rfl rfl ?_
        refine hq_gR I.1 rfl rfl (by decide) (by decide) rfl ?_
        refine hq_gR I.1 rfl rfl (by decide) (by decide) rfl ?_
        refine hq_p rfl rfl ?_
        refine hq_p rfl rfl (ty_ge (n := 1) nk_i1 (fun z21 ez21 => ?_))
        refine hq_p rfl rfl (ty_ge (n := x1.toInt + z21.toInt) (nm_add (by omega) (by omega)) (fun z22 ez22 => ?_))
        refine ty_aL I rfl rfl (by decide) (by omega) (by omega) (fun _ _ => ty_le rfl) (fun z23 ez23 az23 bz23 => ?_)
        have nz23 : z23.toInt = ((hs_aI h 63) (x1.toInt + 1).toNat).toInt := by rw [ez23, show z22.toInt.toNat = (x1.toInt + 1).toNat by omega]
        refine hq_p rfl rfl ?_
        refine ty_callj 0 (W := (ty_Wcl 7)) H hJ rfl (fun _ => rfl) rfl rfl rfl (hq_pre_o I.1 (x := 1) (ci := 8) rfl (by decide) rfl rfl rfl rfl) (fun a k w => by unfold ty_Wly at w; unfold ty_Wcl; omega) (by unfold ty_Wly ty_Wcl; omega) (ct_76l1 (x1 := z20) (x2 := z23) (x3 := z12) (by omega)) (fun h25 _ Jh25 P24 => ?_)
        have Ih25 := H.1 h25 Jh25
        obtain ⟨rfl, r26⟩ := P24
        rw [if_pos (by omega)] at r26
        have br26 : z12 = sb ((hs_aI h 63) (x1.toInt + 2).toNat) := sb_0 (by omega) (by omega)
        rw [br26, nz20, nz23] at r26
        refine hq_p rfl rfl (ty_ge (n := 1) nk_i1 (fun z27 ez27 => ?_))
        exact ty_rB rfl rfl (by omega) (by omega) ⟨Jh25, _, rfl, by omega, by omega, (fun q => ⟨by unfold lt; omega, r26⟩), (fun q => by exfalso; omega)⟩
      · have yz18 := jz18 (by omega)
        clear iz18 jz18
        refine hq_p rfl rfl (ty_ge (n := 0) nk_i0 (fun z28 ez28 => ?_))
        exact ty_rB rfl rfl (by omega) (by omega) ⟨hJ, _, rfl, by omega, by omega, (fun q => by exfalso; omega), (fun q => ⟨by unfold lt; omega, rfl⟩)⟩
    · refine hq_p rfl rfl (ty_ge (n := -1) nk_im1 (fun z29 ez29 => ?_))
      refine hq_p rfl rfl ?_
      refine hq_p (ls' := [some (.ref 0), some (.int x1), some (.int z29)]) rfl rfl ?_
      refine hq_p rfl rfl ?_
      refine hq_gR I.1 rfl rfl (by decide) (by decide) rfl ?_
      refine hq_gR I.1 rfl rfl (by decide) (by decide) rfl ?_
      refine hq_p rfl rfl ?_
      refine ty_aL I rfl rfl (by decide) (by omega) (by omega) (fun _ _ => ty_le rfl) (fun z30 ez30 az30 bz30 => ?_)
      have nz30 : z30.toInt = ((hs_aI h 63) x1.toInt.toNat).toInt := ez30
      refine hq_p rfl rfl ?_
      refine hq_gR I.1 rfl rfl (by decide) (by decide) rfl ?_
      refine hq_gR I.1 rfl rfl (by decide) (by decide) rfl ?_
      refine hq_p rfl rfl ?_
      refine hq_p rfl rfl (ty_ge (n := 1) nk_i1 (fun z31 ez31 => ?_))
      refine hq_p rfl rfl (ty_ge (n := x1.toInt + z31.toInt) (nm_add (by omega) (by omega)) (fun z32 ez32 => ?_))
      refine ty_aL I rfl rfl (by decide) (by omega) (by omega) (fun _ _ => ty_le rfl) (fun z33 ez33 az33 bz33 => ?_)
      have nz33 : z33.toInt = ((hs_aI h 63) (x1.toInt + 1).toNat).toInt := by rw [ez33, show z32.toInt.toNat = (x1.toInt + 1).toNat by omega]
      refine hq_p rfl rfl ?_
      refine ty_callp 1 I rfl (fun _ => rfl) rfl rfl rfl rfl (ct_129e (x0 := z30) (x1 := z33) (x2 := z29) (by omega)) (fun _ P34 => ?_)
      obtain ⟨z35, rfl, az35, bz35, iz35, jz35⟩ := P34
      refine ty_zne rfl (fun c36 => ?_) (fun c36 => ?_)
      · replace c36 : 1 ≤ z35.toInt ∧ z35.toInt ≤ 1 := by omega
        have yz35 := iz35 (by omega)
        clear iz35 jz35
        refine hq_p rfl rfl ?_
        refine ty_gT (t := 1) I rfl rfl (by decide) (by decide) rfl (by have q := hJ; rw [eJ] at q; exact q.2.1) (fun _ => ?_)
        refine hq_p rfl rfl ?_
        refine hq_gR I.1 rfl rfl (by decide) (by decide) rfl ?_
        refine hq_gR I.1 rfl rfl (by decide) (by decide) rfl ?_
        refine hq_p rfl rfl ?_
        refine ty_aL I rfl rfl (by decide) (by omega) (by omega) (fun _ _ => ty_le rfl) (fun z37 ez37 az37 bz37 => ?_)
        have nz37 : z37.toInt = ((hs_aI h 63) x1.toInt.toNat).toInt := ez37
        refine hq_p rfl rfl ?_
        refine hq_gR I.1 rfl rfl (by decide) (by decide) rfl ?_
        refine hq_gR I.1 rfl rfl (by decide) (by decide) rfl ?_
        refine hq_p rfl rfl ?_
        refine hq_p rfl rfl (ty_ge (n := 1) nk_i1 (fun z38 ez38 => ?_))
        refine hq_p rfl rfl (ty_ge (n := x1.toInt + z38.toInt) (nm_add (by omega) (by omega)) (fun z39 ez39 => ?_))
        refine ty_aL I rfl rfl (by decide) (by omega) (by omega) (fun _ _ => ty_le rfl) (fun z40 ez40 az40 bz40 => ?_)
        have nz40 : z40.toInt = ((hs_aI h 63) (x1.toInt + 1).toNat).toInt := by rw [ez40, show z39.toInt.toNat = (x1.toInt + 1).toNat by omega]
        refine hq_p rfl rfl ?_
        refine ty_callj 0 (W := (ty_Wcl 7)) H hJ rfl (fun _ => rfl) rfl rfl rfl (hq_pre_o I.1 (x := 1) (ci := 8) rfl (by decide) rfl rfl rfl rfl) (fun a k w => by unfold ty_Wly at w; unfold ty_Wcl; omega) (by unfold ty_Wly ty_Wcl; omega) (ct_76l1 (x1 := z37) (x2 := z40) (x3 := z29) (by omega)) (fun h42 _ Jh42 P41 => ?_)
        have Ih42 := H.1 h42 Jh42
        obtain ⟨rfl, r43⟩ := P41
        rw [if_pos (by omega)] at r43
        have br43 : z29 = sb ((hs_aI h 63) (x1.toInt + 2).toNat) := sb_1 (by omega) (by omega)
        rw [br43, nz37, nz40] at r43
        refine hq_p rfl rfl (ty_ge (n := 1) nk_i1 (fun z44 ez44 => ?_))
        exact ty_rB rfl rfl (by omega) (by omega) ⟨Jh42, _, rfl, by omega, by omega, (fun q => ⟨by unfold lt; omega, r43⟩), (fun q => by exfalso; omega)⟩
      · have yz35 := jz35 (by omega)
        clear iz35 jz35
        refine hq_p rfl rfl (ty_ge (n := 0) nk_i0 (fun z45 ez45 => ?_))
        exact ty_rB rfl rfl (by omega) (by omega) ⟨hJ, _, rfl, by omega, by omega, (fun q => by exfalso; omega), (fun q => ⟨by unfold lt; omega, rfl⟩)⟩
  · refine hq_p rfl rfl (ty_ge (n := 0) nk_i0 (fun z46 ez46 => ?_))
    exact ty_rB rfl rfl (by omega) (by omega) ⟨hJ, _, rfl, by omega, by omega, (fun q => by exfalso; omega), (fun q => ⟨by unfold lt; omega, rfl⟩)⟩
theorem ct_131b {X : pm_X} {d : Nat} {h : pm_H} {x1 : Int32} (hd : 3 ≤ d) (ax1 : 0 ≤ x1.toInt) (bx1 : x1.toInt ≤ 400) (hn : hs_fR h 0 0 = 12) (hp : hs_fR h 0 1 = 1) : ty_M X (ty_Wcl 18) d 131 [.ref 0, .int x1] h (fun h1 v => ∃ z : Int32, v = some (.int z) ∧ 0 ≤ z.toInt ∧ z.toInt ≤ 1 ∧ (z.toInt = 1 → lt (hs_aI h 63) (hs_fI h 62 1).toInt x1.toInt ∧ hs_aI h1 18 = ly (hs_aI h 18) ((hs_aI h 63) x1.toInt.toNat).toInt ((hs_aI h 63) (x1.toInt + 1).toNat).toInt (sb ((hs_aI h 63) (x1.toInt + 2).toNat))) ∧ (z.toInt = 0 → ¬ lt (hs_aI h 63) (hs_fI h 62 1).toInt x1.toInt ∧ hs_aI h1 18 = hs_aI h 18)) := by
  intro J0 H0 hJ0
  obtain ⟨J, eJ⟩ : ∃ J : pm_H → Prop, J = fun h' => J0 h' ∧ hs_fR h' 0 0 = 12 ∧ hs_fR h' 0 1 = 1 := ⟨_, rfl⟩
  have H : ty_C (ty_Wcl 18) J := by rw [eJ]; exact H0.refs 12 1
  have hJ : J h := by rw [eJ]; exact ⟨hJ0, hn, hp⟩
  refine hq_M.mono (Nat.le_refl _) (Q := fun h' v => J h' ∧ (fun h1 v => ∃ z : Int32, v = some (.int z) ∧ 0 ≤ z.toInt ∧ z.toInt ≤ 1 ∧ (z.toInt = 1 → lt (hs_aI h 63) (hs_fI h 62 1).toInt x1.toInt ∧ hs_aI h1 18 = ly (hs_aI h 18) ((hs_aI h 63) x1.toInt.toNat).toInt ((hs_aI h 63) (x1.toInt + 1).toNat).toInt (sb ((hs_aI h 63) (x1.toInt + 2).toNat))) ∧ (z.toInt = 0 → ¬ lt (hs_aI h 63) (hs_fI h 62 1).toInt x1.toInt ∧ hs_aI h1 18 = hs_aI h 18)) h' v) (fun h' v q => ⟨by have q1 := q.1; rw [eJ] at q1; exact q1.1, q.2⟩) ?_
  have p1 : ty_tr 1 := by simp [ty_tr]
  have l1 := ty_trl p1
  have p12 : ty_tr 12 := by simp [ty_tr]
  have l12 := ty_trl p12
  obtain ⟨d, rfl⟩ : ∃ e, d = e + 1 := ⟨d - 1, by omega⟩
  have I := H.1 h hJ
  obtain ⟨q1, eq1⟩ : ∃ q : Int32, q.toInt = (hs_fI h 62 1).toInt := ⟨_, rfl⟩
  have gq10 : 0 ≤ (hs_fI h 62 1).toInt := (I.2.1 62 1 (by decide)).1
  have gq11 : (hs_fI h 62 1).toInt ≤ 400 := (I.2.1 62 1 (by decide)).2
  refine hq_M.enter (q := (⟨"TrainBearers", "layTold", "(I)Z"⟩, _, 3, some .boolean, 10, 2, pm_c131)) rfl rfl ?_
  show hq_W X d 10 false (some .boolean) pm_c131 (0, [some (.ref 0), some (.int x1), none], [], h) (fun h' v => J h' ∧ (fun h1 v => ∃ z : Int32, v = some (.int z) ∧ 0 ≤ z.toInt ∧ z.toInt ≤ 1 ∧ (z.toInt = 1 → lt (hs_aI h 63) (hs_fI h 62 1).toInt x1.toInt ∧ hs_aI h1 18 = ly (hs_aI h 18) ((hs_aI h 63) x1.toInt.toNat).toInt ((hs_aI h 63) (x1.toInt + 1).toNat).toInt (sb ((hs_aI h 63) (x1.toInt + 2).toNat))) ∧ (z.toInt = 0 → ¬ lt (hs_aI h 63) (hs_fI h 62 1).toInt x1.toInt ∧ hs_aI h1 18 = hs_aI h 18)) h' v)
  refine hq_p rfl rfl ?_
  refine hq_p rfl rfl (ty_ge (n := 2) nk_i2 (fun z1 ez1 => ?_))
  refine hq_p rfl rfl (ty_ge (n := x1.toInt + z1.toInt) (nm_add (by omega) (by omega)) (fun z2 ez2 => ?_))
  refine hq_p rfl rfl ?_
  refine hq_gR I.1 rfl rfl (by decide) (by decide) rfl ?_
  refine ty_gI I rfl rfl (by decide) (by decide) rfl rfl (fun z3 ez3 az3 bz3 => ?_)
  refine ty_ilt rfl (fun c4 => ?_) (fun c4 => ?_)
  · refine hq_p rfl rfl ?_
    refine hq_gR I.1 rfl rfl (by decide) (by decide) rfl ?_
    refine hq_gR I.1 rfl rfl (by decide) (by decide) rfl ?_
    refine hq_p rfl rfl ?_
    refine hq_p rfl rfl (ty_ge (n := 2) nk_i2 (fun z5 ez5 => ?_))
    refine hq_p rfl rfl (ty_ge (n := x1.toInt + z5.toInt) (nm_add (by omega) (by omega)) (fun z6 ez6 => ?_))
    refine ty_aL I rfl rfl (by decide) (by omega) (by omega) (fun _ _ => ty_le rfl) (fun z7 ez7 az7 bz7 => ?_)
    have nz7 : z7.toInt = ((hs_aI h 63) (x1.toInt + 2).toNat).toInt := by rw [ez7, show z6.toInt.toNat = (x1.toInt + 2).toNat by omega]
    refine hq_p rfl rfl (ty_ge (n := 255) nk_s255 (fun z8 ez8 => ?_))
    refine ty_ine rfl (fun c9 => ?_) (fun c9 => ?_)
    · replace c9 : z7.toInt ≠ z8.toInt := by omega
      refine hq_p rfl rfl ?_
      refine hq_gR I.1 rfl rfl (by decide) (by decide) rfl ?_
      refine hq_gR I.1 rfl rfl (by decide) (by decide) rfl ?_
      refine hq_p rfl rfl ?_
      refine hq_p rfl rfl (ty_ge (n := 2) nk_i2 (fun z10 ez10 => ?_))
      refine hq_p rfl rfl (ty_ge (n := x1.toInt + z10.toInt) (nm_add (by omega) (by omega)) (fun z11 ez11 => ?_))
      refine ty_aL I rfl rfl (by decide) (by omega) (by omega) (fun _ _ => ty_le rfl) (fun z12 ez12 az12 bz12 => ?_)
      have nz12 : z12.toInt = ((hs_aI h 63) (x1.toInt + 2).toNat).toInt := by rw [ez12, show z11.toInt.toNat = (x1.toInt + 2).toNat by omega]
      refine hq_p (ls' := [some (.ref 0), some (.int x1), some (.int z12)]) rfl rfl ?_
      refine hq_p rfl rfl ?_
      refine hq_gR I.1 rfl rfl (by decide) (by decide) rfl ?_
      refine hq_gR I.1 rfl rfl (by decide) (by decide) rfl ?_
      refine hq_p rfl rfl ?_
      refine ty_aL I rfl rfl (by decide) (by omega) (by omega) (fun _ _ => ty_le rfl) (fun z13 ez13 az13 bz13 => ?_)
      have nz13 : z13.toInt = ((hs_aI h 63) x1.toInt.toNat).toInt := ez13
      refine hq_p rfl rfl ?_
      refine hq_gR I.1 rfl rfl (by decide) (by decide) rfl ?_
      refine hq_gR I.1 rfl rfl (by decide) (by decide) rfl ?_
      refine hq_p rfl rfl ?_
      refine hq_p rfl rfl (ty_ge (n := 1) nk_i1 (fun z14 ez14 => ?_))
      refine hq_p rfl rfl (ty_ge (n := x1.toInt + z14.toInt) (nm_add (by omega) (by omega)) (fun z15 ez15 => ?_))
      refine ty_aL I rfl rfl (by decide) (by omega) (by omega) (fun _ _ => ty_le rfl) (fun z16 ez16 az16 bz16 => ?_)
      have nz16 : z16.toInt = ((hs_aI h 63) (x1.toInt + 1).toNat).toInt := by rw [ez16, show z15.toInt.toNat = (x1.toInt + 1).toNat by omega]
      refine hq_p rfl rfl ?_
      refine ty_callp 1 I rfl (fun _ => rfl) rfl rfl rfl rfl (ct_129e (x0 := z13) (x1 := z16) (x2 := z12) (by omega)) (fun _ P17 => ?_)
      obtain ⟨z18, rfl, az18, bz18, iz18, jz18⟩ := P17
      refine ty_zne rfl (fun c19 => ?_) (fun c19 => ?_)
      · replace c19 : 1 ≤ z18.toInt ∧ z18.toInt ≤ 1 := by omega
        have yz18 := iz18 (by omega)
        clear iz18 jz18
        refine hq_p rfl rfl ?_
        refine ty_gT (t := 12) I rfl rfl (by decide) (by decide) rfl (by have q := hJ; rw [eJ] at q; exact q.2.1) (fun _ => ?_)
        refine hq_p rfl rfl ?_
        refine hq_gR I.1 rfl rfl (by decide) (by decide) rfl ?_
        refine hq_gR I.1 rfl rfl (by decide) (by decide) rfl ?_
        refine hq_p rfl rfl ?_
        refine ty_aL I rfl rfl (by decide) (by omega) (by omega) (fun _ _ => ty_le rfl) (fun z20 ez20 az20 bz20 => ?_)
        have nz20 : z20.toInt = ((hs_aI h 63) x1.toInt.toNat).toInt := ez20
        refine hq_p rfl rfl ?_
        refine hq_gR I.1 rfl rfl (by decide) (by decide) rfl ?_
        refine hq_gR I.1 rfl rfl (by decide) (by decide) rfl ?_
        refine hq_p rfl rfl ?_
        refine hq_p rfl rfl (ty_ge (n := 1) nk_i1 (fun z21 ez21 => ?_))
        refine hq_p rfl rfl (ty_ge (n := x1.toInt + z21.toInt) (nm_add (by omega) (by omega)) (fun z22 ez22 => ?_))
        refine ty_aL I rfl rfl (by decide) (by omega) (by omega) (fun _ _ => ty_le rfl) (fun z23 ez23 az23 bz23 => ?_)
        have nz23 : z23.toInt = ((hs_aI h 63) (x1.toInt + 1).toNat).toInt := by rw [ez23, show z22.toInt.toNat = (x1.toInt + 1).toNat by omega]
        refine hq_p rfl rfl ?_
        refine ty_callj 0 (W := (ty_Wcl 18)) H hJ rfl (fun _ => rfl) rfl rfl rfl (hq_pre_o I.1 (x := 12) (ci := 8) rfl (by decide) rfl rfl rfl rfl) (fun a k w => by unfold ty_Wly at w; unfold ty_Wcl; omega) (by unfold ty_Wly ty_Wcl; omega) (ct_76l12 (x1 := z20) (x2 := z23) (x3 := z12) (by omega)) (fun h25 _ Jh25 P24 => ?_)
        have Ih25 := H.1 h25 Jh25
        obtain ⟨rfl, r26⟩ := P24
        rw [if_pos (by omega)] at r26
        have br26 : z12 = sb ((hs_aI h 63) (x1.toInt + 2).toNat) := sb_0 (by omega) (by omega)
        rw [br26, nz20, nz23] at r26
        refine hq_p rfl rfl (ty_ge (n := 1) nk_i1 (fun z27 ez27 => ?_))
        exact ty_rB rfl rfl (by omega) (by omega) ⟨Jh25, _, rfl, by omega, by omega, (fun q => ⟨by unfold lt; omega, r26⟩), (fun q => by exfalso; omega)⟩
      · have yz18 := jz18 (by omega)
        clear iz18 jz18
        refine hq_p rfl rfl (ty_ge (n := 0) nk_i0 (fun z28 ez28 => ?_))
        exact ty_rB rfl rfl (by omega) (by omega) ⟨hJ, _, rfl, by omega, by omega, (fun q => by exfalso; omega), (fun q => ⟨by unfold lt; omega, rfl⟩)⟩
    · refine hq_p rfl rfl (ty_ge (n := -1) nk_im1 (fun z29 ez29 => ?_))
      refine hq_p rfl rfl ?_
      refine hq_p (ls' := [some (.ref 0), some (.int x1), some (.int z29)]) rfl rfl ?_
      refine hq_p rfl rfl ?_
      refine hq_gR I.1 rfl rfl (by decide) (by decide) rfl ?_
      refine hq_gR I.1 rfl rfl (by decide) (by decide) rfl ?_
      refine hq_p rfl rfl ?_
      refine ty_aL I rfl rfl (by decide) (by omega) (by omega) (fun _ _ => ty_le rfl) (fun z30 ez30 az30 bz30 => ?_)
      have nz30 : z30.toInt = ((hs_aI h 63) x1.toInt.toNat).toInt := ez30
      refine hq_p rfl rfl ?_
      refine hq_gR I.1 rfl rfl (by decide) (by decide) rfl ?_
      refine hq_gR I.1 rfl rfl (by decide) (by decide) rfl ?_
      refine hq_p rfl rfl ?_
      refine hq_p rfl rfl (ty_ge (n := 1) nk_i1 (fun z31 ez31 => ?_))
      refine hq_p rfl rfl (ty_ge (n := x1.toInt + z31.toInt) (nm_add (by omega) (by omega)) (fun z32 ez32 => ?_))
      refine ty_aL I rfl rfl (by decide) (by omega) (by omega) (fun _ _ => ty_le rfl) (fun z33 ez33 az33 bz33 => ?_)
      have nz33 : z33.toInt = ((hs_aI h 63) (x1.toInt + 1).toNat).toInt := by rw [ez33, show z32.toInt.toNat = (x1.toInt + 1).toNat by omega]
      refine hq_p rfl rfl ?_
      refine ty_callp 1 I rfl (fun _ => rfl) rfl rfl rfl rfl (ct_129e (x0 := z30) (x1 := z33) (x2 := z29) (by omega)) (fun _ P34 => ?_)
      obtain ⟨z35, rfl, az35, bz35, iz35, jz35⟩ := P34
      refine ty_zne rfl (fun c36 => ?_) (fun c36 => ?_)
      · replace c36 : 1 ≤ z35.toInt ∧ z35.toInt ≤ 1 := by omega
        have yz35 := iz35 (by omega)
        clear iz35 jz35
        refine hq_p rfl rfl ?_
        refine ty_gT (t := 12) I rfl rfl (by decide) (by decide) rfl (by have q := hJ; rw [eJ] at q; exact q.2.1) (fun _ => ?_)
        refine hq_p rfl rfl ?_
        refine hq_gR I.1 rfl rfl (by decide) (by decide) rfl ?_
        refine hq_gR I.1 rfl rfl (by decide) (by decide) rfl ?_
        refine hq_p rfl rfl ?_
        refine ty_aL I rfl rfl (by decide) (by omega) (by omega) (fun _ _ => ty_le rfl) (fun z37 ez37 az37 bz37 => ?_)
        have nz37 : z37.toInt = ((hs_aI h 63) x1.toInt.toNat).toInt := ez37
        refine hq_p rfl rfl ?_
        refine hq_gR I.1 rfl rfl (by decide) (by decide) rfl ?_
        refine hq_gR I.1 rfl rfl (by decide) (by decide) rfl ?_
        refine hq_p rfl rfl ?_
        refine hq_p rfl rfl (ty_ge (n := 1) nk_i1 (fun z38 ez38 => ?_))
        refine hq_p rfl rfl (ty_ge (n := x1.toInt + z38.toInt) (nm_add (by omega) (by omega)) (fun z39 ez39 => ?_))
        refine ty_aL I rfl rfl (by decide) (by omega) (by omega) (fun _ _ => ty_le rfl) (fun z40 ez40 az40 bz40 => ?_)
        have nz40 : z40.toInt = ((hs_aI h 63) (x1.toInt + 1).toNat).toInt := by rw [ez40, show z39.toInt.toNat = (x1.toInt + 1).toNat by omega]
        refine hq_p rfl rfl ?_
        refine ty_callj 0 (W := (ty_Wcl 18)) H hJ rfl (fun _ => rfl) rfl rfl rfl (hq_pre_o I.1 (x := 12) (ci := 8) rfl (by decide) rfl rfl rfl rfl) (fun a k w => by unfold ty_Wly at w; unfold ty_Wcl; omega) (by unfold ty_Wly ty_Wcl; omega) (ct_76l12 (x1 := z37) (x2 := z40) (x3 := z29) (by omega)) (fun h42 _ Jh42 P41 => ?_)
        have Ih42 := H.1 h42 Jh42
        obtain ⟨rfl, r43⟩ := P41
        rw [if_pos (by omega)] at r43
        have br43 : z29 = sb ((hs_aI h 63) (x1.toInt + 2).toNat) := sb_1 (by omega) (by omega)
        rw [br43, nz37, nz40] at r43
        refine hq_p rfl rfl (ty_ge (n := 1) nk_i1 (fun z44 ez44 => ?_))
        exact ty_rB rfl rfl (by omega) (by omega) ⟨Jh42, _, rfl, by omega, by omega, (fun q => ⟨by unfold lt; omega, r43⟩), (fun q => by exfalso; omega)⟩
      · have yz35 := jz35 (by omega)
        clear iz35 jz35
        refine hq_p rfl rfl (ty_ge (n := 0) nk_i0 (fun z45 ez45 => ?_))
        exact ty_rB rfl rfl (by omega) (by omega) ⟨hJ, _, rfl, by omega, by omega, (fun q => by exfalso; omega), (fun q => ⟨by unfold lt; omega, rfl⟩)⟩
  · refine hq_p rfl rfl (ty_ge (n := 0) nk_i0 (fun z46 ez46 => ?_))
    exact ty_rB rfl rfl (by omega) (by omega) ⟨hJ, _, rfl, by omega, by omega, (fun q => by exfalso; omega), (fun q => ⟨by unfold lt; omega, rfl⟩)⟩
end CT46
