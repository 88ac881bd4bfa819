/-! CONTRACTS (printed by wip/pm/cts.py) -/
section CT40
theorem ct_131t {X : pm_X} {d : Nat} {h : pm_H} {x1 : Int32} (hd : 3 ≤ d) (ax1 : 0 ≤ x1.toInt) (bx1 : x1.toInt ≤ 400) : ty_M X ty_Wc d 131 [.ref 0, .int x1] h (fun _ v => ∃ z : Int32, v = some (.int z) ∧ 0 ≤ z.toInt ∧ z.toInt ≤ 1 ∧ (z.toInt = 1 → lt (hs_aI h 63) (hs_fI h 62 1).toInt x1.toInt) ∧ (z.toInt = 0 → ¬ lt (hs_aI h 63) (hs_fI h 62 1).toInt x1.toInt)) := by
  intro J H hJ
  obtain ⟨d, rfl⟩ : ∃ e, d = e + 1 := ⟨d - 1, by omega⟩
  have I := H.1 h hJ
  obtain ⟨q1, eq1⟩ : ∃ q : Int32, q.toInt = (hs_fI h 62 1).toInt := ⟨_, rfl⟩
  have gq10 : 0 ≤ (hs_fI h 62 1).toInt := (I.2.1 62 1 (by decide)).1
  have gq11 : (hs_fI h 62 1).toInt ≤ 400 := (I.2.1 62 1 (by decide)).2
  refine hq_M.enter (q := (⟨"TrainBearers", "layTold", "(I)Z"⟩, _, 3, some .boolean, 10, 2, pm_c131)) rfl rfl ?_
  show hq_W X d 10 false (some .boolean) pm_c131 (0, [some (.ref 0), some (.int x1), none], [], h) (fun h' v => J h' ∧ (fun _ v => ∃ z : Int32, v = some (.int z) ∧ 0 ≤ z.toInt ∧ z.toInt ≤ 1 ∧ (z.toInt = 1 → lt (hs_aI h 63) (hs_fI h 62 1).toInt x1.toInt) ∧ (z.toInt = 0 → ¬ lt (hs_aI h 63) (hs_fI h 62 1).toInt x1.toInt)) h' v)
  refine hq_p rfl rfl ?_
  refine hq_p rfl rfl (ty_ge (n := 2) nk_i2 (fun z1 ez1 => ?_))
  refine hq_p rfl rfl (ty_ge (n := x1.toInt + z1.toInt) (nm_add (by omega) (by omega)) (fun z2 ez2 => ?_))
  refine hq_p rfl rfl ?_
  refine hq_gR I.1 rfl rfl (by decide) (by decide) rfl ?_
  refine ty_gI I rfl rfl (by decide) (by decide) rfl rfl (fun z3 ez3 az3 bz3 => ?_)
  refine ty_ilt rfl (fun c4 => ?_) (fun c4 => ?_)
  · refine hq_p rfl rfl ?_
    refine hq_gR I.1 rfl rfl (by decide) (by decide) rfl ?_
    refine hq_gR I.1 rfl rfl (by decide) (by decide) rfl ?_
    refine hq_p rfl rfl ?_
    refine hq_p rfl rfl (ty_ge (n := 2) nk_i2 (fun z5 ez5 => ?_))
    refine hq_p rfl rfl (ty_ge (n := x1.toInt + z5.toInt) (nm_add (by omega) (by omega)) (fun z6 ez6 => ?_))
    refine ty_aL I rfl rfl (by decide) (by omega) (by omega) (fun _ _ => ty_le rfl) (fun z7 ez7 az7 bz7 => ?_)
    have nz7 : z7.toInt = ((hs_aI h 63) (x1.toInt + 2).toNat).toInt := by rw [ez7, show z6.toInt.toNat = (x1.toInt + 2).toNat by omega]
    refine hq_p rfl rfl (ty_ge (n := 255) nk_s255 (fun z8 ez8 => ?_))
    refine ty_ine rfl (fun c9 => ?_) (fun c9 => ?_)
    · replace c9 : z7.toInt ≠ z8.toInt := by omega
      refine hq_p rfl rfl ?_
      refine hq_gR I.1 rfl rfl (by decide) (by decide) rfl ?_
      refine hq_gR I.1 rfl rfl (by decide) (by decide) rfl ?_
      refine hq_p rfl rfl ?_
      refine hq_p rfl rfl (ty_ge (n := 2) nk_i2 (fun z10 ez10 => ?_))
      refine hq_p rfl rfl (ty_ge (n := x1.toInt + z10.toInt) (nm_add (by omega) (by omega)) (fun z11 ez11 => ?_))
      refine ty_aL I rfl rfl (by decide) (by omega) (by omega) (fun _ _ => ty_le rfl) (fun z12 ez12 az12 bz12 => ?_)
      have nz12 : z12.toInt = ((hs_aI h 63) (x1.toInt + 2).toNat).toInt := by rw [ez12, show z11.toInt.toNat = (x1.toInt + 2).toNat by omega]
      refine hq_p (ls' := [some (.ref 0), some (.int x1), some (.int z12)]) rfl rfl ?_
      refine hq_p rfl rfl ?_
      refine hq_gR I.1 rfl rfl (by decide) (by decide) rfl ?_
      refine hq_gR I.1 rfl rfl (by decide) (by decide) rfl ?_
      refine hq_p rfl rfl ?_
      refine ty_aL I rfl rfl (by decide) (by omega) (by omega) (fun _ _ => ty_le rfl) (fun z13 ez13 az13 bz13 => ?_)
      have nz13 : z13.toInt = ((hs_aI h 63) x1.toInt.toNat).toInt := ez13
      refine hq_p rfl rfl ?_
      refine hq_gR I.1 rfl rfl (by decide) (by decide) rfl ?_
      refine hq_gR I.1 rfl rfl (by decide) (by decide) rfl ?_
      refine hq_p rfl rfl ?_
      refine hq_p rfl rfl (ty_ge (n := 1) nk_i1 (fun z14 ez14 => ?_))
      refine hq_p rfl rfl (ty_ge (n := x1.toInt + z14.toInt) (nm_add (by omega) (by omega)) (fun z15 ez15 => ?_))
      refine ty_aL I rfl rfl (by decide) (by omega) (by omega) (fun _ _ => ty_le rfl) (fun z16 ez16 az16 bz16 => ?_)
      have nz16 : z16.toInt = ((hs_aI h 63) (x1.toInt + 1).toNat).toInt := by rw [ez16, show z15.toInt.toNat = (x1.toInt + 1).toNat by omega]
      refine hq_p rfl rfl ?_
      refine ty_callp 1 I rfl (fun _ => rfl) rfl rfl rfl rfl (ct_129e (x0 := z13) (x1 := z16) (x2 := z12) (by omega)) (fun _ P17 => ?_)
      obtain ⟨z18, rfl, az18, bz18, iz18, jz18⟩ := P17
      refine ty_zne rfl (fun c19 => ?_) (fun c19 => ?_)
      · replace c19 : 1 ≤ z18.toInt ∧ z18.toInt ≤ 1 := by omega
        have yz18 := iz18 (by omega)
        clear iz18 jz18
        refine hq_p rfl rfl ?_
        obtain ⟨t20, kt20⟩ : ∃ q, hs_fR h 0 0 = q := ⟨_, rfl⟩
        refine ty_gT I rfl rfl (by decide) (by decide) rfl kt20 (fun ot20 => ?_)
        have pt20 : ty_tr t20 := by rcases ot20 with rfl | rfl; exact Or.inl rfl; exact Or.inr (Or.inl rfl)
        have lt20 := ty_trl pt20
        clear ot20
        refine hq_p rfl rfl ?_
        refine hq_gR I.1 rfl rfl (by decide) (by decide) rfl ?_
        refine hq_gR I.1 rfl rfl (by decide) (by decide) rfl ?_
        refine hq_p rfl rfl ?_
        refine ty_aL I rfl rfl (by decide) (by omega) (by omega) (fun _ _ => ty_le rfl) (fun z21 ez21 az21 bz21 => ?_)
        have nz21 : z21.toInt = ((hs_aI h 63) x1.toInt.toNat).toInt := ez21
        refine hq_p rfl rfl ?_
        refine hq_gR I.1 rfl rfl (by decide) (by decide) rfl ?_
        refine hq_gR I.1 rfl rfl (by decide) (by decide) rfl ?_
        refine hq_p rfl rfl ?_
        refine hq_p rfl rfl (ty_ge (n := 1) nk_i1 (fun z22 ez22 => ?_))
        refine hq_p rfl rfl (ty_ge (n := x1.toInt + z22.toInt) (nm_add (by omega) (by omega)) (fun z23 ez23 => ?_))
        refine ty_aL I rfl rfl (by decide) (by omega) (by omega) (fun _ _ => ty_le rfl) (fun z24 ez24 az24 bz24 => ?_)
        have nz24 : z24.toInt = ((hs_aI h 63) (x1.toInt + 1).toNat).toInt := by rw [ez24, show z23.toInt.toNat = (x1.toInt + 1).toNat by omega]
        refine hq_p rfl rfl ?_
        refine ty_callj 0 (W := ty_Wc) H hJ rfl (fun _ => rfl) rfl rfl rfl (hq_pre_o I.1 (x := t20) (ci := 8) (ty_trs pt20) (by omega) rfl rfl rfl rfl) (fun _ _ w => w) (fun _ w => w) (ct_76 (t0 := t20) (x1 := z21) (x2 := z24) (x3 := z12) (by omega) pt20) (fun h26 _ Jh26 P25 => ?_)
        have Ih26 := H.1 h26 Jh26
        subst P25
        refine hq_p rfl rfl (ty_ge (n := 1) nk_i1 (fun z27 ez27 => ?_))
        exact ty_rB rfl rfl (by omega) (by omega) ⟨Jh26, _, rfl, by omega, by omega, (fun q => by unfold lt; omega), (fun q => by unfold lt; omega)⟩
      · have yz18 := jz18 (by omega)
        clear iz18 jz18
        refine hq_p rfl rfl (ty_ge (n := 0) nk_i0 (fun z28 ez28 => ?_))
        exact ty_rB rfl rfl (by omega) (by omega) ⟨hJ, _, rfl, by omega, by omega, (fun q => by unfold lt; omega), (fun q => by unfold lt; omega)⟩
    · refine hq_p rfl rfl (ty_ge (n := -1) nk_im1 (fun z29 ez29 => ?_))
      refine hq_p rfl rfl ?_
      refine hq_p (ls' := [some (.ref 0), some (.int x1), some (.int z29)]) rfl rfl ?_
      refine hq_p rfl rfl ?_
      refine hq_gR I.1 rfl rfl (by decide) (by decide) rfl ?_
      refine hq_gR I.1 rfl rfl (by decide) (by decide) rfl ?_
      refine hq_p rfl rfl ?_
      refine ty_aL I rfl rfl (by decide) (by omega) (by omega) (fun _ _ => ty_le rfl) (fun z30 ez30 az30 bz30 => ?_)
      have nz30 : z30.toInt = ((hs_aI h 63) x1.toInt.toNat).toInt := ez30
      refine hq_p rfl rfl ?_
      refine hq_gR I.1 rfl rfl (by decide) (by decide) rfl ?_
      refine hq_gR I.1 rfl rfl (by decide) (by decide) rfl ?_
      refine hq_p rfl rfl ?_
      refine hq_p rfl rfl (ty_ge (n := 1) nk_i1 (fun z31 ez31 => ?_))
      refine hq_p rfl rfl (ty_ge (n := x1.toInt + z31.toInt) (nm_add (by omega) (by omega)) (fun z32 ez32 => ?_))
      refine ty_aL I rfl rfl (by decide) (by omega) (by omega) (fun _ _ => ty_le rfl) (fun z33 ez33 az33 bz33 => ?_)
      have nz33 : z33.toInt = ((hs_aI h 63) (x1.toInt + 1).toNat).toInt := by rw [ez33, show z32.toInt.toNat = (x1.toInt + 1).toNat by omega]
      refine hq_p rfl rfl ?_
      refine ty_callp 1 I rfl (fun _ => rfl) rfl rfl rfl rfl (ct_129e (x0 := z30) (x1 := z33) (x2 := z29) (by omega)) (fun _ P34 => ?_)
      obtain ⟨z35, rfl, az35, bz35, iz35, jz35⟩ := P34
      refine ty_zne rfl (fun c36 => ?_) (fun c36 => ?_)
      · replace c36 : 1 ≤ z35.toInt ∧ z35.toInt ≤ 1 := by omega
        have yz35 := iz35 (by omega)
        clear iz35 jz35
        refine hq_p rfl rfl ?_
        obtain ⟨t37, kt37⟩ : ∃ q, hs_fR h 0 0 = q := ⟨_, rfl⟩
        refine ty_gT I rfl rfl (by decide) (by decide) rfl kt37 (fun ot37 => ?_)
        have pt37 : ty_tr t37 := by rcases ot37 with rfl | rfl; exact Or.inl rfl; exact Or.inr (Or.inl rfl)
        have lt37 := ty_trl pt37
        clear ot37
        refine hq_p rfl rfl ?_
        refine hq_gR I.1 rfl rfl (by decide) (by decide) rfl ?_
        refine hq_gR I.1 rfl rfl (by decide) (by decide) rfl ?_
        refine hq_p rfl rfl ?_
        refine ty_aL I rfl rfl (by decide) (by omega) (by omega) (fun _ _ => ty_le rfl) (fun z38 ez38 az38 bz38 => ?_)
        have nz38 : z38.toInt = ((hs_aI h 63) x1.toInt.toNat).toInt := ez38
        refine hq_p rfl rfl ?_
        refine hq_gR I.1 rfl rfl (by decide) (by decide) rfl ?_
        refine hq_gR I.1 rfl rfl (by decide) (by decide) rfl ?_
        refine hq_p rfl rfl ?_
        refine hq_p rfl rfl (ty_ge (n := 1) nk_i1 (fun z39 ez39 => ?_))
        refine hq_p rfl rfl (ty_ge (n := x1.toInt + z39.toInt) (nm_add (by omega) (by omega)) (fun z40 ez40 => ?_))
        refine ty_aL I rfl rfl (by decide) (by omega) (by omega) (fun _ _ => ty_le rfl) (fun z41 ez41 az41 bz41 => ?_)
        have nz41 : z41.toInt = ((hs_aI h 63) (x1.toInt + 1).toNat).toInt := by rw [ez41, show z40.toInt.toNat = (x1.toInt + 1).toNat by omega]
        refine hq_p rfl rfl ?_
        refine ty_callj 0 (W := ty_Wc) H hJ rfl (fun _ => rfl) rfl rfl rfl (hq_pre_o I.1 (x := t37) (ci := 8) (ty_trs pt37) (by omega) rfl rfl rfl rfl) (fun _ _ w => w) (fun _ w => w) (ct_76 (t0 := t37) (x1 := z38) (x2 := z41) (x3 := z29) (by omega) pt37) (fun h43 _ Jh43 P42 => ?_)
        have Ih43 := H.1 h43 Jh43
        subst P42
        refine hq_p rfl rfl (ty_ge (n := 1) nk_i1 (fun z44 ez44 => ?_))
        exact ty_rB rfl rfl (by omega) (by omega) ⟨Jh43, _, rfl, by omega, by omega, (fun q => by unfold lt; omega), (fun q => by unfold lt; omega)⟩
      · have yz35 := jz35 (by omega)
        clear iz35 jz35
        refine hq_p rfl rfl (ty_ge (n := 0) nk_i0 (fun z45 ez45 => ?_))
        exact ty_rB rfl rfl (by omega) (by omega) ⟨hJ, _, rfl, by omega, by omega, (fun q => by unfold lt; omega), (fun q => by unfold lt; omega)⟩
  · refine hq_p rfl rfl (ty_ge (n := 0) nk_i0 (fun z46 ez46 => ?_))
    exact ty_rB rfl rfl (by omega) (by omega) ⟨hJ, _, rfl, by omega, by omega, (fun q => by unfold lt; omega), (fun q => by unfold lt; omega)⟩
end CT40
