/-! CONTRACTS (printed by wip/pm/cts.py) -/
section CT63
set_option maxRecDepth 20000 in
set_option maxHeartbeats 4000000 in
theorem tb_8 {X : pm_X} {d L n : Nat} {xs : Nat → Int32} {h : pm_H} {i0 : Int32} {Q : pm_H → Option Value → Prop} (hd : 120 ≤ d) (hX : ty_SX X) (hS : ∀ h, pm_arr X h (.retAddr 200) = some (0, L, .inl xs)) (hL : L ≤ 3072) (a0 : 0 ≤ i0.toInt) (b0 : i0.toInt + 6 ≤ L) (hK : tq_K n h) (K : ∀ h1, tq_K (n + 1) h1 → hq_W X d 12 false (some .boolean) pm_cL (1205, [some (.retAddr 200), some (.ref 0), some (.ref 97), some (.int i0)], [], h1) Q) : hq_W X d 12 false (some .boolean) pm_cL (476, [some (.retAddr 200), some (.ref 0), some (.ref 97), some (.int i0)], [], h) Q := by
  obtain ⟨T, hJ0, hr⟩ := hK
  obtain ⟨⟨j0, eT⟩, eS⟩ := hJ0
  have H := tp_CUf n T h
  have hJ : tp_UG [(3, 106, 0), (0, 0, 15), (0, 97, 11)] n T h h := ⟨⟨j0, eT⟩, fr_refl h _⟩
  have I := H.1 h hJ
  refine hq_p rfl rfl ?_
  refine hq_p rfl rfl ?_
  refine hq_p rfl rfl ?_
  refine hq_p rfl rfl (ty_ge (n := 1) nk_i1 (fun z1 ez1 => ?_))
  refine hq_p rfl rfl (ty_ge (n := i0.toInt + z1.toInt) (nm_add (by omega) (by omega)) (fun z2 ez2 => ?_))
  refine hq_iald rfl (hS h) (hs_in (by omega) (by omega)) (ty_ge rfl (fun z3 ez3 => ?_))
  have az3 := nm_lo z3
  have bz3 := nm_hi z3
  refine hq_p rfl rfl ?_
  refine hq_p rfl rfl ?_
  refine hq_p rfl rfl (ty_ge (n := 2) nk_i2 (fun z4 ez4 => ?_))
  refine hq_p rfl rfl (ty_ge (n := i0.toInt + z4.toInt) (nm_add (by omega) (by omega)) (fun z5 ez5 => ?_))
  refine hq_iald rfl (hS h) (hs_in (by omega) (by omega)) (ty_ge rfl (fun z6 ez6 => ?_))
  have az6 := nm_lo z6
  have bz6 := nm_hi z6
  refine hq_p rfl rfl ?_
  refine hq_p rfl rfl ?_
  refine hq_p rfl rfl (ty_ge (n := 3) nk_i3 (fun z7 ez7 => ?_))
  refine hq_p rfl rfl (ty_ge (n := i0.toInt + z7.toInt) (nm_add (by omega) (by omega)) (fun z8 ez8 => ?_))
  refine hq_iald rfl (hS h) (hs_in (by omega) (by omega)) (ty_ge rfl (fun z9 ez9 => ?_))
  have az9 := nm_lo z9
  have bz9 := nm_hi z9
  refine hq_p rfl rfl ?_
  refine hq_p rfl rfl ?_
  refine hq_p rfl rfl (ty_ge (n := 4) nk_i4 (fun z10 ez10 => ?_))
  refine hq_p rfl rfl (ty_ge (n := i0.toInt + z10.toInt) (nm_add (by omega) (by omega)) (fun z11 ez11 => ?_))
  refine hq_iald rfl (hS h) (hs_in (by omega) (by omega)) (ty_ge rfl (fun z12 ez12 => ?_))
  have az12 := nm_lo z12
  have bz12 := nm_hi z12
  refine hq_p rfl rfl ?_
  refine hq_p rfl rfl ?_
  refine hq_p rfl rfl (ty_ge (n := 5) nk_i5 (fun z13 ez13 => ?_))
  refine hq_p rfl rfl (ty_ge (n := i0.toInt + z13.toInt) (nm_add (by omega) (by omega)) (fun z14 ez14 => ?_))
  refine hq_iald rfl (hS h) (hs_in (by omega) (by omega)) (ty_ge rfl (fun z15 ez15 => ?_))
  have az15 := nm_lo z15
  have bz15 := nm_hi z15
  refine ty_callj 0 (W := ty_Wf) H hJ rfl (fun _ => rfl) rfl rfl rfl (hq_pre_o I.1 (x := 0) (ci := 10) rfl (by decide) rfl rfl rfl rfl) (fun _ _ w => w) (fun _ w => w) (ct_91t (x1 := z3) (x2 := z6) (x3 := z9) (x4 := z12) (x5 := z15) (by omega)) (fun h17 _ Jh17 P16 => ?_)
  have Ih17 := H.1 h17 Jh17
  obtain ⟨⟨z18, rfl, fz18⟩, sz18, tz18⟩ := P16
  have az18 := nm_lo z18
  have bz18 := nm_hi z18
  refine hq_p rfl rfl ?_
  obtain ⟨S1, eS1⟩ : ∃ q : Int, (hs_fI h17 62 1).toInt = q := ⟨_, rfl⟩
  have eT1 := Jh17.1.2
  have H := tp_CVf n S1 h17
  have hV : tp_VG [(3, 63, 0), (0, 0, 15), (0, 97, 11)] n S1 h17 h17 := ⟨⟨Jh17.1.1, eS1⟩, fr_refl _ _⟩
  refine hq_p rfl rfl ?_
  refine hq_p rfl rfl ?_
  refine hq_p rfl rfl ?_
  refine hq_p rfl rfl (ty_ge (n := 1) nk_i1 (fun z19 ez19 => ?_))
  refine hq_p rfl rfl (ty_ge (n := i0.toInt + z19.toInt) (nm_add (by omega) (by omega)) (fun z20 ez20 => ?_))
  refine hq_iald rfl (hS h17) (hs_in (by omega) (by omega)) (ty_ge rfl (fun z21 ez21 => ?_))
  have az21 := nm_lo z21
  have bz21 := nm_hi z21
  have qz21 : z21.toInt = z3.toInt := by rw [ez21, ez3, show z20.toNatClampNeg = z2.toNatClampNeg by rw [nm_nat, nm_nat]; omega]
  clear ez21 ez3
  refine hq_p rfl rfl ?_
  refine hq_p rfl rfl ?_
  refine hq_p rfl rfl (ty_ge (n := 2) nk_i2 (fun z22 ez22 => ?_))
  refine hq_p rfl rfl (ty_ge (n := i0.toInt + z22.toInt) (nm_add (by omega) (by omega)) (fun z23 ez23 => ?_))
  refine hq_iald rfl (hS h17) (hs_in (by omega) (by omega)) (ty_ge rfl (fun z24 ez24 => ?_))
  have az24 := nm_lo z24
  have bz24 := nm_hi z24
  have qz24 : z24.toInt = z6.toInt := by rw [ez24, ez6, show z23.toNatClampNeg = z5.toNatClampNeg by rw [nm_nat, nm_nat]; omega]
  clear ez24 ez6
  refine hq_p rfl rfl ?_
  refine hq_p rfl rfl ?_
  refine hq_p rfl rfl (ty_ge (n := 3) nk_i3 (fun z25 ez25 => ?_))
  refine hq_p rfl rfl (ty_ge (n := i0.toInt + z25.toInt) (nm_add (by omega) (by omega)) (fun z26 ez26 => ?_))
  refine hq_iald rfl (hS h17) (hs_in (by omega) (by omega)) (ty_ge rfl (fun z27 ez27 => ?_))
  have az27 := nm_lo z27
  have bz27 := nm_hi z27
  have qz27 : z27.toInt = z9.toInt := by rw [ez27, ez9, show z26.toNatClampNeg = z8.toNatClampNeg by rw [nm_nat, nm_nat]; omega]
  clear ez27 ez9
  refine hq_p rfl rfl ?_
  refine hq_p rfl rfl ?_
  refine hq_p rfl rfl (ty_ge (n := 4) nk_i4 (fun z28 ez28 => ?_))
  refine hq_p rfl rfl (ty_ge (n := i0.toInt + z28.toInt) (nm_add (by omega) (by omega)) (fun z29 ez29 => ?_))
  refine hq_iald rfl (hS h17) (hs_in (by omega) (by omega)) (ty_ge rfl (fun z30 ez30 => ?_))
  have az30 := nm_lo z30
  have bz30 := nm_hi z30
  have qz30 : z30.toInt = z12.toInt := by rw [ez30, ez12, show z29.toNatClampNeg = z11.toNatClampNeg by rw [nm_nat, nm_nat]; omega]
  clear ez30 ez12
  refine hq_p rfl rfl ?_
  refine hq_p rfl rfl ?_
  refine hq_p rfl rfl (ty_ge (n := 5) nk_i5 (fun z31 ez31 => ?_))
  refine hq_p rfl rfl (ty_ge (n := i0.toInt + z31.toInt) (nm_add (by omega) (by omega)) (fun z32 ez32 => ?_))
  refine hq_iald rfl (hS h17) (hs_in (by omega) (by omega)) (ty_ge rfl (fun z33 ez33 => ?_))
  have az33 := nm_lo z33
  have bz33 := nm_hi z33
  have qz33 : z33.toInt = z15.toInt := by rw [ez33, ez15, show z32.toNatClampNeg = z14.toNatClampNeg by rw [nm_nat, nm_nat]; omega]
  clear ez33 ez15
  refine ty_callj 0 (W := ty_Wg) H hV rfl (fun _ => rfl) rfl rfl rfl (hq_pre_o Ih17.1 (x := 97) (ci := 11) rfl (by decide) rfl rfl rfl rfl) (fun _ _ w => w) (fun _ w => w) (ct_167t (x1 := z21) (x2 := z24) (x3 := z27) (x4 := z30) (x5 := z33) (by omega)) (fun h35 _ Jh35 P34 => ?_)
  have Ih35 := H.1 h35 Jh35
  obtain ⟨⟨z36, rfl, fz36⟩, sz36, tz36⟩ := P34
  have az36 := nm_lo z36
  have bz36 := nm_hi z36
  obtain ⟨x0, x1, x2, _⟩ := Jh17.2
  have x0 : hs_aI h17 106 = hs_aI h 106 := x0
  have x1 : (hs_fI h17 0 15).toInt = (hs_fI h 0 15).toInt := x1
  have x2 : (hs_fI h17 97 11).toInt = (hs_fI h 97 11).toInt := x2
  obtain ⟨y0, y1, y2, _⟩ := Jh35.2
  have y0 : hs_aI h35 63 = hs_aI h17 63 := y0
  have y1 : (hs_fI h35 0 15).toInt = (hs_fI h17 0 15).toInt := y1
  have y2 : (hs_fI h35 97 11).toInt = (hs_fI h17 97 11).toInt := y2
  have e2 := hr.2
  have eSE := Jh35.1.2
  refine hq_p rfl rfl ?_
  refine hq_p rfl rfl ?_
  have aa : ∀ j : Nat, (j : Int) < S1 → hs_aI h35 63 j = hs_aI h35 106 j := by
    intro j hj
    rw [y0, tz18, tz36]
    by_cases q : (hs_fI h 62 1).toInt ≤ 380
    · rw [if_pos q] at sz18
      rw [if_pos q, if_pos (by omega), x0, show (hs_fI h17 97 13).toInt = (hs_fI h 62 1).toInt by omega]
      exact fd_eq (I.2.1 62 1 (by decide)).1 (fun j hj => hr.1 j (by omega)) (nm_eqi.mpr qz21) (nm_eqi.mpr qz24) (nm_eqi.mpr qz27) (nm_eqi.mpr qz30) (nm_eqi.mpr qz33) j (by omega)
    · rw [if_neg q] at sz18
      rw [if_neg q, if_neg (by omega), x0]
      exact hr.1 j (by omega)
  exact K h35 ⟨S1, ⟨⟨tp_S Jh35.1.1, by omega⟩, Jh35.1.2⟩, aa, by omega⟩
set_option maxRecDepth 20000 in
set_option maxHeartbeats 4000000 in
theorem tb_9 {X : pm_X} {d L n : Nat} {xs : Nat → Int32} {h : pm_H} {i0 : Int32} {Q : pm_H → Option Value → Prop} (hd : 120 ≤ d) (hX : ty_SX X) (hS : ∀ h, pm_arr X h (.retAddr 200) = some (0, L, .inl xs)) (hL : L ≤ 3072) (a0 : 0 ≤ i0.toInt) (b0 : i0.toInt + 6 ≤ L) (hK : tq_K n h) (K : ∀ h1, tq_K (n + 1) h1 → hq_W X d 12 false (some .boolean) pm_cL (1205, [some (.retAddr 200), some (.ref 0), some (.ref 97), some (.int i0)], [], h1) Q) : hq_W X d 12 false (some .boolean) pm_cL (539, [some (.retAddr 200), some (.ref 0), some (.ref 97), some (.int i0)], [], h) Q := by
  obtain ⟨T, hJ0, hr⟩ := hK
  obtain ⟨⟨j0, eT⟩, eS⟩ := hJ0
  have H := tp_CUe n T h
  have hJ : tp_UG [(3, 63, 0), (3, 106, 0), (0, 0, 15), (0, 97, 11)] n T h h := ⟨⟨j0, eT⟩, fr_refl h _⟩
  have I := H.1 h hJ
  refine hq_p rfl rfl ?_
  refine hq_p rfl rfl ?_
  refine hq_p rfl rfl ?_
  refine hq_p rfl rfl (ty_ge (n := 1) nk_i1 (fun z1 ez1 => ?_))
  refine hq_p rfl rfl (ty_ge (n := i0.toInt + z1.toInt) (nm_add (by omega) (by omega)) (fun z2 ez2 => ?_))
  refine hq_iald rfl (hS h) (hs_in (by omega) (by omega)) (ty_ge rfl (fun z3 ez3 => ?_))
  have az3 := nm_lo z3
  have bz3 := nm_hi z3
  refine ty_callj 0 (W := ty_Wfe) H hJ rfl (fun _ => rfl) rfl rfl rfl (hq_pre_o I.1 (x := 0) (ci := 10) rfl (by decide) rfl rfl rfl rfl) (fun _ _ w => w) (fun _ w => w) (ct_92t (x1 := z3) (by omega)) (fun h5 _ Jh5 P4 => ?_)
  have Ih5 := H.1 h5 Jh5
  obtain ⟨⟨z6, rfl, fz6⟩, sz6⟩ := P4
  have az6 := nm_lo z6
  have bz6 := nm_hi z6
  refine hq_p rfl rfl ?_
  obtain ⟨S1, eS1⟩ : ∃ q : Int, (hs_fI h5 62 1).toInt = q := ⟨_, rfl⟩
  have eT1 := Jh5.1.2
  have H := tp_CVe n S1 h5
  have hV : tp_VG [(3, 63, 0), (3, 106, 0), (0, 0, 15), (0, 97, 11)] n S1 h5 h5 := ⟨⟨Jh5.1.1, eS1⟩, fr_refl _ _⟩
  refine hq_p rfl rfl ?_
  refine hq_p rfl rfl ?_
  refine hq_p rfl rfl ?_
  refine hq_p rfl rfl (ty_ge (n := 1) nk_i1 (fun z7 ez7 => ?_))
  refine hq_p rfl rfl (ty_ge (n := i0.toInt + z7.toInt) (nm_add (by omega) (by omega)) (fun z8 ez8 => ?_))
  refine hq_iald rfl (hS h5) (hs_in (by omega) (by omega)) (ty_ge rfl (fun z9 ez9 => ?_))
  have az9 := nm_lo z9
  have bz9 := nm_hi z9
  have qz9 : z9.toInt = z3.toInt := by rw [ez9, ez3, show z8.toNatClampNeg = z2.toNatClampNeg by rw [nm_nat, nm_nat]; omega]
  clear ez9 ez3
  refine ty_callj 0 (W := ty_Wge) H hV rfl (fun _ => rfl) rfl rfl rfl (hq_pre_o Ih5.1 (x := 97) (ci := 11) rfl (by decide) rfl rfl rfl rfl) (fun _ _ w => w) (fun _ w => w) (ct_168t (x1 := z9) (by omega)) (fun h11 _ Jh11 P10 => ?_)
  have Ih11 := H.1 h11 Jh11
  obtain ⟨⟨z12, rfl, fz12⟩, sz12⟩ := P10
  have az12 := nm_lo z12
  have bz12 := nm_hi z12
  obtain ⟨x0, x1, x2, x3, _⟩ := Jh5.2
  have x0 : hs_aI h5 63 = hs_aI h 63 := x0
  have x1 : hs_aI h5 106 = hs_aI h 106 := x1
  have x2 : (hs_fI h5 0 15).toInt = (hs_fI h 0 15).toInt := x2
  have x3 : (hs_fI h5 97 11).toInt = (hs_fI h 97 11).toInt := x3
  obtain ⟨y0, y1, y2, y3, _⟩ := Jh11.2
  have y0 : hs_aI h11 63 = hs_aI h5 63 := y0
  have y1 : hs_aI h11 106 = hs_aI h5 106 := y1
  have y2 : (hs_fI h11 0 15).toInt = (hs_fI h5 0 15).toInt := y2
  have y3 : (hs_fI h11 97 11).toInt = (hs_fI h5 97 11).toInt := y3
  have e2 := hr.2
  have eSE := Jh11.1.2
  refine hq_p rfl rfl ?_
  refine hq_p rfl rfl ?_
  exact K h11 ⟨S1, ⟨⟨tp_S Jh11.1.1, by omega⟩, Jh11.1.2⟩, fun j hj => by rw [y0, y1, x0, x1]; exact hr.1 j (by omega), by omega⟩
set_option maxRecDepth 20000 in
set_option maxHeartbeats 4000000 in
theorem tb_10 {X : pm_X} {d L n : Nat} {xs : Nat → Int32} {h : pm_H} {i0 : Int32} {Q : pm_H → Option Value → Prop} (hd : 120 ≤ d) (hX : ty_SX X) (hS : ∀ h, pm_arr X h (.retAddr 200) = some (0, L, .inl xs)) (hL : L ≤ 3072) (a0 : 0 ≤ i0.toInt) (b0 : i0.toInt + 6 ≤ L) (hK : tq_K n h) (K : ∀ h1, tq_K (n + 1) h1 → hq_W X d 12 false (some .boolean) pm_cL (1205, [some (.retAddr 200), some (.ref 0), some (.ref 97), some (.int i0)], [], h1) Q) : hq_W X d 12 false (some .boolean) pm_cL (562, [some (.retAddr 200), some (.ref 0), some (.ref 97), some (.int i0)], [], h) Q := by
  obtain ⟨T, hJ0, hr⟩ := hK
  obtain ⟨⟨j0, eT⟩, eS⟩ := hJ0
  have H := tp_CUr n T h
  have hJ : tp_UG [(3, 63, 0), (3, 106, 0), (0, 97, 11)] n T h h := ⟨⟨j0, eT⟩, fr_refl h _⟩
  have I := H.1 h hJ
  refine hq_p rfl rfl ?_
  refine ty_callj 0 (W := ty_Wcw) H hJ rfl (fun _ => rfl) rfl rfl rfl (hq_pre_o I.1 (x := 0) (ci := 10) rfl (by decide) rfl rfl rfl rfl) (fun _ _ w => w) (fun _ w => w) (ct_93t (by omega)) (fun h2 _ Jh2 P1 => ?_)
  have Ih2 := H.1 h2 Jh2
  obtain ⟨⟨z3, rfl, fz3⟩, sz3, tz3⟩ := P1
  have az3 := nm_lo z3
  have bz3 := nm_hi z3
  refine hq_p rfl rfl ?_
  obtain ⟨S1, eS1⟩ : ∃ q : Int, (hs_fI h2 62 1).toInt = q := ⟨_, rfl⟩
  have eT1 := Jh2.1.2
  have H := tp_CVr n S1 h2
  have hV : tp_VG [(3, 63, 0), (3, 106, 0), (0, 0, 15)] n S1 h2 h2 := ⟨⟨Jh2.1.1, eS1⟩, fr_refl _ _⟩
  refine hq_p rfl rfl ?_
  refine ty_callj 0 (W := ty_Wrow) H hV rfl (fun _ => rfl) rfl rfl rfl (hq_pre_o Ih2.1 (x := 97) (ci := 11) rfl (by decide) rfl rfl rfl rfl) (fun _ _ w => w) (fun _ w => w) (ct_164t (by omega)) (fun h5 _ Jh5 P4 => ?_)
  have Ih5 := H.1 h5 Jh5
  obtain ⟨⟨z6, rfl, fz6⟩, sz6, tz6⟩ := P4
  have az6 := nm_lo z6
  have bz6 := nm_hi z6
  obtain ⟨x0, x1, x2, _⟩ := Jh2.2
  have x0 : hs_aI h2 63 = hs_aI h 63 := x0
  have x1 : hs_aI h2 106 = hs_aI h 106 := x1
  have x2 : (hs_fI h2 97 11).toInt = (hs_fI h 97 11).toInt := x2
  obtain ⟨y0, y1, y2, _⟩ := Jh5.2
  have y0 : hs_aI h5 63 = hs_aI h2 63 := y0
  have y1 : hs_aI h5 106 = hs_aI h2 106 := y1
  have y2 : (hs_fI h5 0 15).toInt = (hs_fI h2 0 15).toInt := y2
  have e2 := hr.2
  have eSE := Jh5.1.2
  have tE : tc (hs_aI h2 106) (hs_fI h2 97 13).toInt (((hs_fI h2 97 13).toInt + 2) / 3).toNat = tc (hs_aI h 63) (hs_fI h 62 1).toInt (((hs_fI h 62 1).toInt + 2) / 3).toNat := by rw [x1, show (hs_fI h2 97 13).toInt = (hs_fI h 62 1).toInt by omega]; exact (tc_eq (fun j hj => hr.1 j (by omega)) _).symm
  rw [tE] at fz6 tz6
  have ee : z3.toInt = z6.toInt ∧ (hs_fI h2 0 15).toInt = (hs_fI h5 97 11).toInt := by
    by_cases q : (hs_fI h 62 1).toInt = 0
    · rw [if_pos q] at fz3 tz3
      rw [if_pos (by omega)] at fz6 tz6
      omega
    · rw [if_neg q] at fz3 tz3
      rw [if_neg (by omega)] at fz6 tz6
      omega
  obtain ⟨ee, e3⟩ := ee
  clear fz3 fz6 tz3 tz6 tE
  refine hq_p rfl rfl ?_
  refine hq_p rfl rfl ?_
  exact K h5 ⟨S1, ⟨⟨tp_S Jh5.1.1, by omega⟩, Jh5.1.2⟩, fun j hj => by exfalso; omega, by omega⟩
end CT63
