/-! CONTRACTS (printed by wip/pm/cts.py) -/
section CT66
set_option maxRecDepth 20000 in
set_option maxHeartbeats 4000000 in
theorem tb_8 {X : pm_X} {d L n : Nat} {xs : Nat → Int32} {h : pm_H} {i0 : Int32} {Q : pm_H → Option Value → Prop} (hd : 120 ≤ d) (hX : ty_SX X) (hS : ∀ h, pm_arr X h (.retAddr 200) = some (0, L, .inl xs)) (hL : L ≤ 3072) (a0 : 0 ≤ i0.toInt) (b0 : i0.toInt + 6 ≤ L) (hK : tq_K n h) (K : ∀ h1, tq_K (n + 1) h1 → hq_W X d 12 false (some .boolean) pm_cL (1205, [some (.retAddr 200), some (.ref 0), some (.ref 97), some (.int i0)], [], h1) Q) : hq_W X d 12 false (some .boolean) pm_cL (476, [some (.retAddr 200), some (.ref 0), some (.ref 97), some (.int i0)], [], h) Q := by
  obtain ⟨T, hJ0, hr⟩ := hK
  obtain ⟨⟨j0, eT⟩, eS⟩ := hJ0
  have H := tp_CUb (hs_fR h 0 0) (hs_fR h 0 1) n T h
  have hJ : tp_UF (hs_fR h 0 0) (hs_fR h 0 1) n T h h := ⟨⟨⟨j0, eT⟩, rfl, rfl⟩, fr_refl h _⟩
  have I := H.1 h hJ
  refine hq_p rfl rfl ?_
  refine hq_p rfl rfl ?_
  refine hq_p rfl rfl ?_
  refine hq_p rfl rfl (ty_ge (n := 1) nk_i1 (fun z1 ez1 => ?_))
  refine hq_p rfl rfl (ty_ge (n := i0.toInt + z1.toInt) (nm_add (by omega) (by omega)) (fun z2 ez2 => ?_))
  refine hq_iald rfl (hS h) (hs_in (by omega) (by omega)) (ty_ga (fun z3 az3 bz3 => ?_))
  refine hq_p rfl rfl ?_
  refine hq_p rfl rfl ?_
  refine hq_p rfl rfl (ty_ge (n := 2) nk_i2 (fun z4 ez4 => ?_))
  refine hq_p rfl rfl (ty_ge (n := i0.toInt + z4.toInt) (nm_add (by omega) (by omega)) (fun z5 ez5 => ?_))
  refine hq_iald rfl (hS h) (hs_in (by omega) (by omega)) (ty_ga (fun z6 az6 bz6 => ?_))
  refine hq_p rfl rfl ?_
  refine hq_p rfl rfl ?_
  refine hq_p rfl rfl (ty_ge (n := 3) nk_i3 (fun z7 ez7 => ?_))
  refine hq_p rfl rfl (ty_ge (n := i0.toInt + z7.toInt) (nm_add (by omega) (by omega)) (fun z8 ez8 => ?_))
  refine hq_iald rfl (hS h) (hs_in (by omega) (by omega)) (ty_ga (fun z9 az9 bz9 => ?_))
  refine hq_p rfl rfl ?_
  refine hq_p rfl rfl ?_
  refine hq_p rfl rfl (ty_ge (n := 4) nk_i4 (fun z10 ez10 => ?_))
  refine hq_p rfl rfl (ty_ge (n := i0.toInt + z10.toInt) (nm_add (by omega) (by omega)) (fun z11 ez11 => ?_))
  refine hq_iald rfl (hS h) (hs_in (by omega) (by omega)) (ty_ga (fun z12 az12 bz12 => ?_))
  refine hq_p rfl rfl ?_
  refine hq_p rfl rfl ?_
  refine hq_p rfl rfl (ty_ge (n := 5) nk_i5 (fun z13 ez13 => ?_))
  refine hq_p rfl rfl (ty_ge (n := i0.toInt + z13.toInt) (nm_add (by omega) (by omega)) (fun z14 ez14 => ?_))
  refine hq_iald rfl (hS h) (hs_in (by omega) (by omega)) (ty_ga (fun z15 az15 bz15 => ?_))
  refine ty_callj 0 (W := ty_W6b) H hJ rfl (fun _ => rfl) rfl rfl rfl (hq_pre_o I.1 (x := 0) (ci := 10) rfl (by decide) rfl rfl rfl rfl) (fun a k w => by unfold ty_Wf at w; unfold ty_W6b; omega) (by unfold ty_Wf ty_W6b; omega) (ct_91 (x1 := z3) (x2 := z6) (x3 := z9) (x4 := z12) (x5 := z15) (by omega)) (fun h17 _ Jh17 P16 => ?_)
  have Ih17 := H.1 h17 Jh17
  obtain ⟨⟨z18, rfl, fz18⟩, sz18⟩ := P16
  have az18 := nm_lo z18
  have bz18 := nm_hi z18
  refine hq_p rfl rfl ?_
  obtain ⟨S1, eS1⟩ : ∃ q : Int, (hs_fI h17 62 1).toInt = q := ⟨_, rfl⟩
  have eT1 := Jh17.1.1.2
  have hV : tp_VF (hs_fR h 0 0) (hs_fR h 0 1) n S1 h h17 := ⟨⟨⟨Jh17.1.1.1, eS1⟩, Jh17.1.2⟩, Jh17.2⟩
  have H := tp_CVb (hs_fR h 0 0) (hs_fR h 0 1) n S1 h
  refine hq_p rfl rfl ?_
  refine hq_p rfl rfl ?_
  refine hq_p rfl rfl ?_
  refine hq_p rfl rfl (ty_ge (n := 1) nk_i1 (fun z19 ez19 => ?_))
  refine hq_p rfl rfl (ty_ge (n := i0.toInt + z19.toInt) (nm_add (by omega) (by omega)) (fun z20 ez20 => ?_))
  refine hq_iald rfl (hS h17) (hs_in (by omega) (by omega)) (ty_ga (fun z21 az21 bz21 => ?_))
  refine hq_p rfl rfl ?_
  refine hq_p rfl rfl ?_
  refine hq_p rfl rfl (ty_ge (n := 2) nk_i2 (fun z22 ez22 => ?_))
  refine hq_p rfl rfl (ty_ge (n := i0.toInt + z22.toInt) (nm_add (by omega) (by omega)) (fun z23 ez23 => ?_))
  refine hq_iald rfl (hS h17) (hs_in (by omega) (by omega)) (ty_ga (fun z24 az24 bz24 => ?_))
  refine hq_p rfl rfl ?_
  refine hq_p rfl rfl ?_
  refine hq_p rfl rfl (ty_ge (n := 3) nk_i3 (fun z25 ez25 => ?_))
  refine hq_p rfl rfl (ty_ge (n := i0.toInt + z25.toInt) (nm_add (by omega) (by omega)) (fun z26 ez26 => ?_))
  refine hq_iald rfl (hS h17) (hs_in (by omega) (by omega)) (ty_ga (fun z27 az27 bz27 => ?_))
  refine hq_p rfl rfl ?_
  refine hq_p rfl rfl ?_
  refine hq_p rfl rfl (ty_ge (n := 4) nk_i4 (fun z28 ez28 => ?_))
  refine hq_p rfl rfl (ty_ge (n := i0.toInt + z28.toInt) (nm_add (by omega) (by omega)) (fun z29 ez29 => ?_))
  refine hq_iald rfl (hS h17) (hs_in (by omega) (by omega)) (ty_ga (fun z30 az30 bz30 => ?_))
  refine hq_p rfl rfl ?_
  refine hq_p rfl rfl ?_
  refine hq_p rfl rfl (ty_ge (n := 5) nk_i5 (fun z31 ez31 => ?_))
  refine hq_p rfl rfl (ty_ge (n := i0.toInt + z31.toInt) (nm_add (by omega) (by omega)) (fun z32 ez32 => ?_))
  refine hq_iald rfl (hS h17) (hs_in (by omega) (by omega)) (ty_ga (fun z33 az33 bz33 => ?_))
  refine ty_callj 0 (W := ty_W7b) H hV rfl (fun _ => rfl) rfl rfl rfl (hq_pre_o Ih17.1 (x := 97) (ci := 11) rfl (by decide) rfl rfl rfl rfl) (fun a k w => by unfold ty_Wg at w; unfold ty_W7b; omega) (by unfold ty_Wg ty_W7b; omega) (ct_167 (x1 := z21) (x2 := z24) (x3 := z27) (x4 := z30) (x5 := z33) (by omega)) (fun h35 _ Jh35 P34 => ?_)
  have Ih35 := H.1 h35 Jh35
  obtain ⟨⟨z36, rfl, fz36⟩, sz36⟩ := P34
  have az36 := nm_lo z36
  have bz36 := nm_hi z36
  refine hq_p rfl rfl ?_
  refine hq_p rfl rfl ?_
  exact K h35 ⟨S1, ⟨⟨tp_S Jh35.1.1.1, by omega⟩, Jh35.1.1.2⟩, rl_b hr Jh35.1.2.1 Jh35.1.2.2 Jh35.2⟩
set_option maxRecDepth 20000 in
set_option maxHeartbeats 4000000 in
theorem tb_9 {X : pm_X} {d L n : Nat} {xs : Nat → Int32} {h : pm_H} {i0 : Int32} {Q : pm_H → Option Value → Prop} (hd : 120 ≤ d) (hX : ty_SX X) (hS : ∀ h, pm_arr X h (.retAddr 200) = some (0, L, .inl xs)) (hL : L ≤ 3072) (a0 : 0 ≤ i0.toInt) (b0 : i0.toInt + 6 ≤ L) (hK : tq_K n h) (K : ∀ h1, tq_K (n + 1) h1 → hq_W X d 12 false (some .boolean) pm_cL (1205, [some (.retAddr 200), some (.ref 0), some (.ref 97), some (.int i0)], [], h1) Q) : hq_W X d 12 false (some .boolean) pm_cL (539, [some (.retAddr 200), some (.ref 0), some (.ref 97), some (.int i0)], [], h) Q := by
  obtain ⟨T, hJ0, hr⟩ := hK
  obtain ⟨⟨j0, eT⟩, eS⟩ := hJ0
  have H := tp_CUb (hs_fR h 0 0) (hs_fR h 0 1) n T h
  have hJ : tp_UF (hs_fR h 0 0) (hs_fR h 0 1) n T h h := ⟨⟨⟨j0, eT⟩, rfl, rfl⟩, fr_refl h _⟩
  have I := H.1 h hJ
  refine hq_p rfl rfl ?_
  refine hq_p rfl rfl ?_
  refine hq_p rfl rfl ?_
  refine hq_p rfl rfl (ty_ge (n := 1) nk_i1 (fun z1 ez1 => ?_))
  refine hq_p rfl rfl (ty_ge (n := i0.toInt + z1.toInt) (nm_add (by omega) (by omega)) (fun z2 ez2 => ?_))
  refine hq_iald rfl (hS h) (hs_in (by omega) (by omega)) (ty_ge rfl (fun z3 ez3 => ?_))
  have az3 := nm_lo z3
  have bz3 := nm_hi z3
  refine ty_callj 0 (W := ty_W6b) H hJ rfl (fun _ => rfl) rfl rfl rfl (hq_pre_o I.1 (x := 0) (ci := 10) rfl (by decide) rfl rfl rfl rfl) (fun a k w => by unfold ty_Wf at w; unfold ty_W6b; omega) (by unfold ty_Wf ty_W6b; omega) (ct_92 (x1 := z3) (by omega)) (fun h5 _ Jh5 P4 => ?_)
  have Ih5 := H.1 h5 Jh5
  obtain ⟨⟨z6, rfl, fz6⟩, sz6⟩ := P4
  have az6 := nm_lo z6
  have bz6 := nm_hi z6
  refine hq_p rfl rfl ?_
  obtain ⟨S1, eS1⟩ : ∃ q : Int, (hs_fI h5 62 1).toInt = q := ⟨_, rfl⟩
  have eT1 := Jh5.1.1.2
  have hV : tp_VF (hs_fR h 0 0) (hs_fR h 0 1) n S1 h h5 := ⟨⟨⟨Jh5.1.1.1, eS1⟩, Jh5.1.2⟩, Jh5.2⟩
  have H := tp_CVb (hs_fR h 0 0) (hs_fR h 0 1) n S1 h
  refine hq_p rfl rfl ?_
  refine hq_p rfl rfl ?_
  refine hq_p rfl rfl ?_
  refine hq_p rfl rfl (ty_ge (n := 1) nk_i1 (fun z7 ez7 => ?_))
  refine hq_p rfl rfl (ty_ge (n := i0.toInt + z7.toInt) (nm_add (by omega) (by omega)) (fun z8 ez8 => ?_))
  refine hq_iald rfl (hS h5) (hs_in (by omega) (by omega)) (ty_ge rfl (fun z9 ez9 => ?_))
  have az9 := nm_lo z9
  have bz9 := nm_hi z9
  have qz9 : z9.toInt = z3.toInt := by rw [ez9, ez3, show z8.toNatClampNeg = z2.toNatClampNeg by rw [nm_nat, nm_nat]; omega]
  clear ez9 ez3
  refine ty_callj 0 (W := ty_W7b) H hV rfl (fun _ => rfl) rfl rfl rfl (hq_pre_o Ih5.1 (x := 97) (ci := 11) rfl (by decide) rfl rfl rfl rfl) (fun a k w => by unfold ty_Wg at w; unfold ty_W7b; omega) (by unfold ty_Wg ty_W7b; omega) (ct_168 (x1 := z9) (by omega)) (fun h11 _ Jh11 P10 => ?_)
  have Ih11 := H.1 h11 Jh11
  obtain ⟨⟨z12, rfl, fz12⟩, sz12⟩ := P10
  have az12 := nm_lo z12
  have bz12 := nm_hi z12
  refine hq_p rfl rfl ?_
  refine hq_p rfl rfl ?_
  exact K h11 ⟨S1, ⟨⟨tp_S Jh11.1.1.1, by omega⟩, Jh11.1.1.2⟩, rl_b hr Jh11.1.2.1 Jh11.1.2.2 Jh11.2⟩
set_option maxRecDepth 20000 in
set_option maxHeartbeats 4000000 in
theorem tb_10 {X : pm_X} {d L n : Nat} {xs : Nat → Int32} {h : pm_H} {i0 : Int32} {Q : pm_H → Option Value → Prop} (hd : 120 ≤ d) (hX : ty_SX X) (hS : ∀ h, pm_arr X h (.retAddr 200) = some (0, L, .inl xs)) (hL : L ≤ 3072) (a0 : 0 ≤ i0.toInt) (b0 : i0.toInt + 6 ≤ L) (hK : tq_K n h) (K : ∀ h1, tq_K (n + 1) h1 → hq_W X d 12 false (some .boolean) pm_cL (1205, [some (.retAddr 200), some (.ref 0), some (.ref 97), some (.int i0)], [], h1) Q) : hq_W X d 12 false (some .boolean) pm_cL (562, [some (.retAddr 200), some (.ref 0), some (.ref 97), some (.int i0)], [], h) Q := by
  obtain ⟨T, hJ0, hr⟩ := hK
  obtain ⟨⟨j0, eT⟩, eS⟩ := hJ0
  have H := tp_CUb (hs_fR h 0 0) (hs_fR h 0 1) n T h
  have hJ : tp_UF (hs_fR h 0 0) (hs_fR h 0 1) n T h h := ⟨⟨⟨j0, eT⟩, rfl, rfl⟩, fr_refl h _⟩
  have I := H.1 h hJ
  refine hq_p rfl rfl ?_
  refine ty_callj 0 (W := ty_W6b) H hJ rfl (fun _ => rfl) rfl rfl rfl (hq_pre_o I.1 (x := 0) (ci := 10) rfl (by decide) rfl rfl rfl rfl) (fun a k w => by unfold ty_Wc1 at w; unfold ty_W6b; omega) (by unfold ty_Wc1 ty_W6b; omega) (ct_93 (by omega)) (fun h2 _ Jh2 P1 => ?_)
  have Ih2 := H.1 h2 Jh2
  obtain ⟨⟨z3, rfl⟩, sz3⟩ := P1
  have az3 := nm_lo z3
  have bz3 := nm_hi z3
  refine hq_p rfl rfl ?_
  obtain ⟨S1, eS1⟩ : ∃ q : Int, (hs_fI h2 62 1).toInt = q := ⟨_, rfl⟩
  have eT1 := Jh2.1.1.2
  have hV : tp_VF (hs_fR h 0 0) (hs_fR h 0 1) n S1 h h2 := ⟨⟨⟨Jh2.1.1.1, eS1⟩, Jh2.1.2⟩, Jh2.2⟩
  have H := tp_CVb (hs_fR h 0 0) (hs_fR h 0 1) n S1 h
  refine hq_p rfl rfl ?_
  refine ty_callj 0 (W := ty_W7b) H hV rfl (fun _ => rfl) rfl rfl rfl (hq_pre_o Ih2.1 (x := 97) (ci := 11) rfl (by decide) rfl rfl rfl rfl) (fun a k w => by unfold ty_Wrow at w; unfold ty_W7b; omega) (by unfold ty_Wrow ty_W7b; omega) (ct_164 (by omega)) (fun h5 _ Jh5 P4 => ?_)
  have Ih5 := H.1 h5 Jh5
  obtain ⟨⟨z6, rfl⟩, sz6⟩ := P4
  have az6 := nm_lo z6
  have bz6 := nm_hi z6
  refine hq_p rfl rfl ?_
  refine hq_p rfl rfl ?_
  exact K h5 ⟨S1, ⟨⟨tp_S Jh5.1.1.1, by omega⟩, Jh5.1.1.2⟩, rl_b hr Jh5.1.2.1 Jh5.1.2.2 Jh5.2⟩
end CT66
