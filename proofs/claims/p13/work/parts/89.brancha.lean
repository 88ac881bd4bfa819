/-! CONTRACTS (printed by wip/pm/cts.py) -/
section CT61
set_option maxRecDepth 20000 in
set_option maxHeartbeats 4000000 in
theorem tb_0 {X : pm_X} {d L n : Nat} {xs : Nat → Int32} {h : pm_H} {i0 : Int32} {Q : pm_H → Option Value → Prop} (hd : 120 ≤ d) (hX : ty_SX X) (hS : ∀ h, pm_arr X h (.retAddr 200) = some (0, L, .inl xs)) (hL : L ≤ 3072) (a0 : 0 ≤ i0.toInt) (b0 : i0.toInt + 6 ≤ L) (hK : tq_K n h) (K : ∀ h1, tq_K (n + 1) h1 → hq_W X d 12 false (some .boolean) pm_cL (1205, [some (.retAddr 200), some (.ref 0), some (.ref 97), some (.int i0)], [], h1) Q) : hq_W X d 12 false (some .boolean) pm_cL (212, [some (.retAddr 200), some (.ref 0), some (.ref 97), some (.int i0)], [], h) Q := by
  obtain ⟨T, hJ0, hr⟩ := hK
  have H := tp_CG n T h
  have hJ : tp_G n T h h := ⟨hJ0, fr_refl h _⟩
  have I := H.1 h hJ
  refine hq_p rfl rfl ?_
  refine hq_p rfl rfl ?_
  refine hq_p rfl rfl ?_
  refine hq_p rfl rfl (ty_ge (n := 1) nk_i1 (fun z1 ez1 => ?_))
  refine hq_p rfl rfl (ty_ge (n := i0.toInt + z1.toInt) (nm_add (by omega) (by omega)) (fun z2 ez2 => ?_))
  refine hq_iald rfl (hS h) (hs_in (by omega) (by omega)) (ty_ga (fun z3 az3 bz3 => ?_))
  refine ty_callj 0 (W := ty_W2t) H hJ rfl (fun _ => rfl) rfl rfl rfl (hq_pre_o I.1 (x := 0) (ci := 10) rfl (by decide) rfl rfl rfl rfl) (fun a k w => by unfold ty_Wc at w; unfold ty_W2t; omega) (by unfold ty_Wc ty_W2t; omega) (ct_83 (x1 := z3) (by omega)) (fun h5 _ Jh5 P4 => ?_)
  have Ih5 := H.1 h5 Jh5
  obtain ⟨z6, rfl, az6, bz6⟩ := P4
  refine hq_p rfl rfl ?_
  refine hq_p rfl rfl ?_
  refine hq_p rfl rfl ?_
  refine hq_p rfl rfl ?_
  refine hq_p rfl rfl (ty_ge (n := 1) nk_i1 (fun z7 ez7 => ?_))
  refine hq_p rfl rfl (ty_ge (n := i0.toInt + z7.toInt) (nm_add (by omega) (by omega)) (fun z8 ez8 => ?_))
  refine hq_iald rfl (hS h5) (hs_in (by omega) (by omega)) (ty_ga (fun z9 az9 bz9 => ?_))
  refine ty_callj 0 (W := ty_W2t) H Jh5 rfl (fun _ => rfl) rfl rfl rfl (hq_pre_o Ih5.1 (x := 97) (ci := 11) rfl (by decide) rfl rfl rfl rfl) (fun a k w => by unfold ty_Wx at w; unfold ty_W2t; omega) (by unfold ty_Wx ty_W2t; omega) (ct_154 (x1 := z9) (by omega)) (fun h11 _ Jh11 P10 => ?_)
  have Ih11 := H.1 h11 Jh11
  obtain ⟨z12, rfl, az12, bz12⟩ := P10
  refine hq_p rfl rfl ?_
  refine hq_p rfl rfl ?_
  exact K h11 (tq_g hr Jh11)
set_option maxRecDepth 20000 in
set_option maxHeartbeats 4000000 in
theorem tb_1 {X : pm_X} {d L n : Nat} {xs : Nat → Int32} {h : pm_H} {i0 : Int32} {Q : pm_H → Option Value → Prop} (hd : 120 ≤ d) (hX : ty_SX X) (hS : ∀ h, pm_arr X h (.retAddr 200) = some (0, L, .inl xs)) (hL : L ≤ 3072) (a0 : 0 ≤ i0.toInt) (b0 : i0.toInt + 6 ≤ L) (hK : tq_K n h) (K : ∀ h1, tq_K (n + 1) h1 → hq_W X d 12 false (some .boolean) pm_cL (1205, [some (.retAddr 200), some (.ref 0), some (.ref 97), some (.int i0)], [], h1) Q) : hq_W X d 12 false (some .boolean) pm_cL (235, [some (.retAddr 200), some (.ref 0), some (.ref 97), some (.int i0)], [], h) Q := by
  obtain ⟨T, hJ0, hr⟩ := hK
  have H := tp_CG n T h
  have hJ : tp_G n T h h := ⟨hJ0, fr_refl h _⟩
  have I := H.1 h hJ
  refine hq_p rfl rfl ?_
  refine hq_p rfl rfl ?_
  refine hq_p rfl rfl ?_
  refine hq_p rfl rfl (ty_ge (n := 1) nk_i1 (fun z1 ez1 => ?_))
  refine hq_p rfl rfl (ty_ge (n := i0.toInt + z1.toInt) (nm_add (by omega) (by omega)) (fun z2 ez2 => ?_))
  refine hq_iald rfl (hS h) (hs_in (by omega) (by omega)) (ty_ga (fun z3 az3 bz3 => ?_))
  refine hq_p rfl rfl ?_
  refine hq_p rfl rfl ?_
  refine hq_p rfl rfl (ty_ge (n := 2) nk_i2 (fun z4 ez4 => ?_))
  refine hq_p rfl rfl (ty_ge (n := i0.toInt + z4.toInt) (nm_add (by omega) (by omega)) (fun z5 ez5 => ?_))
  refine hq_iald rfl (hS h) (hs_in (by omega) (by omega)) (ty_ga (fun z6 az6 bz6 => ?_))
  refine ty_callj 0 (W := ty_W2t) H hJ rfl (fun _ => rfl) rfl rfl rfl (hq_pre_o I.1 (x := 0) (ci := 10) rfl (by decide) rfl rfl rfl rfl) (fun a k w => by unfold ty_Wc at w; unfold ty_W2t; omega) (by unfold ty_Wc ty_W2t; omega) (ct_84 (x1 := z3) (x2 := z6) (by omega)) (fun h8 _ Jh8 P7 => ?_)
  have Ih8 := H.1 h8 Jh8
  obtain ⟨z9, rfl, az9, bz9⟩ := P7
  refine hq_p rfl rfl ?_
  refine hq_p rfl rfl ?_
  refine hq_p rfl rfl ?_
  refine hq_p rfl rfl ?_
  refine hq_p rfl rfl (ty_ge (n := 1) nk_i1 (fun z10 ez10 => ?_))
  refine hq_p rfl rfl (ty_ge (n := i0.toInt + z10.toInt) (nm_add (by omega) (by omega)) (fun z11 ez11 => ?_))
  refine hq_iald rfl (hS h8) (hs_in (by omega) (by omega)) (ty_ga (fun z12 az12 bz12 => ?_))
  refine hq_p rfl rfl ?_
  refine hq_p rfl rfl ?_
  refine hq_p rfl rfl (ty_ge (n := 2) nk_i2 (fun z13 ez13 => ?_))
  refine hq_p rfl rfl (ty_ge (n := i0.toInt + z13.toInt) (nm_add (by omega) (by omega)) (fun z14 ez14 => ?_))
  refine hq_iald rfl (hS h8) (hs_in (by omega) (by omega)) (ty_ga (fun z15 az15 bz15 => ?_))
  refine ty_callj 0 (W := ty_W2t) H Jh8 rfl (fun _ => rfl) rfl rfl rfl (hq_pre_o Ih8.1 (x := 97) (ci := 11) rfl (by decide) rfl rfl rfl rfl) (fun a k w => by unfold ty_Wx at w; unfold ty_W2t; omega) (by unfold ty_Wx ty_W2t; omega) (ct_155 (x1 := z12) (x2 := z15) (by omega)) (fun h17 _ Jh17 P16 => ?_)
  have Ih17 := H.1 h17 Jh17
  obtain ⟨z18, rfl, az18, bz18⟩ := P16
  refine hq_p rfl rfl ?_
  refine hq_p rfl rfl ?_
  exact K h17 (tq_g hr Jh17)
set_option maxRecDepth 20000 in
set_option maxHeartbeats 4000000 in
theorem tb_2 {X : pm_X} {d L n : Nat} {xs : Nat → Int32} {h : pm_H} {i0 : Int32} {Q : pm_H → Option Value → Prop} (hd : 120 ≤ d) (hX : ty_SX X) (hS : ∀ h, pm_arr X h (.retAddr 200) = some (0, L, .inl xs)) (hL : L ≤ 3072) (a0 : 0 ≤ i0.toInt) (b0 : i0.toInt + 6 ≤ L) (hK : tq_K n h) (K : ∀ h1, tq_K (n + 1) h1 → hq_W X d 12 false (some .boolean) pm_cL (1205, [some (.retAddr 200), some (.ref 0), some (.ref 97), some (.int i0)], [], h1) Q) : hq_W X d 12 false (some .boolean) pm_cL (268, [some (.retAddr 200), some (.ref 0), some (.ref 97), some (.int i0)], [], h) Q := by
  obtain ⟨T, hJ0, hr⟩ := hK
  have H := tp_CG n T h
  have hJ : tp_G n T h h := ⟨hJ0, fr_refl h _⟩
  have I := H.1 h hJ
  refine hq_p rfl rfl ?_
  refine hq_p rfl rfl ?_
  refine hq_p rfl rfl ?_
  refine hq_p rfl rfl (ty_ge (n := 1) nk_i1 (fun z1 ez1 => ?_))
  refine hq_p rfl rfl (ty_ge (n := i0.toInt + z1.toInt) (nm_add (by omega) (by omega)) (fun z2 ez2 => ?_))
  refine hq_iald rfl (hS h) (hs_in (by omega) (by omega)) (ty_ga (fun z3 az3 bz3 => ?_))
  refine ty_callj 0 (W := ty_W2t) H hJ rfl (fun _ => rfl) rfl rfl rfl (hq_pre_o I.1 (x := 0) (ci := 10) rfl (by decide) rfl rfl rfl rfl) (fun a k w => by unfold ty_Wc at w; unfold ty_W2t; omega) (by unfold ty_Wc ty_W2t; omega) (ct_85 (x1 := z3) (by omega)) (fun h5 _ Jh5 P4 => ?_)
  have Ih5 := H.1 h5 Jh5
  obtain ⟨z6, rfl, az6, bz6⟩ := P4
  refine hq_p rfl rfl ?_
  refine hq_p rfl rfl ?_
  refine hq_p rfl rfl ?_
  refine hq_p rfl rfl ?_
  refine hq_p rfl rfl (ty_ge (n := 1) nk_i1 (fun z7 ez7 => ?_))
  refine hq_p rfl rfl (ty_ge (n := i0.toInt + z7.toInt) (nm_add (by omega) (by omega)) (fun z8 ez8 => ?_))
  refine hq_iald rfl (hS h5) (hs_in (by omega) (by omega)) (ty_ga (fun z9 az9 bz9 => ?_))
  refine ty_callj 0 (W := ty_W2t) H Jh5 rfl (fun _ => rfl) rfl rfl rfl (hq_pre_o Ih5.1 (x := 97) (ci := 11) rfl (by decide) rfl rfl rfl rfl) (fun a k w => by unfold ty_Wx at w; unfold ty_W2t; omega) (by unfold ty_Wx ty_W2t; omega) (ct_156 (x1 := z9) (by omega)) (fun h11 _ Jh11 P10 => ?_)
  have Ih11 := H.1 h11 Jh11
  obtain ⟨z12, rfl, az12, bz12⟩ := P10
  refine hq_p rfl rfl ?_
  refine hq_p rfl rfl ?_
  exact K h11 (tq_g hr Jh11)
set_option maxRecDepth 20000 in
set_option maxHeartbeats 4000000 in
theorem tb_3 {X : pm_X} {d L n : Nat} {xs : Nat → Int32} {h : pm_H} {i0 : Int32} {Q : pm_H → Option Value → Prop} (hd : 120 ≤ d) (hX : ty_SX X) (hS : ∀ h, pm_arr X h (.retAddr 200) = some (0, L, .inl xs)) (hL : L ≤ 3072) (a0 : 0 ≤ i0.toInt) (b0 : i0.toInt + 6 ≤ L) (hK : tq_K n h) (K : ∀ h1, tq_K (n + 1) h1 → hq_W X d 12 false (some .boolean) pm_cL (1205, [some (.retAddr 200), some (.ref 0), some (.ref 97), some (.int i0)], [], h1) Q) : hq_W X d 12 false (some .boolean) pm_cL (291, [some (.retAddr 200), some (.ref 0), some (.ref 97), some (.int i0)], [], h) Q := by
  obtain ⟨T, hJ0, hr⟩ := hK
  have H := tp_CG n T h
  have hJ : tp_G n T h h := ⟨hJ0, fr_refl h _⟩
  have I := H.1 h hJ
  refine hq_p rfl rfl ?_
  refine hq_p rfl rfl ?_
  refine hq_p rfl rfl ?_
  refine hq_p rfl rfl (ty_ge (n := 1) nk_i1 (fun z1 ez1 => ?_))
  refine hq_p rfl rfl (ty_ge (n := i0.toInt + z1.toInt) (nm_add (by omega) (by omega)) (fun z2 ez2 => ?_))
  refine hq_iald rfl (hS h) (hs_in (by omega) (by omega)) (ty_ga (fun z3 az3 bz3 => ?_))
  refine hq_p rfl rfl ?_
  refine hq_p rfl rfl ?_
  refine hq_p rfl rfl (ty_ge (n := 2) nk_i2 (fun z4 ez4 => ?_))
  refine hq_p rfl rfl (ty_ge (n := i0.toInt + z4.toInt) (nm_add (by omega) (by omega)) (fun z5 ez5 => ?_))
  refine hq_iald rfl (hS h) (hs_in (by omega) (by omega)) (ty_ga (fun z6 az6 bz6 => ?_))
  refine ty_callj 0 (W := ty_W2t) H hJ rfl (fun _ => rfl) rfl rfl rfl (hq_pre_o I.1 (x := 0) (ci := 10) rfl (by decide) rfl rfl rfl rfl) (fun a k w => by unfold ty_Wc at w; unfold ty_W2t; omega) (by unfold ty_Wc ty_W2t; omega) (ct_86 (x1 := z3) (x2 := z6) (by omega)) (fun h8 _ Jh8 P7 => ?_)
  have Ih8 := H.1 h8 Jh8
  obtain ⟨z9, rfl, az9, bz9⟩ := P7
  refine hq_p rfl rfl ?_
  refine hq_p rfl rfl ?_
  refine hq_p rfl rfl ?_
  refine hq_p rfl rfl ?_
  refine hq_p rfl rfl (ty_ge (n := 1) nk_i1 (fun z10 ez10 => ?_))
  refine hq_p rfl rfl (ty_ge (n := i0.toInt + z10.toInt) (nm_add (by omega) (by omega)) (fun z11 ez11 => ?_))
  refine hq_iald rfl (hS h8) (hs_in (by omega) (by omega)) (ty_ga (fun z12 az12 bz12 => ?_))
  refine hq_p rfl rfl ?_
  refine hq_p rfl rfl ?_
  refine hq_p rfl rfl (ty_ge (n := 2) nk_i2 (fun z13 ez13 => ?_))
  refine hq_p rfl rfl (ty_ge (n := i0.toInt + z13.toInt) (nm_add (by omega) (by omega)) (fun z14 ez14 => ?_))
  refine hq_iald rfl (hS h8) (hs_in (by omega) (by omega)) (ty_ga (fun z15 az15 bz15 => ?_))
  refine ty_callj 0 (W := ty_W2t) H Jh8 rfl (fun _ => rfl) rfl rfl rfl (hq_pre_o Ih8.1 (x := 97) (ci := 11) rfl (by decide) rfl rfl rfl rfl) (fun a k w => by unfold ty_Wt at w; unfold ty_W2t; omega) (by unfold ty_Wt ty_W2t; omega) (ct_157 (x1 := z12) (x2 := z15) (by omega)) (fun h17 _ Jh17 P16 => ?_)
  have Ih17 := H.1 h17 Jh17
  obtain ⟨z18, rfl, az18, bz18⟩ := P16
  refine hq_p rfl rfl ?_
  refine hq_p rfl rfl ?_
  exact K h17 (tq_g hr Jh17)
set_option maxRecDepth 20000 in
set_option maxHeartbeats 4000000 in
theorem tb_4 {X : pm_X} {d L n : Nat} {xs : Nat → Int32} {h : pm_H} {i0 : Int32} {Q : pm_H → Option Value → Prop} (hd : 120 ≤ d) (hX : ty_SX X) (hS : ∀ h, pm_arr X h (.retAddr 200) = some (0, L, .inl xs)) (hL : L ≤ 3072) (a0 : 0 ≤ i0.toInt) (b0 : i0.toInt + 6 ≤ L) (hK : tq_K n h) (K : ∀ h1, tq_K (n + 1) h1 → hq_W X d 12 false (some .boolean) pm_cL (1205, [some (.retAddr 200), some (.ref 0), some (.ref 97), some (.int i0)], [], h1) Q) : hq_W X d 12 false (some .boolean) pm_cL (324, [some (.retAddr 200), some (.ref 0), some (.ref 97), some (.int i0)], [], h) Q := by
  obtain ⟨T, hJ0, hr⟩ := hK
  have H := tp_CG n T h
  have hJ : tp_G n T h h := ⟨hJ0, fr_refl h _⟩
  have I := H.1 h hJ
  refine hq_p rfl rfl ?_
  refine hq_p rfl rfl ?_
  refine hq_p rfl rfl ?_
  refine hq_p rfl rfl (ty_ge (n := 1) nk_i1 (fun z1 ez1 => ?_))
  refine hq_p rfl rfl (ty_ge (n := i0.toInt + z1.toInt) (nm_add (by omega) (by omega)) (fun z2 ez2 => ?_))
  refine hq_iald rfl (hS h) (hs_in (by omega) (by omega)) (ty_ga (fun z3 az3 bz3 => ?_))
  refine hq_p rfl rfl ?_
  refine hq_p rfl rfl ?_
  refine hq_p rfl rfl (ty_ge (n := 2) nk_i2 (fun z4 ez4 => ?_))
  refine hq_p rfl rfl (ty_ge (n := i0.toInt + z4.toInt) (nm_add (by omega) (by omega)) (fun z5 ez5 => ?_))
  refine hq_iald rfl (hS h) (hs_in (by omega) (by omega)) (ty_ga (fun z6 az6 bz6 => ?_))
  refine hq_p rfl rfl ?_
  refine hq_p rfl rfl ?_
  refine hq_p rfl rfl (ty_ge (n := 3) nk_i3 (fun z7 ez7 => ?_))
  refine hq_p rfl rfl (ty_ge (n := i0.toInt + z7.toInt) (nm_add (by omega) (by omega)) (fun z8 ez8 => ?_))
  refine hq_iald rfl (hS h) (hs_in (by omega) (by omega)) (ty_ga (fun z9 az9 bz9 => ?_))
  refine ty_callj 0 (W := ty_W2t) H hJ rfl (fun _ => rfl) rfl rfl rfl (hq_pre_o I.1 (x := 0) (ci := 10) rfl (by decide) rfl rfl rfl rfl) (fun a k w => by unfold ty_Wc at w; unfold ty_W2t; omega) (by unfold ty_Wc ty_W2t; omega) (ct_87 (x1 := z3) (x2 := z6) (x3 := z9) (by omega)) (fun h11 _ Jh11 P10 => ?_)
  have Ih11 := H.1 h11 Jh11
  obtain ⟨z12, rfl, az12, bz12⟩ := P10
  refine hq_p rfl rfl ?_
  refine hq_p rfl rfl ?_
  refine hq_p rfl rfl ?_
  refine hq_p rfl rfl ?_
  refine hq_p rfl rfl (ty_ge (n := 1) nk_i1 (fun z13 ez13 => ?_))
  refine hq_p rfl rfl (ty_ge (n := i0.toInt + z13.toInt) (nm_add (by omega) (by omega)) (fun z14 ez14 => ?_))
  refine hq_iald rfl (hS h11) (hs_in (by omega) (by omega)) (ty_ga (fun z15 az15 bz15 => ?_))
  refine hq_p rfl rfl ?_
  refine hq_p rfl rfl ?_
  refine hq_p rfl rfl (ty_ge (n := 2) nk_i2 (fun z16 ez16 => ?_))
  refine hq_p rfl rfl (ty_ge (n := i0.toInt + z16.toInt) (nm_add (by omega) (by omega)) (fun z17 ez17 => ?_))
  refine hq_iald rfl (hS h11) (hs_in (by omega) (by omega)) (ty_ga (fun z18 az18 bz18 => ?_))
  refine hq_p rfl rfl ?_
  refine hq_p rfl rfl ?_
  refine hq_p rfl rfl (ty_ge (n := 3) nk_i3 (fun z19 ez19 => ?_))
  refine hq_p rfl rfl (ty_ge (n := i0.toInt + z19.toInt) (nm_add (by omega) (by omega)) (fun z20 ez20 => ?_))
  refine hq_iald rfl (hS h11) (hs_in (by omega) (by omega)) (ty_ga (fun z21 az21 bz21 => ?_))
  refine ty_callj 0 (W := ty_W2t) H Jh11 rfl (fun _ => rfl) rfl rfl rfl (hq_pre_o Ih11.1 (x := 97) (ci := 11) rfl (by decide) rfl rfl rfl rfl) (fun a k w => by unfold ty_Wx at w; unfold ty_W2t; omega) (by unfold ty_Wx ty_W2t; omega) (ct_158 (x1 := z15) (x2 := z18) (x3 := z21) (by omega)) (fun h23 _ Jh23 P22 => ?_)
  have Ih23 := H.1 h23 Jh23
  obtain ⟨z24, rfl, az24, bz24⟩ := P22
  refine hq_p rfl rfl ?_
  refine hq_p rfl rfl ?_
  exact K h23 (tq_g hr Jh23)
set_option maxRecDepth 20000 in
set_option maxHeartbeats 4000000 in
theorem tb_5 {X : pm_X} {d L n : Nat} {xs : Nat → Int32} {h : pm_H} {i0 : Int32} {Q : pm_H → Option Value → Prop} (hd : 120 ≤ d) (hX : ty_SX X) (hS : ∀ h, pm_arr X h (.retAddr 200) = some (0, L, .inl xs)) (hL : L ≤ 3072) (a0 : 0 ≤ i0.toInt) (b0 : i0.toInt + 6 ≤ L) (hK : tq_K n h) (K : ∀ h1, tq_K (n + 1) h1 → hq_W X d 12 false (some .boolean) pm_cL (1205, [some (.retAddr 200), some (.ref 0), some (.ref 97), some (.int i0)], [], h1) Q) : hq_W X d 12 false (some .boolean) pm_cL (367, [some (.retAddr 200), some (.ref 0), some (.ref 97), some (.int i0)], [], h) Q := by
  obtain ⟨T, hJ0, hr⟩ := hK
  have H := tp_CG n T h
  have hJ : tp_G n T h h := ⟨hJ0, fr_refl h _⟩
  have I := H.1 h hJ
  refine hq_p rfl rfl ?_
  refine hq_p rfl rfl ?_
  refine hq_p rfl rfl ?_
  refine hq_p rfl rfl (ty_ge (n := 1) nk_i1 (fun z1 ez1 => ?_))
  refine hq_p rfl rfl (ty_ge (n := i0.toInt + z1.toInt) (nm_add (by omega) (by omega)) (fun z2 ez2 => ?_))
  refine hq_iald rfl (hS h) (hs_in (by omega) (by omega)) (ty_ga (fun z3 az3 bz3 => ?_))
  refine hq_p rfl rfl ?_
  refine hq_p rfl rfl ?_
  refine hq_p rfl rfl (ty_ge (n := 2) nk_i2 (fun z4 ez4 => ?_))
  refine hq_p rfl rfl (ty_ge (n := i0.toInt + z4.toInt) (nm_add (by omega) (by omega)) (fun z5 ez5 => ?_))
  refine hq_iald rfl (hS h) (hs_in (by omega) (by omega)) (ty_ga (fun z6 az6 bz6 => ?_))
  refine hq_p rfl rfl ?_
  refine hq_p rfl rfl ?_
  refine hq_p rfl rfl (ty_ge (n := 3) nk_i3 (fun z7 ez7 => ?_))
  refine hq_p rfl rfl (ty_ge (n := i0.toInt + z7.toInt) (nm_add (by omega) (by omega)) (fun z8 ez8 => ?_))
  refine hq_iald rfl (hS h) (hs_in (by omega) (by omega)) (ty_ga (fun z9 az9 bz9 => ?_))
  refine ty_callj 0 (W := ty_W2t) H hJ rfl (fun _ => rfl) rfl rfl rfl (hq_pre_o I.1 (x := 0) (ci := 10) rfl (by decide) rfl rfl rfl rfl) (fun a k w => by unfold ty_Wc at w; unfold ty_W2t; omega) (by unfold ty_Wc ty_W2t; omega) (ct_88 (x1 := z3) (x2 := z6) (x3 := z9) (by omega)) (fun h11 _ Jh11 P10 => ?_)
  have Ih11 := H.1 h11 Jh11
  obtain ⟨z12, rfl, az12, bz12⟩ := P10
  refine hq_p rfl rfl ?_
  refine hq_p rfl rfl ?_
  refine hq_p rfl rfl ?_
  refine hq_p rfl rfl ?_
  refine hq_p rfl rfl (ty_ge (n := 1) nk_i1 (fun z13 ez13 => ?_))
  refine hq_p rfl rfl (ty_ge (n := i0.toInt + z13.toInt) (nm_add (by omega) (by omega)) (fun z14 ez14 => ?_))
  refine hq_iald rfl (hS h11) (hs_in (by omega) (by omega)) (ty_ga (fun z15 az15 bz15 => ?_))
  refine hq_p rfl rfl ?_
  refine hq_p rfl rfl ?_
  refine hq_p rfl rfl (ty_ge (n := 2) nk_i2 (fun z16 ez16 => ?_))
  refine hq_p rfl rfl (ty_ge (n := i0.toInt + z16.toInt) (nm_add (by omega) (by omega)) (fun z17 ez17 => ?_))
  refine hq_iald rfl (hS h11) (hs_in (by omega) (by omega)) (ty_ga (fun z18 az18 bz18 => ?_))
  refine hq_p rfl rfl ?_
  refine hq_p rfl rfl ?_
  refine hq_p rfl rfl (ty_ge (n := 3) nk_i3 (fun z19 ez19 => ?_))
  refine hq_p rfl rfl (ty_ge (n := i0.toInt + z19.toInt) (nm_add (by omega) (by omega)) (fun z20 ez20 => ?_))
  refine hq_iald rfl (hS h11) (hs_in (by omega) (by omega)) (ty_ga (fun z21 az21 bz21 => ?_))
  refine ty_callj 0 (W := ty_W2t) H Jh11 rfl (fun _ => rfl) rfl rfl rfl (hq_pre_o Ih11.1 (x := 97) (ci := 11) rfl (by decide) rfl rfl rfl rfl) (fun a k w => by unfold ty_Wx at w; unfold ty_W2t; omega) (by unfold ty_Wx ty_W2t; omega) (ct_161 (x1 := z15) (x2 := z18) (x3 := z21) (by omega)) (fun h23 _ Jh23 P22 => ?_)
  have Ih23 := H.1 h23 Jh23
  obtain ⟨z24, rfl, az24, bz24⟩ := P22
  refine hq_p rfl rfl ?_
  refine hq_p rfl rfl ?_
  exact K h23 (tq_g hr Jh23)
set_option maxRecDepth 20000 in
set_option maxHeartbeats 4000000 in
theorem tb_6 {X : pm_X} {d L n : Nat} {xs : Nat → Int32} {h : pm_H} {i0 : Int32} {Q : pm_H → Option Value → Prop} (hd : 120 ≤ d) (hX : ty_SX X) (hS : ∀ h, pm_arr X h (.retAddr 200) = some (0, L, .inl xs)) (hL : L ≤ 3072) (a0 : 0 ≤ i0.toInt) (b0 : i0.toInt + 6 ≤ L) (hK : tq_K n h) (K : ∀ h1, tq_K (n + 1) h1 → hq_W X d 12 false (some .boolean) pm_cL (1205, [some (.retAddr 200), some (.ref 0), some (.ref 97), some (.int i0)], [], h1) Q) : hq_W X d 12 false (some .boolean) pm_cL (410, [some (.retAddr 200), some (.ref 0), some (.ref 97), some (.int i0)], [], h) Q := by
  obtain ⟨T, hJ0, hr⟩ := hK
  have H := tp_CG n T h
  have hJ : tp_G n T h h := ⟨hJ0, fr_refl h _⟩
  have I := H.1 h hJ
  refine hq_p rfl rfl ?_
  refine hq_p rfl rfl ?_
  refine hq_p rfl rfl ?_
  refine hq_p rfl rfl (ty_ge (n := 1) nk_i1 (fun z1 ez1 => ?_))
  refine hq_p rfl rfl (ty_ge (n := i0.toInt + z1.toInt) (nm_add (by omega) (by omega)) (fun z2 ez2 => ?_))
  refine hq_iald rfl (hS h) (hs_in (by omega) (by omega)) (ty_ga (fun z3 az3 bz3 => ?_))
  refine hq_p rfl rfl ?_
  refine hq_p rfl rfl ?_
  refine hq_p rfl rfl (ty_ge (n := 2) nk_i2 (fun z4 ez4 => ?_))
  refine hq_p rfl rfl (ty_ge (n := i0.toInt + z4.toInt) (nm_add (by omega) (by omega)) (fun z5 ez5 => ?_))
  refine hq_iald rfl (hS h) (hs_in (by omega) (by omega)) (ty_ga (fun z6 az6 bz6 => ?_))
  refine ty_callj 0 (W := ty_W2t) H hJ rfl (fun _ => rfl) rfl rfl rfl (hq_pre_o I.1 (x := 0) (ci := 10) rfl (by decide) rfl rfl rfl rfl) (fun a k w => by unfold ty_Wc at w; unfold ty_W2t; omega) (by unfold ty_Wc ty_W2t; omega) (ct_89 (x1 := z3) (x2 := z6) (by omega)) (fun h8 _ Jh8 P7 => ?_)
  have Ih8 := H.1 h8 Jh8
  obtain ⟨z9, rfl, az9, bz9⟩ := P7
  refine hq_p rfl rfl ?_
  refine hq_p rfl rfl ?_
  refine hq_p rfl rfl ?_
  refine hq_p rfl rfl ?_
  refine hq_p rfl rfl (ty_ge (n := 1) nk_i1 (fun z10 ez10 => ?_))
  refine hq_p rfl rfl (ty_ge (n := i0.toInt + z10.toInt) (nm_add (by omega) (by omega)) (fun z11 ez11 => ?_))
  refine hq_iald rfl (hS h8) (hs_in (by omega) (by omega)) (ty_ga (fun z12 az12 bz12 => ?_))
  refine hq_p rfl rfl ?_
  refine hq_p rfl rfl ?_
  refine hq_p rfl rfl (ty_ge (n := 2) nk_i2 (fun z13 ez13 => ?_))
  refine hq_p rfl rfl (ty_ge (n := i0.toInt + z13.toInt) (nm_add (by omega) (by omega)) (fun z14 ez14 => ?_))
  refine hq_iald rfl (hS h8) (hs_in (by omega) (by omega)) (ty_ga (fun z15 az15 bz15 => ?_))
  refine ty_callj 0 (W := ty_W2t) H Jh8 rfl (fun _ => rfl) rfl rfl rfl (hq_pre_o Ih8.1 (x := 97) (ci := 11) rfl (by decide) rfl rfl rfl rfl) (fun a k w => by unfold ty_Wt at w; unfold ty_W2t; omega) (by unfold ty_Wt ty_W2t; omega) (ct_162 (x1 := z12) (x2 := z15) (by omega)) (fun h17 _ Jh17 P16 => ?_)
  have Ih17 := H.1 h17 Jh17
  obtain ⟨z18, rfl, az18, bz18⟩ := P16
  refine hq_p rfl rfl ?_
  refine hq_p rfl rfl ?_
  exact K h17 (tq_g hr Jh17)
set_option maxRecDepth 20000 in
set_option maxHeartbeats 4000000 in
theorem tb_7 {X : pm_X} {d L n : Nat} {xs : Nat → Int32} {h : pm_H} {i0 : Int32} {Q : pm_H → Option Value → Prop} (hd : 120 ≤ d) (hX : ty_SX X) (hS : ∀ h, pm_arr X h (.retAddr 200) = some (0, L, .inl xs)) (hL : L ≤ 3072) (a0 : 0 ≤ i0.toInt) (b0 : i0.toInt + 6 ≤ L) (hK : tq_K n h) (K : ∀ h1, tq_K (n + 1) h1 → hq_W X d 12 false (some .boolean) pm_cL (1205, [some (.retAddr 200), some (.ref 0), some (.ref 97), some (.int i0)], [], h1) Q) : hq_W X d 12 false (some .boolean) pm_cL (443, [some (.retAddr 200), some (.ref 0), some (.ref 97), some (.int i0)], [], h) Q := by
  obtain ⟨T, hJ0, hr⟩ := hK
  have H := tp_CG n T h
  have hJ : tp_G n T h h := ⟨hJ0, fr_refl h _⟩
  have I := H.1 h hJ
  refine hq_p rfl rfl ?_
  refine hq_p rfl rfl ?_
  refine hq_p rfl rfl ?_
  refine hq_p rfl rfl (ty_ge (n := 1) nk_i1 (fun z1 ez1 => ?_))
  refine hq_p rfl rfl (ty_ge (n := i0.toInt + z1.toInt) (nm_add (by omega) (by omega)) (fun z2 ez2 => ?_))
  refine hq_iald rfl (hS h) (hs_in (by omega) (by omega)) (ty_ga (fun z3 az3 bz3 => ?_))
  refine hq_p rfl rfl ?_
  refine hq_p rfl rfl ?_
  refine hq_p rfl rfl (ty_ge (n := 2) nk_i2 (fun z4 ez4 => ?_))
  refine hq_p rfl rfl (ty_ge (n := i0.toInt + z4.toInt) (nm_add (by omega) (by omega)) (fun z5 ez5 => ?_))
  refine hq_iald rfl (hS h) (hs_in (by omega) (by omega)) (ty_ga (fun z6 az6 bz6 => ?_))
  refine ty_callj 0 (W := ty_W2t) H hJ rfl (fun _ => rfl) rfl rfl rfl (hq_pre_o I.1 (x := 0) (ci := 10) rfl (by decide) rfl rfl rfl rfl) (fun a k w => by unfold ty_Wc at w; unfold ty_W2t; omega) (by unfold ty_Wc ty_W2t; omega) (ct_90 (x1 := z3) (x2 := z6) (by omega) hX) (fun h8 _ Jh8 P7 => ?_)
  have Ih8 := H.1 h8 Jh8
  obtain ⟨z9, rfl, az9, bz9⟩ := P7
  refine hq_p rfl rfl ?_
  refine hq_p rfl rfl ?_
  refine hq_p rfl rfl ?_
  refine hq_p rfl rfl ?_
  refine hq_p rfl rfl (ty_ge (n := 1) nk_i1 (fun z10 ez10 => ?_))
  refine hq_p rfl rfl (ty_ge (n := i0.toInt + z10.toInt) (nm_add (by omega) (by omega)) (fun z11 ez11 => ?_))
  refine hq_iald rfl (hS h8) (hs_in (by omega) (by omega)) (ty_ga (fun z12 az12 bz12 => ?_))
  refine hq_p rfl rfl ?_
  refine hq_p rfl rfl ?_
  refine hq_p rfl rfl (ty_ge (n := 2) nk_i2 (fun z13 ez13 => ?_))
  refine hq_p rfl rfl (ty_ge (n := i0.toInt + z13.toInt) (nm_add (by omega) (by omega)) (fun z14 ez14 => ?_))
  refine hq_iald rfl (hS h8) (hs_in (by omega) (by omega)) (ty_ga (fun z15 az15 bz15 => ?_))
  refine ty_callj 0 (W := ty_W2t) H Jh8 rfl (fun _ => rfl) rfl rfl rfl (hq_pre_o Ih8.1 (x := 97) (ci := 11) rfl (by decide) rfl rfl rfl rfl) (fun a k w => by unfold ty_Wz at w; unfold ty_W2t; omega) (by unfold ty_Wz ty_W2t; omega) (ct_163 (x1 := z12) (x2 := z15) (by omega)) (fun h17 _ Jh17 P16 => ?_)
  have Ih17 := H.1 h17 Jh17
  obtain ⟨z18, rfl, az18, bz18⟩ := P16
  refine hq_p rfl rfl ?_
  refine hq_p rfl rfl ?_
  exact K h17 (tq_g hr Jh17)
set_option maxRecDepth 20000 in
set_option maxHeartbeats 4000000 in
theorem tb_11 {X : pm_X} {d L n : Nat} {xs : Nat → Int32} {h : pm_H} {i0 : Int32} {Q : pm_H → Option Value → Prop} (hd : 120 ≤ d) (hX : ty_SX X) (hS : ∀ h, pm_arr X h (.retAddr 200) = some (0, L, .inl xs)) (hL : L ≤ 3072) (a0 : 0 ≤ i0.toInt) (b0 : i0.toInt + 6 ≤ L) (hK : tq_K n h) (K : ∀ h1, tq_K (n + 1) h1 → hq_W X d 12 false (some .boolean) pm_cL (1205, [some (.retAddr 200), some (.ref 0), some (.ref 97), some (.int i0)], [], h1) Q) : hq_W X d 12 false (some .boolean) pm_cL (575, [some (.retAddr 200), some (.ref 0), some (.ref 97), some (.int i0)], [], h) Q := by
  obtain ⟨T, hJ0, hr⟩ := hK
  have H := tp_CG n T h
  have hJ : tp_G n T h h := ⟨hJ0, fr_refl h _⟩
  have I := H.1 h hJ
  refine hq_p rfl rfl ?_
  refine ty_callp 0 I rfl (fun _ => rfl) rfl rfl rfl (hq_pre_o I.1 (x := 0) (ci := 10) rfl (by decide) rfl rfl rfl rfl) (ct_94t (by omega)) (fun _ P1 => ?_)
  obtain ⟨z2, rfl, fz2⟩ := P1
  have e11 := hr.2
  obtain ⟨_, _, g15, g11, _⟩ := hJ.2
  have g15 : (hs_fI h 0 15).toInt = (hs_fI h 0 15).toInt := g15
  have g11 : (hs_fI h 97 11).toInt = (hs_fI h 97 11).toInt := g11
  refine hq_p rfl rfl ?_
  refine ty_callj 0 (W := ty_W2t) H hJ rfl (fun _ => rfl) rfl rfl rfl (hq_pre_o I.1 (x := 97) (ci := 11) rfl (by decide) rfl rfl rfl rfl) (fun a k w => by unfold ty_Wt at w; unfold ty_W2t; omega) (by unfold ty_Wt ty_W2t; omega) (ct_165t (by omega)) (fun h4 _ Jh4 P3 => ?_)
  have Ih4 := H.1 h4 Jh4
  obtain ⟨z5, rfl, fz5⟩ := P3
  refine ty_ieq rfl (fun c6 => ?_) (fun c6 => ?_)
  · exact K h4 (tq_g hr Jh4)
  · exfalso; omega
set_option maxRecDepth 20000 in
set_option maxHeartbeats 4000000 in
theorem tb_14 {X : pm_X} {d L n : Nat} {xs : Nat → Int32} {h : pm_H} {i0 : Int32} {Q : pm_H → Option Value → Prop} (hd : 120 ≤ d) (hX : ty_SX X) (hS : ∀ h, pm_arr X h (.retAddr 200) = some (0, L, .inl xs)) (hL : L ≤ 3072) (a0 : 0 ≤ i0.toInt) (b0 : i0.toInt + 6 ≤ L) (hK : tq_K n h) (K : ∀ h1, tq_K (n + 1) h1 → hq_W X d 12 false (some .boolean) pm_cL (1205, [some (.retAddr 200), some (.ref 0), some (.ref 97), some (.int i0)], [], h1) Q) : hq_W X d 12 false (some .boolean) pm_cL (614, [some (.retAddr 200), some (.ref 0), some (.ref 97), some (.int i0)], [], h) Q := by
  obtain ⟨T, hJ0, hr⟩ := hK
  have H := tp_CG n T h
  have hJ : tp_G n T h h := ⟨hJ0, fr_refl h _⟩
  have I := H.1 h hJ
  refine hq_p rfl rfl ?_
  refine ty_callj 0 (W := ty_W2t) H hJ rfl (fun _ => rfl) rfl rfl rfl (hq_pre_o I.1 (x := 0) (ci := 10) rfl (by decide) rfl rfl rfl rfl) (fun a k w => by unfold ty_Wc at w; unfold ty_W2t; omega) (by unfold ty_Wc ty_W2t; omega) (ct_97 (by omega)) (fun h2 _ Jh2 P1 => ?_)
  have Ih2 := H.1 h2 Jh2
  obtain ⟨z3, rfl, az3, bz3⟩ := P1
  refine hq_p rfl rfl ?_
  refine hq_p rfl rfl ?_
  refine ty_callj 0 (W := ty_W2t) H Jh2 rfl (fun _ => rfl) rfl rfl rfl (hq_pre_o Ih2.1 (x := 97) (ci := 11) rfl (by decide) rfl rfl rfl rfl) (fun a k w => by unfold ty_Wt at w; unfold ty_W2t; omega) (by unfold ty_Wt ty_W2t; omega) (ct_177 (by omega)) (fun h5 _ Jh5 P4 => ?_)
  have Ih5 := H.1 h5 Jh5
  obtain ⟨z6, rfl, az6, bz6⟩ := P4
  refine hq_p rfl rfl ?_
  refine hq_p rfl rfl ?_
  exact K h5 (tq_g hr Jh5)
set_option maxRecDepth 20000 in
set_option maxHeartbeats 4000000 in
theorem tb_15 {X : pm_X} {d L n : Nat} {xs : Nat → Int32} {h : pm_H} {i0 : Int32} {Q : pm_H → Option Value → Prop} (hd : 120 ≤ d) (hX : ty_SX X) (hS : ∀ h, pm_arr X h (.retAddr 200) = some (0, L, .inl xs)) (hL : L ≤ 3072) (a0 : 0 ≤ i0.toInt) (b0 : i0.toInt + 6 ≤ L) (hK : tq_K n h) (K : ∀ h1, tq_K (n + 1) h1 → hq_W X d 12 false (some .boolean) pm_cL (1205, [some (.retAddr 200), some (.ref 0), some (.ref 97), some (.int i0)], [], h1) Q) : hq_W X d 12 false (some .boolean) pm_cL (627, [some (.retAddr 200), some (.ref 0), some (.ref 97), some (.int i0)], [], h) Q := by
  obtain ⟨T, hJ0, hr⟩ := hK
  have H := tp_CG n T h
  have hJ : tp_G n T h h := ⟨hJ0, fr_refl h _⟩
  have I := H.1 h hJ
  refine hq_p rfl rfl ?_
  refine ty_callj 0 (W := ty_W2t) H hJ rfl (fun _ => rfl) rfl rfl rfl (hq_pre_o I.1 (x := 0) (ci := 10) rfl (by decide) rfl rfl rfl rfl) (fun a k w => by unfold ty_Wc at w; unfold ty_W2t; omega) (by unfold ty_Wc ty_W2t; omega) (ct_98 (by omega)) (fun h2 _ Jh2 P1 => ?_)
  have Ih2 := H.1 h2 Jh2
  obtain ⟨z3, rfl, az3, bz3⟩ := P1
  refine hq_p rfl rfl ?_
  refine hq_p rfl rfl ?_
  refine ty_callj 0 (W := ty_W2t) H Jh2 rfl (fun _ => rfl) rfl rfl rfl (hq_pre_o Ih2.1 (x := 97) (ci := 11) rfl (by decide) rfl rfl rfl rfl) (fun a k w => by unfold ty_Wt at w; unfold ty_W2t; omega) (by unfold ty_Wt ty_W2t; omega) (ct_251 (by omega)) (fun h5 _ Jh5 P4 => ?_)
  have Ih5 := H.1 h5 Jh5
  obtain ⟨z6, rfl, az6, bz6⟩ := P4
  refine hq_p rfl rfl ?_
  refine hq_p rfl rfl ?_
  exact K h5 (tq_g hr Jh5)
set_option maxRecDepth 20000 in
set_option maxHeartbeats 4000000 in
theorem tb_16 {X : pm_X} {d L n : Nat} {xs : Nat → Int32} {h : pm_H} {i0 : Int32} {Q : pm_H → Option Value → Prop} (hd : 120 ≤ d) (hX : ty_SX X) (hS : ∀ h, pm_arr X h (.retAddr 200) = some (0, L, .inl xs)) (hL : L ≤ 3072) (a0 : 0 ≤ i0.toInt) (b0 : i0.toInt + 6 ≤ L) (hK : tq_K n h) (K : ∀ h1, tq_K (n + 1) h1 → hq_W X d 12 false (some .boolean) pm_cL (1205, [some (.retAddr 200), some (.ref 0), some (.ref 97), some (.int i0)], [], h1) Q) : hq_W X d 12 false (some .boolean) pm_cL (640, [some (.retAddr 200), some (.ref 0), some (.ref 97), some (.int i0)], [], h) Q := by
  obtain ⟨T, hJ0, hr⟩ := hK
  have H := tp_CG n T h
  have hJ : tp_G n T h h := ⟨hJ0, fr_refl h _⟩
  have I := H.1 h hJ
  refine hq_p rfl rfl ?_
  refine hq_p rfl rfl ?_
  refine hq_p rfl rfl ?_
  refine hq_p rfl rfl (ty_ge (n := 1) nk_i1 (fun z1 ez1 => ?_))
  refine hq_p rfl rfl (ty_ge (n := i0.toInt + z1.toInt) (nm_add (by omega) (by omega)) (fun z2 ez2 => ?_))
  refine hq_iald rfl (hS h) (hs_in (by omega) (by omega)) (ty_ga (fun z3 az3 bz3 => ?_))
  refine ty_callj 0 (W := ty_W2t) H hJ rfl (fun _ => rfl) rfl rfl rfl (hq_pre_o I.1 (x := 0) (ci := 10) rfl (by decide) rfl rfl rfl rfl) (fun a k w => by unfold ty_Wc at w; unfold ty_W2t; omega) (by unfold ty_Wc ty_W2t; omega) (ct_99 (x1 := z3) (by omega)) (fun h5 _ Jh5 P4 => ?_)
  have Ih5 := H.1 h5 Jh5
  obtain ⟨z6, rfl, az6, bz6⟩ := P4
  refine hq_p rfl rfl ?_
  refine hq_p rfl rfl ?_
  refine hq_p rfl rfl ?_
  refine hq_p rfl rfl ?_
  refine hq_p rfl rfl (ty_ge (n := 1) nk_i1 (fun z7 ez7 => ?_))
  refine hq_p rfl rfl (ty_ge (n := i0.toInt + z7.toInt) (nm_add (by omega) (by omega)) (fun z8 ez8 => ?_))
  refine hq_iald rfl (hS h5) (hs_in (by omega) (by omega)) (ty_ga (fun z9 az9 bz9 => ?_))
  refine ty_callj 0 (W := ty_W2t) H Jh5 rfl (fun _ => rfl) rfl rfl rfl (hq_pre_o Ih5.1 (x := 97) (ci := 11) rfl (by decide) rfl rfl rfl rfl) (fun a k w => by unfold ty_Wx at w; unfold ty_W2t; omega) (by unfold ty_Wx ty_W2t; omega) (ct_198 (x1 := z9) (by omega)) (fun h11 _ Jh11 P10 => ?_)
  have Ih11 := H.1 h11 Jh11
  obtain ⟨z12, rfl, az12, bz12⟩ := P10
  refine hq_p rfl rfl ?_
  refine hq_p rfl rfl ?_
  exact K h11 (tq_g hr Jh11)
set_option maxRecDepth 20000 in
set_option maxHeartbeats 4000000 in
theorem tb_17 {X : pm_X} {d L n : Nat} {xs : Nat → Int32} {h : pm_H} {i0 : Int32} {Q : pm_H → Option Value → Prop} (hd : 120 ≤ d) (hX : ty_SX X) (hS : ∀ h, pm_arr X h (.retAddr 200) = some (0, L, .inl xs)) (hL : L ≤ 3072) (a0 : 0 ≤ i0.toInt) (b0 : i0.toInt + 6 ≤ L) (hK : tq_K n h) (K : ∀ h1, tq_K (n + 1) h1 → hq_W X d 12 false (some .boolean) pm_cL (1205, [some (.retAddr 200), some (.ref 0), some (.ref 97), some (.int i0)], [], h1) Q) : hq_W X d 12 false (some .boolean) pm_cL (663, [some (.retAddr 200), some (.ref 0), some (.ref 97), some (.int i0)], [], h) Q := by
  obtain ⟨T, hJ0, hr⟩ := hK
  have H := tp_CG n T h
  have hJ : tp_G n T h h := ⟨hJ0, fr_refl h _⟩
  have I := H.1 h hJ
  refine hq_p rfl rfl ?_
  refine hq_p rfl rfl ?_
  refine hq_p rfl rfl ?_
  refine hq_p rfl rfl (ty_ge (n := 1) nk_i1 (fun z1 ez1 => ?_))
  refine hq_p rfl rfl (ty_ge (n := i0.toInt + z1.toInt) (nm_add (by omega) (by omega)) (fun z2 ez2 => ?_))
  refine hq_iald rfl (hS h) (hs_in (by omega) (by omega)) (ty_ga (fun z3 az3 bz3 => ?_))
  refine hq_p rfl rfl ?_
  refine hq_p rfl rfl ?_
  refine hq_p rfl rfl (ty_ge (n := 2) nk_i2 (fun z4 ez4 => ?_))
  refine hq_p rfl rfl (ty_ge (n := i0.toInt + z4.toInt) (nm_add (by omega) (by omega)) (fun z5 ez5 => ?_))
  refine hq_iald rfl (hS h) (hs_in (by omega) (by omega)) (ty_ga (fun z6 az6 bz6 => ?_))
  refine ty_callj 0 (W := ty_W2t) H hJ rfl (fun _ => rfl) rfl rfl rfl (hq_pre_o I.1 (x := 0) (ci := 10) rfl (by decide) rfl rfl rfl rfl) (fun a k w => by unfold ty_Wc at w; unfold ty_W2t; omega) (by unfold ty_Wc ty_W2t; omega) (ct_100 (x1 := z3) (x2 := z6) (by omega)) (fun h8 _ Jh8 P7 => ?_)
  have Ih8 := H.1 h8 Jh8
  obtain ⟨z9, rfl, az9, bz9⟩ := P7
  refine hq_p rfl rfl ?_
  refine hq_p rfl rfl ?_
  refine hq_p rfl rfl ?_
  refine hq_p rfl rfl ?_
  refine hq_p rfl rfl (ty_ge (n := 1) nk_i1 (fun z10 ez10 => ?_))
  refine hq_p rfl rfl (ty_ge (n := i0.toInt + z10.toInt) (nm_add (by omega) (by omega)) (fun z11 ez11 => ?_))
  refine hq_iald rfl (hS h8) (hs_in (by omega) (by omega)) (ty_ga (fun z12 az12 bz12 => ?_))
  refine hq_p rfl rfl ?_
  refine hq_p rfl rfl ?_
  refine hq_p rfl rfl (ty_ge (n := 2) nk_i2 (fun z13 ez13 => ?_))
  refine hq_p rfl rfl (ty_ge (n := i0.toInt + z13.toInt) (nm_add (by omega) (by omega)) (fun z14 ez14 => ?_))
  refine hq_iald rfl (hS h8) (hs_in (by omega) (by omega)) (ty_ga (fun z15 az15 bz15 => ?_))
  refine ty_callj 0 (W := ty_W2t) H Jh8 rfl (fun _ => rfl) rfl rfl rfl (hq_pre_o Ih8.1 (x := 97) (ci := 11) rfl (by decide) rfl rfl rfl rfl) (fun a k w => by unfold ty_Wz at w; unfold ty_W2t; omega) (by unfold ty_Wz ty_W2t; omega) (ct_211 (x1 := z12) (x2 := z15) (by omega)) (fun h17 _ Jh17 P16 => ?_)
  have Ih17 := H.1 h17 Jh17
  obtain ⟨z18, rfl, az18, bz18⟩ := P16
  refine hq_p rfl rfl ?_
  refine hq_p rfl rfl ?_
  exact K h17 (tq_g hr Jh17)
set_option maxRecDepth 20000 in
set_option maxHeartbeats 4000000 in
theorem tb_18 {X : pm_X} {d L n : Nat} {xs : Nat → Int32} {h : pm_H} {i0 : Int32} {Q : pm_H → Option Value → Prop} (hd : 120 ≤ d) (hX : ty_SX X) (hS : ∀ h, pm_arr X h (.retAddr 200) = some (0, L, .inl xs)) (hL : L ≤ 3072) (a0 : 0 ≤ i0.toInt) (b0 : i0.toInt + 6 ≤ L) (hK : tq_K n h) (K : ∀ h1, tq_K (n + 1) h1 → hq_W X d 12 false (some .boolean) pm_cL (1205, [some (.retAddr 200), some (.ref 0), some (.ref 97), some (.int i0)], [], h1) Q) : hq_W X d 12 false (some .boolean) pm_cL (696, [some (.retAddr 200), some (.ref 0), some (.ref 97), some (.int i0)], [], h) Q := by
  obtain ⟨T, hJ0, hr⟩ := hK
  have H := tp_CG n T h
  have hJ : tp_G n T h h := ⟨hJ0, fr_refl h _⟩
  have I := H.1 h hJ
  refine hq_p rfl rfl ?_
  refine hq_p rfl rfl ?_
  refine hq_p rfl rfl ?_
  refine hq_p rfl rfl (ty_ge (n := 1) nk_i1 (fun z1 ez1 => ?_))
  refine hq_p rfl rfl (ty_ge (n := i0.toInt + z1.toInt) (nm_add (by omega) (by omega)) (fun z2 ez2 => ?_))
  refine hq_iald rfl (hS h) (hs_in (by omega) (by omega)) (ty_ga (fun z3 az3 bz3 => ?_))
  refine ty_callj 0 (W := ty_W2t) H hJ rfl (fun _ => rfl) rfl rfl rfl (hq_pre_o I.1 (x := 0) (ci := 10) rfl (by decide) rfl rfl rfl rfl) (fun a k w => by unfold ty_Wc at w; unfold ty_W2t; omega) (by unfold ty_Wc ty_W2t; omega) (ct_101 (x1 := z3) (by omega)) (fun h5 _ Jh5 P4 => ?_)
  have Ih5 := H.1 h5 Jh5
  obtain ⟨z6, rfl, az6, bz6⟩ := P4
  refine hq_p rfl rfl ?_
  refine hq_p rfl rfl ?_
  refine hq_p rfl rfl ?_
  refine hq_p rfl rfl ?_
  refine hq_p rfl rfl (ty_ge (n := 1) nk_i1 (fun z7 ez7 => ?_))
  refine hq_p rfl rfl (ty_ge (n := i0.toInt + z7.toInt) (nm_add (by omega) (by omega)) (fun z8 ez8 => ?_))
  refine hq_iald rfl (hS h5) (hs_in (by omega) (by omega)) (ty_ga (fun z9 az9 bz9 => ?_))
  refine ty_callj 0 (W := ty_W2t) H Jh5 rfl (fun _ => rfl) rfl rfl rfl (hq_pre_o Ih5.1 (x := 97) (ci := 11) rfl (by decide) rfl rfl rfl rfl) (fun a k w => by unfold ty_Wz at w; unfold ty_W2t; omega) (by unfold ty_Wz ty_W2t; omega) (ct_213 (x1 := z9) (by omega)) (fun h11 _ Jh11 P10 => ?_)
  have Ih11 := H.1 h11 Jh11
  obtain ⟨z12, rfl, az12, bz12⟩ := P10
  refine hq_p rfl rfl ?_
  refine hq_p rfl rfl ?_
  exact K h11 (tq_g hr Jh11)
set_option maxRecDepth 20000 in
set_option maxHeartbeats 4000000 in
theorem tb_19 {X : pm_X} {d L n : Nat} {xs : Nat → Int32} {h : pm_H} {i0 : Int32} {Q : pm_H → Option Value → Prop} (hd : 120 ≤ d) (hX : ty_SX X) (hS : ∀ h, pm_arr X h (.retAddr 200) = some (0, L, .inl xs)) (hL : L ≤ 3072) (a0 : 0 ≤ i0.toInt) (b0 : i0.toInt + 6 ≤ L) (hK : tq_K n h) (K : ∀ h1, tq_K (n + 1) h1 → hq_W X d 12 false (some .boolean) pm_cL (1205, [some (.retAddr 200), some (.ref 0), some (.ref 97), some (.int i0)], [], h1) Q) : hq_W X d 12 false (some .boolean) pm_cL (719, [some (.retAddr 200), some (.ref 0), some (.ref 97), some (.int i0)], [], h) Q := by
  obtain ⟨T, hJ0, hr⟩ := hK
  have H := tp_CG n T h
  have hJ : tp_G n T h h := ⟨hJ0, fr_refl h _⟩
  have I := H.1 h hJ
  refine hq_p rfl rfl ?_
  refine hq_p rfl rfl ?_
  refine hq_p rfl rfl ?_
  refine hq_p rfl rfl (ty_ge (n := 1) nk_i1 (fun z1 ez1 => ?_))
  refine hq_p rfl rfl (ty_ge (n := i0.toInt + z1.toInt) (nm_add (by omega) (by omega)) (fun z2 ez2 => ?_))
  refine hq_iald rfl (hS h) (hs_in (by omega) (by omega)) (ty_ga (fun z3 az3 bz3 => ?_))
  refine ty_callj 0 (W := ty_W2t) H hJ rfl (fun _ => rfl) rfl rfl rfl (hq_pre_o I.1 (x := 0) (ci := 10) rfl (by decide) rfl rfl rfl rfl) (fun a k w => by unfold ty_Wc at w; unfold ty_W2t; omega) (by unfold ty_Wc ty_W2t; omega) (ct_102 (x1 := z3) (by omega)) (fun h5 _ Jh5 P4 => ?_)
  have Ih5 := H.1 h5 Jh5
  obtain ⟨z6, rfl, az6, bz6⟩ := P4
  refine hq_p rfl rfl ?_
  refine hq_p rfl rfl ?_
  refine hq_p rfl rfl ?_
  refine hq_p rfl rfl ?_
  refine hq_p rfl rfl (ty_ge (n := 1) nk_i1 (fun z7 ez7 => ?_))
  refine hq_p rfl rfl (ty_ge (n := i0.toInt + z7.toInt) (nm_add (by omega) (by omega)) (fun z8 ez8 => ?_))
  refine hq_iald rfl (hS h5) (hs_in (by omega) (by omega)) (ty_ga (fun z9 az9 bz9 => ?_))
  refine ty_callj 0 (W := ty_W2t) H Jh5 rfl (fun _ => rfl) rfl rfl rfl (hq_pre_o Ih5.1 (x := 97) (ci := 11) rfl (by decide) rfl rfl rfl rfl) (fun a k w => by unfold ty_Wz at w; unfold ty_W2t; omega) (by unfold ty_Wz ty_W2t; omega) (ct_218 (x1 := z9) (by omega)) (fun h11 _ Jh11 P10 => ?_)
  have Ih11 := H.1 h11 Jh11
  obtain ⟨z12, rfl, az12, bz12⟩ := P10
  refine hq_p rfl rfl ?_
  refine hq_p rfl rfl ?_
  exact K h11 (tq_g hr Jh11)
set_option maxRecDepth 20000 in
set_option maxHeartbeats 4000000 in
theorem tb_20 {X : pm_X} {d L n : Nat} {xs : Nat → Int32} {h : pm_H} {i0 : Int32} {Q : pm_H → Option Value → Prop} (hd : 120 ≤ d) (hX : ty_SX X) (hS : ∀ h, pm_arr X h (.retAddr 200) = some (0, L, .inl xs)) (hL : L ≤ 3072) (a0 : 0 ≤ i0.toInt) (b0 : i0.toInt + 6 ≤ L) (hK : tq_K n h) (K : ∀ h1, tq_K (n + 1) h1 → hq_W X d 12 false (some .boolean) pm_cL (1205, [some (.retAddr 200), some (.ref 0), some (.ref 97), some (.int i0)], [], h1) Q) : hq_W X d 12 false (some .boolean) pm_cL (742, [some (.retAddr 200), some (.ref 0), some (.ref 97), some (.int i0)], [], h) Q := by
  obtain ⟨T, hJ0, hr⟩ := hK
  have H := tp_CG n T h
  have hJ : tp_G n T h h := ⟨hJ0, fr_refl h _⟩
  have I := H.1 h hJ
  refine hq_p rfl rfl ?_
  refine ty_callj 0 (W := ty_W2t) H hJ rfl (fun _ => rfl) rfl rfl rfl (hq_pre_o I.1 (x := 0) (ci := 10) rfl (by decide) rfl rfl rfl rfl) (fun a k w => by unfold ty_Wc at w; unfold ty_W2t; omega) (by unfold ty_Wc ty_W2t; omega) (ct_103 (by omega)) (fun h2 _ Jh2 P1 => ?_)
  have Ih2 := H.1 h2 Jh2
  obtain ⟨z3, rfl, az3, bz3⟩ := P1
  refine hq_p rfl rfl ?_
  refine hq_p rfl rfl ?_
  refine ty_callj 0 (W := ty_W2t) H Jh2 rfl (fun _ => rfl) rfl rfl rfl (hq_pre_o Ih2.1 (x := 97) (ci := 11) rfl (by decide) rfl rfl rfl rfl) (fun a k w => by unfold ty_Wz at w; unfold ty_W2t; omega) (by unfold ty_Wz ty_W2t; omega) (ct_221 (by omega)) (fun h5 _ Jh5 P4 => ?_)
  have Ih5 := H.1 h5 Jh5
  obtain ⟨z6, rfl, az6, bz6⟩ := P4
  refine hq_p rfl rfl ?_
  refine hq_p rfl rfl ?_
  exact K h5 (tq_g hr Jh5)
end CT61
