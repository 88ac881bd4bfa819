/-! CONTRACTS (printed by wip/pm/cts.py) -/
section CT62
set_option maxRecDepth 20000 in
set_option maxHeartbeats 4000000 in
theorem tb_21 {X : pm_X} {d L n : Nat} {xs : Nat → Int32} {h : pm_H} {i0 : Int32} {Q : pm_H → Option Value → Prop} (hd : 120 ≤ d) (hX : ty_SX X) (hS : ∀ h, pm_arr X h (.retAddr 200) = some (0, L, .inl xs)) (hL : L ≤ 3072) (a0 : 0 ≤ i0.toInt) (b0 : i0.toInt + 6 ≤ L) (hK : tq_K n h) (K : ∀ h1, tq_K (n + 1) h1 → hq_W X d 12 false (some .boolean) pm_cL (1205, [some (.retAddr 200), some (.ref 0), some (.ref 97), some (.int i0)], [], h1) Q) : hq_W X d 12 false (some .boolean) pm_cL (755, [some (.retAddr 200), some (.ref 0), some (.ref 97), some (.int i0)], [], h) Q := by
  obtain ⟨T, hJ0, hr⟩ := hK
  have H := tp_CG n T h
  have hJ : tp_G n T h h := ⟨hJ0, fr_refl h _⟩
  have I := H.1 h hJ
  refine hq_p rfl rfl ?_
  refine ty_callj 0 (W := ty_W2t) H hJ rfl (fun _ => rfl) rfl rfl rfl (hq_pre_o I.1 (x := 0) (ci := 10) rfl (by decide) rfl rfl rfl rfl) (fun a k w => by unfold ty_Wc at w; unfold ty_W2t; omega) (by unfold ty_Wc ty_W2t; omega) (ct_104 (by omega)) (fun h2 _ Jh2 P1 => ?_)
  have Ih2 := H.1 h2 Jh2
  obtain ⟨z3, rfl, az3, bz3⟩ := P1
  refine hq_p rfl rfl ?_
  refine hq_p rfl rfl ?_
  refine ty_callj 0 (W := ty_W2t) H Jh2 rfl (fun _ => rfl) rfl rfl rfl (hq_pre_o Ih2.1 (x := 97) (ci := 11) rfl (by decide) rfl rfl rfl rfl) (fun a k w => by unfold ty_Wz at w; unfold ty_W2t; omega) (by unfold ty_Wz ty_W2t; omega) (ct_146 (by omega)) (fun h5 _ Jh5 P4 => ?_)
  have Ih5 := H.1 h5 Jh5
  obtain ⟨z6, rfl, az6, bz6⟩ := P4
  refine hq_p rfl rfl ?_
  refine hq_p rfl rfl ?_
  exact K h5 (tq_g hr Jh5)
set_option maxRecDepth 20000 in
set_option maxHeartbeats 4000000 in
theorem tb_22 {X : pm_X} {d L n : Nat} {xs : Nat → Int32} {h : pm_H} {i0 : Int32} {Q : pm_H → Option Value → Prop} (hd : 120 ≤ d) (hX : ty_SX X) (hS : ∀ h, pm_arr X h (.retAddr 200) = some (0, L, .inl xs)) (hL : L ≤ 3072) (a0 : 0 ≤ i0.toInt) (b0 : i0.toInt + 6 ≤ L) (hK : tq_K n h) (K : ∀ h1, tq_K (n + 1) h1 → hq_W X d 12 false (some .boolean) pm_cL (1205, [some (.retAddr 200), some (.ref 0), some (.ref 97), some (.int i0)], [], h1) Q) : hq_W X d 12 false (some .boolean) pm_cL (768, [some (.retAddr 200), some (.ref 0), some (.ref 97), some (.int i0)], [], h) Q := by
  obtain ⟨T, hJ0, hr⟩ := hK
  have H := tp_CG n T h
  have hJ : tp_G n T h h := ⟨hJ0, fr_refl h _⟩
  have I := H.1 h hJ
  refine hq_p rfl rfl ?_
  refine hq_p rfl rfl ?_
  refine hq_p rfl rfl ?_
  refine hq_p rfl rfl (ty_ge (n := 1) nk_i1 (fun z1 ez1 => ?_))
  refine hq_p rfl rfl (ty_ge (n := i0.toInt + z1.toInt) (nm_add (by omega) (by omega)) (fun z2 ez2 => ?_))
  refine hq_iald rfl (hS h) (hs_in (by omega) (by omega)) (ty_ga (fun z3 az3 bz3 => ?_))
  refine ty_callj 0 (W := ty_W2t) H hJ rfl (fun _ => rfl) rfl rfl rfl (hq_pre_o I.1 (x := 0) (ci := 10) rfl (by decide) rfl rfl rfl rfl) (fun a k w => by unfold ty_Wc at w; unfold ty_W2t; omega) (by unfold ty_Wc ty_W2t; omega) (ct_105 (x1 := z3) (by omega)) (fun h5 _ Jh5 P4 => ?_)
  have Ih5 := H.1 h5 Jh5
  obtain ⟨z6, rfl, az6, bz6⟩ := P4
  refine hq_p rfl rfl ?_
  refine hq_p rfl rfl ?_
  refine hq_p rfl rfl ?_
  refine hq_p rfl rfl ?_
  refine hq_p rfl rfl (ty_ge (n := 1) nk_i1 (fun z7 ez7 => ?_))
  refine hq_p rfl rfl (ty_ge (n := i0.toInt + z7.toInt) (nm_add (by omega) (by omega)) (fun z8 ez8 => ?_))
  refine hq_iald rfl (hS h5) (hs_in (by omega) (by omega)) (ty_ga (fun z9 az9 bz9 => ?_))
  refine ty_callj 0 (W := ty_W2t) H Jh5 rfl (fun _ => rfl) rfl rfl rfl (hq_pre_o Ih5.1 (x := 97) (ci := 11) rfl (by decide) rfl rfl rfl rfl) (fun a k w => by unfold ty_Wx at w; unfold ty_W2t; omega) (by unfold ty_Wx ty_W2t; omega) (ct_226 (x1 := z9) (by omega)) (fun h11 _ Jh11 P10 => ?_)
  have Ih11 := H.1 h11 Jh11
  obtain ⟨z12, rfl, az12, bz12⟩ := P10
  refine hq_p rfl rfl ?_
  refine hq_p rfl rfl ?_
  exact K h11 (tq_g hr Jh11)
set_option maxRecDepth 20000 in
set_option maxHeartbeats 4000000 in
theorem tb_23 {X : pm_X} {d L n : Nat} {xs : Nat → Int32} {h : pm_H} {i0 : Int32} {Q : pm_H → Option Value → Prop} (hd : 120 ≤ d) (hX : ty_SX X) (hS : ∀ h, pm_arr X h (.retAddr 200) = some (0, L, .inl xs)) (hL : L ≤ 3072) (a0 : 0 ≤ i0.toInt) (b0 : i0.toInt + 6 ≤ L) (hK : tq_K n h) (K : ∀ h1, tq_K (n + 1) h1 → hq_W X d 12 false (some .boolean) pm_cL (1205, [some (.retAddr 200), some (.ref 0), some (.ref 97), some (.int i0)], [], h1) Q) : hq_W X d 12 false (some .boolean) pm_cL (791, [some (.retAddr 200), some (.ref 0), some (.ref 97), some (.int i0)], [], h) Q := by
  obtain ⟨T, hJ0, hr⟩ := hK
  have H := tp_CG n T h
  have hJ : tp_G n T h h := ⟨hJ0, fr_refl h _⟩
  have I := H.1 h hJ
  refine hq_p rfl rfl ?_
  refine hq_p rfl rfl ?_
  refine hq_p rfl rfl ?_
  refine hq_p rfl rfl (ty_ge (n := 1) nk_i1 (fun z1 ez1 => ?_))
  refine hq_p rfl rfl (ty_ge (n := i0.toInt + z1.toInt) (nm_add (by omega) (by omega)) (fun z2 ez2 => ?_))
  refine hq_iald rfl (hS h) (hs_in (by omega) (by omega)) (ty_ga (fun z3 az3 bz3 => ?_))
  refine ty_callj 0 (W := ty_W2t) H hJ rfl (fun _ => rfl) rfl rfl rfl (hq_pre_o I.1 (x := 0) (ci := 10) rfl (by decide) rfl rfl rfl rfl) (fun a k w => by unfold ty_Wc at w; unfold ty_W2t; omega) (by unfold ty_Wc ty_W2t; omega) (ct_106 (x1 := z3) (by omega)) (fun h5 _ Jh5 P4 => ?_)
  have Ih5 := H.1 h5 Jh5
  obtain ⟨z6, rfl, az6, bz6⟩ := P4
  refine hq_p rfl rfl ?_
  refine hq_p rfl rfl ?_
  refine hq_p rfl rfl ?_
  refine hq_p rfl rfl ?_
  refine hq_p rfl rfl (ty_ge (n := 1) nk_i1 (fun z7 ez7 => ?_))
  refine hq_p rfl rfl (ty_ge (n := i0.toInt + z7.toInt) (nm_add (by omega) (by omega)) (fun z8 ez8 => ?_))
  refine hq_iald rfl (hS h5) (hs_in (by omega) (by omega)) (ty_ga (fun z9 az9 bz9 => ?_))
  refine ty_callj 0 (W := ty_W2t) H Jh5 rfl (fun _ => rfl) rfl rfl rfl (hq_pre_o Ih5.1 (x := 97) (ci := 11) rfl (by decide) rfl rfl rfl rfl) (fun a k w => by unfold ty_Wx at w; unfold ty_W2t; omega) (by unfold ty_Wx ty_W2t; omega) (ct_227 (x1 := z9) (by omega)) (fun h11 _ Jh11 P10 => ?_)
  have Ih11 := H.1 h11 Jh11
  obtain ⟨z12, rfl, az12, bz12⟩ := P10
  refine hq_p rfl rfl ?_
  refine hq_p rfl rfl ?_
  exact K h11 (tq_g hr Jh11)
set_option maxRecDepth 20000 in
set_option maxHeartbeats 4000000 in
theorem tb_24 {X : pm_X} {d L n : Nat} {xs : Nat → Int32} {h : pm_H} {i0 : Int32} {Q : pm_H → Option Value → Prop} (hd : 120 ≤ d) (hX : ty_SX X) (hS : ∀ h, pm_arr X h (.retAddr 200) = some (0, L, .inl xs)) (hL : L ≤ 3072) (a0 : 0 ≤ i0.toInt) (b0 : i0.toInt + 6 ≤ L) (hK : tq_K n h) (K : ∀ h1, tq_K (n + 1) h1 → hq_W X d 12 false (some .boolean) pm_cL (1205, [some (.retAddr 200), some (.ref 0), some (.ref 97), some (.int i0)], [], h1) Q) : hq_W X d 12 false (some .boolean) pm_cL (814, [some (.retAddr 200), some (.ref 0), some (.ref 97), some (.int i0)], [], h) Q := by
  obtain ⟨T, hJ0, hr⟩ := hK
  have H := tp_CG n T h
  have hJ : tp_G n T h h := ⟨hJ0, fr_refl h _⟩
  have I := H.1 h hJ
  refine hq_p rfl rfl ?_
  refine hq_p rfl rfl ?_
  refine hq_p rfl rfl ?_
  refine hq_p rfl rfl (ty_ge (n := 1) nk_i1 (fun z1 ez1 => ?_))
  refine hq_p rfl rfl (ty_ge (n := i0.toInt + z1.toInt) (nm_add (by omega) (by omega)) (fun z2 ez2 => ?_))
  refine hq_iald rfl (hS h) (hs_in (by omega) (by omega)) (ty_ga (fun z3 az3 bz3 => ?_))
  refine hq_p rfl rfl ?_
  refine hq_p rfl rfl ?_
  refine hq_p rfl rfl (ty_ge (n := 2) nk_i2 (fun z4 ez4 => ?_))
  refine hq_p rfl rfl (ty_ge (n := i0.toInt + z4.toInt) (nm_add (by omega) (by omega)) (fun z5 ez5 => ?_))
  refine hq_iald rfl (hS h) (hs_in (by omega) (by omega)) (ty_ga (fun z6 az6 bz6 => ?_))
  refine ty_callj 0 (W := ty_W2t) H hJ rfl (fun _ => rfl) rfl rfl rfl (hq_pre_o I.1 (x := 0) (ci := 10) rfl (by decide) rfl rfl rfl rfl) (fun a k w => by unfold ty_Wc at w; unfold ty_W2t; omega) (by unfold ty_Wc ty_W2t; omega) (ct_107 (x1 := z3) (x2 := z6) (by omega)) (fun h8 _ Jh8 P7 => ?_)
  have Ih8 := H.1 h8 Jh8
  obtain ⟨z9, rfl, az9, bz9⟩ := P7
  refine hq_p rfl rfl ?_
  refine hq_p rfl rfl ?_
  refine hq_p rfl rfl ?_
  refine hq_p rfl rfl ?_
  refine hq_p rfl rfl (ty_ge (n := 1) nk_i1 (fun z10 ez10 => ?_))
  refine hq_p rfl rfl (ty_ge (n := i0.toInt + z10.toInt) (nm_add (by omega) (by omega)) (fun z11 ez11 => ?_))
  refine hq_iald rfl (hS h8) (hs_in (by omega) (by omega)) (ty_ga (fun z12 az12 bz12 => ?_))
  refine hq_p rfl rfl ?_
  refine hq_p rfl rfl ?_
  refine hq_p rfl rfl (ty_ge (n := 2) nk_i2 (fun z13 ez13 => ?_))
  refine hq_p rfl rfl (ty_ge (n := i0.toInt + z13.toInt) (nm_add (by omega) (by omega)) (fun z14 ez14 => ?_))
  refine hq_iald rfl (hS h8) (hs_in (by omega) (by omega)) (ty_ga (fun z15 az15 bz15 => ?_))
  refine ty_callj 0 (W := ty_W2t) H Jh8 rfl (fun _ => rfl) rfl rfl rfl (hq_pre_o Ih8.1 (x := 97) (ci := 11) rfl (by decide) rfl rfl rfl rfl) (fun a k w => by unfold ty_Wx at w; unfold ty_W2t; omega) (by unfold ty_Wx ty_W2t; omega) (ct_228 (x1 := z12) (x2 := z15) (by omega)) (fun h17 _ Jh17 P16 => ?_)
  have Ih17 := H.1 h17 Jh17
  obtain ⟨z18, rfl, az18, bz18⟩ := P16
  refine hq_p rfl rfl ?_
  refine hq_p rfl rfl ?_
  exact K h17 (tq_g hr Jh17)
set_option maxRecDepth 20000 in
set_option maxHeartbeats 4000000 in
theorem tb_25 {X : pm_X} {d L n : Nat} {xs : Nat → Int32} {h : pm_H} {i0 : Int32} {Q : pm_H → Option Value → Prop} (hd : 120 ≤ d) (hX : ty_SX X) (hS : ∀ h, pm_arr X h (.retAddr 200) = some (0, L, .inl xs)) (hL : L ≤ 3072) (a0 : 0 ≤ i0.toInt) (b0 : i0.toInt + 6 ≤ L) (hK : tq_K n h) (K : ∀ h1, tq_K (n + 1) h1 → hq_W X d 12 false (some .boolean) pm_cL (1205, [some (.retAddr 200), some (.ref 0), some (.ref 97), some (.int i0)], [], h1) Q) : hq_W X d 12 false (some .boolean) pm_cL (847, [some (.retAddr 200), some (.ref 0), some (.ref 97), some (.int i0)], [], h) Q := by
  obtain ⟨T, hJ0, hr⟩ := hK
  have H := tp_CG n T h
  have hJ : tp_G n T h h := ⟨hJ0, fr_refl h _⟩
  have I := H.1 h hJ
  refine hq_p rfl rfl ?_
  refine ty_callj 0 (W := ty_W2t) H hJ rfl (fun _ => rfl) rfl rfl rfl (hq_pre_o I.1 (x := 0) (ci := 10) rfl (by decide) rfl rfl rfl rfl) (fun a k w => by unfold ty_Wc at w; unfold ty_W2t; omega) (by unfold ty_Wc ty_W2t; omega) (ct_108 (by omega)) (fun h2 _ Jh2 P1 => ?_)
  have Ih2 := H.1 h2 Jh2
  obtain ⟨z3, rfl, az3, bz3⟩ := P1
  refine hq_p rfl rfl ?_
  refine hq_p rfl rfl ?_
  refine ty_callj 0 (W := ty_W2t) H Jh2 rfl (fun _ => rfl) rfl rfl rfl (hq_pre_o Ih2.1 (x := 97) (ci := 11) rfl (by decide) rfl rfl rfl rfl) (fun a k w => by unfold ty_Wx at w; unfold ty_W2t; omega) (by unfold ty_Wx ty_W2t; omega) (ct_229 (by omega)) (fun h5 _ Jh5 P4 => ?_)
  have Ih5 := H.1 h5 Jh5
  obtain ⟨z6, rfl, az6, bz6⟩ := P4
  refine hq_p rfl rfl ?_
  refine hq_p rfl rfl ?_
  exact K h5 (tq_g hr Jh5)
set_option maxRecDepth 20000 in
set_option maxHeartbeats 4000000 in
theorem tb_26 {X : pm_X} {d L n : Nat} {xs : Nat → Int32} {h : pm_H} {i0 : Int32} {Q : pm_H → Option Value → Prop} (hd : 120 ≤ d) (hX : ty_SX X) (hS : ∀ h, pm_arr X h (.retAddr 200) = some (0, L, .inl xs)) (hL : L ≤ 3072) (a0 : 0 ≤ i0.toInt) (b0 : i0.toInt + 6 ≤ L) (hK : tq_K n h) (K : ∀ h1, tq_K (n + 1) h1 → hq_W X d 12 false (some .boolean) pm_cL (1205, [some (.retAddr 200), some (.ref 0), some (.ref 97), some (.int i0)], [], h1) Q) : hq_W X d 12 false (some .boolean) pm_cL (860, [some (.retAddr 200), some (.ref 0), some (.ref 97), some (.int i0)], [], h) Q := by
  obtain ⟨T, hJ0, hr⟩ := hK
  have H := tp_CG n T h
  have hJ : tp_G n T h h := ⟨hJ0, fr_refl h _⟩
  have I := H.1 h hJ
  refine hq_p rfl rfl ?_
  refine ty_callj 0 (W := ty_W2t) H hJ rfl (fun _ => rfl) rfl rfl rfl (hq_pre_o I.1 (x := 0) (ci := 10) rfl (by decide) rfl rfl rfl rfl) (fun a k w => by unfold ty_Wc at w; unfold ty_W2t; omega) (by unfold ty_Wc ty_W2t; omega) (ct_109 (by omega)) (fun h2 _ Jh2 P1 => ?_)
  have Ih2 := H.1 h2 Jh2
  obtain ⟨z3, rfl, az3, bz3⟩ := P1
  refine hq_p rfl rfl ?_
  refine hq_p rfl rfl ?_
  refine ty_callj 0 (W := ty_W2t) H Jh2 rfl (fun _ => rfl) rfl rfl rfl (hq_pre_o Ih2.1 (x := 97) (ci := 11) rfl (by decide) rfl rfl rfl rfl) (fun a k w => by unfold ty_Wx at w; unfold ty_W2t; omega) (by unfold ty_Wx ty_W2t; omega) (ct_232 (by omega)) (fun h5 _ Jh5 P4 => ?_)
  have Ih5 := H.1 h5 Jh5
  obtain ⟨z6, rfl, az6, bz6⟩ := P4
  refine hq_p rfl rfl ?_
  refine hq_p rfl rfl ?_
  exact K h5 (tq_g hr Jh5)
set_option maxRecDepth 20000 in
set_option maxHeartbeats 4000000 in
theorem tb_27 {X : pm_X} {d L n : Nat} {xs : Nat → Int32} {h : pm_H} {i0 : Int32} {Q : pm_H → Option Value → Prop} (hd : 120 ≤ d) (hX : ty_SX X) (hS : ∀ h, pm_arr X h (.retAddr 200) = some (0, L, .inl xs)) (hL : L ≤ 3072) (a0 : 0 ≤ i0.toInt) (b0 : i0.toInt + 6 ≤ L) (hK : tq_K n h) (K : ∀ h1, tq_K (n + 1) h1 → hq_W X d 12 false (some .boolean) pm_cL (1205, [some (.retAddr 200), some (.ref 0), some (.ref 97), some (.int i0)], [], h1) Q) : hq_W X d 12 false (some .boolean) pm_cL (873, [some (.retAddr 200), some (.ref 0), some (.ref 97), some (.int i0)], [], h) Q := by
  obtain ⟨T, hJ0, hr⟩ := hK
  have H := tp_CG n T h
  have hJ : tp_G n T h h := ⟨hJ0, fr_refl h _⟩
  have I := H.1 h hJ
  refine hq_p rfl rfl ?_
  refine hq_p rfl rfl ?_
  refine hq_p rfl rfl ?_
  refine hq_p rfl rfl (ty_ge (n := 1) nk_i1 (fun z1 ez1 => ?_))
  refine hq_p rfl rfl (ty_ge (n := i0.toInt + z1.toInt) (nm_add (by omega) (by omega)) (fun z2 ez2 => ?_))
  refine hq_iald rfl (hS h) (hs_in (by omega) (by omega)) (ty_ga (fun z3 az3 bz3 => ?_))
  refine ty_callj 0 (W := ty_W2t) H hJ rfl (fun _ => rfl) rfl rfl rfl (hq_pre_o I.1 (x := 0) (ci := 10) rfl (by decide) rfl rfl rfl rfl) (fun a k w => by unfold ty_Wc at w; unfold ty_W2t; omega) (by unfold ty_Wc ty_W2t; omega) (ct_110 (x1 := z3) (by omega)) (fun h5 _ Jh5 P4 => ?_)
  have Ih5 := H.1 h5 Jh5
  obtain ⟨z6, rfl, az6, bz6⟩ := P4
  refine hq_p rfl rfl ?_
  refine hq_p rfl rfl ?_
  refine hq_p rfl rfl ?_
  refine hq_p rfl rfl ?_
  refine hq_p rfl rfl (ty_ge (n := 1) nk_i1 (fun z7 ez7 => ?_))
  refine hq_p rfl rfl (ty_ge (n := i0.toInt + z7.toInt) (nm_add (by omega) (by omega)) (fun z8 ez8 => ?_))
  refine hq_iald rfl (hS h5) (hs_in (by omega) (by omega)) (ty_ga (fun z9 az9 bz9 => ?_))
  refine ty_callj 0 (W := ty_W2t) H Jh5 rfl (fun _ => rfl) rfl rfl rfl (hq_pre_o Ih5.1 (x := 97) (ci := 11) rfl (by decide) rfl rfl rfl rfl) (fun a k w => by unfold ty_Wx at w; unfold ty_W2t; omega) (by unfold ty_Wx ty_W2t; omega) (ct_233 (x1 := z9) (by omega)) (fun h11 _ Jh11 P10 => ?_)
  have Ih11 := H.1 h11 Jh11
  obtain ⟨z12, rfl, az12, bz12⟩ := P10
  refine hq_p rfl rfl ?_
  refine hq_p rfl rfl ?_
  exact K h11 (tq_g hr Jh11)
set_option maxRecDepth 20000 in
set_option maxHeartbeats 4000000 in
theorem tb_28 {X : pm_X} {d L n : Nat} {xs : Nat → Int32} {h : pm_H} {i0 : Int32} {Q : pm_H → Option Value → Prop} (hd : 120 ≤ d) (hX : ty_SX X) (hS : ∀ h, pm_arr X h (.retAddr 200) = some (0, L, .inl xs)) (hL : L ≤ 3072) (a0 : 0 ≤ i0.toInt) (b0 : i0.toInt + 6 ≤ L) (hK : tq_K n h) (K : ∀ h1, tq_K (n + 1) h1 → hq_W X d 12 false (some .boolean) pm_cL (1205, [some (.retAddr 200), some (.ref 0), some (.ref 97), some (.int i0)], [], h1) Q) : hq_W X d 12 false (some .boolean) pm_cL (896, [some (.retAddr 200), some (.ref 0), some (.ref 97), some (.int i0)], [], h) Q := by
  obtain ⟨T, hJ0, hr⟩ := hK
  have H := tp_CG n T h
  have hJ : tp_G n T h h := ⟨hJ0, fr_refl h _⟩
  have I := H.1 h hJ
  refine hq_p rfl rfl ?_
  refine hq_p rfl rfl ?_
  refine hq_p rfl rfl ?_
  refine hq_p rfl rfl (ty_ge (n := 1) nk_i1 (fun z1 ez1 => ?_))
  refine hq_p rfl rfl (ty_ge (n := i0.toInt + z1.toInt) (nm_add (by omega) (by omega)) (fun z2 ez2 => ?_))
  refine hq_iald rfl (hS h) (hs_in (by omega) (by omega)) (ty_ga (fun z3 az3 bz3 => ?_))
  refine hq_p rfl rfl ?_
  refine hq_p rfl rfl ?_
  refine hq_p rfl rfl (ty_ge (n := 2) nk_i2 (fun z4 ez4 => ?_))
  refine hq_p rfl rfl (ty_ge (n := i0.toInt + z4.toInt) (nm_add (by omega) (by omega)) (fun z5 ez5 => ?_))
  refine hq_iald rfl (hS h) (hs_in (by omega) (by omega)) (ty_ga (fun z6 az6 bz6 => ?_))
  refine ty_callj 0 (W := ty_W2t) H hJ rfl (fun _ => rfl) rfl rfl rfl (hq_pre_o I.1 (x := 0) (ci := 10) rfl (by decide) rfl rfl rfl rfl) (fun a k w => by unfold ty_Wc at w; unfold ty_W2t; omega) (by unfold ty_Wc ty_W2t; omega) (ct_111 (x1 := z3) (x2 := z6) (by omega)) (fun h8 _ Jh8 P7 => ?_)
  have Ih8 := H.1 h8 Jh8
  obtain ⟨z9, rfl, az9, bz9⟩ := P7
  refine hq_p rfl rfl ?_
  refine hq_p rfl rfl ?_
  refine hq_p rfl rfl ?_
  refine hq_p rfl rfl ?_
  refine hq_p rfl rfl (ty_ge (n := 1) nk_i1 (fun z10 ez10 => ?_))
  refine hq_p rfl rfl (ty_ge (n := i0.toInt + z10.toInt) (nm_add (by omega) (by omega)) (fun z11 ez11 => ?_))
  refine hq_iald rfl (hS h8) (hs_in (by omega) (by omega)) (ty_ga (fun z12 az12 bz12 => ?_))
  refine hq_p rfl rfl ?_
  refine hq_p rfl rfl ?_
  refine hq_p rfl rfl (ty_ge (n := 2) nk_i2 (fun z13 ez13 => ?_))
  refine hq_p rfl rfl (ty_ge (n := i0.toInt + z13.toInt) (nm_add (by omega) (by omega)) (fun z14 ez14 => ?_))
  refine hq_iald rfl (hS h8) (hs_in (by omega) (by omega)) (ty_ga (fun z15 az15 bz15 => ?_))
  refine ty_callj 0 (W := ty_W2t) H Jh8 rfl (fun _ => rfl) rfl rfl rfl (hq_pre_o Ih8.1 (x := 97) (ci := 11) rfl (by decide) rfl rfl rfl rfl) (fun a k w => by unfold ty_Wx at w; unfold ty_W2t; omega) (by unfold ty_Wx ty_W2t; omega) (ct_237 (x1 := z12) (x2 := z15) (by omega)) (fun h17 _ Jh17 P16 => ?_)
  have Ih17 := H.1 h17 Jh17
  obtain ⟨z18, rfl, az18, bz18⟩ := P16
  refine hq_p rfl rfl ?_
  refine hq_p rfl rfl ?_
  exact K h17 (tq_g hr Jh17)
set_option maxRecDepth 20000 in
set_option maxHeartbeats 4000000 in
theorem tb_29 {X : pm_X} {d L n : Nat} {xs : Nat → Int32} {h : pm_H} {i0 : Int32} {Q : pm_H → Option Value → Prop} (hd : 120 ≤ d) (hX : ty_SX X) (hS : ∀ h, pm_arr X h (.retAddr 200) = some (0, L, .inl xs)) (hL : L ≤ 3072) (a0 : 0 ≤ i0.toInt) (b0 : i0.toInt + 6 ≤ L) (hK : tq_K n h) (K : ∀ h1, tq_K (n + 1) h1 → hq_W X d 12 false (some .boolean) pm_cL (1205, [some (.retAddr 200), some (.ref 0), some (.ref 97), some (.int i0)], [], h1) Q) : hq_W X d 12 false (some .boolean) pm_cL (929, [some (.retAddr 200), some (.ref 0), some (.ref 97), some (.int i0)], [], h) Q := by
  obtain ⟨T, hJ0, hr⟩ := hK
  have H := tp_CG n T h
  have hJ : tp_G n T h h := ⟨hJ0, fr_refl h _⟩
  have I := H.1 h hJ
  refine hq_p rfl rfl ?_
  refine hq_p rfl rfl ?_
  refine hq_p rfl rfl ?_
  refine hq_p rfl rfl (ty_ge (n := 1) nk_i1 (fun z1 ez1 => ?_))
  refine hq_p rfl rfl (ty_ge (n := i0.toInt + z1.toInt) (nm_add (by omega) (by omega)) (fun z2 ez2 => ?_))
  refine hq_iald rfl (hS h) (hs_in (by omega) (by omega)) (ty_ga (fun z3 az3 bz3 => ?_))
  refine ty_callj 0 (W := ty_W2t) H hJ rfl (fun _ => rfl) rfl rfl rfl (hq_pre_o I.1 (x := 0) (ci := 10) rfl (by decide) rfl rfl rfl rfl) (fun a k w => by unfold ty_Wc at w; unfold ty_W2t; omega) (by unfold ty_Wc ty_W2t; omega) (ct_112 (x1 := z3) (by omega)) (fun h5 _ Jh5 P4 => ?_)
  have Ih5 := H.1 h5 Jh5
  obtain ⟨z6, rfl, az6, bz6⟩ := P4
  refine hq_p rfl rfl ?_
  refine hq_p rfl rfl ?_
  refine hq_p rfl rfl ?_
  refine hq_p rfl rfl ?_
  refine hq_p rfl rfl (ty_ge (n := 1) nk_i1 (fun z7 ez7 => ?_))
  refine hq_p rfl rfl (ty_ge (n := i0.toInt + z7.toInt) (nm_add (by omega) (by omega)) (fun z8 ez8 => ?_))
  refine hq_iald rfl (hS h5) (hs_in (by omega) (by omega)) (ty_ga (fun z9 az9 bz9 => ?_))
  refine ty_callj 0 (W := ty_W2t) H Jh5 rfl (fun _ => rfl) rfl rfl rfl (hq_pre_o Ih5.1 (x := 97) (ci := 11) rfl (by decide) rfl rfl rfl rfl) (fun a k w => by unfold ty_Wz at w; unfold ty_W2t; omega) (by unfold ty_Wz ty_W2t; omega) (ct_238 (x1 := z9) (by omega)) (fun h11 _ Jh11 P10 => ?_)
  have Ih11 := H.1 h11 Jh11
  obtain ⟨z12, rfl, az12, bz12⟩ := P10
  refine hq_p rfl rfl ?_
  refine hq_p rfl rfl ?_
  exact K h11 (tq_g hr Jh11)
set_option maxRecDepth 20000 in
set_option maxHeartbeats 4000000 in
theorem tb_30 {X : pm_X} {d L n : Nat} {xs : Nat → Int32} {h : pm_H} {i0 : Int32} {Q : pm_H → Option Value → Prop} (hd : 120 ≤ d) (hX : ty_SX X) (hS : ∀ h, pm_arr X h (.retAddr 200) = some (0, L, .inl xs)) (hL : L ≤ 3072) (a0 : 0 ≤ i0.toInt) (b0 : i0.toInt + 6 ≤ L) (hK : tq_K n h) (K : ∀ h1, tq_K (n + 1) h1 → hq_W X d 12 false (some .boolean) pm_cL (1205, [some (.retAddr 200), some (.ref 0), some (.ref 97), some (.int i0)], [], h1) Q) : hq_W X d 12 false (some .boolean) pm_cL (952, [some (.retAddr 200), some (.ref 0), some (.ref 97), some (.int i0)], [], h) Q := by
  obtain ⟨T, hJ0, hr⟩ := hK
  have H := tp_CG n T h
  have hJ : tp_G n T h h := ⟨hJ0, fr_refl h _⟩
  have I := H.1 h hJ
  refine hq_p rfl rfl ?_
  refine hq_p rfl rfl ?_
  refine hq_p rfl rfl ?_
  refine hq_p rfl rfl (ty_ge (n := 1) nk_i1 (fun z1 ez1 => ?_))
  refine hq_p rfl rfl (ty_ge (n := i0.toInt + z1.toInt) (nm_add (by omega) (by omega)) (fun z2 ez2 => ?_))
  refine hq_iald rfl (hS h) (hs_in (by omega) (by omega)) (ty_ga (fun z3 az3 bz3 => ?_))
  refine hq_p rfl rfl ?_
  refine hq_p rfl rfl ?_
  refine hq_p rfl rfl (ty_ge (n := 2) nk_i2 (fun z4 ez4 => ?_))
  refine hq_p rfl rfl (ty_ge (n := i0.toInt + z4.toInt) (nm_add (by omega) (by omega)) (fun z5 ez5 => ?_))
  refine hq_iald rfl (hS h) (hs_in (by omega) (by omega)) (ty_ga (fun z6 az6 bz6 => ?_))
  refine ty_callj 0 (W := ty_W2t) H hJ rfl (fun _ => rfl) rfl rfl rfl (hq_pre_o I.1 (x := 0) (ci := 10) rfl (by decide) rfl rfl rfl rfl) (fun a k w => by unfold ty_Wc at w; unfold ty_W2t; omega) (by unfold ty_Wc ty_W2t; omega) (ct_113 (x1 := z3) (x2 := z6) (by omega)) (fun h8 _ Jh8 P7 => ?_)
  have Ih8 := H.1 h8 Jh8
  obtain ⟨z9, rfl, az9, bz9⟩ := P7
  refine hq_p rfl rfl ?_
  refine hq_p rfl rfl ?_
  refine hq_p rfl rfl ?_
  refine hq_p rfl rfl ?_
  refine hq_p rfl rfl (ty_ge (n := 1) nk_i1 (fun z10 ez10 => ?_))
  refine hq_p rfl rfl (ty_ge (n := i0.toInt + z10.toInt) (nm_add (by omega) (by omega)) (fun z11 ez11 => ?_))
  refine hq_iald rfl (hS h8) (hs_in (by omega) (by omega)) (ty_ga (fun z12 az12 bz12 => ?_))
  refine hq_p rfl rfl ?_
  refine hq_p rfl rfl ?_
  refine hq_p rfl rfl (ty_ge (n := 2) nk_i2 (fun z13 ez13 => ?_))
  refine hq_p rfl rfl (ty_ge (n := i0.toInt + z13.toInt) (nm_add (by omega) (by omega)) (fun z14 ez14 => ?_))
  refine hq_iald rfl (hS h8) (hs_in (by omega) (by omega)) (ty_ga (fun z15 az15 bz15 => ?_))
  refine ty_callj 0 (W := ty_W2t) H Jh8 rfl (fun _ => rfl) rfl rfl rfl (hq_pre_o Ih8.1 (x := 97) (ci := 11) rfl (by decide) rfl rfl rfl rfl) (fun a k w => by unfold ty_Wt at w; unfold ty_W2t; omega) (by unfold ty_Wt ty_W2t; omega) (ct_239 (x1 := z12) (x2 := z15) (by omega)) (fun h17 _ Jh17 P16 => ?_)
  have Ih17 := H.1 h17 Jh17
  obtain ⟨z18, rfl, az18, bz18⟩ := P16
  refine hq_p rfl rfl ?_
  refine hq_p rfl rfl ?_
  exact K h17 (tq_g hr Jh17)
set_option maxRecDepth 20000 in
set_option maxHeartbeats 4000000 in
theorem tb_31 {X : pm_X} {d L n : Nat} {xs : Nat → Int32} {h : pm_H} {i0 : Int32} {Q : pm_H → Option Value → Prop} (hd : 120 ≤ d) (hX : ty_SX X) (hS : ∀ h, pm_arr X h (.retAddr 200) = some (0, L, .inl xs)) (hL : L ≤ 3072) (a0 : 0 ≤ i0.toInt) (b0 : i0.toInt + 6 ≤ L) (hK : tq_K n h) (K : ∀ h1, tq_K (n + 1) h1 → hq_W X d 12 false (some .boolean) pm_cL (1205, [some (.retAddr 200), some (.ref 0), some (.ref 97), some (.int i0)], [], h1) Q) : hq_W X d 12 false (some .boolean) pm_cL (985, [some (.retAddr 200), some (.ref 0), some (.ref 97), some (.int i0)], [], h) Q := by
  obtain ⟨T, hJ0, hr⟩ := hK
  have H := tp_CG n T h
  have hJ : tp_G n T h h := ⟨hJ0, fr_refl h _⟩
  have I := H.1 h hJ
  refine hq_p rfl rfl ?_
  refine hq_p rfl rfl ?_
  refine hq_p rfl rfl ?_
  refine hq_p rfl rfl (ty_ge (n := 1) nk_i1 (fun z1 ez1 => ?_))
  refine hq_p rfl rfl (ty_ge (n := i0.toInt + z1.toInt) (nm_add (by omega) (by omega)) (fun z2 ez2 => ?_))
  refine hq_iald rfl (hS h) (hs_in (by omega) (by omega)) (ty_ga (fun z3 az3 bz3 => ?_))
  refine ty_callj 0 (W := ty_W2t) H hJ rfl (fun _ => rfl) rfl rfl rfl (hq_pre_o I.1 (x := 0) (ci := 10) rfl (by decide) rfl rfl rfl rfl) (fun a k w => by unfold ty_Wc at w; unfold ty_W2t; omega) (by unfold ty_Wc ty_W2t; omega) (ct_114 (x1 := z3) (by omega)) (fun h5 _ Jh5 P4 => ?_)
  have Ih5 := H.1 h5 Jh5
  obtain ⟨z6, rfl, az6, bz6⟩ := P4
  refine hq_p rfl rfl ?_
  refine hq_p rfl rfl ?_
  refine hq_p rfl rfl ?_
  refine hq_p rfl rfl ?_
  refine hq_p rfl rfl (ty_ge (n := 1) nk_i1 (fun z7 ez7 => ?_))
  refine hq_p rfl rfl (ty_ge (n := i0.toInt + z7.toInt) (nm_add (by omega) (by omega)) (fun z8 ez8 => ?_))
  refine hq_iald rfl (hS h5) (hs_in (by omega) (by omega)) (ty_ga (fun z9 az9 bz9 => ?_))
  refine ty_callj 0 (W := ty_W2t) H Jh5 rfl (fun _ => rfl) rfl rfl rfl (hq_pre_o Ih5.1 (x := 97) (ci := 11) rfl (by decide) rfl rfl rfl rfl) (fun a k w => by unfold ty_Wz at w; unfold ty_W2t; omega) (by unfold ty_Wz ty_W2t; omega) (ct_240 (x1 := z9) (by omega)) (fun h11 _ Jh11 P10 => ?_)
  have Ih11 := H.1 h11 Jh11
  obtain ⟨z12, rfl, az12, bz12⟩ := P10
  refine hq_p rfl rfl ?_
  refine hq_p rfl rfl ?_
  exact K h11 (tq_g hr Jh11)
set_option maxRecDepth 20000 in
set_option maxHeartbeats 4000000 in
theorem tb_32 {X : pm_X} {d L n : Nat} {xs : Nat → Int32} {h : pm_H} {i0 : Int32} {Q : pm_H → Option Value → Prop} (hd : 120 ≤ d) (hX : ty_SX X) (hS : ∀ h, pm_arr X h (.retAddr 200) = some (0, L, .inl xs)) (hL : L ≤ 3072) (a0 : 0 ≤ i0.toInt) (b0 : i0.toInt + 6 ≤ L) (hK : tq_K n h) (K : ∀ h1, tq_K (n + 1) h1 → hq_W X d 12 false (some .boolean) pm_cL (1205, [some (.retAddr 200), some (.ref 0), some (.ref 97), some (.int i0)], [], h1) Q) : hq_W X d 12 false (some .boolean) pm_cL (1008, [some (.retAddr 200), some (.ref 0), some (.ref 97), some (.int i0)], [], h) Q := by
  obtain ⟨T, hJ0, hr⟩ := hK
  have H := tp_CG n T h
  have hJ : tp_G n T h h := ⟨hJ0, fr_refl h _⟩
  have I := H.1 h hJ
  refine hq_p rfl rfl ?_
  refine ty_callj 0 (W := ty_W2t) H hJ rfl (fun _ => rfl) rfl rfl rfl (hq_pre_o I.1 (x := 0) (ci := 10) rfl (by decide) rfl rfl rfl rfl) (fun a k w => by unfold ty_Wc at w; unfold ty_W2t; omega) (by unfold ty_Wc ty_W2t; omega) (ct_115 (by omega)) (fun h2 _ Jh2 P1 => ?_)
  have Ih2 := H.1 h2 Jh2
  obtain ⟨z3, rfl, az3, bz3⟩ := P1
  refine hq_p rfl rfl ?_
  refine hq_p rfl rfl ?_
  refine ty_callj 0 (W := ty_W2t) H Jh2 rfl (fun _ => rfl) rfl rfl rfl (hq_pre_o Ih2.1 (x := 97) (ci := 11) rfl (by decide) rfl rfl rfl rfl) (fun a k w => by unfold ty_Wx at w; unfold ty_W2t; omega) (by unfold ty_Wx ty_W2t; omega) (ct_241 (by omega)) (fun h5 _ Jh5 P4 => ?_)
  have Ih5 := H.1 h5 Jh5
  obtain ⟨z6, rfl, az6, bz6⟩ := P4
  refine hq_p rfl rfl ?_
  refine hq_p rfl rfl ?_
  exact K h5 (tq_g hr Jh5)
set_option maxRecDepth 20000 in
set_option maxHeartbeats 4000000 in
theorem tb_33 {X : pm_X} {d L n : Nat} {xs : Nat → Int32} {h : pm_H} {i0 : Int32} {Q : pm_H → Option Value → Prop} (hd : 120 ≤ d) (hX : ty_SX X) (hS : ∀ h, pm_arr X h (.retAddr 200) = some (0, L, .inl xs)) (hL : L ≤ 3072) (a0 : 0 ≤ i0.toInt) (b0 : i0.toInt + 6 ≤ L) (hK : tq_K n h) (K : ∀ h1, tq_K (n + 1) h1 → hq_W X d 12 false (some .boolean) pm_cL (1205, [some (.retAddr 200), some (.ref 0), some (.ref 97), some (.int i0)], [], h1) Q) : hq_W X d 12 false (some .boolean) pm_cL (1021, [some (.retAddr 200), some (.ref 0), some (.ref 97), some (.int i0)], [], h) Q := by
  obtain ⟨T, hJ0, hr⟩ := hK
  have H := tp_CG n T h
  have hJ : tp_G n T h h := ⟨hJ0, fr_refl h _⟩
  have I := H.1 h hJ
  refine hq_p rfl rfl ?_
  refine ty_callj 0 (W := ty_W2t) H hJ rfl (fun _ => rfl) rfl rfl rfl (hq_pre_o I.1 (x := 0) (ci := 10) rfl (by decide) rfl rfl rfl rfl) (fun a k w => by unfold ty_Wc at w; unfold ty_W2t; omega) (by unfold ty_Wc ty_W2t; omega) (ct_116 (by omega)) (fun h2 _ Jh2 P1 => ?_)
  have Ih2 := H.1 h2 Jh2
  obtain ⟨z3, rfl⟩ := P1
  refine hq_p rfl rfl ?_
  refine hq_p rfl rfl ?_
  refine ty_callj 0 (W := ty_W2t) H Jh2 rfl (fun _ => rfl) rfl rfl rfl (hq_pre_o Ih2.1 (x := 97) (ci := 11) rfl (by decide) rfl rfl rfl rfl) (fun a k w => by unfold ty_Wt at w; unfold ty_W2t; omega) (by unfold ty_Wt ty_W2t; omega) (ct_242 (by omega)) (fun h5 _ Jh5 P4 => ?_)
  have Ih5 := H.1 h5 Jh5
  obtain ⟨z6, rfl⟩ := P4
  refine hq_p rfl rfl ?_
  refine hq_p rfl rfl ?_
  exact K h5 (tq_g hr Jh5)
set_option maxRecDepth 20000 in
set_option maxHeartbeats 4000000 in
theorem tb_34 {X : pm_X} {d L n : Nat} {xs : Nat → Int32} {h : pm_H} {i0 : Int32} {Q : pm_H → Option Value → Prop} (hd : 120 ≤ d) (hX : ty_SX X) (hS : ∀ h, pm_arr X h (.retAddr 200) = some (0, L, .inl xs)) (hL : L ≤ 3072) (a0 : 0 ≤ i0.toInt) (b0 : i0.toInt + 6 ≤ L) (hK : tq_K n h) (K : ∀ h1, tq_K (n + 1) h1 → hq_W X d 12 false (some .boolean) pm_cL (1205, [some (.retAddr 200), some (.ref 0), some (.ref 97), some (.int i0)], [], h1) Q) : hq_W X d 12 false (some .boolean) pm_cL (1034, [some (.retAddr 200), some (.ref 0), some (.ref 97), some (.int i0)], [], h) Q := by
  obtain ⟨T, hJ0, hr⟩ := hK
  have H := tp_CG n T h
  have hJ : tp_G n T h h := ⟨hJ0, fr_refl h _⟩
  have I := H.1 h hJ
  refine hq_p rfl rfl ?_
  refine hq_p rfl rfl ?_
  refine hq_p rfl rfl ?_
  refine hq_p rfl rfl (ty_ge (n := 1) nk_i1 (fun z1 ez1 => ?_))
  refine hq_p rfl rfl (ty_ge (n := i0.toInt + z1.toInt) (nm_add (by omega) (by omega)) (fun z2 ez2 => ?_))
  refine hq_iald rfl (hS h) (hs_in (by omega) (by omega)) (ty_ga (fun z3 az3 bz3 => ?_))
  refine ty_callj 0 (W := ty_W2t) H hJ rfl (fun _ => rfl) rfl rfl rfl (hq_pre_o I.1 (x := 0) (ci := 10) rfl (by decide) rfl rfl rfl rfl) (fun a k w => by unfold ty_Wc at w; unfold ty_W2t; omega) (by unfold ty_Wc ty_W2t; omega) (ct_117 (x1 := z3) (by omega)) (fun h5 _ Jh5 P4 => ?_)
  have Ih5 := H.1 h5 Jh5
  obtain ⟨z6, rfl, az6, bz6⟩ := P4
  refine hq_p rfl rfl ?_
  refine hq_p rfl rfl ?_
  refine hq_p rfl rfl ?_
  refine hq_p rfl rfl ?_
  refine hq_p rfl rfl (ty_ge (n := 1) nk_i1 (fun z7 ez7 => ?_))
  refine hq_p rfl rfl (ty_ge (n := i0.toInt + z7.toInt) (nm_add (by omega) (by omega)) (fun z8 ez8 => ?_))
  refine hq_iald rfl (hS h5) (hs_in (by omega) (by omega)) (ty_ga (fun z9 az9 bz9 => ?_))
  refine ty_callj 0 (W := ty_W2t) H Jh5 rfl (fun _ => rfl) rfl rfl rfl (hq_pre_o Ih5.1 (x := 97) (ci := 11) rfl (by decide) rfl rfl rfl rfl) (fun a k w => by unfold ty_Wx at w; unfold ty_W2t; omega) (by unfold ty_Wx ty_W2t; omega) (ct_243 (x1 := z9) (by omega)) (fun h11 _ Jh11 P10 => ?_)
  have Ih11 := H.1 h11 Jh11
  obtain ⟨z12, rfl, az12, bz12⟩ := P10
  refine hq_p rfl rfl ?_
  refine hq_p rfl rfl ?_
  exact K h11 (tq_g hr Jh11)
set_option maxRecDepth 20000 in
set_option maxHeartbeats 4000000 in
theorem tb_35 {X : pm_X} {d L n : Nat} {xs : Nat → Int32} {h : pm_H} {i0 : Int32} {Q : pm_H → Option Value → Prop} (hd : 120 ≤ d) (hX : ty_SX X) (hS : ∀ h, pm_arr X h (.retAddr 200) = some (0, L, .inl xs)) (hL : L ≤ 3072) (a0 : 0 ≤ i0.toInt) (b0 : i0.toInt + 6 ≤ L) (hK : tq_K n h) (K : ∀ h1, tq_K (n + 1) h1 → hq_W X d 12 false (some .boolean) pm_cL (1205, [some (.retAddr 200), some (.ref 0), some (.ref 97), some (.int i0)], [], h1) Q) : hq_W X d 12 false (some .boolean) pm_cL (1057, [some (.retAddr 200), some (.ref 0), some (.ref 97), some (.int i0)], [], h) Q := by
  obtain ⟨T, hJ0, hr⟩ := hK
  have H := tp_CG n T h
  have hJ : tp_G n T h h := ⟨hJ0, fr_refl h _⟩
  have I := H.1 h hJ
  refine hq_p rfl rfl ?_
  refine hq_p rfl rfl ?_
  refine hq_p rfl rfl ?_
  refine hq_p rfl rfl (ty_ge (n := 1) nk_i1 (fun z1 ez1 => ?_))
  refine hq_p rfl rfl (ty_ge (n := i0.toInt + z1.toInt) (nm_add (by omega) (by omega)) (fun z2 ez2 => ?_))
  refine hq_iald rfl (hS h) (hs_in (by omega) (by omega)) (ty_ga (fun z3 az3 bz3 => ?_))
  refine hq_p rfl rfl ?_
  refine hq_p rfl rfl ?_
  refine hq_p rfl rfl (ty_ge (n := 2) nk_i2 (fun z4 ez4 => ?_))
  refine hq_p rfl rfl (ty_ge (n := i0.toInt + z4.toInt) (nm_add (by omega) (by omega)) (fun z5 ez5 => ?_))
  refine hq_iald rfl (hS h) (hs_in (by omega) (by omega)) (ty_ga (fun z6 az6 bz6 => ?_))
  refine ty_callj 0 (W := ty_W2t) H hJ rfl (fun _ => rfl) rfl rfl rfl (hq_pre_o I.1 (x := 0) (ci := 10) rfl (by decide) rfl rfl rfl rfl) (fun a k w => by unfold ty_Wc at w; unfold ty_W2t; omega) (by unfold ty_Wc ty_W2t; omega) (ct_118 (x1 := z3) (x2 := z6) (by omega)) (fun h8 _ Jh8 P7 => ?_)
  have Ih8 := H.1 h8 Jh8
  obtain ⟨z9, rfl, az9, bz9⟩ := P7
  refine hq_p rfl rfl ?_
  refine hq_p rfl rfl ?_
  refine hq_p rfl rfl ?_
  refine hq_p rfl rfl ?_
  refine hq_p rfl rfl (ty_ge (n := 1) nk_i1 (fun z10 ez10 => ?_))
  refine hq_p rfl rfl (ty_ge (n := i0.toInt + z10.toInt) (nm_add (by omega) (by omega)) (fun z11 ez11 => ?_))
  refine hq_iald rfl (hS h8) (hs_in (by omega) (by omega)) (ty_ga (fun z12 az12 bz12 => ?_))
  refine hq_p rfl rfl ?_
  refine hq_p rfl rfl ?_
  refine hq_p rfl rfl (ty_ge (n := 2) nk_i2 (fun z13 ez13 => ?_))
  refine hq_p rfl rfl (ty_ge (n := i0.toInt + z13.toInt) (nm_add (by omega) (by omega)) (fun z14 ez14 => ?_))
  refine hq_iald rfl (hS h8) (hs_in (by omega) (by omega)) (ty_ga (fun z15 az15 bz15 => ?_))
  refine ty_callj 0 (W := ty_W2t) H Jh8 rfl (fun _ => rfl) rfl rfl rfl (hq_pre_o Ih8.1 (x := 97) (ci := 11) rfl (by decide) rfl rfl rfl rfl) (fun a k w => by unfold ty_Wz at w; unfold ty_W2t; omega) (by unfold ty_Wz ty_W2t; omega) (ct_253 (x1 := z12) (x2 := z15) (by omega)) (fun h17 _ Jh17 P16 => ?_)
  have Ih17 := H.1 h17 Jh17
  obtain ⟨z18, rfl, az18, bz18⟩ := P16
  refine hq_p rfl rfl ?_
  refine hq_p rfl rfl ?_
  exact K h17 (tq_g hr Jh17)
set_option maxRecDepth 20000 in
set_option maxHeartbeats 4000000 in
theorem tb_36 {X : pm_X} {d L n : Nat} {xs : Nat → Int32} {h : pm_H} {i0 : Int32} {Q : pm_H → Option Value → Prop} (hd : 120 ≤ d) (hX : ty_SX X) (hS : ∀ h, pm_arr X h (.retAddr 200) = some (0, L, .inl xs)) (hL : L ≤ 3072) (a0 : 0 ≤ i0.toInt) (b0 : i0.toInt + 6 ≤ L) (hK : tq_K n h) (K : ∀ h1, tq_K (n + 1) h1 → hq_W X d 12 false (some .boolean) pm_cL (1205, [some (.retAddr 200), some (.ref 0), some (.ref 97), some (.int i0)], [], h1) Q) : hq_W X d 12 false (some .boolean) pm_cL (1090, [some (.retAddr 200), some (.ref 0), some (.ref 97), some (.int i0)], [], h) Q := by
  obtain ⟨T, hJ0, hr⟩ := hK
  have H := tp_CG n T h
  have hJ : tp_G n T h h := ⟨hJ0, fr_refl h _⟩
  have I := H.1 h hJ
  refine hq_p rfl rfl ?_
  refine hq_p rfl rfl ?_
  refine hq_p rfl rfl ?_
  refine hq_p rfl rfl (ty_ge (n := 1) nk_i1 (fun z1 ez1 => ?_))
  refine hq_p rfl rfl (ty_ge (n := i0.toInt + z1.toInt) (nm_add (by omega) (by omega)) (fun z2 ez2 => ?_))
  refine hq_iald rfl (hS h) (hs_in (by omega) (by omega)) (ty_ga (fun z3 az3 bz3 => ?_))
  refine hq_p rfl rfl ?_
  refine hq_p rfl rfl ?_
  refine hq_p rfl rfl (ty_ge (n := 2) nk_i2 (fun z4 ez4 => ?_))
  refine hq_p rfl rfl (ty_ge (n := i0.toInt + z4.toInt) (nm_add (by omega) (by omega)) (fun z5 ez5 => ?_))
  refine hq_iald rfl (hS h) (hs_in (by omega) (by omega)) (ty_ga (fun z6 az6 bz6 => ?_))
  refine ty_callj 0 (W := ty_W2t) H hJ rfl (fun _ => rfl) rfl rfl rfl (hq_pre_o I.1 (x := 0) (ci := 10) rfl (by decide) rfl rfl rfl rfl) (fun a k w => by unfold ty_Wc at w; unfold ty_W2t; omega) (by unfold ty_Wc ty_W2t; omega) (ct_119 (x1 := z3) (x2 := z6) (by omega)) (fun h8 _ Jh8 P7 => ?_)
  have Ih8 := H.1 h8 Jh8
  obtain ⟨z9, rfl, az9, bz9⟩ := P7
  refine hq_p rfl rfl ?_
  refine hq_p rfl rfl ?_
  refine hq_p rfl rfl ?_
  refine hq_p rfl rfl ?_
  refine hq_p rfl rfl (ty_ge (n := 1) nk_i1 (fun z10 ez10 => ?_))
  refine hq_p rfl rfl (ty_ge (n := i0.toInt + z10.toInt) (nm_add (by omega) (by omega)) (fun z11 ez11 => ?_))
  refine hq_iald rfl (hS h8) (hs_in (by omega) (by omega)) (ty_ga (fun z12 az12 bz12 => ?_))
  refine hq_p rfl rfl ?_
  refine hq_p rfl rfl ?_
  refine hq_p rfl rfl (ty_ge (n := 2) nk_i2 (fun z13 ez13 => ?_))
  refine hq_p rfl rfl (ty_ge (n := i0.toInt + z13.toInt) (nm_add (by omega) (by omega)) (fun z14 ez14 => ?_))
  refine hq_iald rfl (hS h8) (hs_in (by omega) (by omega)) (ty_ga (fun z15 az15 bz15 => ?_))
  refine ty_callj 0 (W := ty_W2t) H Jh8 rfl (fun _ => rfl) rfl rfl rfl (hq_pre_o Ih8.1 (x := 97) (ci := 11) rfl (by decide) rfl rfl rfl rfl) (fun a k w => by unfold ty_Wt at w; unfold ty_W2t; omega) (by unfold ty_Wt ty_W2t; omega) (ct_254 (x1 := z12) (x2 := z15) (by omega)) (fun h17 _ Jh17 P16 => ?_)
  have Ih17 := H.1 h17 Jh17
  obtain ⟨z18, rfl, az18, bz18⟩ := P16
  refine hq_p rfl rfl ?_
  refine hq_p rfl rfl ?_
  exact K h17 (tq_g hr Jh17)
set_option maxRecDepth 20000 in
set_option maxHeartbeats 4000000 in
theorem tb_39 {X : pm_X} {d L n : Nat} {xs : Nat → Int32} {h : pm_H} {i0 : Int32} {Q : pm_H → Option Value → Prop} (hd : 120 ≤ d) (hX : ty_SX X) (hS : ∀ h, pm_arr X h (.retAddr 200) = some (0, L, .inl xs)) (hL : L ≤ 3072) (a0 : 0 ≤ i0.toInt) (b0 : i0.toInt + 6 ≤ L) (hK : tq_K n h) (K : ∀ h1, tq_K (n + 1) h1 → hq_W X d 12 false (some .boolean) pm_cL (1205, [some (.retAddr 200), some (.ref 0), some (.ref 97), some (.int i0)], [], h1) Q) : hq_W X d 12 false (some .boolean) pm_cL (1169, [some (.retAddr 200), some (.ref 0), some (.ref 97), some (.int i0)], [], h) Q := by
  obtain ⟨T, hJ0, hr⟩ := hK
  have H := tp_CG n T h
  have hJ : tp_G n T h h := ⟨hJ0, fr_refl h _⟩
  have I := H.1 h hJ
  refine hq_p rfl rfl ?_
  refine hq_p rfl rfl ?_
  refine hq_p rfl rfl ?_
  refine hq_p rfl rfl (ty_ge (n := 1) nk_i1 (fun z1 ez1 => ?_))
  refine hq_p rfl rfl (ty_ge (n := i0.toInt + z1.toInt) (nm_add (by omega) (by omega)) (fun z2 ez2 => ?_))
  refine hq_iald rfl (hS h) (hs_in (by omega) (by omega)) (ty_ga (fun z3 az3 bz3 => ?_))
  refine ty_callj 0 (W := ty_W2t) H hJ rfl (fun _ => rfl) rfl rfl rfl (hq_pre_o I.1 (x := 0) (ci := 10) rfl (by decide) rfl rfl rfl rfl) (fun a k w => by unfold ty_Wc at w; unfold ty_W2t; omega) (by unfold ty_Wc ty_W2t; omega) (ct_122 (x1 := z3) (by omega)) (fun h5 _ Jh5 P4 => ?_)
  have Ih5 := H.1 h5 Jh5
  obtain ⟨z6, rfl, az6, bz6⟩ := P4
  refine hq_p rfl rfl ?_
  refine hq_p rfl rfl ?_
  refine hq_p rfl rfl ?_
  refine hq_p rfl rfl ?_
  refine hq_p rfl rfl (ty_ge (n := 1) nk_i1 (fun z7 ez7 => ?_))
  refine hq_p rfl rfl (ty_ge (n := i0.toInt + z7.toInt) (nm_add (by omega) (by omega)) (fun z8 ez8 => ?_))
  refine hq_iald rfl (hS h5) (hs_in (by omega) (by omega)) (ty_ga (fun z9 az9 bz9 => ?_))
  refine ty_callj 0 (W := ty_W2t) H Jh5 rfl (fun _ => rfl) rfl rfl rfl (hq_pre_o Ih5.1 (x := 97) (ci := 11) rfl (by decide) rfl rfl rfl rfl) (fun a k w => by unfold ty_Wt at w; unfold ty_W2t; omega) (by unfold ty_Wt ty_W2t; omega) (ct_255 (x1 := z9) (by omega)) (fun h11 _ Jh11 P10 => ?_)
  have Ih11 := H.1 h11 Jh11
  obtain ⟨z12, rfl, az12, bz12⟩ := P10
  refine hq_p rfl rfl ?_
  refine hq_p rfl rfl ?_
  exact K h11 (tq_g hr Jh11)
set_option maxRecDepth 20000 in
set_option maxHeartbeats 4000000 in
theorem tb_40 {X : pm_X} {d L n : Nat} {xs : Nat → Int32} {h : pm_H} {i0 : Int32} {Q : pm_H → Option Value → Prop} (hd : 120 ≤ d) (hX : ty_SX X) (hS : ∀ h, pm_arr X h (.retAddr 200) = some (0, L, .inl xs)) (hL : L ≤ 3072) (a0 : 0 ≤ i0.toInt) (b0 : i0.toInt + 6 ≤ L) (hK : tq_K n h) (K : ∀ h1, tq_K (n + 1) h1 → hq_W X d 12 false (some .boolean) pm_cL (1205, [some (.retAddr 200), some (.ref 0), some (.ref 97), some (.int i0)], [], h1) Q) : hq_W X d 12 false (some .boolean) pm_cL (1192, [some (.retAddr 200), some (.ref 0), some (.ref 97), some (.int i0)], [], h) Q := by
  obtain ⟨T, hJ0, hr⟩ := hK
  have H := tp_CG n T h
  have hJ : tp_G n T h h := ⟨hJ0, fr_refl h _⟩
  have I := H.1 h hJ
  refine hq_p rfl rfl ?_
  refine ty_callj 0 (W := ty_W2t) H hJ rfl (fun _ => rfl) rfl rfl rfl (hq_pre_o I.1 (x := 0) (ci := 10) rfl (by decide) rfl rfl rfl rfl) (fun a k w => by unfold ty_Wc at w; unfold ty_W2t; omega) (by unfold ty_Wc ty_W2t; omega) (ct_123 (by omega)) (fun h2 _ Jh2 P1 => ?_)
  have Ih2 := H.1 h2 Jh2
  obtain ⟨z3, rfl, az3, bz3⟩ := P1
  refine hq_p rfl rfl ?_
  refine hq_p rfl rfl ?_
  refine ty_callj 0 (W := ty_W2t) H Jh2 rfl (fun _ => rfl) rfl rfl rfl (hq_pre_o Ih2.1 (x := 97) (ci := 11) rfl (by decide) rfl rfl rfl rfl) (fun a k w => by unfold ty_Wt at w; unfold ty_W2t; omega) (by unfold ty_Wt ty_W2t; omega) (ct_256 (by omega)) (fun h5 _ Jh5 P4 => ?_)
  have Ih5 := H.1 h5 Jh5
  obtain ⟨z6, rfl, az6, bz6⟩ := P4
  refine hq_p rfl rfl ?_
  refine hq_p rfl rfl ?_
  exact K h5 (tq_g hr Jh5)
end CT62
