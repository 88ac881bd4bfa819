/-! CONTRACTS (printed by wip/pm/cts.py) -/
section CT64
set_option maxRecDepth 20000 in
set_option maxHeartbeats 4000000 in
theorem tb_37 {X : pm_X} {d L n : Nat} {xs : Nat → Int32} {h : pm_H} {i0 : Int32} {Q : pm_H → Option Value → Prop} (hd : 120 ≤ d) (hX : ty_SX X) (hS : ∀ h, pm_arr X h (.retAddr 200) = some (0, L, .inl xs)) (hL : L ≤ 3072) (a0 : 0 ≤ i0.toInt) (b0 : i0.toInt + 6 ≤ L) (hK : tq_K n h) (K : ∀ h1, tq_K (n + 1) h1 → hq_W X d 12 false (some .boolean) pm_cL (1205, [some (.retAddr 200), some (.ref 0), some (.ref 97), some (.int i0)], [], h1) Q) : hq_W X d 12 false (some .boolean) pm_cL (1123, [some (.retAddr 200), some (.ref 0), some (.ref 97), some (.int i0)], [], h) Q := by
  obtain ⟨T, hJ0, hr⟩ := hK
  have H := tp_CG n T h
  have hJ : tp_G n T h h := ⟨hJ0, fr_refl h _⟩
  have I := H.1 h hJ
  refine hq_p rfl rfl ?_
  refine hq_p rfl rfl ?_
  refine hq_p rfl rfl ?_
  refine hq_p rfl rfl (ty_ge (n := 1) nk_i1 (fun z1 ez1 => ?_))
  refine hq_p rfl rfl (ty_ge (n := i0.toInt + z1.toInt) (nm_add (by omega) (by omega)) (fun z2 ez2 => ?_))
  refine hq_iald rfl (hS h) (hs_in (by omega) (by omega)) (ty_ga (fun z3 az3 bz3 => ?_))
  refine ty_callj 0 (W := ty_W2t) H hJ rfl (fun _ => rfl) rfl rfl rfl (hq_pre_o I.1 (x := 0) (ci := 10) rfl (by decide) rfl rfl rfl rfl) (fun a k w => by unfold ty_Wc at w; unfold ty_W2t; omega) (by unfold ty_Wc ty_W2t; omega) (ct_120 (x1 := z3) (by omega)) (fun h5 _ Jh5 P4 => ?_)
  have Ih5 := H.1 h5 Jh5
  obtain ⟨z6, rfl, az6, bz6⟩ := P4
  refine hq_p rfl rfl ?_
  refine hq_p rfl rfl ?_
  refine hq_p rfl rfl ?_
  refine hq_p rfl rfl ?_
  refine hq_p rfl rfl (ty_ge (n := 1) nk_i1 (fun z7 ez7 => ?_))
  refine hq_p rfl rfl (ty_ge (n := i0.toInt + z7.toInt) (nm_add (by omega) (by omega)) (fun z8 ez8 => ?_))
  refine hq_iald rfl (hS h5) (hs_in (by omega) (by omega)) (ty_ga (fun z9 az9 bz9 => ?_))
  have Hz := (tp_CG n T h).zz h5.1 h5.2.1
  refine hq_inv 0 rfl (fun _ => rfl) rfl rfl rfl (hq_pre_o Ih5.1 (x := 97) (ci := 11) rfl (by decide) rfl rfl rfl rfl) ((ct_147 (x1 := z9) (by omega) (Hz.mono (W' := ty_Wx) (fun a k w => by unfold ty_Wx at w; unfold ty_W2t; omega) (by unfold ty_Wx ty_W2t; omega)) ⟨Jh5, rfl, rfl⟩ (fun h k j hk => ⟨tp_imG j.1 (tp_im j.1.1 hk), j.2⟩)).mono (Nat.le_refl _) (fun h10 v q => ?_))
  obtain ⟨⟨Jh10, m1, m2⟩, z11, rfl, az11, bz11⟩ := q
  refine ⟨by omega, by omega, ?_⟩
  have Ih10 := H.1 h10 Jh10
  refine hq_p rfl rfl ?_
  refine hq_p rfl rfl ?_
  exact K h10 (tq_g hr Jh10)
set_option maxRecDepth 20000 in
set_option maxHeartbeats 4000000 in
theorem tb_38 {X : pm_X} {d L n : Nat} {xs : Nat → Int32} {h : pm_H} {i0 : Int32} {Q : pm_H → Option Value → Prop} (hd : 120 ≤ d) (hX : ty_SX X) (hS : ∀ h, pm_arr X h (.retAddr 200) = some (0, L, .inl xs)) (hL : L ≤ 3072) (a0 : 0 ≤ i0.toInt) (b0 : i0.toInt + 6 ≤ L) (hK : tq_K n h) (K : ∀ h1, tq_K (n + 1) h1 → hq_W X d 12 false (some .boolean) pm_cL (1205, [some (.retAddr 200), some (.ref 0), some (.ref 97), some (.int i0)], [], h1) Q) : hq_W X d 12 false (some .boolean) pm_cL (1146, [some (.retAddr 200), some (.ref 0), some (.ref 97), some (.int i0)], [], h) Q := by
  obtain ⟨T, hJ0, hr⟩ := hK
  have H := tp_CG n T h
  have hJ : tp_G n T h h := ⟨hJ0, fr_refl h _⟩
  have I := H.1 h hJ
  refine hq_p rfl rfl ?_
  refine hq_p rfl rfl ?_
  refine hq_p rfl rfl ?_
  refine hq_p rfl rfl (ty_ge (n := 1) nk_i1 (fun z1 ez1 => ?_))
  refine hq_p rfl rfl (ty_ge (n := i0.toInt + z1.toInt) (nm_add (by omega) (by omega)) (fun z2 ez2 => ?_))
  refine hq_iald rfl (hS h) (hs_in (by omega) (by omega)) (ty_ga (fun z3 az3 bz3 => ?_))
  refine ty_callj 0 (W := ty_W2t) H hJ rfl (fun _ => rfl) rfl rfl rfl (hq_pre_o I.1 (x := 0) (ci := 10) rfl (by decide) rfl rfl rfl rfl) (fun a k w => by unfold ty_Wc at w; unfold ty_W2t; omega) (by unfold ty_Wc ty_W2t; omega) (ct_121 (x1 := z3) (by omega)) (fun h5 _ Jh5 P4 => ?_)
  have Ih5 := H.1 h5 Jh5
  obtain ⟨z6, rfl, az6, bz6⟩ := P4
  refine hq_p rfl rfl ?_
  refine hq_p rfl rfl ?_
  refine hq_p rfl rfl ?_
  refine hq_p rfl rfl ?_
  refine hq_p rfl rfl (ty_ge (n := 1) nk_i1 (fun z7 ez7 => ?_))
  refine hq_p rfl rfl (ty_ge (n := i0.toInt + z7.toInt) (nm_add (by omega) (by omega)) (fun z8 ez8 => ?_))
  refine hq_iald rfl (hS h5) (hs_in (by omega) (by omega)) (ty_ga (fun z9 az9 bz9 => ?_))
  have Hz := (tp_CG n T h).zz h5.1 h5.2.1
  refine hq_inv 0 rfl (fun _ => rfl) rfl rfl rfl (hq_pre_o Ih5.1 (x := 97) (ci := 11) rfl (by decide) rfl rfl rfl rfl) ((ct_148 (x1 := z9) (by omega) (Hz.mono (W' := ty_Wx) (fun a k w => by unfold ty_Wx at w; unfold ty_W2t; omega) (by unfold ty_Wx ty_W2t; omega)) ⟨Jh5, rfl, rfl⟩ (fun h k j hk => ⟨tp_bkG j.1 (tp_bk j.1.1 hk), j.2⟩)).mono (Nat.le_refl _) (fun h10 v q => ?_))
  obtain ⟨⟨Jh10, m1, m2⟩, z11, rfl, az11, bz11⟩ := q
  refine ⟨by omega, by omega, ?_⟩
  have Ih10 := H.1 h10 Jh10
  refine hq_p rfl rfl ?_
  refine hq_p rfl rfl ?_
  exact K h10 (tq_g hr Jh10)
set_option maxRecDepth 20000 in
set_option maxHeartbeats 4000000 in
theorem tb_12 {X : pm_X} {d L n : Nat} {xs : Nat → Int32} {h : pm_H} {i0 : Int32} {Q : pm_H → Option Value → Prop} (hd : 120 ≤ d) (hX : ty_SX X) (hS : ∀ h, pm_arr X h (.retAddr 200) = some (0, L, .inl xs)) (hL : L ≤ 3072) (a0 : 0 ≤ i0.toInt) (b0 : i0.toInt + 6 ≤ L) (hK : tq_K n h) (K : ∀ h1, tq_K (n + 1) h1 → hq_W X d 12 false (some .boolean) pm_cL (1205, [some (.retAddr 200), some (.ref 0), some (.ref 97), some (.int i0)], [], h1) Q) : hq_W X d 12 false (some .boolean) pm_cL (588, [some (.retAddr 200), some (.ref 0), some (.ref 97), some (.int i0)], [], h) Q := by
  obtain ⟨T, hJ0, hr⟩ := hK
  obtain ⟨⟨j0, eT⟩, eS⟩ := hJ0
  have H := tp_CUl n T h
  have hJ : tp_UG [(0, 0, 15), (0, 97, 11)] n T h h := ⟨⟨j0, eT⟩, fr_refl h _⟩
  have I := H.1 h hJ
  refine hq_p rfl rfl ?_
  have Hz := (tp_CUl n T h).zz h.1 h.2.1
  have H2 : ty_C ty_Wc1 (fun h1 => tp_UG [(0, 0, 15), (0, 97, 11)] (n + 1) T h h1 ∧ (h.1 ≤ h1.1 ∧ h.2.1 ≤ h1.2.1)) := (tp_CUl (n + 1) T h).and (fun h c e p _ => p)
  refine hq_inv 0 rfl (fun _ => rfl) rfl rfl rfl (hq_pre_o I.1 (x := 0) (ci := 10) rfl (by decide) rfl rfl rfl rfl) ((ct_95 (by omega) hX Hz ⟨hJ, rfl, rfl⟩ H2 (fun h j => ⟨tp_USg j.1, by have := j.2.1; omega, by have := j.2.2; omega⟩) (fun h h1 j I1 e1 e2 e3 e4 => ⟨tp_alG j.1 I1 e1 e3 e4, by have := j.2.1; omega, by have := j.2.2; omega⟩)).mono (Nat.le_refl _) (fun h1 v q => ?_))
  obtain ⟨⟨Jh1, m1, m2⟩, ⟨z2, rfl⟩, sz⟩ := q
  refine ⟨m1, m2, ?_⟩
  have az2 := nm_lo z2
  have bz2 := nm_hi z2
  have H := tp_CUl (n + 1) T h
  have Ih1 := H.1 h1 Jh1
  refine hq_p rfl rfl ?_
  refine hq_p rfl rfl ?_
  have jM : tp_MG [(0, 0, 15), (0, 97, 11)] (n + 1) 0 h h1 := ⟨⟨⟨Jh1.1.1.1, Jh1.1.1.2.2.1, Jh1.1.1.2.2.2.1, Jh1.1.1.2.2.2.2⟩, sz⟩, Jh1.2⟩
  have oM : (hs_fI h1 97 20).toInt = 0 := Jh1.1.1.2.1
  have Hz := (tp_CMl (n + 1) 0 h).zz h1.1 h1.2.1
  refine hq_inv 0 rfl (fun _ => rfl) rfl rfl rfl (hq_pre_o Ih1.1 (x := 97) (ci := 11) rfl (by decide) rfl rfl rfl rfl) ((ct_196 (by omega) Hz ⟨jM, rfl, rfl⟩ oM (fun h h1 j I1 e1 e2 e3 e4 => ⟨tp_laG j.1 I1 e1 e2 e3 e4, by have := j.2.1; exact e1.trans this, by have := j.2.2; exact e2.trans this⟩)).mono (Nat.le_refl _) (fun h3 v q => ?_))
  obtain ⟨⟨Jh3, m1, m2⟩, ⟨z4, rfl⟩, tz, oz⟩ := q
  refine ⟨by omega, by omega, ?_⟩
  have az4 := nm_lo z4
  have bz4 := nm_hi z4
  have JJ : tp_T (n + 1) 0 h3 := ⟨⟨⟨Jh3.1.1.1, oz, Jh3.1.1.2.1, Jh3.1.1.2.2.1, Jh3.1.1.2.2.2⟩, tz⟩, Jh3.1.2⟩
  have Ih3 := JJ.1.1.1
  obtain ⟨x0, x1, _⟩ := Jh3.2
  have x0 : (hs_fI h3 0 15).toInt = (hs_fI h 0 15).toInt := x0
  have x1 : (hs_fI h3 97 11).toInt = (hs_fI h 97 11).toInt := x1
  have e2 := hr.2
  refine hq_p rfl rfl ?_
  refine hq_p rfl rfl ?_
  exact K h3 ⟨0, JJ, fun j hj => by exfalso; omega, by omega⟩
set_option maxRecDepth 20000 in
set_option maxHeartbeats 4000000 in
theorem tb_13 {X : pm_X} {d L n : Nat} {xs : Nat → Int32} {h : pm_H} {i0 : Int32} {Q : pm_H → Option Value → Prop} (hd : 120 ≤ d) (hX : ty_SX X) (hS : ∀ h, pm_arr X h (.retAddr 200) = some (0, L, .inl xs)) (hL : L ≤ 3072) (a0 : 0 ≤ i0.toInt) (b0 : i0.toInt + 6 ≤ L) (hK : tq_K n h) (K : ∀ h1, tq_K (n + 1) h1 → hq_W X d 12 false (some .boolean) pm_cL (1205, [some (.retAddr 200), some (.ref 0), some (.ref 97), some (.int i0)], [], h1) Q) : hq_W X d 12 false (some .boolean) pm_cL (601, [some (.retAddr 200), some (.ref 0), some (.ref 97), some (.int i0)], [], h) Q := by
  obtain ⟨T, hJ0, hr⟩ := hK
  obtain ⟨⟨j0, eT⟩, eS⟩ := hJ0
  have H := tp_CUl n T h
  have hJ : tp_UG [(0, 0, 15), (0, 97, 11)] n T h h := ⟨⟨j0, eT⟩, fr_refl h _⟩
  have I := H.1 h hJ
  refine hq_p rfl rfl ?_
  refine hq_inv 0 rfl (fun _ => rfl) rfl rfl rfl (hq_pre_o I.1 (x := 0) (ci := 10) rfl (by decide) rfl rfl rfl rfl) ((ct_96 (by omega) hX (tp_COG n T h.1 h.2.1 h) ⟨⟨hJ.1, rfl, rfl⟩, hJ.2⟩ (tp_OGT n T _ _ h)).mono (Nat.le_refl _) (fun h1 v q => ?_))
  obtain ⟨⟨⟨JU, m1, m2⟩, JF⟩, ⟨z2, rfl⟩, sz⟩ := q
  refine ⟨by omega, by omega, ?_⟩
  have Jh1 : tp_UG [(0, 0, 15), (0, 97, 11)] (n + 1) T h h1 := ⟨⟨tp_S JU.1, JU.2⟩, JF⟩
  have az2 := nm_lo z2
  have bz2 := nm_hi z2
  have H := tp_CUl (n + 1) T h
  have Ih1 := H.1 h1 Jh1
  refine hq_p rfl rfl ?_
  refine hq_p rfl rfl ?_
  have jM : tp_MG [(0, 0, 15), (0, 97, 11)] (n + 1) 0 h h1 := ⟨⟨⟨Jh1.1.1.1, Jh1.1.1.2.2.1, Jh1.1.1.2.2.2.1, Jh1.1.1.2.2.2.2⟩, sz⟩, Jh1.2⟩
  have oM : (hs_fI h1 97 20).toInt = 0 := Jh1.1.1.2.1
  have Hz := (tp_CMo (n + 1) 0 h).zz h1.1 h1.2.1
  refine hq_inv 0 rfl (fun _ => rfl) rfl rfl rfl (hq_pre_o Ih1.1 (x := 97) (ci := 11) rfl (by decide) rfl rfl rfl rfl) ((ct_249 (by omega) _ Hz ⟨jM, rfl, rfl⟩).mono (Nat.le_refl _) (fun h3 v q => ?_))
  obtain ⟨⟨Jh3, m1, m2⟩, ⟨z4, rfl⟩, tz, oz⟩ := q
  refine ⟨by omega, by omega, ?_⟩
  have az4 := nm_lo z4
  have bz4 := nm_hi z4
  have JJ : tp_T (n + 1) 0 h3 := ⟨⟨⟨Jh3.1.1.1, oz, Jh3.1.1.2.1, Jh3.1.1.2.2.1, Jh3.1.1.2.2.2⟩, tz⟩, Jh3.1.2⟩
  have Ih3 := JJ.1.1.1
  obtain ⟨x0, x1, _⟩ := Jh3.2
  have x0 : (hs_fI h3 0 15).toInt = (hs_fI h 0 15).toInt := x0
  have x1 : (hs_fI h3 97 11).toInt = (hs_fI h 97 11).toInt := x1
  have e2 := hr.2
  refine hq_p rfl rfl ?_
  refine hq_p rfl rfl ?_
  exact K h3 ⟨0, JJ, fun j hj => by exfalso; omega, by omega⟩
end CT64
