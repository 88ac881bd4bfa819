/-! CONTRACTS (printed by wip/pm/cts.py) -/
section CT77
set_option maxRecDepth 20000 in
set_option maxHeartbeats 4000000 in
theorem tb_12 {X : pm_X} {d L n : Nat} {xs : Nat → Int32} {h : pm_H} {i0 : Int32} {Q : pm_H → Option Value → Prop} (hd : 120 ≤ d) (hX : ty_SX X) (hS : ∀ h, pm_arr X h (.retAddr 200) = some (0, L, .inl xs)) (hL : L ≤ 3072) (a0 : 0 ≤ i0.toInt) (b0 : i0.toInt + 6 ≤ L) (hK : tq_K n h) (K : ∀ h1, tq_K (n + 1) h1 → hq_W X d 12 false (some .boolean) pm_cL (1205, [some (.retAddr 200), some (.ref 0), some (.ref 97), some (.int i0)], [], h1) Q) : hq_W X d 12 false (some .boolean) pm_cL (588, [some (.retAddr 200), some (.ref 0), some (.ref 97), some (.int i0)], [], h) Q := by
  obtain ⟨T, hJ0, hz, hr⟩ := hK
  obtain ⟨⟨j0, eT⟩, eS⟩ := hJ0
  have H := tp_CUl (hs_fR h 0 0) (hs_fR h 0 1) n T h
  have hJ : tp_P (tp_U n T) [(3, 7, 0), (3, 18, 0), (3, 41, 0), (3, 52, 0), (3, 100, 0), (3, 57, 0), (3, 101, 0)] (hs_fR h 0 0) (hs_fR h 0 1) h h := ⟨⟨⟨⟨j0, eT⟩, rfl, rfl⟩, fr_refl h _⟩, fun _ _ _ => rfl⟩
  have I := H.1 h hJ
  refine hq_p rfl rfl ?_
  have Hz := (tp_CUl (hs_fR h 0 0) (hs_fR h 0 1) n T h).zz h.1 h.2.1
  have H2 : ty_C ty_Wc1 (fun h1 => tp_P (tp_U (n + 1) T) [(3, 7, 0), (3, 18, 0), (3, 41, 0), (3, 52, 0), (3, 100, 0), (3, 57, 0), (3, 101, 0)] (hs_fR h 0 0) (hs_fR h 0 1) h h1 ∧ (h.1 ≤ h1.1 ∧ h.2.1 ≤ h1.2.1)) := (tp_CUl (hs_fR h 0 0) (hs_fR h 0 1) (n + 1) T h).and (fun h c e p _ => p)
  refine hq_inv 0 rfl (fun _ => rfl) rfl rfl rfl (hq_pre_o I.1 (x := 0) (ci := 10) rfl (by decide) rfl rfl rfl rfl) ((ct_95 (by omega) hX Hz ⟨hJ, rfl, rfl⟩ H2 (fun h j => ⟨tp_USg j.1, by have := j.2.1; omega, by have := j.2.2; omega⟩) (fun h h1 j I1 e1 e2 e3 e4 => ⟨tp_alG j.1 I1 e1 e3 e4, by have := j.2.1; omega, by have := j.2.2; omega⟩)).mono (Nat.le_refl _) (fun h1 v q => ?_))
  obtain ⟨⟨Jh1, m1, m2⟩, ⟨z2, rfl⟩, sz⟩ := q
  refine ⟨m1, m2, ?_⟩
  have az2 := nm_lo z2
  have bz2 := nm_hi z2
  have H := tp_CUl (hs_fR h 0 0) (hs_fR h 0 1) (n + 1) T h
  have Ih1 := H.1 h1 Jh1
  refine hq_p rfl rfl ?_
  refine hq_p rfl rfl ?_
  have jM : tp_P (tp_M (n + 1) 0) [(3, 7, 0), (3, 18, 0), (3, 41, 0), (3, 52, 0), (3, 100, 0), (3, 57, 0), (3, 101, 0)] (hs_fR h 0 0) (hs_fR h 0 1) h h1 := ⟨⟨⟨⟨⟨Jh1.1.1.1.1.1, Jh1.1.1.1.1.2.2.1, Jh1.1.1.1.1.2.2.2.1, Jh1.1.1.1.1.2.2.2.2⟩, sz⟩, Jh1.1.1.2⟩, Jh1.1.2⟩, Jh1.2⟩
  have oM : (hs_fI h1 97 20).toInt = 0 := Jh1.1.1.1.1.2.1
  have Hz := (tp_CMl (hs_fR h 0 0) (hs_fR h 0 1) (n + 1) 0 h).zz h1.1 h1.2.1
  refine hq_inv 0 rfl (fun _ => rfl) rfl rfl rfl (hq_pre_o Ih1.1 (x := 97) (ci := 11) rfl (by decide) rfl rfl rfl rfl) ((ct_196 (by omega) Hz ⟨jM, rfl, rfl⟩ oM (fun h h1 j I1 e1 e2 e3 e4 => ⟨tp_laG j.1 I1 e1 e2 e3 e4, by have := j.2.1; exact e1.trans this, by have := j.2.2; exact e2.trans this⟩)).mono (Nat.le_refl _) (fun h3 v q => ?_))
  obtain ⟨⟨Jh3, m1, m2⟩, ⟨z4, rfl⟩, tz, oz⟩ := q
  refine ⟨by omega, by omega, ?_⟩
  have az4 := nm_lo z4
  have bz4 := nm_hi z4
  have JJ : tp_T (n + 1) 0 h3 := ⟨⟨⟨Jh3.1.1.1.1.1, oz, Jh3.1.1.1.1.2.1, Jh3.1.1.1.1.2.2.1, Jh3.1.1.1.1.2.2.2⟩, tz⟩, Jh3.1.1.1.2⟩
  have Ih3 := JJ.1.1.1
  refine hq_p rfl rfl ?_
  refine hq_p rfl rfl ?_
  exact K h3 ⟨0, JJ, fun j hj => by exfalso; omega, rl_s hr Jh3.1.1.2.1 Jh3.1.1.2.2 Jh3.1.2 Jh3.2⟩
set_option maxRecDepth 20000 in
set_option maxHeartbeats 4000000 in
theorem tb_13a {X : pm_X} {d L n : Nat} {xs : Nat → Int32} {h : pm_H} {i0 : Int32} {Q : pm_H → Option Value → Prop} (hd : 120 ≤ d) (hX : ty_SX X) (hS : ∀ h, pm_arr X h (.retAddr 200) = some (0, L, .inl xs)) (hL : L ≤ 3072) (a0 : 0 ≤ i0.toInt) (b0 : i0.toInt + 6 ≤ L) {T : Int} (hJ0 : tp_T n T h) (hz : tz_R T h) (hr : rl 1 12 7 h) (K : ∀ h1, tq_K (n + 1) h1 → hq_W X d 12 false (some .boolean) pm_cL (1205, [some (.retAddr 200), some (.ref 0), some (.ref 97), some (.int i0)], [], h1) Q) : hq_W X d 12 false (some .boolean) pm_cL (601, [some (.retAddr 200), some (.ref 0), some (.ref 97), some (.int i0)], [], h) Q := by
  obtain ⟨⟨j0, eT⟩, eS⟩ := hJ0
  have I := j0.1
  refine hq_p rfl rfl ?_
  refine hq_inv 0 rfl (fun _ => rfl) rfl rfl rfl (hq_pre_o I.1 (x := 0) (ci := 10) rfl (by decide) rfl rfl rfl rfl) ((ct_96a (by omega) hX (tp_CO1 n T h.1 h.2.1 h) ⟨⟨⟨⟨j0, eT⟩, rfl, rfl⟩, fr_refl h _⟩, fun _ _ _ => rfl⟩ (tp_OT1 n T _ _ h) hr.1.1 hr.1.2).mono (Nat.le_refl _) (fun h1 v q => ?_))
  obtain ⟨⟨⟨⟨JU, m1, m2⟩, JF⟩, JS⟩, ⟨z2, rfl⟩, sz, rq⟩ := q
  refine ⟨by omega, by omega, ?_⟩
  have hr2 := rl_o1 hr JF JS rq
  clear rq
  have az2 := nm_lo z2
  have bz2 := nm_hi z2
  have Ih1 := JU.1.1
  have jM : tp_P (tp_M (n + 1) 0) [(3, 7, 0), (3, 18, 0), (3, 41, 0), (3, 52, 0), (3, 100, 0), (3, 57, 0), (3, 101, 0)] (hs_fR h1 0 0) (hs_fR h1 0 1) h1 h1 := ⟨⟨⟨⟨⟨JU.1.1, JU.1.2.2.1, by have := JU.1.2.2.2.1; omega, by have := JU.1.2.2.2.2; omega⟩, sz⟩, rfl, rfl⟩, fr_refl _ _⟩, fun _ _ _ => rfl⟩
  refine hq_p rfl rfl ?_
  refine hq_p rfl rfl ?_
  have Hz := (tp_CMo (hs_fR h1 0 0) (hs_fR h1 0 1) (n + 1) 0 h1).zz h1.1 h1.2.1
  refine hq_inv 0 rfl (fun _ => rfl) rfl rfl rfl (hq_pre_o Ih1.1 (x := 97) (ci := 11) rfl (by decide) rfl rfl rfl rfl) ((ct_249 (by omega) _ Hz ⟨jM, rfl, rfl⟩).mono (Nat.le_refl _) (fun h3 v q => ?_))
  obtain ⟨⟨Jh3, m1, m2⟩, ⟨z4, rfl⟩, tz, oz⟩ := q
  refine ⟨by omega, by omega, ?_⟩
  have az4 := nm_lo z4
  have bz4 := nm_hi z4
  have JJ : tp_T (n + 1) 0 h3 := ⟨⟨⟨Jh3.1.1.1.1.1, oz, Jh3.1.1.1.1.2.1, Jh3.1.1.1.1.2.2.1, Jh3.1.1.1.1.2.2.2⟩, tz⟩, Jh3.1.1.1.2⟩
  have Ih3 := JJ.1.1.1
  refine hq_p rfl rfl ?_
  refine hq_p rfl rfl ?_
  exact K h3 ⟨0, JJ, fun j hj => by exfalso; omega, rl_s hr2 Jh3.1.1.2.1 Jh3.1.1.2.2 Jh3.1.2 Jh3.2⟩
set_option maxRecDepth 20000 in
set_option maxHeartbeats 4000000 in
theorem tb_13b {X : pm_X} {d L n : Nat} {xs : Nat → Int32} {h : pm_H} {i0 : Int32} {Q : pm_H → Option Value → Prop} (hd : 120 ≤ d) (hX : ty_SX X) (hS : ∀ h, pm_arr X h (.retAddr 200) = some (0, L, .inl xs)) (hL : L ≤ 3072) (a0 : 0 ≤ i0.toInt) (b0 : i0.toInt + 6 ≤ L) {T : Int} (hJ0 : tp_T n T h) (hz : tz_R T h) (hr : rl 12 1 18 h) (K : ∀ h1, tq_K (n + 1) h1 → hq_W X d 12 false (some .boolean) pm_cL (1205, [some (.retAddr 200), some (.ref 0), some (.ref 97), some (.int i0)], [], h1) Q) : hq_W X d 12 false (some .boolean) pm_cL (601, [some (.retAddr 200), some (.ref 0), some (.ref 97), some (.int i0)], [], h) Q := by
  obtain ⟨⟨j0, eT⟩, eS⟩ := hJ0
  have I := j0.1
  refine hq_p rfl rfl ?_
  refine hq_inv 0 rfl (fun _ => rfl) rfl rfl rfl (hq_pre_o I.1 (x := 0) (ci := 10) rfl (by decide) rfl rfl rfl rfl) ((ct_96b (by omega) hX (tp_CO12 n T h.1 h.2.1 h) ⟨⟨⟨⟨j0, eT⟩, rfl, rfl⟩, fr_refl h _⟩, fun _ _ _ => rfl⟩ (tp_OT12 n T _ _ h) hr.1.1 hr.1.2).mono (Nat.le_refl _) (fun h1 v q => ?_))
  obtain ⟨⟨⟨⟨JU, m1, m2⟩, JF⟩, JS⟩, ⟨z2, rfl⟩, sz, rq⟩ := q
  refine ⟨by omega, by omega, ?_⟩
  have hr2 := rl_o12 hr JF JS rq
  clear rq
  have az2 := nm_lo z2
  have bz2 := nm_hi z2
  have Ih1 := JU.1.1
  have jM : tp_P (tp_M (n + 1) 0) [(3, 7, 0), (3, 18, 0), (3, 41, 0), (3, 52, 0), (3, 100, 0), (3, 57, 0), (3, 101, 0)] (hs_fR h1 0 0) (hs_fR h1 0 1) h1 h1 := ⟨⟨⟨⟨⟨JU.1.1, JU.1.2.2.1, by have := JU.1.2.2.2.1; omega, by have := JU.1.2.2.2.2; omega⟩, sz⟩, rfl, rfl⟩, fr_refl _ _⟩, fun _ _ _ => rfl⟩
  refine hq_p rfl rfl ?_
  refine hq_p rfl rfl ?_
  have Hz := (tp_CMo (hs_fR h1 0 0) (hs_fR h1 0 1) (n + 1) 0 h1).zz h1.1 h1.2.1
  refine hq_inv 0 rfl (fun _ => rfl) rfl rfl rfl (hq_pre_o Ih1.1 (x := 97) (ci := 11) rfl (by decide) rfl rfl rfl rfl) ((ct_249 (by omega) _ Hz ⟨jM, rfl, rfl⟩).mono (Nat.le_refl _) (fun h3 v q => ?_))
  obtain ⟨⟨Jh3, m1, m2⟩, ⟨z4, rfl⟩, tz, oz⟩ := q
  refine ⟨by omega, by omega, ?_⟩
  have az4 := nm_lo z4
  have bz4 := nm_hi z4
  have JJ : tp_T (n + 1) 0 h3 := ⟨⟨⟨Jh3.1.1.1.1.1, oz, Jh3.1.1.1.1.2.1, Jh3.1.1.1.1.2.2.1, Jh3.1.1.1.1.2.2.2⟩, tz⟩, Jh3.1.1.1.2⟩
  have Ih3 := JJ.1.1.1
  refine hq_p rfl rfl ?_
  refine hq_p rfl rfl ?_
  exact K h3 ⟨0, JJ, fun j hj => by exfalso; omega, rl_s hr2 Jh3.1.1.2.1 Jh3.1.1.2.2 Jh3.1.2 Jh3.2⟩
theorem tb_13 {X : pm_X} {d L n : Nat} {xs : Nat → Int32} {h : pm_H} {i0 : Int32} {Q : pm_H → Option Value → Prop} (hd : 120 ≤ d) (hX : ty_SX X) (hS : ∀ h, pm_arr X h (.retAddr 200) = some (0, L, .inl xs)) (hL : L ≤ 3072) (a0 : 0 ≤ i0.toInt) (b0 : i0.toInt + 6 ≤ L) (hK : tq_K n h) (K : ∀ h1, tq_K (n + 1) h1 → hq_W X d 12 false (some .boolean) pm_cL (1205, [some (.retAddr 200), some (.ref 0), some (.ref 97), some (.int i0)], [], h1) Q) : hq_W X d 12 false (some .boolean) pm_cL (601, [some (.retAddr 200), some (.ref 0), some (.ref 97), some (.int i0)], [], h) Q := by
  obtain ⟨T, hJ0, hz, hr⟩ := hK
  rcases hr with hr | hr
  · exact tb_13a hd hX hS hL a0 b0 hJ0 hz hr K
  · exact tb_13b hd hX hS hL a0 b0 hJ0 hz hr K
end CT77
