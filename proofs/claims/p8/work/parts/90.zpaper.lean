/-! CONTRACTS (printed by wip/pm/cts.py) -/
section CT73
set_option maxRecDepth 20000 in
set_option maxHeartbeats 4000000 in
theorem tb_23a {X : pm_X} {d L n : Nat} {xs : Nat → Int32} {h : pm_H} {i0 : Int32} {Q : pm_H → Option Value → Prop} (hd : 120 ≤ d) (hX : ty_SX X) (hS : ∀ h, pm_arr X h (.retAddr 200) = some (0, L, .inl xs)) (hL : L ≤ 3072) (a0 : 0 ≤ i0.toInt) (b0 : i0.toInt + 6 ≤ L) {T : Int} (hJ0 : tp_T n T h) (hz : tz_R T h) (hr : rl 1 12 7 h) (K : ∀ h1, tq_K (n + 1) h1 → hq_W X d 12 false (some .boolean) pm_cL (1205, [some (.retAddr 200), some (.ref 0), some (.ref 97), some (.int i0)], [], h1) Q) : hq_W X d 12 false (some .boolean) pm_cL (791, [some (.retAddr 200), some (.ref 0), some (.ref 97), some (.int i0)], [], h) Q := by
  have H := tp_Cn_7 1 12 n T h
  have hJ : tp_P (tp_T n T) [(3, 63, 0), (3, 106, 0), (3, 7, 0), (3, 41, 0), (3, 52, 0), (3, 100, 0), (3, 57, 0), (3, 101, 0)] 1 12 h h := ⟨⟨⟨hJ0, hr.1⟩, fr_refl h _⟩, fun _ _ _ => rfl⟩
  have I := H.1 h hJ
  refine hq_p rfl rfl ?_
  refine hq_p rfl rfl ?_
  refine hq_p rfl rfl ?_
  refine hq_p rfl rfl (ty_ge (n := 1) nk_i1 (fun z1 ez1 => ?_))
  refine hq_p rfl rfl (ty_ge (n := i0.toInt + z1.toInt) (nm_add (by omega) (by omega)) (fun z2 ez2 => ?_))
  refine hq_iald rfl (hS h) (hs_in (by omega) (by omega)) (ty_ga (fun z3 az3 bz3 => ?_))
  refine ty_callj 0 (W := (ty_W2n 7)) H hJ rfl (fun _ => rfl) rfl rfl rfl (hq_pre_o I.1 (x := 0) (ci := 10) rfl (by decide) rfl rfl rfl rfl) (fun a k w => by unfold ty_Wpl at w; unfold ty_W2n; omega) (by unfold ty_Wpl ty_W2n; omega) (ct_106a (x1 := z3) (by omega) hJ.1.1.2.1 hJ.1.1.2.2) (fun h5 _ Jh5 P4 => ?_)
  have Ih5 := H.1 h5 Jh5
  obtain ⟨z6, rfl, az6, bz6⟩ := P4
  refine hq_p rfl rfl ?_
  refine hq_p rfl rfl ?_
  refine hq_p rfl rfl ?_
  refine hq_p rfl rfl ?_
  refine hq_p rfl rfl (ty_ge (n := 1) nk_i1 (fun z7 ez7 => ?_))
  refine hq_p rfl rfl (ty_ge (n := i0.toInt + z7.toInt) (nm_add (by omega) (by omega)) (fun z8 ez8 => ?_))
  refine hq_iald rfl (hS h5) (hs_in (by omega) (by omega)) (ty_ga (fun z9 az9 bz9 => ?_))
  refine ty_callj 0 (W := (ty_W2n 7)) H Jh5 rfl (fun _ => rfl) rfl rfl rfl (hq_pre_o Ih5.1 (x := 97) (ci := 11) rfl (by decide) rfl rfl rfl rfl) (fun a k w => by unfold ty_Wx at w; unfold ty_W2n; omega) (by unfold ty_Wx ty_W2n; omega) (ct_227 (x1 := z9) (by omega)) (fun h11 _ Jh11 P10 => ?_)
  have Ih11 := H.1 h11 Jh11
  obtain ⟨z12, rfl, az12, bz12⟩ := P10
  refine hq_p rfl rfl ?_
  refine hq_p rfl rfl ?_
  exact K h11 (tq_n7 hz hr Jh11)
set_option maxRecDepth 20000 in
set_option maxHeartbeats 4000000 in
theorem tb_23b {X : pm_X} {d L n : Nat} {xs : Nat → Int32} {h : pm_H} {i0 : Int32} {Q : pm_H → Option Value → Prop} (hd : 120 ≤ d) (hX : ty_SX X) (hS : ∀ h, pm_arr X h (.retAddr 200) = some (0, L, .inl xs)) (hL : L ≤ 3072) (a0 : 0 ≤ i0.toInt) (b0 : i0.toInt + 6 ≤ L) {T : Int} (hJ0 : tp_T n T h) (hz : tz_R T h) (hr : rl 12 1 18 h) (K : ∀ h1, tq_K (n + 1) h1 → hq_W X d 12 false (some .boolean) pm_cL (1205, [some (.retAddr 200), some (.ref 0), some (.ref 97), some (.int i0)], [], h1) Q) : hq_W X d 12 false (some .boolean) pm_cL (791, [some (.retAddr 200), some (.ref 0), some (.ref 97), some (.int i0)], [], h) Q := by
  have H := tp_Cn_18 12 1 n T h
  have hJ : tp_P (tp_T n T) [(3, 63, 0), (3, 106, 0), (3, 18, 0), (3, 41, 0), (3, 52, 0), (3, 100, 0), (3, 57, 0), (3, 101, 0)] 12 1 h h := ⟨⟨⟨hJ0, hr.1⟩, fr_refl h _⟩, fun _ _ _ => rfl⟩
  have I := H.1 h hJ
  refine hq_p rfl rfl ?_
  refine hq_p rfl rfl ?_
  refine hq_p rfl rfl ?_
  refine hq_p rfl rfl (ty_ge (n := 1) nk_i1 (fun z1 ez1 => ?_))
  refine hq_p rfl rfl (ty_ge (n := i0.toInt + z1.toInt) (nm_add (by omega) (by omega)) (fun z2 ez2 => ?_))
  refine hq_iald rfl (hS h) (hs_in (by omega) (by omega)) (ty_ga (fun z3 az3 bz3 => ?_))
  refine ty_callj 0 (W := (ty_W2n 18)) H hJ rfl (fun _ => rfl) rfl rfl rfl (hq_pre_o I.1 (x := 0) (ci := 10) rfl (by decide) rfl rfl rfl rfl) (fun a k w => by unfold ty_Wpl at w; unfold ty_W2n; omega) (by unfold ty_Wpl ty_W2n; omega) (ct_106b (x1 := z3) (by omega) hJ.1.1.2.1 hJ.1.1.2.2) (fun h5 _ Jh5 P4 => ?_)
  have Ih5 := H.1 h5 Jh5
  obtain ⟨z6, rfl, az6, bz6⟩ := P4
  refine hq_p rfl rfl ?_
  refine hq_p rfl rfl ?_
  refine hq_p rfl rfl ?_
  refine hq_p rfl rfl ?_
  refine hq_p rfl rfl (ty_ge (n := 1) nk_i1 (fun z7 ez7 => ?_))
  refine hq_p rfl rfl (ty_ge (n := i0.toInt + z7.toInt) (nm_add (by omega) (by omega)) (fun z8 ez8 => ?_))
  refine hq_iald rfl (hS h5) (hs_in (by omega) (by omega)) (ty_ga (fun z9 az9 bz9 => ?_))
  refine ty_callj 0 (W := (ty_W2n 18)) H Jh5 rfl (fun _ => rfl) rfl rfl rfl (hq_pre_o Ih5.1 (x := 97) (ci := 11) rfl (by decide) rfl rfl rfl rfl) (fun a k w => by unfold ty_Wx at w; unfold ty_W2n; omega) (by unfold ty_Wx ty_W2n; omega) (ct_227 (x1 := z9) (by omega)) (fun h11 _ Jh11 P10 => ?_)
  have Ih11 := H.1 h11 Jh11
  obtain ⟨z12, rfl, az12, bz12⟩ := P10
  refine hq_p rfl rfl ?_
  refine hq_p rfl rfl ?_
  exact K h11 (tq_n18 hz hr Jh11)
theorem tb_23 {X : pm_X} {d L n : Nat} {xs : Nat → Int32} {h : pm_H} {i0 : Int32} {Q : pm_H → Option Value → Prop} (hd : 120 ≤ d) (hX : ty_SX X) (hS : ∀ h, pm_arr X h (.retAddr 200) = some (0, L, .inl xs)) (hL : L ≤ 3072) (a0 : 0 ≤ i0.toInt) (b0 : i0.toInt + 6 ≤ L) (hK : tq_K n h) (K : ∀ h1, tq_K (n + 1) h1 → hq_W X d 12 false (some .boolean) pm_cL (1205, [some (.retAddr 200), some (.ref 0), some (.ref 97), some (.int i0)], [], h1) Q) : hq_W X d 12 false (some .boolean) pm_cL (791, [some (.retAddr 200), some (.ref 0), some (.ref 97), some (.int i0)], [], h) Q := by
  obtain ⟨T, hJ0, hz, hr⟩ := hK
  rcases hr with hr | hr
  · exact tb_23a hd hX hS hL a0 b0 hJ0 hz hr K
  · exact tb_23b hd hX hS hL a0 b0 hJ0 hz hr K
set_option maxRecDepth 20000 in
set_option maxHeartbeats 4000000 in
theorem tb_26a {X : pm_X} {d L n : Nat} {xs : Nat → Int32} {h : pm_H} {i0 : Int32} {Q : pm_H → Option Value → Prop} (hd : 120 ≤ d) (hX : ty_SX X) (hS : ∀ h, pm_arr X h (.retAddr 200) = some (0, L, .inl xs)) (hL : L ≤ 3072) (a0 : 0 ≤ i0.toInt) (b0 : i0.toInt + 6 ≤ L) {T : Int} (hJ0 : tp_T n T h) (hz : tz_R T h) (hr : rl 1 12 7 h) (K : ∀ h1, tq_K (n + 1) h1 → hq_W X d 12 false (some .boolean) pm_cL (1205, [some (.retAddr 200), some (.ref 0), some (.ref 97), some (.int i0)], [], h1) Q) : hq_W X d 12 false (some .boolean) pm_cL (860, [some (.retAddr 200), some (.ref 0), some (.ref 97), some (.int i0)], [], h) Q := by
  have H := tp_Cn_7 1 12 n T h
  have hJ : tp_P (tp_T n T) [(3, 63, 0), (3, 106, 0), (3, 7, 0), (3, 41, 0), (3, 52, 0), (3, 100, 0), (3, 57, 0), (3, 101, 0)] 1 12 h h := ⟨⟨⟨hJ0, hr.1⟩, fr_refl h _⟩, fun _ _ _ => rfl⟩
  have I := H.1 h hJ
  refine hq_p rfl rfl ?_
  refine ty_callj 0 (W := (ty_W2n 7)) H hJ rfl (fun _ => rfl) rfl rfl rfl (hq_pre_o I.1 (x := 0) (ci := 10) rfl (by decide) rfl rfl rfl rfl) (fun a k w => by unfold ty_Wpl at w; unfold ty_W2n; omega) (by unfold ty_Wpl ty_W2n; omega) (ct_109a (by omega) hJ.1.1.2.1 hJ.1.1.2.2) (fun h2 _ Jh2 P1 => ?_)
  have Ih2 := H.1 h2 Jh2
  obtain ⟨z3, rfl, az3, bz3⟩ := P1
  refine hq_p rfl rfl ?_
  refine hq_p rfl rfl ?_
  refine ty_callj 0 (W := (ty_W2n 7)) H Jh2 rfl (fun _ => rfl) rfl rfl rfl (hq_pre_o Ih2.1 (x := 97) (ci := 11) rfl (by decide) rfl rfl rfl rfl) (fun a k w => by unfold ty_Wx at w; unfold ty_W2n; omega) (by unfold ty_Wx ty_W2n; omega) (ct_232 (by omega)) (fun h5 _ Jh5 P4 => ?_)
  have Ih5 := H.1 h5 Jh5
  obtain ⟨z6, rfl, az6, bz6⟩ := P4
  refine hq_p rfl rfl ?_
  refine hq_p rfl rfl ?_
  exact K h5 (tq_n7 hz hr Jh5)
set_option maxRecDepth 20000 in
set_option maxHeartbeats 4000000 in
theorem tb_26b {X : pm_X} {d L n : Nat} {xs : Nat → Int32} {h : pm_H} {i0 : Int32} {Q : pm_H → Option Value → Prop} (hd : 120 ≤ d) (hX : ty_SX X) (hS : ∀ h, pm_arr X h (.retAddr 200) = some (0, L, .inl xs)) (hL : L ≤ 3072) (a0 : 0 ≤ i0.toInt) (b0 : i0.toInt + 6 ≤ L) {T : Int} (hJ0 : tp_T n T h) (hz : tz_R T h) (hr : rl 12 1 18 h) (K : ∀ h1, tq_K (n + 1) h1 → hq_W X d 12 false (some .boolean) pm_cL (1205, [some (.retAddr 200), some (.ref 0), some (.ref 97), some (.int i0)], [], h1) Q) : hq_W X d 12 false (some .boolean) pm_cL (860, [some (.retAddr 200), some (.ref 0), some (.ref 97), some (.int i0)], [], h) Q := by
  have H := tp_Cn_18 12 1 n T h
  have hJ : tp_P (tp_T n T) [(3, 63, 0), (3, 106, 0), (3, 18, 0), (3, 41, 0), (3, 52, 0), (3, 100, 0), (3, 57, 0), (3, 101, 0)] 12 1 h h := ⟨⟨⟨hJ0, hr.1⟩, fr_refl h _⟩, fun _ _ _ => rfl⟩
  have I := H.1 h hJ
  refine hq_p rfl rfl ?_
  refine ty_callj 0 (W := (ty_W2n 18)) H hJ rfl (fun _ => rfl) rfl rfl rfl (hq_pre_o I.1 (x := 0) (ci := 10) rfl (by decide) rfl rfl rfl rfl) (fun a k w => by unfold ty_Wpl at w; unfold ty_W2n; omega) (by unfold ty_Wpl ty_W2n; omega) (ct_109b (by omega) hJ.1.1.2.1 hJ.1.1.2.2) (fun h2 _ Jh2 P1 => ?_)
  have Ih2 := H.1 h2 Jh2
  obtain ⟨z3, rfl, az3, bz3⟩ := P1
  refine hq_p rfl rfl ?_
  refine hq_p rfl rfl ?_
  refine ty_callj 0 (W := (ty_W2n 18)) H Jh2 rfl (fun _ => rfl) rfl rfl rfl (hq_pre_o Ih2.1 (x := 97) (ci := 11) rfl (by decide) rfl rfl rfl rfl) (fun a k w => by unfold ty_Wx at w; unfold ty_W2n; omega) (by unfold ty_Wx ty_W2n; omega) (ct_232 (by omega)) (fun h5 _ Jh5 P4 => ?_)
  have Ih5 := H.1 h5 Jh5
  obtain ⟨z6, rfl, az6, bz6⟩ := P4
  refine hq_p rfl rfl ?_
  refine hq_p rfl rfl ?_
  exact K h5 (tq_n18 hz hr Jh5)
theorem tb_26 {X : pm_X} {d L n : Nat} {xs : Nat → Int32} {h : pm_H} {i0 : Int32} {Q : pm_H → Option Value → Prop} (hd : 120 ≤ d) (hX : ty_SX X) (hS : ∀ h, pm_arr X h (.retAddr 200) = some (0, L, .inl xs)) (hL : L ≤ 3072) (a0 : 0 ≤ i0.toInt) (b0 : i0.toInt + 6 ≤ L) (hK : tq_K n h) (K : ∀ h1, tq_K (n + 1) h1 → hq_W X d 12 false (some .boolean) pm_cL (1205, [some (.retAddr 200), some (.ref 0), some (.ref 97), some (.int i0)], [], h1) Q) : hq_W X d 12 false (some .boolean) pm_cL (860, [some (.retAddr 200), some (.ref 0), some (.ref 97), some (.int i0)], [], h) Q := by
  obtain ⟨T, hJ0, hz, hr⟩ := hK
  rcases hr with hr | hr
  · exact tb_26a hd hX hS hL a0 b0 hJ0 hz hr K
  · exact tb_26b hd hX hS hL a0 b0 hJ0 hz hr K
set_option maxRecDepth 20000 in
set_option maxHeartbeats 4000000 in
theorem tb_27a {X : pm_X} {d L n : Nat} {xs : Nat → Int32} {h : pm_H} {i0 : Int32} {Q : pm_H → Option Value → Prop} (hd : 120 ≤ d) (hX : ty_SX X) (hS : ∀ h, pm_arr X h (.retAddr 200) = some (0, L, .inl xs)) (hL : L ≤ 3072) (a0 : 0 ≤ i0.toInt) (b0 : i0.toInt + 6 ≤ L) {T : Int} (hJ0 : tp_T n T h) (hz : tz_R T h) (hr : rl 1 12 7 h) (K : ∀ h1, tq_K (n + 1) h1 → hq_W X d 12 false (some .boolean) pm_cL (1205, [some (.retAddr 200), some (.ref 0), some (.ref 97), some (.int i0)], [], h1) Q) : hq_W X d 12 false (some .boolean) pm_cL (873, [some (.retAddr 200), some (.ref 0), some (.ref 97), some (.int i0)], [], h) Q := by
  have H := tp_Cn_7 1 12 n T h
  have hJ : tp_P (tp_T n T) [(3, 63, 0), (3, 106, 0), (3, 7, 0), (3, 41, 0), (3, 52, 0), (3, 100, 0), (3, 57, 0), (3, 101, 0)] 1 12 h h := ⟨⟨⟨hJ0, hr.1⟩, fr_refl h _⟩, fun _ _ _ => rfl⟩
  have I := H.1 h hJ
  refine hq_p rfl rfl ?_
  refine hq_p rfl rfl ?_
  refine hq_p rfl rfl ?_
  refine hq_p rfl rfl (ty_ge (n := 1) nk_i1 (fun z1 ez1 => ?_))
  refine hq_p rfl rfl (ty_ge (n := i0.toInt + z1.toInt) (nm_add (by omega) (by omega)) (fun z2 ez2 => ?_))
  refine hq_iald rfl (hS h) (hs_in (by omega) (by omega)) (ty_ga (fun z3 az3 bz3 => ?_))
  refine ty_callj 0 (W := (ty_W2n 7)) H hJ rfl (fun _ => rfl) rfl rfl rfl (hq_pre_o I.1 (x := 0) (ci := 10) rfl (by decide) rfl rfl rfl rfl) (fun a k w => by unfold ty_Wpl at w; unfold ty_W2n; omega) (by unfold ty_Wpl ty_W2n; omega) (ct_110a (x1 := z3) (by omega) hJ.1.1.2.1 hJ.1.1.2.2) (fun h5 _ Jh5 P4 => ?_)
  have Ih5 := H.1 h5 Jh5
  obtain ⟨z6, rfl, az6, bz6⟩ := P4
  refine hq_p rfl rfl ?_
  refine hq_p rfl rfl ?_
  refine hq_p rfl rfl ?_
  refine hq_p rfl rfl ?_
  refine hq_p rfl rfl (ty_ge (n := 1) nk_i1 (fun z7 ez7 => ?_))
  refine hq_p rfl rfl (ty_ge (n := i0.toInt + z7.toInt) (nm_add (by omega) (by omega)) (fun z8 ez8 => ?_))
  refine hq_iald rfl (hS h5) (hs_in (by omega) (by omega)) (ty_ga (fun z9 az9 bz9 => ?_))
  refine ty_callj 0 (W := (ty_W2n 7)) H Jh5 rfl (fun _ => rfl) rfl rfl rfl (hq_pre_o Ih5.1 (x := 97) (ci := 11) rfl (by decide) rfl rfl rfl rfl) (fun a k w => by unfold ty_Wx at w; unfold ty_W2n; omega) (by unfold ty_Wx ty_W2n; omega) (ct_233 (x1 := z9) (by omega)) (fun h11 _ Jh11 P10 => ?_)
  have Ih11 := H.1 h11 Jh11
  obtain ⟨z12, rfl, az12, bz12⟩ := P10
  refine hq_p rfl rfl ?_
  refine hq_p rfl rfl ?_
  exact K h11 (tq_n7 hz hr Jh11)
set_option maxRecDepth 20000 in
set_option maxHeartbeats 4000000 in
theorem tb_27b {X : pm_X} {d L n : Nat} {xs : Nat → Int32} {h : pm_H} {i0 : Int32} {Q : pm_H → Option Value → Prop} (hd : 120 ≤ d) (hX : ty_SX X) (hS : ∀ h, pm_arr X h (.retAddr 200) = some (0, L, .inl xs)) (hL : L ≤ 3072) (a0 : 0 ≤ i0.toInt) (b0 : i0.toInt + 6 ≤ L) {T : Int} (hJ0 : tp_T n T h) (hz : tz_R T h) (hr : rl 12 1 18 h) (K : ∀ h1, tq_K (n + 1) h1 → hq_W X d 12 false (some .boolean) pm_cL (1205, [some (.retAddr 200), some (.ref 0), some (.ref 97), some (.int i0)], [], h1) Q) : hq_W X d 12 false (some .boolean) pm_cL (873, [some (.retAddr 200), some (.ref 0), some (.ref 97), some (.int i0)], [], h) Q := by
  have H := tp_Cn_18 12 1 n T h
  have hJ : tp_P (tp_T n T) [(3, 63, 0), (3, 106, 0), (3, 18, 0), (3, 41, 0), (3, 52, 0), (3, 100, 0), (3, 57, 0), (3, 101, 0)] 12 1 h h := ⟨⟨⟨hJ0, hr.1⟩, fr_refl h _⟩, fun _ _ _ => rfl⟩
  have I := H.1 h hJ
  refine hq_p rfl rfl ?_
  refine hq_p rfl rfl ?_
  refine hq_p rfl rfl ?_
  refine hq_p rfl rfl (ty_ge (n := 1) nk_i1 (fun z1 ez1 => ?_))
  refine hq_p rfl rfl (ty_ge (n := i0.toInt + z1.toInt) (nm_add (by omega) (by omega)) (fun z2 ez2 => ?_))
  refine hq_iald rfl (hS h) (hs_in (by omega) (by omega)) (ty_ga (fun z3 az3 bz3 => ?_))
  refine ty_callj 0 (W := (ty_W2n 18)) H hJ rfl (fun _ => rfl) rfl rfl rfl (hq_pre_o I.1 (x := 0) (ci := 10) rfl (by decide) rfl rfl rfl rfl) (fun a k w => by unfold ty_Wpl at w; unfold ty_W2n; omega) (by unfold ty_Wpl ty_W2n; omega) (ct_110b (x1 := z3) (by omega) hJ.1.1.2.1 hJ.1.1.2.2) (fun h5 _ Jh5 P4 => ?_)
  have Ih5 := H.1 h5 Jh5
  obtain ⟨z6, rfl, az6, bz6⟩ := P4
  refine hq_p rfl rfl ?_
  refine hq_p rfl rfl ?_
  refine hq_p rfl rfl ?_
  refine hq_p rfl rfl ?_
  refine hq_p rfl rfl (ty_ge (n := 1) nk_i1 (fun z7 ez7 => ?_))
  refine hq_p rfl rfl (ty_ge (n := i0.toInt + z7.toInt) (nm_add (by omega) (by omega)) (fun z8 ez8 => ?_))
  refine hq_iald rfl (hS h5) (hs_in (by omega) (by omega)) (ty_ga (fun z9 az9 bz9 => ?_))
  refine ty_callj 0 (W := (ty_W2n 18)) H Jh5 rfl (fun _ => rfl) rfl rfl rfl (hq_pre_o Ih5.1 (x := 97) (ci := 11) rfl (by decide) rfl rfl rfl rfl) (fun a k w => by unfold ty_Wx at w; unfold ty_W2n; omega) (by unfold ty_Wx ty_W2n; omega) (ct_233 (x1 := z9) (by omega)) (fun h11 _ Jh11 P10 => ?_)
  have Ih11 := H.1 h11 Jh11
  obtain ⟨z12, rfl, az12, bz12⟩ := P10
  refine hq_p rfl rfl ?_
  refine hq_p rfl rfl ?_
  exact K h11 (tq_n18 hz hr Jh11)
theorem tb_27 {X : pm_X} {d L n : Nat} {xs : Nat → Int32} {h : pm_H} {i0 : Int32} {Q : pm_H → Option Value → Prop} (hd : 120 ≤ d) (hX : ty_SX X) (hS : ∀ h, pm_arr X h (.retAddr 200) = some (0, L, .inl xs)) (hL : L ≤ 3072) (a0 : 0 ≤ i0.toInt) (b0 : i0.toInt + 6 ≤ L) (hK : tq_K n h) (K : ∀ h1, tq_K (n + 1) h1 → hq_W X d 12 false (some .boolean) pm_cL (1205, [some (.retAddr 200), some (.ref 0), some (.ref 97), some (.int i0)], [], h1) Q) : hq_W X d 12 false (some .boolean) pm_cL (873, [some (.retAddr 200), some (.ref 0), some (.ref 97), some (.int i0)], [], h) Q := by
  obtain ⟨T, hJ0, hz, hr⟩ := hK
  rcases hr with hr | hr
  · exact tb_27a hd hX hS hL a0 b0 hJ0 hz hr K
  · exact tb_27b hd hX hS hL a0 b0 hJ0 hz hr K
set_option maxRecDepth 20000 in
set_option maxHeartbeats 4000000 in
theorem tb_29a {X : pm_X} {d L n : Nat} {xs : Nat → Int32} {h : pm_H} {i0 : Int32} {Q : pm_H → Option Value → Prop} (hd : 120 ≤ d) (hX : ty_SX X) (hS : ∀ h, pm_arr X h (.retAddr 200) = some (0, L, .inl xs)) (hL : L ≤ 3072) (a0 : 0 ≤ i0.toInt) (b0 : i0.toInt + 6 ≤ L) {T : Int} (hJ0 : tp_T n T h) (hz : tz_R T h) (hr : rl 1 12 7 h) (K : ∀ h1, tq_K (n + 1) h1 → hq_W X d 12 false (some .boolean) pm_cL (1205, [some (.retAddr 200), some (.ref 0), some (.ref 97), some (.int i0)], [], h1) Q) : hq_W X d 12 false (some .boolean) pm_cL (929, [some (.retAddr 200), some (.ref 0), some (.ref 97), some (.int i0)], [], h) Q := by
  have H := tp_Cn_7 1 12 n T h
  have hJ : tp_P (tp_T n T) [(3, 63, 0), (3, 106, 0), (3, 7, 0), (3, 41, 0), (3, 52, 0), (3, 100, 0), (3, 57, 0), (3, 101, 0)] 1 12 h h := ⟨⟨⟨hJ0, hr.1⟩, fr_refl h _⟩, fun _ _ _ => rfl⟩
  have I := H.1 h hJ
  refine hq_p rfl rfl ?_
  refine hq_p rfl rfl ?_
  refine hq_p rfl rfl ?_
  refine hq_p rfl rfl (ty_ge (n := 1) nk_i1 (fun z1 ez1 => ?_))
  refine hq_p rfl rfl (ty_ge (n := i0.toInt + z1.toInt) (nm_add (by omega) (by omega)) (fun z2 ez2 => ?_))
  refine hq_iald rfl (hS h) (hs_in (by omega) (by omega)) (ty_ga (fun z3 az3 bz3 => ?_))
  refine ty_callj 0 (W := (ty_W2n 7)) H hJ rfl (fun _ => rfl) rfl rfl rfl (hq_pre_o I.1 (x := 0) (ci := 10) rfl (by decide) rfl rfl rfl rfl) (fun a k w => by unfold ty_Wpl at w; unfold ty_W2n; omega) (by unfold ty_Wpl ty_W2n; omega) (ct_112a (x1 := z3) (by omega) hJ.1.1.2.1 hJ.1.1.2.2) (fun h5 _ Jh5 P4 => ?_)
  have Ih5 := H.1 h5 Jh5
  obtain ⟨z6, rfl, az6, bz6⟩ := P4
  refine hq_p rfl rfl ?_
  refine hq_p rfl rfl ?_
  refine hq_p rfl rfl ?_
  refine hq_p rfl rfl ?_
  refine hq_p rfl rfl (ty_ge (n := 1) nk_i1 (fun z7 ez7 => ?_))
  refine hq_p rfl rfl (ty_ge (n := i0.toInt + z7.toInt) (nm_add (by omega) (by omega)) (fun z8 ez8 => ?_))
  refine hq_iald rfl (hS h5) (hs_in (by omega) (by omega)) (ty_ga (fun z9 az9 bz9 => ?_))
  refine ty_callj 0 (W := (ty_W2n 7)) H Jh5 rfl (fun _ => rfl) rfl rfl rfl (hq_pre_o Ih5.1 (x := 97) (ci := 11) rfl (by decide) rfl rfl rfl rfl) (fun a k w => by unfold ty_Wz at w; unfold ty_W2n; omega) (by unfold ty_Wz ty_W2n; omega) (ct_238 (x1 := z9) (by omega)) (fun h11 _ Jh11 P10 => ?_)
  have Ih11 := H.1 h11 Jh11
  obtain ⟨z12, rfl, az12, bz12⟩ := P10
  refine hq_p rfl rfl ?_
  refine hq_p rfl rfl ?_
  exact K h11 (tq_n7 hz hr Jh11)
set_option maxRecDepth 20000 in
set_option maxHeartbeats 4000000 in
theorem tb_29b {X : pm_X} {d L n : Nat} {xs : Nat → Int32} {h : pm_H} {i0 : Int32} {Q : pm_H → Option Value → Prop} (hd : 120 ≤ d) (hX : ty_SX X) (hS : ∀ h, pm_arr X h (.retAddr 200) = some (0, L, .inl xs)) (hL : L ≤ 3072) (a0 : 0 ≤ i0.toInt) (b0 : i0.toInt + 6 ≤ L) {T : Int} (hJ0 : tp_T n T h) (hz : tz_R T h) (hr : rl 12 1 18 h) (K : ∀ h1, tq_K (n + 1) h1 → hq_W X d 12 false (some .boolean) pm_cL (1205, [some (.retAddr 200), some (.ref 0), some (.ref 97), some (.int i0)], [], h1) Q) : hq_W X d 12 false (some .boolean) pm_cL (929, [some (.retAddr 200), some (.ref 0), some (.ref 97), some (.int i0)], [], h) Q := by
  have H := tp_Cn_18 12 1 n T h
  have hJ : tp_P (tp_T n T) [(3, 63, 0), (3, 106, 0), (3, 18, 0), (3, 41, 0), (3, 52, 0), (3, 100, 0), (3, 57, 0), (3, 101, 0)] 12 1 h h := ⟨⟨⟨hJ0, hr.1⟩, fr_refl h _⟩, fun _ _ _ => rfl⟩
  have I := H.1 h hJ
  refine hq_p rfl rfl ?_
  refine hq_p rfl rfl ?_
  refine hq_p rfl rfl ?_
  refine hq_p rfl rfl (ty_ge (n := 1) nk_i1 (fun z1 ez1 => ?_))
  refine hq_p rfl rfl (ty_ge (n := i0.toInt + z1.toInt) (nm_add (by omega) (by omega)) (fun z2 ez2 => ?_))
  refine hq_iald rfl (hS h) (hs_in (by omega) (by omega)) (ty_ga (fun z3 az3 bz3 => ?_))
  refine ty_callj 0 (W := (ty_W2n 18)) H hJ rfl (fun _ => rfl) rfl rfl rfl (hq_pre_o I.1 (x := 0) (ci := 10) rfl (by decide) rfl rfl rfl rfl) (fun a k w => by unfold ty_Wpl at w; unfold ty_W2n; omega) (by unfold ty_Wpl ty_W2n; omega) (ct_112b (x1 := z3) (by omega) hJ.1.1.2.1 hJ.1.1.2.2) (fun h5 _ Jh5 P4 => ?_)
  have Ih5 := H.1 h5 Jh5
  obtain ⟨z6, rfl, az6, bz6⟩ := P4
  refine hq_p rfl rfl ?_
  refine hq_p rfl rfl ?_
  refine hq_p rfl rfl ?_
  refine hq_p rfl rfl ?_
  refine hq_p rfl rfl (ty_ge (n := 1) nk_i1 (fun z7 ez7 => ?_))
  refine hq_p rfl rfl (ty_ge (n := i0.toInt + z7.toInt) (nm_add (by omega) (by omega)) (fun z8 ez8 => ?_))
  refine hq_iald rfl (hS h5) (hs_in (by omega) (by omega)) (ty_ga (fun z9 az9 bz9 => ?_))
  refine ty_callj 0 (W := (ty_W2n 18)) H Jh5 rfl (fun _ => rfl) rfl rfl rfl (hq_pre_o Ih5.1 (x := 97) (ci := 11) rfl (by decide) rfl rfl rfl rfl) (fun a k w => by unfold ty_Wz at w; unfold ty_W2n; omega) (by unfold ty_Wz ty_W2n; omega) (ct_238 (x1 := z9) (by omega)) (fun h11 _ Jh11 P10 => ?_)
  have Ih11 := H.1 h11 Jh11
  obtain ⟨z12, rfl, az12, bz12⟩ := P10
  refine hq_p rfl rfl ?_
  refine hq_p rfl rfl ?_
  exact K h11 (tq_n18 hz hr Jh11)
theorem tb_29 {X : pm_X} {d L n : Nat} {xs : Nat → Int32} {h : pm_H} {i0 : Int32} {Q : pm_H → Option Value → Prop} (hd : 120 ≤ d) (hX : ty_SX X) (hS : ∀ h, pm_arr X h (.retAddr 200) = some (0, L, .inl xs)) (hL : L ≤ 3072) (a0 : 0 ≤ i0.toInt) (b0 : i0.toInt + 6 ≤ L) (hK : tq_K n h) (K : ∀ h1, tq_K (n + 1) h1 → hq_W X d 12 false (some .boolean) pm_cL (1205, [some (.retAddr 200), some (.ref 0), some (.ref 97), some (.int i0)], [], h1) Q) : hq_W X d 12 false (some .boolean) pm_cL (929, [some (.retAddr 200), some (.ref 0), some (.ref 97), some (.int i0)], [], h) Q := by
  obtain ⟨T, hJ0, hz, hr⟩ := hK
  rcases hr with hr | hr
  · exact tb_29a hd hX hS hL a0 b0 hJ0 hz hr K
  · exact tb_29b hd hX hS hL a0 b0 hJ0 hz hr K
set_option maxRecDepth 20000 in
set_option maxHeartbeats 4000000 in
theorem tb_31a {X : pm_X} {d L n : Nat} {xs : Nat → Int32} {h : pm_H} {i0 : Int32} {Q : pm_H → Option Value → Prop} (hd : 120 ≤ d) (hX : ty_SX X) (hS : ∀ h, pm_arr X h (.retAddr 200) = some (0, L, .inl xs)) (hL : L ≤ 3072) (a0 : 0 ≤ i0.toInt) (b0 : i0.toInt + 6 ≤ L) {T : Int} (hJ0 : tp_T n T h) (hz : tz_R T h) (hr : rl 1 12 7 h) (K : ∀ h1, tq_K (n + 1) h1 → hq_W X d 12 false (some .boolean) pm_cL (1205, [some (.retAddr 200), some (.ref 0), some (.ref 97), some (.int i0)], [], h1) Q) : hq_W X d 12 false (some .boolean) pm_cL (985, [some (.retAddr 200), some (.ref 0), some (.ref 97), some (.int i0)], [], h) Q := by
  have H := tp_Cn_7 1 12 n T h
  have hJ : tp_P (tp_T n T) [(3, 63, 0), (3, 106, 0), (3, 7, 0), (3, 41, 0), (3, 52, 0), (3, 100, 0), (3, 57, 0), (3, 101, 0)] 1 12 h h := ⟨⟨⟨hJ0, hr.1⟩, fr_refl h _⟩, fun _ _ _ => rfl⟩
  have I := H.1 h hJ
  refine hq_p rfl rfl ?_
  refine hq_p rfl rfl ?_
  refine hq_p rfl rfl ?_
  refine hq_p rfl rfl (ty_ge (n := 1) nk_i1 (fun z1 ez1 => ?_))
  refine hq_p rfl rfl (ty_ge (n := i0.toInt + z1.toInt) (nm_add (by omega) (by omega)) (fun z2 ez2 => ?_))
  refine hq_iald rfl (hS h) (hs_in (by omega) (by omega)) (ty_ga (fun z3 az3 bz3 => ?_))
  refine ty_callj 0 (W := (ty_W2n 7)) H hJ rfl (fun _ => rfl) rfl rfl rfl (hq_pre_o I.1 (x := 0) (ci := 10) rfl (by decide) rfl rfl rfl rfl) (fun a k w => by unfold ty_Wpl at w; unfold ty_W2n; omega) (by unfold ty_Wpl ty_W2n; omega) (ct_114a (x1 := z3) (by omega) hJ.1.1.2.1 hJ.1.1.2.2) (fun h5 _ Jh5 P4 => ?_)
  have Ih5 := H.1 h5 Jh5
  obtain ⟨z6, rfl, az6, bz6⟩ := P4
  refine hq_p rfl rfl ?_
  refine hq_p rfl rfl ?_
  refine hq_p rfl rfl ?_
  refine hq_p rfl rfl ?_
  refine hq_p rfl rfl (ty_ge (n := 1) nk_i1 (fun z7 ez7 => ?_))
  refine hq_p rfl rfl (ty_ge (n := i0.toInt + z7.toInt) (nm_add (by omega) (by omega)) (fun z8 ez8 => ?_))
  refine hq_iald rfl (hS h5) (hs_in (by omega) (by omega)) (ty_ga (fun z9 az9 bz9 => ?_))
  refine ty_callj 0 (W := (ty_W2n 7)) H Jh5 rfl (fun _ => rfl) rfl rfl rfl (hq_pre_o Ih5.1 (x := 97) (ci := 11) rfl (by decide) rfl rfl rfl rfl) (fun a k w => by unfold ty_Wz at w; unfold ty_W2n; omega) (by unfold ty_Wz ty_W2n; omega) (ct_240 (x1 := z9) (by omega)) (fun h11 _ Jh11 P10 => ?_)
  have Ih11 := H.1 h11 Jh11
  obtain ⟨z12, rfl, az12, bz12⟩ := P10
  refine hq_p rfl rfl ?_
  refine hq_p rfl rfl ?_
  exact K h11 (tq_n7 hz hr Jh11)
set_option maxRecDepth 20000 in
set_option maxHeartbeats 4000000 in
theorem tb_31b {X : pm_X} {d L n : Nat} {xs : Nat → Int32} {h : pm_H} {i0 : Int32} {Q : pm_H → Option Value → Prop} (hd : 120 ≤ d) (hX : ty_SX X) (hS : ∀ h, pm_arr X h (.retAddr 200) = some (0, L, .inl xs)) (hL : L ≤ 3072) (a0 : 0 ≤ i0.toInt) (b0 : i0.toInt + 6 ≤ L) {T : Int} (hJ0 : tp_T n T h) (hz : tz_R T h) (hr : rl 12 1 18 h) (K : ∀ h1, tq_K (n + 1) h1 → hq_W X d 12 false (some .boolean) pm_cL (1205, [some (.retAddr 200), some (.ref 0), some (.ref 97), some (.int i0)], [], h1) Q) : hq_W X d 12 false (some .boolean) pm_cL (985, [some (.retAddr 200), some (.ref 0), some (.ref 97), some (.int i0)], [], h) Q := by
  have H := tp_Cn_18 12 1 n T h
  have hJ : tp_P (tp_T n T) [(3, 63, 0), (3, 106, 0), (3, 18, 0), (3, 41, 0), (3, 52, 0), (3, 100, 0), (3, 57, 0), (3, 101, 0)] 12 1 h h := ⟨⟨⟨hJ0, hr.1⟩, fr_refl h _⟩, fun _ _ _ => rfl⟩
  have I := H.1 h hJ
  refine hq_p rfl rfl ?_
  refine hq_p rfl rfl ?_
  refine hq_p rfl rfl ?_
  refine hq_p rfl rfl (ty_ge (n := 1) nk_i1 (fun z1 ez1 => ?_))
  refine hq_p rfl rfl (ty_ge (n := i0.toInt + z1.toInt) (nm_add (by omega) (by omega)) (fun z2 ez2 => ?_))
  refine hq_iald rfl (hS h) (hs_in (by omega) (by omega)) (ty_ga (fun z3 az3 bz3 => ?_))
  refine ty_callj 0 (W := (ty_W2n 18)) H hJ rfl (fun _ => rfl) rfl rfl rfl (hq_pre_o I.1 (x := 0) (ci := 10) rfl (by decide) rfl rfl rfl rfl) (fun a k w => by unfold ty_Wpl at w; unfold ty_W2n; omega) (by unfold ty_Wpl ty_W2n; omega) (ct_114b (x1 := z3) (by omega) hJ.1.1.2.1 hJ.1.1.2.2) (fun h5 _ Jh5 P4 => ?_)
  have Ih5 := H.1 h5 Jh5
  obtain ⟨z6, rfl, az6, bz6⟩ := P4
  refine hq_p rfl rfl ?_
  refine hq_p rfl rfl ?_
  refine hq_p rfl rfl ?_
  refine hq_p rfl rfl ?_
  refine hq_p rfl rfl (ty_ge (n := 1) nk_i1 (fun z7 ez7 => ?_))
  refine hq_p rfl rfl (ty_ge (n := i0.toInt + z7.toInt) (nm_add (by omega) (by omega)) (fun z8 ez8 => ?_))
  refine hq_iald rfl (hS h5) (hs_in (by omega) (by omega)) (ty_ga (fun z9 az9 bz9 => ?_))
  refine ty_callj 0 (W := (ty_W2n 18)) H Jh5 rfl (fun _ => rfl) rfl rfl rfl (hq_pre_o Ih5.1 (x := 97) (ci := 11) rfl (by decide) rfl rfl rfl rfl) (fun a k w => by unfold ty_Wz at w; unfold ty_W2n; omega) (by unfold ty_Wz ty_W2n; omega) (ct_240 (x1 := z9) (by omega)) (fun h11 _ Jh11 P10 => ?_)
  have Ih11 := H.1 h11 Jh11
  obtain ⟨z12, rfl, az12, bz12⟩ := P10
  refine hq_p rfl rfl ?_
  refine hq_p rfl rfl ?_
  exact K h11 (tq_n18 hz hr Jh11)
theorem tb_31 {X : pm_X} {d L n : Nat} {xs : Nat → Int32} {h : pm_H} {i0 : Int32} {Q : pm_H → Option Value → Prop} (hd : 120 ≤ d) (hX : ty_SX X) (hS : ∀ h, pm_arr X h (.retAddr 200) = some (0, L, .inl xs)) (hL : L ≤ 3072) (a0 : 0 ≤ i0.toInt) (b0 : i0.toInt + 6 ≤ L) (hK : tq_K n h) (K : ∀ h1, tq_K (n + 1) h1 → hq_W X d 12 false (some .boolean) pm_cL (1205, [some (.retAddr 200), some (.ref 0), some (.ref 97), some (.int i0)], [], h1) Q) : hq_W X d 12 false (some .boolean) pm_cL (985, [some (.retAddr 200), some (.ref 0), some (.ref 97), some (.int i0)], [], h) Q := by
  obtain ⟨T, hJ0, hz, hr⟩ := hK
  rcases hr with hr | hr
  · exact tb_31a hd hX hS hL a0 b0 hJ0 hz hr K
  · exact tb_31b hd hX hS hL a0 b0 hJ0 hz hr K
set_option maxRecDepth 20000 in
set_option maxHeartbeats 4000000 in
theorem tb_34a {X : pm_X} {d L n : Nat} {xs : Nat → Int32} {h : pm_H} {i0 : Int32} {Q : pm_H → Option Value → Prop} (hd : 120 ≤ d) (hX : ty_SX X) (hS : ∀ h, pm_arr X h (.retAddr 200) = some (0, L, .inl xs)) (hL : L ≤ 3072) (a0 : 0 ≤ i0.toInt) (b0 : i0.toInt + 6 ≤ L) {T : Int} (hJ0 : tp_T n T h) (hz : tz_R T h) (hr : rl 1 12 7 h) (K : ∀ h1, tq_K (n + 1) h1 → hq_W X d 12 false (some .boolean) pm_cL (1205, [some (.retAddr 200), some (.ref 0), some (.ref 97), some (.int i0)], [], h1) Q) : hq_W X d 12 false (some .boolean) pm_cL (1034, [some (.retAddr 200), some (.ref 0), some (.ref 97), some (.int i0)], [], h) Q := by
  have H := tp_Cn_7 1 12 n T h
  have hJ : tp_P (tp_T n T) [(3, 63, 0), (3, 106, 0), (3, 7, 0), (3, 41, 0), (3, 52, 0), (3, 100, 0), (3, 57, 0), (3, 101, 0)] 1 12 h h := ⟨⟨⟨hJ0, hr.1⟩, fr_refl h _⟩, fun _ _ _ => rfl⟩
  have I := H.1 h hJ
  refine hq_p rfl rfl ?_
  refine hq_p rfl rfl ?_
  refine hq_p rfl rfl ?_
  refine hq_p rfl rfl (ty_ge (n := 1) nk_i1 (fun z1 ez1 => ?_))
  refine hq_p rfl rfl (ty_ge (n := i0.toInt + z1.toInt) (nm_add (by omega) (by omega)) (fun z2 ez2 => ?_))
  refine hq_iald rfl (hS h) (hs_in (by omega) (by omega)) (ty_ga (fun z3 az3 bz3 => ?_))
  refine ty_callj 0 (W := (ty_W2n 7)) H hJ rfl (fun _ => rfl) rfl rfl rfl (hq_pre_o I.1 (x := 0) (ci := 10) rfl (by decide) rfl rfl rfl rfl) (fun a k w => by unfold ty_Wpl at w; unfold ty_W2n; omega) (by unfold ty_Wpl ty_W2n; omega) (ct_117a (x1 := z3) (by omega) hJ.1.1.2.1 hJ.1.1.2.2) (fun h5 _ Jh5 P4 => ?_)
  have Ih5 := H.1 h5 Jh5
  obtain ⟨z6, rfl, az6, bz6⟩ := P4
  refine hq_p rfl rfl ?_
  refine hq_p rfl rfl ?_
  refine hq_p rfl rfl ?_
  refine hq_p rfl rfl ?_
  refine hq_p rfl rfl (ty_ge (n := 1) nk_i1 (fun z7 ez7 => ?_))
  refine hq_p rfl rfl (ty_ge (n := i0.toInt + z7.toInt) (nm_add (by omega) (by omega)) (fun z8 ez8 => ?_))
  refine hq_iald rfl (hS h5) (hs_in (by omega) (by omega)) (ty_ga (fun z9 az9 bz9 => ?_))
  refine ty_callj 0 (W := (ty_W2n 7)) H Jh5 rfl (fun _ => rfl) rfl rfl rfl (hq_pre_o Ih5.1 (x := 97) (ci := 11) rfl (by decide) rfl rfl rfl rfl) (fun a k w => by unfold ty_Wx at w; unfold ty_W2n; omega) (by unfold ty_Wx ty_W2n; omega) (ct_243 (x1 := z9) (by omega)) (fun h11 _ Jh11 P10 => ?_)
  have Ih11 := H.1 h11 Jh11
  obtain ⟨z12, rfl, az12, bz12⟩ := P10
  refine hq_p rfl rfl ?_
  refine hq_p rfl rfl ?_
  exact K h11 (tq_n7 hz hr Jh11)
set_option maxRecDepth 20000 in
set_option maxHeartbeats 4000000 in
theorem tb_34b {X : pm_X} {d L n : Nat} {xs : Nat → Int32} {h : pm_H} {i0 : Int32} {Q : pm_H → Option Value → Prop} (hd : 120 ≤ d) (hX : ty_SX X) (hS : ∀ h, pm_arr X h (.retAddr 200) = some (0, L, .inl xs)) (hL : L ≤ 3072) (a0 : 0 ≤ i0.toInt) (b0 : i0.toInt + 6 ≤ L) {T : Int} (hJ0 : tp_T n T h) (hz : tz_R T h) (hr : rl 12 1 18 h) (K : ∀ h1, tq_K (n + 1) h1 → hq_W X d 12 false (some .boolean) pm_cL (1205, [some (.retAddr 200), some (.ref 0), some (.ref 97), some (.int i0)], [], h1) Q) : hq_W X d 12 false (some .boolean) pm_cL (1034, [some (.retAddr 200), some (.ref 0), some (.ref 97), some (.int i0)], [], h) Q := by
  have H := tp_Cn_18 12 1 n T h
  have hJ : tp_P (tp_T n T) [(3, 63, 0), (3, 106, 0), (3, 18, 0), (3, 41, 0), (3, 52, 0), (3, 100, 0), (3, 57, 0), (3, 101, 0)] 12 1 h h := ⟨⟨⟨hJ0, hr.1⟩, fr_refl h _⟩, fun _ _ _ => rfl⟩
  have I := H.1 h hJ
  refine hq_p rfl rfl ?_
  refine hq_p rfl rfl ?_
  refine hq_p rfl rfl ?_
  refine hq_p rfl rfl (ty_ge (n := 1) nk_i1 (fun z1 ez1 => ?_))
  refine hq_p rfl rfl (ty_ge (n := i0.toInt + z1.toInt) (nm_add (by omega) (by omega)) (fun z2 ez2 => ?_))
  refine hq_iald rfl (hS h) (hs_in (by omega) (by omega)) (ty_ga (fun z3 az3 bz3 => ?_))
  refine ty_callj 0 (W := (ty_W2n 18)) H hJ rfl (fun _ => rfl) rfl rfl rfl (hq_pre_o I.1 (x := 0) (ci := 10) rfl (by decide) rfl rfl rfl rfl) (fun a k w => by unfold ty_Wpl at w; unfold ty_W2n; omega) (by unfold ty_Wpl ty_W2n; omega) (ct_117b (x1 := z3) (by omega) hJ.1.1.2.1 hJ.1.1.2.2) (fun h5 _ Jh5 P4 => ?_)
  have Ih5 := H.1 h5 Jh5
  obtain ⟨z6, rfl, az6, bz6⟩ := P4
  refine hq_p rfl rfl ?_
  refine hq_p rfl rfl ?_
  refine hq_p rfl rfl ?_
  refine hq_p rfl rfl ?_
  refine hq_p rfl rfl (ty_ge (n := 1) nk_i1 (fun z7 ez7 => ?_))
  refine hq_p rfl rfl (ty_ge (n := i0.toInt + z7.toInt) (nm_add (by omega) (by omega)) (fun z8 ez8 => ?_))
  refine hq_iald rfl (hS h5) (hs_in (by omega) (by omega)) (ty_ga (fun z9 az9 bz9 => ?_))
  refine ty_callj 0 (W := (ty_W2n 18)) H Jh5 rfl (fun _ => rfl) rfl rfl rfl (hq_pre_o Ih5.1 (x := 97) (ci := 11) rfl (by decide) rfl rfl rfl rfl) (fun a k w => by unfold ty_Wx at w; unfold ty_W2n; omega) (by unfold ty_Wx ty_W2n; omega) (ct_243 (x1 := z9) (by omega)) (fun h11 _ Jh11 P10 => ?_)
  have Ih11 := H.1 h11 Jh11
  obtain ⟨z12, rfl, az12, bz12⟩ := P10
  refine hq_p rfl rfl ?_
  refine hq_p rfl rfl ?_
  exact K h11 (tq_n18 hz hr Jh11)
theorem tb_34 {X : pm_X} {d L n : Nat} {xs : Nat → Int32} {h : pm_H} {i0 : Int32} {Q : pm_H → Option Value → Prop} (hd : 120 ≤ d) (hX : ty_SX X) (hS : ∀ h, pm_arr X h (.retAddr 200) = some (0, L, .inl xs)) (hL : L ≤ 3072) (a0 : 0 ≤ i0.toInt) (b0 : i0.toInt + 6 ≤ L) (hK : tq_K n h) (K : ∀ h1, tq_K (n + 1) h1 → hq_W X d 12 false (some .boolean) pm_cL (1205, [some (.retAddr 200), some (.ref 0), some (.ref 97), some (.int i0)], [], h1) Q) : hq_W X d 12 false (some .boolean) pm_cL (1034, [some (.retAddr 200), some (.ref 0), some (.ref 97), some (.int i0)], [], h) Q := by
  obtain ⟨T, hJ0, hz, hr⟩ := hK
  rcases hr with hr | hr
  · exact tb_34a hd hX hS hL a0 b0 hJ0 hz hr K
  · exact tb_34b hd hX hS hL a0 b0 hJ0 hz hr K
set_option maxRecDepth 20000 in
set_option maxHeartbeats 4000000 in
theorem tb_35a {X : pm_X} {d L n : Nat} {xs : Nat → Int32} {h : pm_H} {i0 : Int32} {Q : pm_H → Option Value → Prop} (hd : 120 ≤ d) (hX : ty_SX X) (hS : ∀ h, pm_arr X h (.retAddr 200) = some (0, L, .inl xs)) (hL : L ≤ 3072) (a0 : 0 ≤ i0.toInt) (b0 : i0.toInt + 6 ≤ L) {T : Int} (hJ0 : tp_T n T h) (hz : tz_R T h) (hr : rl 1 12 7 h) (K : ∀ h1, tq_K (n + 1) h1 → hq_W X d 12 false (some .boolean) pm_cL (1205, [some (.retAddr 200), some (.ref 0), some (.ref 97), some (.int i0)], [], h1) Q) : hq_W X d 12 false (some .boolean) pm_cL (1057, [some (.retAddr 200), some (.ref 0), some (.ref 97), some (.int i0)], [], h) Q := by
  have H := tp_Cn_7 1 12 n T h
  have hJ : tp_P (tp_T n T) [(3, 63, 0), (3, 106, 0), (3, 7, 0), (3, 41, 0), (3, 52, 0), (3, 100, 0), (3, 57, 0), (3, 101, 0)] 1 12 h h := ⟨⟨⟨hJ0, hr.1⟩, fr_refl h _⟩, fun _ _ _ => rfl⟩
  have I := H.1 h hJ
  refine hq_p rfl rfl ?_
  refine hq_p rfl rfl ?_
  refine hq_p rfl rfl ?_
  refine hq_p rfl rfl (ty_ge (n := 1) nk_i1 (fun z1 ez1 => ?_))
  refine hq_p rfl rfl (ty_ge (n := i0.toInt + z1.toInt) (nm_add (by omega) (by omega)) (fun z2 ez2 => ?_))
  refine hq_iald rfl (hS h) (hs_in (by omega) (by omega)) (ty_ga (fun z3 az3 bz3 => ?_))
  refine hq_p rfl rfl ?_
  refine hq_p rfl rfl ?_
  refine hq_p rfl rfl (ty_ge (n := 2) nk_i2 (fun z4 ez4 => ?_))
  refine hq_p rfl rfl (ty_ge (n := i0.toInt + z4.toInt) (nm_add (by omega) (by omega)) (fun z5 ez5 => ?_))
  refine hq_iald rfl (hS h) (hs_in (by omega) (by omega)) (ty_ga (fun z6 az6 bz6 => ?_))
  refine ty_callj 0 (W := (ty_W2n 7)) H hJ rfl (fun _ => rfl) rfl rfl rfl (hq_pre_o I.1 (x := 0) (ci := 10) rfl (by decide) rfl rfl rfl rfl) (fun a k w => by unfold ty_Wpl at w; unfold ty_W2n; omega) (by unfold ty_Wpl ty_W2n; omega) (ct_118a (x1 := z3) (x2 := z6) (by omega) hJ.1.1.2.1 hJ.1.1.2.2) (fun h8 _ Jh8 P7 => ?_)
  have Ih8 := H.1 h8 Jh8
  obtain ⟨z9, rfl, az9, bz9⟩ := P7
  refine hq_p rfl rfl ?_
  refine hq_p rfl rfl ?_
  refine hq_p rfl rfl ?_
  refine hq_p rfl rfl ?_
  refine hq_p rfl rfl (ty_ge (n := 1) nk_i1 (fun z10 ez10 => ?_))
  refine hq_p rfl rfl (ty_ge (n := i0.toInt + z10.toInt) (nm_add (by omega) (by omega)) (fun z11 ez11 => ?_))
  refine hq_iald rfl (hS h8) (hs_in (by omega) (by omega)) (ty_ga (fun z12 az12 bz12 => ?_))
  refine hq_p rfl rfl ?_
  refine hq_p rfl rfl ?_
  refine hq_p rfl rfl (ty_ge (n := 2) nk_i2 (fun z13 ez13 => ?_))
  refine hq_p rfl rfl (ty_ge (n := i0.toInt + z13.toInt) (nm_add (by omega) (by omega)) (fun z14 ez14 => ?_))
  refine hq_iald rfl (hS h8) (hs_in (by omega) (by omega)) (ty_ga (fun z15 az15 bz15 => ?_))
  refine ty_callj 0 (W := (ty_W2n 7)) H Jh8 rfl (fun _ => rfl) rfl rfl rfl (hq_pre_o Ih8.1 (x := 97) (ci := 11) rfl (by decide) rfl rfl rfl rfl) (fun a k w => by unfold ty_Wz at w; unfold ty_W2n; omega) (by unfold ty_Wz ty_W2n; omega) (ct_253 (x1 := z12) (x2 := z15) (by omega)) (fun h17 _ Jh17 P16 => ?_)
  have Ih17 := H.1 h17 Jh17
  obtain ⟨z18, rfl, az18, bz18⟩ := P16
  refine hq_p rfl rfl ?_
  refine hq_p rfl rfl ?_
  exact K h17 (tq_n7 hz hr Jh17)
set_option maxRecDepth 20000 in
set_option maxHeartbeats 4000000 in
theorem tb_35b {X : pm_X} {d L n : Nat} {xs : Nat → Int32} {h : pm_H} {i0 : Int32} {Q : pm_H → Option Value → Prop} (hd : 120 ≤ d) (hX : ty_SX X) (hS : ∀ h, pm_arr X h (.retAddr 200) = some (0, L, .inl xs)) (hL : L ≤ 3072) (a0 : 0 ≤ i0.toInt) (b0 : i0.toInt + 6 ≤ L) {T : Int} (hJ0 : tp_T n T h) (hz : tz_R T h) (hr : rl 12 1 18 h) (K : ∀ h1, tq_K (n + 1) h1 → hq_W X d 12 false (some .boolean) pm_cL (1205, [some (.retAddr 200), some (.ref 0), some (.ref 97), some (.int i0)], [], h1) Q) : hq_W X d 12 false (some .boolean) pm_cL (1057, [some (.retAddr 200), some (.ref 0), some (.ref 97), some (.int i0)], [], h) Q := by
  have H := tp_Cn_18 12 1 n T h
  have hJ : tp_P (tp_T n T) [(3, 63, 0), (3, 106, 0), (3, 18, 0), (3, 41, 0), (3, 52, 0), (3, 100, 0), (3, 57, 0), (3, 101, 0)] 12 1 h h := ⟨⟨⟨hJ0, hr.1⟩, fr_refl h _⟩, fun _ _ _ => rfl⟩
  have I := H.1 h hJ
  refine hq_p rfl rfl ?_
  refine hq_p rfl rfl ?_
  refine hq_p rfl rfl ?_
  refine hq_p rfl rfl (ty_ge (n := 1) nk_i1 (fun z1 ez1 => ?_))
  refine hq_p rfl rfl (ty_ge (n := i0.toInt + z1.toInt) (nm_add (by omega) (by omega)) (fun z2 ez2 => ?_))
  refine hq_iald rfl (hS h) (hs_in (by omega) (by omega)) (ty_ga (fun z3 az3 bz3 => ?_))
  refine hq_p rfl rfl ?_
  refine hq_p rfl rfl ?_
  refine hq_p rfl rfl (ty_ge (n := 2) nk_i2 (fun z4 ez4 => ?_))
  refine hq_p rfl rfl (ty_ge (n := i0.toInt + z4.toInt) (nm_add (by omega) (by omega)) (fun z5 ez5 => ?_))
  refine hq_iald rfl (hS h) (hs_in (by omega) (by omega)) (ty_ga (fun z6 az6 bz6 => ?_))
  refine ty_callj 0 (W := (ty_W2n 18)) H hJ rfl (fun _ => rfl) rfl rfl rfl (hq_pre_o I.1 (x := 0) (ci := 10) rfl (by decide) rfl rfl rfl rfl) (fun a k w => by unfold ty_Wpl at w; unfold ty_W2n; omega) (by unfold ty_Wpl ty_W2n; omega) (ct_118b (x1 := z3) (x2 := z6) (by omega) hJ.1.1.2.1 hJ.1.1.2.2) (fun h8 _ Jh8 P7 => ?_)
  have Ih8 := H.1 h8 Jh8
  obtain ⟨z9, rfl, az9, bz9⟩ := P7
  refine hq_p rfl rfl ?_
  refine hq_p rfl rfl ?_
  refine hq_p rfl rfl ?_
  refine hq_p rfl rfl ?_
  refine hq_p rfl rfl (ty_ge (n := 1) nk_i1 (fun z10 ez10 => ?_))
  refine hq_p rfl rfl (ty_ge (n := i0.toInt + z10.toInt) (nm_add (by omega) (by omega)) (fun z11 ez11 => ?_))
  refine hq_iald rfl (hS h8) (hs_in (by omega) (by omega)) (ty_ga (fun z12 az12 bz12 => ?_))
  refine hq_p rfl rfl ?_
  refine hq_p rfl rfl ?_
  refine hq_p rfl rfl (ty_ge (n := 2) nk_i2 (fun z13 ez13 => ?_))
  refine hq_p rfl rfl (ty_ge (n := i0.toInt + z13.toInt) (nm_add (by omega) (by omega)) (fun z14 ez14 => ?_))
  refine hq_iald rfl (hS h8) (hs_in (by omega) (by omega)) (ty_ga (fun z15 az15 bz15 => ?_))
  refine ty_callj 0 (W := (ty_W2n 18)) H Jh8 rfl (fun _ => rfl) rfl rfl rfl (hq_pre_o Ih8.1 (x := 97) (ci := 11) rfl (by decide) rfl rfl rfl rfl) (fun a k w => by unfold ty_Wz at w; unfold ty_W2n; omega) (by unfold ty_Wz ty_W2n; omega) (ct_253 (x1 := z12) (x2 := z15) (by omega)) (fun h17 _ Jh17 P16 => ?_)
  have Ih17 := H.1 h17 Jh17
  obtain ⟨z18, rfl, az18, bz18⟩ := P16
  refine hq_p rfl rfl ?_
  refine hq_p rfl rfl ?_
  exact K h17 (tq_n18 hz hr Jh17)
theorem tb_35 {X : pm_X} {d L n : Nat} {xs : Nat → Int32} {h : pm_H} {i0 : Int32} {Q : pm_H → Option Value → Prop} (hd : 120 ≤ d) (hX : ty_SX X) (hS : ∀ h, pm_arr X h (.retAddr 200) = some (0, L, .inl xs)) (hL : L ≤ 3072) (a0 : 0 ≤ i0.toInt) (b0 : i0.toInt + 6 ≤ L) (hK : tq_K n h) (K : ∀ h1, tq_K (n + 1) h1 → hq_W X d 12 false (some .boolean) pm_cL (1205, [some (.retAddr 200), some (.ref 0), some (.ref 97), some (.int i0)], [], h1) Q) : hq_W X d 12 false (some .boolean) pm_cL (1057, [some (.retAddr 200), some (.ref 0), some (.ref 97), some (.int i0)], [], h) Q := by
  obtain ⟨T, hJ0, hz, hr⟩ := hK
  rcases hr with hr | hr
  · exact tb_35a hd hX hS hL a0 b0 hJ0 hz hr K
  · exact tb_35b hd hX hS hL a0 b0 hJ0 hz hr K
end CT73
