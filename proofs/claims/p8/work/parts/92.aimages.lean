/-! CONTRACTS (printed by wip/pm/cts.py) -/
section CT75
set_option maxRecDepth 20000 in
set_option maxHeartbeats 4000000 in
theorem tb_37am {X : pm_X} {d L n : Nat} {xs : Nat → Int32} {h : pm_H} {i0 : Int32} {Q : pm_H → Option Value → Prop} (hd : 120 ≤ d) (hX : ty_SX X) (hS : ∀ h, pm_arr X h (.retAddr 200) = some (0, L, .inl xs)) (hL : L ≤ 3072) (a0 : 0 ≤ i0.toInt) (b0 : i0.toInt + 6 ≤ L) {T : Int} (hJ0 : tp_T n T h) (hz : tz_R T h) (hr : rl 1 12 7 h) (hx : (xs (i0.toInt.toNat + 1)).toInt ≤ -1) (K : ∀ h1, tq_K (n + 1) h1 → hq_W X d 12 false (some .boolean) pm_cL (1205, [some (.retAddr 200), some (.ref 0), some (.ref 97), some (.int i0)], [], h1) Q) : hq_W X d 12 false (some .boolean) pm_cL (1123, [some (.retAddr 200), some (.ref 0), some (.ref 97), some (.int i0)], [], h) Q := by
  have H := tp_Cn_7 1 12 n T h
  have hJ : tp_P (tp_T n T) [(3, 63, 0), (3, 106, 0), (3, 7, 0), (3, 41, 0), (3, 52, 0), (3, 100, 0), (3, 57, 0), (3, 101, 0)] 1 12 h h := ⟨⟨⟨hJ0, hr.1⟩, fr_refl h _⟩, fun _ _ _ => rfl⟩
  have I := H.1 h hJ
  refine hq_p rfl rfl ?_
  refine hq_p rfl rfl ?_
  refine hq_p rfl rfl ?_
  refine hq_p rfl rfl (ty_ge (n := 1) nk_i1 (fun z1 ez1 => ?_))
  refine hq_p rfl rfl (ty_ge (n := i0.toInt + z1.toInt) (nm_add (by omega) (by omega)) (fun z2 ez2 => ?_))
  refine hq_iald rfl (hS h) (hs_in (by omega) (by omega)) (ty_ge rfl (fun z3 ez3 => ?_))
  have az3 := nm_lo z3
  have bz3 := nm_hi z3
  have xz3 : z3.toInt ≤ -1 := by rw [ez3, show z2.toNatClampNeg = i0.toInt.toNat + 1 by rw [nm_nat]; omega]; exact hx
  clear ez3
  refine ty_callj 0 (W := (ty_W2n 7)) H hJ rfl (fun _ => rfl) rfl rfl rfl (hq_pre_o I.1 (x := 0) (ci := 10) rfl (by decide) rfl rfl rfl rfl) (fun a k w => by unfold ty_Wc at w; unfold ty_W2n; omega) (by unfold ty_Wc ty_W2n; omega) (ct_120m (x1 := z3) (by omega) (by omega) (by omega)) (fun h5 _ Jh5 P4 => ?_)
  have Ih5 := H.1 h5 Jh5
  obtain ⟨z6, rfl, fz6⟩ := P4
  refine hq_p rfl rfl ?_
  refine hq_p rfl rfl ?_
  refine hq_p rfl rfl ?_
  refine hq_p rfl rfl ?_
  refine hq_p rfl rfl (ty_ge (n := 1) nk_i1 (fun z7 ez7 => ?_))
  refine hq_p rfl rfl (ty_ge (n := i0.toInt + z7.toInt) (nm_add (by omega) (by omega)) (fun z8 ez8 => ?_))
  refine hq_iald rfl (hS h5) (hs_in (by omega) (by omega)) (ty_ge rfl (fun z9 ez9 => ?_))
  have az9 := nm_lo z9
  have bz9 := nm_hi z9
  have xz9 : z9.toInt ≤ -1 := by rw [ez9, show z8.toNatClampNeg = i0.toInt.toNat + 1 by rw [nm_nat]; omega]; exact hx
  clear ez9
  refine ty_callj 0 (W := (ty_W2n 7)) H Jh5 rfl (fun _ => rfl) rfl rfl rfl (hq_pre_o Ih5.1 (x := 97) (ci := 11) rfl (by decide) rfl rfl rfl rfl) (fun a k w => by unfold ty_Wx at w; unfold ty_W2n; omega) (by unfold ty_Wx ty_W2n; omega) (ct_147m (x1 := z9) (by omega) (by omega) (by omega)) (fun h11 _ Jh11 P10 => ?_)
  have Ih11 := H.1 h11 Jh11
  obtain ⟨z12, rfl, fz12⟩ := P10
  refine hq_p rfl rfl ?_
  refine hq_p rfl rfl ?_
  exact K h11 (tq_n7 hz hr Jh11)
set_option maxRecDepth 20000 in
set_option maxHeartbeats 4000000 in
theorem tb_37aq {X : pm_X} {d L n : Nat} {xs : Nat → Int32} {h : pm_H} {i0 : Int32} {Q : pm_H → Option Value → Prop} (hd : 120 ≤ d) (hX : ty_SX X) (hS : ∀ h, pm_arr X h (.retAddr 200) = some (0, L, .inl xs)) (hL : L ≤ 3072) (a0 : 0 ≤ i0.toInt) (b0 : i0.toInt + 6 ≤ L) {T : Int} (hJ0 : tp_T n T h) (hz : tz_R T h) (hr : rl 1 12 7 h) (hx : 2 ≤ (xs (i0.toInt.toNat + 1)).toInt) (K : ∀ h1, tq_K (n + 1) h1 → hq_W X d 12 false (some .boolean) pm_cL (1205, [some (.retAddr 200), some (.ref 0), some (.ref 97), some (.int i0)], [], h1) Q) : hq_W X d 12 false (some .boolean) pm_cL (1123, [some (.retAddr 200), some (.ref 0), some (.ref 97), some (.int i0)], [], h) Q := by
  have H := tp_Cn_7 1 12 n T h
  have hJ : tp_P (tp_T n T) [(3, 63, 0), (3, 106, 0), (3, 7, 0), (3, 41, 0), (3, 52, 0), (3, 100, 0), (3, 57, 0), (3, 101, 0)] 1 12 h h := ⟨⟨⟨hJ0, hr.1⟩, fr_refl h _⟩, fun _ _ _ => rfl⟩
  have I := H.1 h hJ
  refine hq_p rfl rfl ?_
  refine hq_p rfl rfl ?_
  refine hq_p rfl rfl ?_
  refine hq_p rfl rfl (ty_ge (n := 1) nk_i1 (fun z1 ez1 => ?_))
  refine hq_p rfl rfl (ty_ge (n := i0.toInt + z1.toInt) (nm_add (by omega) (by omega)) (fun z2 ez2 => ?_))
  refine hq_iald rfl (hS h) (hs_in (by omega) (by omega)) (ty_ge rfl (fun z3 ez3 => ?_))
  have az3 := nm_lo z3
  have bz3 := nm_hi z3
  have xz3 : 2 ≤ z3.toInt := by rw [ez3, show z2.toNatClampNeg = i0.toInt.toNat + 1 by rw [nm_nat]; omega]; exact hx
  clear ez3
  refine ty_callj 0 (W := (ty_W2n 7)) H hJ rfl (fun _ => rfl) rfl rfl rfl (hq_pre_o I.1 (x := 0) (ci := 10) rfl (by decide) rfl rfl rfl rfl) (fun a k w => by unfold ty_Wc at w; unfold ty_W2n; omega) (by unfold ty_Wc ty_W2n; omega) (ct_120q (x1 := z3) (by omega) (by omega) (by omega)) (fun h5 _ Jh5 P4 => ?_)
  have Ih5 := H.1 h5 Jh5
  obtain ⟨z6, rfl, fz6⟩ := P4
  refine hq_p rfl rfl ?_
  refine hq_p rfl rfl ?_
  refine hq_p rfl rfl ?_
  refine hq_p rfl rfl ?_
  refine hq_p rfl rfl (ty_ge (n := 1) nk_i1 (fun z7 ez7 => ?_))
  refine hq_p rfl rfl (ty_ge (n := i0.toInt + z7.toInt) (nm_add (by omega) (by omega)) (fun z8 ez8 => ?_))
  refine hq_iald rfl (hS h5) (hs_in (by omega) (by omega)) (ty_ge rfl (fun z9 ez9 => ?_))
  have az9 := nm_lo z9
  have bz9 := nm_hi z9
  have xz9 : 2 ≤ z9.toInt := by rw [ez9, show z8.toNatClampNeg = i0.toInt.toNat + 1 by rw [nm_nat]; omega]; exact hx
  clear ez9
  refine ty_callj 0 (W := (ty_W2n 7)) H Jh5 rfl (fun _ => rfl) rfl rfl rfl (hq_pre_o Ih5.1 (x := 97) (ci := 11) rfl (by decide) rfl rfl rfl rfl) (fun a k w => by unfold ty_Wx at w; unfold ty_W2n; omega) (by unfold ty_Wx ty_W2n; omega) (ct_147q (x1 := z9) (by omega) (by omega) (by omega)) (fun h11 _ Jh11 P10 => ?_)
  have Ih11 := H.1 h11 Jh11
  obtain ⟨z12, rfl, fz12⟩ := P10
  refine hq_p rfl rfl ?_
  refine hq_p rfl rfl ?_
  exact K h11 (tq_n7 hz hr Jh11)
set_option maxRecDepth 20000 in
set_option maxHeartbeats 4000000 in
theorem tb_37a0 {X : pm_X} {d L n : Nat} {xs : Nat → Int32} {h : pm_H} {i0 : Int32} {Q : pm_H → Option Value → Prop} (hd : 120 ≤ d) (hX : ty_SX X) (hS : ∀ h, pm_arr X h (.retAddr 200) = some (0, L, .inl xs)) (hL : L ≤ 3072) (a0 : 0 ≤ i0.toInt) (b0 : i0.toInt + 6 ≤ L) {T : Int} (hJ0 : tp_T n T h) (hz : tz_R T h) (hr : rl 1 12 7 h) (hx : (xs (i0.toInt.toNat + 1)).toInt = 0) (K : ∀ h1, tq_K (n + 1) h1 → hq_W X d 12 false (some .boolean) pm_cL (1205, [some (.retAddr 200), some (.ref 0), some (.ref 97), some (.int i0)], [], h1) Q) : hq_W X d 12 false (some .boolean) pm_cL (1123, [some (.retAddr 200), some (.ref 0), some (.ref 97), some (.int i0)], [], h) Q := by
  have H := tp_Ci_0 1 12 n T h
  have hJ : tp_P (tp_T n T) [(3, 63, 0), (3, 106, 0), (3, 7, 0), (3, 18, 0), (3, 52, 0), (3, 100, 0), (3, 101, 0)] 1 12 h h := ⟨⟨⟨hJ0, hr.1⟩, fr_refl h _⟩, fun _ _ _ => rfl⟩
  have I := H.1 h hJ
  refine hq_p rfl rfl ?_
  refine hq_p rfl rfl ?_
  refine hq_p rfl rfl ?_
  refine hq_p rfl rfl (ty_ge (n := 1) nk_i1 (fun z1 ez1 => ?_))
  refine hq_p rfl rfl (ty_ge (n := i0.toInt + z1.toInt) (nm_add (by omega) (by omega)) (fun z2 ez2 => ?_))
  refine hq_iald rfl (hS h) (hs_in (by omega) (by omega)) (ty_ge rfl (fun z3 ez3 => ?_))
  have az3 := nm_lo z3
  have bz3 := nm_hi z3
  have xz3 : z3.toInt = 0 := by rw [ez3, show z2.toNatClampNeg = i0.toInt.toNat + 1 by rw [nm_nat]; omega]; exact hx
  clear ez3
  refine ty_callj 0 (W := (ty_W2i 41 0)) H hJ rfl (fun _ => rfl) rfl rfl rfl (hq_pre_o I.1 (x := 0) (ci := 10) rfl (by decide) rfl rfl rfl rfl) (fun a k w => by unfold ty_Wil at w; unfold ty_W2i; omega) (by unfold ty_Wil ty_W2i; omega) (ct_120a0 (x1 := z3) (by omega) (by omega) (by omega) hJ.1.1.2.1 hJ.1.1.2.2) (fun h5 _ Jh5 P4 => ?_)
  have Ih5 := H.1 h5 Jh5
  obtain ⟨z6, rfl, fz6⟩ := P4
  have az6 := nm_lo z6
  have bz6 := nm_hi z6
  refine hq_p rfl rfl ?_
  have H := tp_Cx_0 1 12 n T h5
  have hM : tp_P (tp_T n T) [(3, 63, 0), (3, 106, 0), (3, 7, 0), (3, 18, 0), (3, 41, 0), (3, 52, 0), (3, 57, 0)] 1 12 h5 h5 := ⟨⟨⟨Jh5.1.1.1, Jh5.1.1.2⟩, fr_refl h5 _⟩, fun _ _ _ => rfl⟩
  refine hq_p rfl rfl ?_
  refine hq_p rfl rfl ?_
  refine hq_p rfl rfl ?_
  refine hq_p rfl rfl (ty_ge (n := 1) nk_i1 (fun z7 ez7 => ?_))
  refine hq_p rfl rfl (ty_ge (n := i0.toInt + z7.toInt) (nm_add (by omega) (by omega)) (fun z8 ez8 => ?_))
  refine hq_iald rfl (hS h5) (hs_in (by omega) (by omega)) (ty_ge rfl (fun z9 ez9 => ?_))
  have az9 := nm_lo z9
  have bz9 := nm_hi z9
  have xz9 : z9.toInt = 0 := by rw [ez9, show z8.toNatClampNeg = i0.toInt.toNat + 1 by rw [nm_nat]; omega]; exact hx
  clear ez9
  have Hz := H.zz h5.1 h5.2.1
  refine hq_inv 0 rfl (fun _ => rfl) rfl rfl rfl (hq_pre_o Ih5.1 (x := 97) (ci := 11) rfl (by decide) rfl rfl rfl rfl) ((ct_147i0 (x1 := z9) (by omega) (by omega) (by omega) (Hz.mono (W' := (ty_Wxi 0)) (fun a k w => by unfold ty_Wxi at w; unfold ty_W2x; omega) (by unfold ty_Wxi ty_W2x; omega)) ⟨hM, rfl, rfl⟩ (fun h j => ⟨tp_imP0 (k := 0) j.1 (tp_im j.1.1.1.1 (by decide)), j.2⟩)).mono (Nat.le_refl _) (fun h10 v q => ?_))
  obtain ⟨⟨Jh10, m1, m2⟩, z11, rfl, fz11⟩ := q
  refine ⟨by omega, by omega, ?_⟩
  have Ih10 := H.1 h10 Jh10
  have az11 := nm_lo z11
  have bz11 := nm_hi z11
  have gC := Jh5
  have gM := Jh10
  obtain ⟨x63, x106, x7, x18, x52, x100, x101, _⟩ := gC.1.2
  have x63 : hs_aI h5 63 = hs_aI h 63 := x63
  have x106 : hs_aI h5 106 = hs_aI h 106 := x106
  have x7 : hs_aI h5 7 = hs_aI h 7 := x7
  have x18 : hs_aI h5 18 = hs_aI h 18 := x18
  have x52 : hs_aI h5 52 = hs_aI h 52 := x52
  have x100 : hs_aI h5 100 = hs_aI h 100 := x100
  have x101 : hs_aI h5 101 = hs_aI h 101 := x101
  obtain ⟨y63, y106, y7, y18, y41, y52, y57, _⟩ := gM.1.2
  have y63 : hs_aI h10 63 = hs_aI h5 63 := y63
  have y106 : hs_aI h10 106 = hs_aI h5 106 := y106
  have y7 : hs_aI h10 7 = hs_aI h5 7 := y7
  have y18 : hs_aI h10 18 = hs_aI h5 18 := y18
  have y41 : hs_aI h10 41 = hs_aI h5 41 := y41
  have y52 : hs_aI h10 52 = hs_aI h5 52 := y52
  have y57 : hs_aI h10 57 = hs_aI h5 57 := y57
  obtain ⟨u0, u1, u2, u3⟩ := fz6
  obtain ⟨v0, v1, v2, v3⟩ := fz11
  refine hq_p rfl rfl ?_
  refine hq_p rfl rfl ?_
  exact K h10 (tq_1 gM.1.1.1 ⟨tz_t (tz_t hz x63 x106) y63 y106, Or.inl ⟨gM.1.1.2, fun j hj => by rw [y7, x7, gM.2 (50 + j) (by omega) (by omega), gC.2 (50 + j) (by omega) (by omega)]; exact hr.2.1 j hj, (fun w j hj => by rw [y41, u1 j (Nat.zero_le _) hj, v1, va_in (by omega) (by omega)]; exact ((hr.2.1 j hj).trans (gC.2 (50 + j) (by omega) (by omega)).symm).trans (congrArg (hs_aI h5 99) (by omega))), (fun w j hj => by rw [y52, x52, v1, va_out (by omega), x100]; exact hr.2.2.2.1 (by rw [← u3, ← y57]; exact w) j hj), (by rw [y57, v2, u2]), (by rw [y57, v3, u3, x101]; exact hr.2.2.2.2.2)⟩⟩)
set_option maxRecDepth 20000 in
set_option maxHeartbeats 4000000 in
theorem tb_37a1 {X : pm_X} {d L n : Nat} {xs : Nat → Int32} {h : pm_H} {i0 : Int32} {Q : pm_H → Option Value → Prop} (hd : 120 ≤ d) (hX : ty_SX X) (hS : ∀ h, pm_arr X h (.retAddr 200) = some (0, L, .inl xs)) (hL : L ≤ 3072) (a0 : 0 ≤ i0.toInt) (b0 : i0.toInt + 6 ≤ L) {T : Int} (hJ0 : tp_T n T h) (hz : tz_R T h) (hr : rl 1 12 7 h) (hx : (xs (i0.toInt.toNat + 1)).toInt = 1) (K : ∀ h1, tq_K (n + 1) h1 → hq_W X d 12 false (some .boolean) pm_cL (1205, [some (.retAddr 200), some (.ref 0), some (.ref 97), some (.int i0)], [], h1) Q) : hq_W X d 12 false (some .boolean) pm_cL (1123, [some (.retAddr 200), some (.ref 0), some (.ref 97), some (.int i0)], [], h) Q := by
  have H := tp_Ci_1 1 12 n T h
  have hJ : tp_P (tp_T n T) [(3, 63, 0), (3, 106, 0), (3, 7, 0), (3, 18, 0), (3, 41, 0), (3, 100, 0), (3, 101, 0)] 1 12 h h := ⟨⟨⟨hJ0, hr.1⟩, fr_refl h _⟩, fun _ _ _ => rfl⟩
  have I := H.1 h hJ
  refine hq_p rfl rfl ?_
  refine hq_p rfl rfl ?_
  refine hq_p rfl rfl ?_
  refine hq_p rfl rfl (ty_ge (n := 1) nk_i1 (fun z1 ez1 => ?_))
  refine hq_p rfl rfl (ty_ge (n := i0.toInt + z1.toInt) (nm_add (by omega) (by omega)) (fun z2 ez2 => ?_))
  refine hq_iald rfl (hS h) (hs_in (by omega) (by omega)) (ty_ge rfl (fun z3 ez3 => ?_))
  have az3 := nm_lo z3
  have bz3 := nm_hi z3
  have xz3 : z3.toInt = 1 := by rw [ez3, show z2.toNatClampNeg = i0.toInt.toNat + 1 by rw [nm_nat]; omega]; exact hx
  clear ez3
  refine ty_callj 0 (W := (ty_W2i 52 1)) H hJ rfl (fun _ => rfl) rfl rfl rfl (hq_pre_o I.1 (x := 0) (ci := 10) rfl (by decide) rfl rfl rfl rfl) (fun a k w => by unfold ty_Wil at w; unfold ty_W2i; omega) (by unfold ty_Wil ty_W2i; omega) (ct_120a1 (x1 := z3) (by omega) (by omega) (by omega) hJ.1.1.2.1 hJ.1.1.2.2) (fun h5 _ Jh5 P4 => ?_)
  have Ih5 := H.1 h5 Jh5
  obtain ⟨z6, rfl, fz6⟩ := P4
  have az6 := nm_lo z6
  have bz6 := nm_hi z6
  refine hq_p rfl rfl ?_
  have H := tp_Cx_1 1 12 n T h5
  have hM : tp_P (tp_T n T) [(3, 63, 0), (3, 106, 0), (3, 7, 0), (3, 18, 0), (3, 41, 0), (3, 52, 0), (3, 57, 0)] 1 12 h5 h5 := ⟨⟨⟨Jh5.1.1.1, Jh5.1.1.2⟩, fr_refl h5 _⟩, fun _ _ _ => rfl⟩
  refine hq_p rfl rfl ?_
  refine hq_p rfl rfl ?_
  refine hq_p rfl rfl ?_
  refine hq_p rfl rfl (ty_ge (n := 1) nk_i1 (fun z7 ez7 => ?_))
  refine hq_p rfl rfl (ty_ge (n := i0.toInt + z7.toInt) (nm_add (by omega) (by omega)) (fun z8 ez8 => ?_))
  refine hq_iald rfl (hS h5) (hs_in (by omega) (by omega)) (ty_ge rfl (fun z9 ez9 => ?_))
  have az9 := nm_lo z9
  have bz9 := nm_hi z9
  have xz9 : z9.toInt = 1 := by rw [ez9, show z8.toNatClampNeg = i0.toInt.toNat + 1 by rw [nm_nat]; omega]; exact hx
  clear ez9
  have Hz := H.zz h5.1 h5.2.1
  refine hq_inv 0 rfl (fun _ => rfl) rfl rfl rfl (hq_pre_o Ih5.1 (x := 97) (ci := 11) rfl (by decide) rfl rfl rfl rfl) ((ct_147i1 (x1 := z9) (by omega) (by omega) (by omega) (Hz.mono (W' := (ty_Wxi 1)) (fun a k w => by unfold ty_Wxi at w; unfold ty_W2x; omega) (by unfold ty_Wxi ty_W2x; omega)) ⟨hM, rfl, rfl⟩ (fun h j => ⟨tp_imP1 (k := 1) j.1 (tp_im j.1.1.1.1 (by decide)), j.2⟩)).mono (Nat.le_refl _) (fun h10 v q => ?_))
  obtain ⟨⟨Jh10, m1, m2⟩, z11, rfl, fz11⟩ := q
  refine ⟨by omega, by omega, ?_⟩
  have Ih10 := H.1 h10 Jh10
  have az11 := nm_lo z11
  have bz11 := nm_hi z11
  have gC := Jh5
  have gM := Jh10
  obtain ⟨x63, x106, x7, x18, x41, x100, x101, _⟩ := gC.1.2
  have x63 : hs_aI h5 63 = hs_aI h 63 := x63
  have x106 : hs_aI h5 106 = hs_aI h 106 := x106
  have x7 : hs_aI h5 7 = hs_aI h 7 := x7
  have x18 : hs_aI h5 18 = hs_aI h 18 := x18
  have x41 : hs_aI h5 41 = hs_aI h 41 := x41
  have x100 : hs_aI h5 100 = hs_aI h 100 := x100
  have x101 : hs_aI h5 101 = hs_aI h 101 := x101
  obtain ⟨y63, y106, y7, y18, y41, y52, y57, _⟩ := gM.1.2
  have y63 : hs_aI h10 63 = hs_aI h5 63 := y63
  have y106 : hs_aI h10 106 = hs_aI h5 106 := y106
  have y7 : hs_aI h10 7 = hs_aI h5 7 := y7
  have y18 : hs_aI h10 18 = hs_aI h5 18 := y18
  have y41 : hs_aI h10 41 = hs_aI h5 41 := y41
  have y52 : hs_aI h10 52 = hs_aI h5 52 := y52
  have y57 : hs_aI h10 57 = hs_aI h5 57 := y57
  obtain ⟨u0, u1, u2, u3⟩ := fz6
  obtain ⟨v0, v1, v2, v3⟩ := fz11
  refine hq_p rfl rfl ?_
  refine hq_p rfl rfl ?_
  exact K h10 (tq_1 gM.1.1.1 ⟨tz_t (tz_t hz x63 x106) y63 y106, Or.inl ⟨gM.1.1.2, fun j hj => by rw [y7, x7, gM.2 (50 + j) (by omega) (by omega), gC.2 (50 + j) (by omega) (by omega)]; exact hr.2.1 j hj, (fun w j hj => by rw [y41, x41, v1, va_out (by omega), x100]; exact hr.2.2.1 (by rw [← u3, ← y57]; exact w) j hj), (fun w j hj => by rw [y52, u1 j (Nat.zero_le _) hj, v1, va_in (by omega) (by omega)]; exact ((hr.2.1 j hj).trans (gC.2 (50 + j) (by omega) (by omega)).symm).trans (congrArg (hs_aI h5 99) (by omega))), (by rw [y57, v3, u3, x101]; exact hr.2.2.2.2.1), (by rw [y57, v2, u2])⟩⟩)
theorem tb_37a {X : pm_X} {d L n : Nat} {xs : Nat → Int32} {h : pm_H} {i0 : Int32} {Q : pm_H → Option Value → Prop} (hd : 120 ≤ d) (hX : ty_SX X) (hS : ∀ h, pm_arr X h (.retAddr 200) = some (0, L, .inl xs)) (hL : L ≤ 3072) (a0 : 0 ≤ i0.toInt) (b0 : i0.toInt + 6 ≤ L) {T : Int} (hJ0 : tp_T n T h) (hz : tz_R T h) (hr : rl 1 12 7 h) (K : ∀ h1, tq_K (n + 1) h1 → hq_W X d 12 false (some .boolean) pm_cL (1205, [some (.retAddr 200), some (.ref 0), some (.ref 97), some (.int i0)], [], h1) Q) : hq_W X d 12 false (some .boolean) pm_cL (1123, [some (.retAddr 200), some (.ref 0), some (.ref 97), some (.int i0)], [], h) Q := by
  rcases (show (xs (i0.toInt.toNat + 1)).toInt ≤ -1 ∨ (xs (i0.toInt.toNat + 1)).toInt = 0 ∨ (xs (i0.toInt.toNat + 1)).toInt = 1 ∨ 2 ≤ (xs (i0.toInt.toNat + 1)).toInt by omega) with hx | hx | hx | hx
  · exact tb_37am hd hX hS hL a0 b0 hJ0 hz hr hx K
  · exact tb_37a0 hd hX hS hL a0 b0 hJ0 hz hr hx K
  · exact tb_37a1 hd hX hS hL a0 b0 hJ0 hz hr hx K
  · exact tb_37aq hd hX hS hL a0 b0 hJ0 hz hr hx K
set_option maxRecDepth 20000 in
set_option maxHeartbeats 4000000 in
theorem tb_37bm {X : pm_X} {d L n : Nat} {xs : Nat → Int32} {h : pm_H} {i0 : Int32} {Q : pm_H → Option Value → Prop} (hd : 120 ≤ d) (hX : ty_SX X) (hS : ∀ h, pm_arr X h (.retAddr 200) = some (0, L, .inl xs)) (hL : L ≤ 3072) (a0 : 0 ≤ i0.toInt) (b0 : i0.toInt + 6 ≤ L) {T : Int} (hJ0 : tp_T n T h) (hz : tz_R T h) (hr : rl 12 1 18 h) (hx : (xs (i0.toInt.toNat + 1)).toInt ≤ -1) (K : ∀ h1, tq_K (n + 1) h1 → hq_W X d 12 false (some .boolean) pm_cL (1205, [some (.retAddr 200), some (.ref 0), some (.ref 97), some (.int i0)], [], h1) Q) : hq_W X d 12 false (some .boolean) pm_cL (1123, [some (.retAddr 200), some (.ref 0), some (.ref 97), some (.int i0)], [], h) Q := by
  have H := tp_Cn_18 12 1 n T h
  have hJ : tp_P (tp_T n T) [(3, 63, 0), (3, 106, 0), (3, 18, 0), (3, 41, 0), (3, 52, 0), (3, 100, 0), (3, 57, 0), (3, 101, 0)] 12 1 h h := ⟨⟨⟨hJ0, hr.1⟩, fr_refl h _⟩, fun _ _ _ => rfl⟩
  have I := H.1 h hJ
  refine hq_p rfl rfl ?_
  refine hq_p rfl rfl ?_
  refine hq_p rfl rfl ?_
  refine hq_p rfl rfl (ty_ge (n := 1) nk_i1 (fun z1 ez1 => ?_))
  refine hq_p rfl rfl (ty_ge (n := i0.toInt + z1.toInt) (nm_add (by omega) (by omega)) (fun z2 ez2 => ?_))
  refine hq_iald rfl (hS h) (hs_in (by omega) (by omega)) (ty_ge rfl (fun z3 ez3 => ?_))
  have az3 := nm_lo z3
  have bz3 := nm_hi z3
  have xz3 : z3.toInt ≤ -1 := by rw [ez3, show z2.toNatClampNeg = i0.toInt.toNat + 1 by rw [nm_nat]; omega]; exact hx
  clear ez3
  refine ty_callj 0 (W := (ty_W2n 18)) H hJ rfl (fun _ => rfl) rfl rfl rfl (hq_pre_o I.1 (x := 0) (ci := 10) rfl (by decide) rfl rfl rfl rfl) (fun a k w => by unfold ty_Wc at w; unfold ty_W2n; omega) (by unfold ty_Wc ty_W2n; omega) (ct_120m (x1 := z3) (by omega) (by omega) (by omega)) (fun h5 _ Jh5 P4 => ?_)
  have Ih5 := H.1 h5 Jh5
  obtain ⟨z6, rfl, fz6⟩ := P4
  refine hq_p rfl rfl ?_
  refine hq_p rfl rfl ?_
  refine hq_p rfl rfl ?_
  refine hq_p rfl rfl ?_
  refine hq_p rfl rfl (ty_ge (n := 1) nk_i1 (fun z7 ez7 => ?_))
  refine hq_p rfl rfl (ty_ge (n := i0.toInt + z7.toInt) (nm_add (by omega) (by omega)) (fun z8 ez8 => ?_))
  refine hq_iald rfl (hS h5) (hs_in (by omega) (by omega)) (ty_ge rfl (fun z9 ez9 => ?_))
  have az9 := nm_lo z9
  have bz9 := nm_hi z9
  have xz9 : z9.toInt ≤ -1 := by rw [ez9, show z8.toNatClampNeg = i0.toInt.toNat + 1 by rw [nm_nat]; omega]; exact hx
  clear ez9
  refine ty_callj 0 (W := (ty_W2n 18)) H Jh5 rfl (fun _ => rfl) rfl rfl rfl (hq_pre_o Ih5.1 (x := 97) (ci := 11) rfl (by decide) rfl rfl rfl rfl) (fun a k w => by unfold ty_Wx at w; unfold ty_W2n; omega) (by unfold ty_Wx ty_W2n; omega) (ct_147m (x1 := z9) (by omega) (by omega) (by omega)) (fun h11 _ Jh11 P10 => ?_)
  have Ih11 := H.1 h11 Jh11
  obtain ⟨z12, rfl, fz12⟩ := P10
  refine hq_p rfl rfl ?_
  refine hq_p rfl rfl ?_
  exact K h11 (tq_n18 hz hr Jh11)
set_option maxRecDepth 20000 in
set_option maxHeartbeats 4000000 in
theorem tb_37bq {X : pm_X} {d L n : Nat} {xs : Nat → Int32} {h : pm_H} {i0 : Int32} {Q : pm_H → Option Value → Prop} (hd : 120 ≤ d) (hX : ty_SX X) (hS : ∀ h, pm_arr X h (.retAddr 200) = some (0, L, .inl xs)) (hL : L ≤ 3072) (a0 : 0 ≤ i0.toInt) (b0 : i0.toInt + 6 ≤ L) {T : Int} (hJ0 : tp_T n T h) (hz : tz_R T h) (hr : rl 12 1 18 h) (hx : 2 ≤ (xs (i0.toInt.toNat + 1)).toInt) (K : ∀ h1, tq_K (n + 1) h1 → hq_W X d 12 false (some .boolean) pm_cL (1205, [some (.retAddr 200), some (.ref 0), some (.ref 97), some (.int i0)], [], h1) Q) : hq_W X d 12 false (some .boolean) pm_cL (1123, [some (.retAddr 200), some (.ref 0), some (.ref 97), some (.int i0)], [], h) Q := by
  have H := tp_Cn_18 12 1 n T h
  have hJ : tp_P (tp_T n T) [(3, 63, 0), (3, 106, 0), (3, 18, 0), (3, 41, 0), (3, 52, 0), (3, 100, 0), (3, 57, 0), (3, 101, 0)] 12 1 h h := ⟨⟨⟨hJ0, hr.1⟩, fr_refl h _⟩, fun _ _ _ => rfl⟩
  have I := H.1 h hJ
  refine hq_p rfl rfl ?_
  refine hq_p rfl rfl ?_
  refine hq_p rfl rfl ?_
  refine hq_p rfl rfl (ty_ge (n := 1) nk_i1 (fun z1 ez1 => ?_))
  refine hq_p rfl rfl (ty_ge (n := i0.toInt + z1.toInt) (nm_add (by omega) (by omega)) (fun z2 ez2 => ?_))
  refine hq_iald rfl (hS h) (hs_in (by omega) (by omega)) (ty_ge rfl (fun z3 ez3 => ?_))
  have az3 := nm_lo z3
  have bz3 := nm_hi z3
  have xz3 : 2 ≤ z3.toInt := by rw [ez3, show z2.toNatClampNeg = i0.toInt.toNat + 1 by rw [nm_nat]; omega]; exact hx
  clear ez3
  refine ty_callj 0 (W := (ty_W2n 18)) H hJ rfl (fun _ => rfl) rfl rfl rfl (hq_pre_o I.1 (x := 0) (ci := 10) rfl (by decide) rfl rfl rfl rfl) (fun a k w => by unfold ty_Wc at w; unfold ty_W2n; omega) (by unfold ty_Wc ty_W2n; omega) (ct_120q (x1 := z3) (by omega) (by omega) (by omega)) (fun h5 _ Jh5 P4 => ?_)
  have Ih5 := H.1 h5 Jh5
  obtain ⟨z6, rfl, fz6⟩ := P4
  refine hq_p rfl rfl ?_
  refine hq_p rfl rfl ?_
  refine hq_p rfl rfl ?_
  refine hq_p rfl rfl ?_
  refine hq_p rfl rfl (ty_ge (n := 1) nk_i1 (fun z7 ez7 => ?_))
  refine hq_p rfl rfl (ty_ge (n := i0.toInt + z7.toInt) (nm_add (by omega) (by omega)) (fun z8 ez8 => ?_))
  refine hq_iald rfl (hS h5) (hs_in (by omega) (by omega)) (ty_ge rfl (fun z9 ez9 => ?_))
  have az9 := nm_lo z9
  have bz9 := nm_hi z9
  have xz9 : 2 ≤ z9.toInt := by rw [ez9, show z8.toNatClampNeg = i0.toInt.toNat + 1 by rw [nm_nat]; omega]; exact hx
  clear ez9
  refine ty_callj 0 (W := (ty_W2n 18)) H Jh5 rfl (fun _ => rfl) rfl rfl rfl (hq_pre_o Ih5.1 (x := 97) (ci := 11) rfl (by decide) rfl rfl rfl rfl) (fun a k w => by unfold ty_Wx at w; unfold ty_W2n; omega) (by unfold ty_Wx ty_W2n; omega) (ct_147q (x1 := z9) (by omega) (by omega) (by omega)) (fun h11 _ Jh11 P10 => ?_)
  have Ih11 := H.1 h11 Jh11
  obtain ⟨z12, rfl, fz12⟩ := P10
  refine hq_p rfl rfl ?_
  refine hq_p rfl rfl ?_
  exact K h11 (tq_n18 hz hr Jh11)
set_option maxRecDepth 20000 in
set_option maxHeartbeats 4000000 in
theorem tb_37b0 {X : pm_X} {d L n : Nat} {xs : Nat → Int32} {h : pm_H} {i0 : Int32} {Q : pm_H → Option Value → Prop} (hd : 120 ≤ d) (hX : ty_SX X) (hS : ∀ h, pm_arr X h (.retAddr 200) = some (0, L, .inl xs)) (hL : L ≤ 3072) (a0 : 0 ≤ i0.toInt) (b0 : i0.toInt + 6 ≤ L) {T : Int} (hJ0 : tp_T n T h) (hz : tz_R T h) (hr : rl 12 1 18 h) (hx : (xs (i0.toInt.toNat + 1)).toInt = 0) (K : ∀ h1, tq_K (n + 1) h1 → hq_W X d 12 false (some .boolean) pm_cL (1205, [some (.retAddr 200), some (.ref 0), some (.ref 97), some (.int i0)], [], h1) Q) : hq_W X d 12 false (some .boolean) pm_cL (1123, [some (.retAddr 200), some (.ref 0), some (.ref 97), some (.int i0)], [], h) Q := by
  have H := tp_Ci_0 12 1 n T h
  have hJ : tp_P (tp_T n T) [(3, 63, 0), (3, 106, 0), (3, 7, 0), (3, 18, 0), (3, 52, 0), (3, 100, 0), (3, 101, 0)] 12 1 h h := ⟨⟨⟨hJ0, hr.1⟩, fr_refl h _⟩, fun _ _ _ => rfl⟩
  have I := H.1 h hJ
  refine hq_p rfl rfl ?_
  refine hq_p rfl rfl ?_
  refine hq_p rfl rfl ?_
  refine hq_p rfl rfl (ty_ge (n := 1) nk_i1 (fun z1 ez1 => ?_))
  refine hq_p rfl rfl (ty_ge (n := i0.toInt + z1.toInt) (nm_add (by omega) (by omega)) (fun z2 ez2 => ?_))
  refine hq_iald rfl (hS h) (hs_in (by omega) (by omega)) (ty_ge rfl (fun z3 ez3 => ?_))
  have az3 := nm_lo z3
  have bz3 := nm_hi z3
  have xz3 : z3.toInt = 0 := by rw [ez3, show z2.toNatClampNeg = i0.toInt.toNat + 1 by rw [nm_nat]; omega]; exact hx
  clear ez3
  refine ty_callj 0 (W := (ty_W2i 41 0)) H hJ rfl (fun _ => rfl) rfl rfl rfl (hq_pre_o I.1 (x := 0) (ci := 10) rfl (by decide) rfl rfl rfl rfl) (fun a k w => by unfold ty_Wil at w; unfold ty_W2i; omega) (by unfold ty_Wil ty_W2i; omega) (ct_120b0 (x1 := z3) (by omega) (by omega) (by omega) hJ.1.1.2.1 hJ.1.1.2.2) (fun h5 _ Jh5 P4 => ?_)
  have Ih5 := H.1 h5 Jh5
  obtain ⟨z6, rfl, fz6⟩ := P4
  have az6 := nm_lo z6
  have bz6 := nm_hi z6
  refine hq_p rfl rfl ?_
  have H := tp_Cx_0 12 1 n T h5
  have hM : tp_P (tp_T n T) [(3, 63, 0), (3, 106, 0), (3, 7, 0), (3, 18, 0), (3, 41, 0), (3, 52, 0), (3, 57, 0)] 12 1 h5 h5 := ⟨⟨⟨Jh5.1.1.1, Jh5.1.1.2⟩, fr_refl h5 _⟩, fun _ _ _ => rfl⟩
  refine hq_p rfl rfl ?_
  refine hq_p rfl rfl ?_
  refine hq_p rfl rfl ?_
  refine hq_p rfl rfl (ty_ge (n := 1) nk_i1 (fun z7 ez7 => ?_))
  refine hq_p rfl rfl (ty_ge (n := i0.toInt + z7.toInt) (nm_add (by omega) (by omega)) (fun z8 ez8 => ?_))
  refine hq_iald rfl (hS h5) (hs_in (by omega) (by omega)) (ty_ge rfl (fun z9 ez9 => ?_))
  have az9 := nm_lo z9
  have bz9 := nm_hi z9
  have xz9 : z9.toInt = 0 := by rw [ez9, show z8.toNatClampNeg = i0.toInt.toNat + 1 by rw [nm_nat]; omega]; exact hx
  clear ez9
  have Hz := H.zz h5.1 h5.2.1
  refine hq_inv 0 rfl (fun _ => rfl) rfl rfl rfl (hq_pre_o Ih5.1 (x := 97) (ci := 11) rfl (by decide) rfl rfl rfl rfl) ((ct_147i0 (x1 := z9) (by omega) (by omega) (by omega) (Hz.mono (W' := (ty_Wxi 0)) (fun a k w => by unfold ty_Wxi at w; unfold ty_W2x; omega) (by unfold ty_Wxi ty_W2x; omega)) ⟨hM, rfl, rfl⟩ (fun h j => ⟨tp_imP0 (k := 0) j.1 (tp_im j.1.1.1.1 (by decide)), j.2⟩)).mono (Nat.le_refl _) (fun h10 v q => ?_))
  obtain ⟨⟨Jh10, m1, m2⟩, z11, rfl, fz11⟩ := q
  refine ⟨by omega, by omega, ?_⟩
  have Ih10 := H.1 h10 Jh10
  have az11 := nm_lo z11
  have bz11 := nm_hi z11
  have gC := Jh5
  have gM := Jh10
  obtain ⟨x63, x106, x7, x18, x52, x100, x101, _⟩ := gC.1.2
  have x63 : hs_aI h5 63 = hs_aI h 63 := x63
  have x106 : hs_aI h5 106 = hs_aI h 106 := x106
  have x7 : hs_aI h5 7 = hs_aI h 7 := x7
  have x18 : hs_aI h5 18 = hs_aI h 18 := x18
  have x52 : hs_aI h5 52 = hs_aI h 52 := x52
  have x100 : hs_aI h5 100 = hs_aI h 100 := x100
  have x101 : hs_aI h5 101 = hs_aI h 101 := x101
  obtain ⟨y63, y106, y7, y18, y41, y52, y57, _⟩ := gM.1.2
  have y63 : hs_aI h10 63 = hs_aI h5 63 := y63
  have y106 : hs_aI h10 106 = hs_aI h5 106 := y106
  have y7 : hs_aI h10 7 = hs_aI h5 7 := y7
  have y18 : hs_aI h10 18 = hs_aI h5 18 := y18
  have y41 : hs_aI h10 41 = hs_aI h5 41 := y41
  have y52 : hs_aI h10 52 = hs_aI h5 52 := y52
  have y57 : hs_aI h10 57 = hs_aI h5 57 := y57
  obtain ⟨u0, u1, u2, u3⟩ := fz6
  obtain ⟨v0, v1, v2, v3⟩ := fz11
  refine hq_p rfl rfl ?_
  refine hq_p rfl rfl ?_
  exact K h10 (tq_1 gM.1.1.1 ⟨tz_t (tz_t hz x63 x106) y63 y106, Or.inr ⟨gM.1.1.2, fun j hj => by rw [y18, x18, gM.2 (50 + j) (by omega) (by omega), gC.2 (50 + j) (by omega) (by omega)]; exact hr.2.1 j hj, (fun w j hj => by rw [y41, u1 j (Nat.zero_le _) hj, v1, va_in (by omega) (by omega)]; exact ((hr.2.1 j hj).trans (gC.2 (50 + j) (by omega) (by omega)).symm).trans (congrArg (hs_aI h5 99) (by omega))), (fun w j hj => by rw [y52, x52, v1, va_out (by omega), x100]; exact hr.2.2.2.1 (by rw [← u3, ← y57]; exact w) j hj), (by rw [y57, v2, u2]), (by rw [y57, v3, u3, x101]; exact hr.2.2.2.2.2)⟩⟩)
set_option maxRecDepth 20000 in
set_option maxHeartbeats 4000000 in
theorem tb_37b1 {X : pm_X} {d L n : Nat} {xs : Nat → Int32} {h : pm_H} {i0 : Int32} {Q : pm_H → Option Value → Prop} (hd : 120 ≤ d) (hX : ty_SX X) (hS : ∀ h, pm_arr X h (.retAddr 200) = some (0, L, .inl xs)) (hL : L ≤ 3072) (a0 : 0 ≤ i0.toInt) (b0 : i0.toInt + 6 ≤ L) {T : Int} (hJ0 : tp_T n T h) (hz : tz_R T h) (hr : rl 12 1 18 h) (hx : (xs (i0.toInt.toNat + 1)).toInt = 1) (K : ∀ h1, tq_K (n + 1) h1 → hq_W X d 12 false (some .boolean) pm_cL (1205, [some (.retAddr 200), some (.ref 0), some (.ref 97), some (.int i0)], [], h1) Q) : hq_W X d 12 false (some .boolean) pm_cL (1123, [some (.retAddr 200), some (.ref 0), some (.ref 97), some (.int i0)], [], h) Q := by
  have H := tp_Ci_1 12 1 n T h
  have hJ : tp_P (tp_T n T) [(3, 63, 0), (3, 106, 0), (3, 7, 0), (3, 18, 0), (3, 41, 0), (3, 100, 0), (3, 101, 0)] 12 1 h h := ⟨⟨⟨hJ0, hr.1⟩, fr_refl h _⟩, fun _ _ _ => rfl⟩
  have I := H.1 h hJ
  refine hq_p rfl rfl ?_
  refine hq_p rfl rfl ?_
  refine hq_p rfl rfl ?_
  refine hq_p rfl rfl (ty_ge (n := 1) nk_i1 (fun z1 ez1 => ?_))
  refine hq_p rfl rfl (ty_ge (n := i0.toInt + z1.toInt) (nm_add (by omega) (by omega)) (fun z2 ez2 => ?_))
  refine hq_iald rfl (hS h) (hs_in (by omega) (by omega)) (ty_ge rfl (fun z3 ez3 => ?_))
  have az3 := nm_lo z3
  have bz3 := nm_hi z3
  have xz3 : z3.toInt = 1 := by rw [ez3, show z2.toNatClampNeg = i0.toInt.toNat + 1 by rw [nm_nat]; omega]; exact hx
  clear ez3
  refine ty_callj 0 (W := (ty_W2i 52 1)) H hJ rfl (fun _ => rfl) rfl rfl rfl (hq_pre_o I.1 (x := 0) (ci := 10) rfl (by decide) rfl rfl rfl rfl) (fun a k w => by unfold ty_Wil at w; unfold ty_W2i; omega) (by unfold ty_Wil ty_W2i; omega) (ct_120b1 (x1 := z3) (by omega) (by omega) (by omega) hJ.1.1.2.1 hJ.1.1.2.2) (fun h5 _ Jh5 P4 => ?_)
  have Ih5 := H.1 h5 Jh5
  obtain ⟨z6, rfl, fz6⟩ := P4
  have az6 := nm_lo z6
  have bz6 := nm_hi z6
  refine hq_p rfl rfl ?_
  have H := tp_Cx_1 12 1 n T h5
  have hM : tp_P (tp_T n T) [(3, 63, 0), (3, 106, 0), (3, 7, 0), (3, 18, 0), (3, 41, 0), (3, 52, 0), (3, 57, 0)] 12 1 h5 h5 := ⟨⟨⟨Jh5.1.1.1, Jh5.1.1.2⟩, fr_refl h5 _⟩, fun _ _ _ => rfl⟩
  refine hq_p rfl rfl ?_
  refine hq_p rfl rfl ?_
  refine hq_p rfl rfl ?_
  refine hq_p rfl rfl (ty_ge (n := 1) nk_i1 (fun z7 ez7 => ?_))
  refine hq_p rfl rfl (ty_ge (n := i0.toInt + z7.toInt) (nm_add (by omega) (by omega)) (fun z8 ez8 => ?_))
  refine hq_iald rfl (hS h5) (hs_in (by omega) (by omega)) (ty_ge rfl (fun z9 ez9 => ?_))
  have az9 := nm_lo z9
  have bz9 := nm_hi z9
  have xz9 : z9.toInt = 1 := by rw [ez9, show z8.toNatClampNeg = i0.toInt.toNat + 1 by rw [nm_nat]; omega]; exact hx
  clear ez9
  have Hz := H.zz h5.1 h5.2.1
  refine hq_inv 0 rfl (fun _ => rfl) rfl rfl rfl (hq_pre_o Ih5.1 (x := 97) (ci := 11) rfl (by decide) rfl rfl rfl rfl) ((ct_147i1 (x1 := z9) (by omega) (by omega) (by omega) (Hz.mono (W' := (ty_Wxi 1)) (fun a k w => by unfold ty_Wxi at w; unfold ty_W2x; omega) (by unfold ty_Wxi ty_W2x; omega)) ⟨hM, rfl, rfl⟩ (fun h j => ⟨tp_imP1 (k := 1) j.1 (tp_im j.1.1.1.1 (by decide)), j.2⟩)).mono (Nat.le_refl _) (fun h10 v q => ?_))
  obtain ⟨⟨Jh10, m1, m2⟩, z11, rfl, fz11⟩ := q
  refine ⟨by omega, by omega, ?_⟩
  have Ih10 := H.1 h10 Jh10
  have az11 := nm_lo z11
  have bz11 := nm_hi z11
  have gC := Jh5
  have gM := Jh10
  obtain ⟨x63, x106, x7, x18, x41, x100, x101, _⟩ := gC.1.2
  have x63 : hs_aI h5 63 = hs_aI h 63 := x63
  have x106 : hs_aI h5 106 = hs_aI h 106 := x106
  have x7 : hs_aI h5 7 = hs_aI h 7 := x7
  have x18 : hs_aI h5 18 = hs_aI h 18 := x18
  have x41 : hs_aI h5 41 = hs_aI h 41 := x41
  have x100 : hs_aI h5 100 = hs_aI h 100 := x100
  have x101 : hs_aI h5 101 = hs_aI h 101 := x101
  obtain ⟨y63, y106, y7, y18, y41, y52, y57, _⟩ := gM.1.2
  have y63 : hs_aI h10 63 = hs_aI h5 63 := y63
  have y106 : hs_aI h10 106 = hs_aI h5 106 := y106
  have y7 : hs_aI h10 7 = hs_aI h5 7 := y7
  have y18 : hs_aI h10 18 = hs_aI h5 18 := y18
  have y41 : hs_aI h10 41 = hs_aI h5 41 := y41
  have y52 : hs_aI h10 52 = hs_aI h5 52 := y52
  have y57 : hs_aI h10 57 = hs_aI h5 57 := y57
  obtain ⟨u0, u1, u2, u3⟩ := fz6
  obtain ⟨v0, v1, v2, v3⟩ := fz11
  refine hq_p rfl rfl ?_
  refine hq_p rfl rfl ?_
  exact K h10 (tq_1 gM.1.1.1 ⟨tz_t (tz_t hz x63 x106) y63 y106, Or.inr ⟨gM.1.1.2, fun j hj => by rw [y18, x18, gM.2 (50 + j) (by omega) (by omega), gC.2 (50 + j) (by omega) (by omega)]; exact hr.2.1 j hj, (fun w j hj => by rw [y41, x41, v1, va_out (by omega), x100]; exact hr.2.2.1 (by rw [← u3, ← y57]; exact w) j hj), (fun w j hj => by rw [y52, u1 j (Nat.zero_le _) hj, v1, va_in (by omega) (by omega)]; exact ((hr.2.1 j hj).trans (gC.2 (50 + j) (by omega) (by omega)).symm).trans (congrArg (hs_aI h5 99) (by omega))), (by rw [y57, v3, u3, x101]; exact hr.2.2.2.2.1), (by rw [y57, v2, u2])⟩⟩)
theorem tb_37b {X : pm_X} {d L n : Nat} {xs : Nat → Int32} {h : pm_H} {i0 : Int32} {Q : pm_H → Option Value → Prop} (hd : 120 ≤ d) (hX : ty_SX X) (hS : ∀ h, pm_arr X h (.retAddr 200) = some (0, L, .inl xs)) (hL : L ≤ 3072) (a0 : 0 ≤ i0.toInt) (b0 : i0.toInt + 6 ≤ L) {T : Int} (hJ0 : tp_T n T h) (hz : tz_R T h) (hr : rl 12 1 18 h) (K : ∀ h1, tq_K (n + 1) h1 → hq_W X d 12 false (some .boolean) pm_cL (1205, [some (.retAddr 200), some (.ref 0), some (.ref 97), some (.int i0)], [], h1) Q) : hq_W X d 12 false (some .boolean) pm_cL (1123, [some (.retAddr 200), some (.ref 0), some (.ref 97), some (.int i0)], [], h) Q := by
  rcases (show (xs (i0.toInt.toNat + 1)).toInt ≤ -1 ∨ (xs (i0.toInt.toNat + 1)).toInt = 0 ∨ (xs (i0.toInt.toNat + 1)).toInt = 1 ∨ 2 ≤ (xs (i0.toInt.toNat + 1)).toInt by omega) with hx | hx | hx | hx
  · exact tb_37bm hd hX hS hL a0 b0 hJ0 hz hr hx K
  · exact tb_37b0 hd hX hS hL a0 b0 hJ0 hz hr hx K
  · exact tb_37b1 hd hX hS hL a0 b0 hJ0 hz hr hx K
  · exact tb_37bq hd hX hS hL a0 b0 hJ0 hz hr hx K
theorem tb_37 {X : pm_X} {d L n : Nat} {xs : Nat → Int32} {h : pm_H} {i0 : Int32} {Q : pm_H → Option Value → Prop} (hd : 120 ≤ d) (hX : ty_SX X) (hS : ∀ h, pm_arr X h (.retAddr 200) = some (0, L, .inl xs)) (hL : L ≤ 3072) (a0 : 0 ≤ i0.toInt) (b0 : i0.toInt + 6 ≤ L) (hK : tq_K n h) (K : ∀ h1, tq_K (n + 1) h1 → hq_W X d 12 false (some .boolean) pm_cL (1205, [some (.retAddr 200), some (.ref 0), some (.ref 97), some (.int i0)], [], h1) Q) : hq_W X d 12 false (some .boolean) pm_cL (1123, [some (.retAddr 200), some (.ref 0), some (.ref 97), some (.int i0)], [], h) Q := by
  obtain ⟨T, hJ0, hz, hr⟩ := hK
  rcases hr with hr | hr
  · exact tb_37a hd hX hS hL a0 b0 hJ0 hz hr K
  · exact tb_37b hd hX hS hL a0 b0 hJ0 hz hr K
set_option maxRecDepth 20000 in
set_option maxHeartbeats 4000000 in
theorem tb_38am {X : pm_X} {d L n : Nat} {xs : Nat → Int32} {h : pm_H} {i0 : Int32} {Q : pm_H → Option Value → Prop} (hd : 120 ≤ d) (hX : ty_SX X) (hS : ∀ h, pm_arr X h (.retAddr 200) = some (0, L, .inl xs)) (hL : L ≤ 3072) (a0 : 0 ≤ i0.toInt) (b0 : i0.toInt + 6 ≤ L) {T : Int} (hJ0 : tp_T n T h) (hz : tz_R T h) (hr : rl 1 12 7 h) (hx : (xs (i0.toInt.toNat + 1)).toInt ≤ -1) (K : ∀ h1, tq_K (n + 1) h1 → hq_W X d 12 false (some .boolean) pm_cL (1205, [some (.retAddr 200), some (.ref 0), some (.ref 97), some (.int i0)], [], h1) Q) : hq_W X d 12 false (some .boolean) pm_cL (1146, [some (.retAddr 200), some (.ref 0), some (.ref 97), some (.int i0)], [], h) Q := by
  have H := tp_Cn_7 1 12 n T h
  have hJ : tp_P (tp_T n T) [(3, 63, 0), (3, 106, 0), (3, 7, 0), (3, 41, 0), (3, 52, 0), (3, 100, 0), (3, 57, 0), (3, 101, 0)] 1 12 h h := ⟨⟨⟨hJ0, hr.1⟩, fr_refl h _⟩, fun _ _ _ => rfl⟩
  have I := H.1 h hJ
  refine hq_p rfl rfl ?_
  refine hq_p rfl rfl ?_
  refine hq_p rfl rfl ?_
  refine hq_p rfl rfl (ty_ge (n := 1) nk_i1 (fun z1 ez1 => ?_))
  refine hq_p rfl rfl (ty_ge (n := i0.toInt + z1.toInt) (nm_add (by omega) (by omega)) (fun z2 ez2 => ?_))
  refine hq_iald rfl (hS h) (hs_in (by omega) (by omega)) (ty_ge rfl (fun z3 ez3 => ?_))
  have az3 := nm_lo z3
  have bz3 := nm_hi z3
  have xz3 : z3.toInt ≤ -1 := by rw [ez3, show z2.toNatClampNeg = i0.toInt.toNat + 1 by rw [nm_nat]; omega]; exact hx
  clear ez3
  refine ty_callj 0 (W := (ty_W2n 7)) H hJ rfl (fun _ => rfl) rfl rfl rfl (hq_pre_o I.1 (x := 0) (ci := 10) rfl (by decide) rfl rfl rfl rfl) (fun a k w => by unfold ty_Wc at w; unfold ty_W2n; omega) (by unfold ty_Wc ty_W2n; omega) (ct_121m (x1 := z3) (by omega) (by omega) (by omega)) (fun h5 _ Jh5 P4 => ?_)
  have Ih5 := H.1 h5 Jh5
  obtain ⟨z6, rfl, fz6⟩ := P4
  refine hq_p rfl rfl ?_
  refine hq_p rfl rfl ?_
  refine hq_p rfl rfl ?_
  refine hq_p rfl rfl ?_
  refine hq_p rfl rfl (ty_ge (n := 1) nk_i1 (fun z7 ez7 => ?_))
  refine hq_p rfl rfl (ty_ge (n := i0.toInt + z7.toInt) (nm_add (by omega) (by omega)) (fun z8 ez8 => ?_))
  refine hq_iald rfl (hS h5) (hs_in (by omega) (by omega)) (ty_ge rfl (fun z9 ez9 => ?_))
  have az9 := nm_lo z9
  have bz9 := nm_hi z9
  have xz9 : z9.toInt ≤ -1 := by rw [ez9, show z8.toNatClampNeg = i0.toInt.toNat + 1 by rw [nm_nat]; omega]; exact hx
  clear ez9
  refine ty_callj 0 (W := (ty_W2n 7)) H Jh5 rfl (fun _ => rfl) rfl rfl rfl (hq_pre_o Ih5.1 (x := 97) (ci := 11) rfl (by decide) rfl rfl rfl rfl) (fun a k w => by unfold ty_Wx at w; unfold ty_W2n; omega) (by unfold ty_Wx ty_W2n; omega) (ct_148m (x1 := z9) (by omega) (by omega) (by omega)) (fun h11 _ Jh11 P10 => ?_)
  have Ih11 := H.1 h11 Jh11
  obtain ⟨z12, rfl, fz12⟩ := P10
  refine hq_p rfl rfl ?_
  refine hq_p rfl rfl ?_
  exact K h11 (tq_n7 hz hr Jh11)
set_option maxRecDepth 20000 in
set_option maxHeartbeats 4000000 in
theorem tb_38aq {X : pm_X} {d L n : Nat} {xs : Nat → Int32} {h : pm_H} {i0 : Int32} {Q : pm_H → Option Value → Prop} (hd : 120 ≤ d) (hX : ty_SX X) (hS : ∀ h, pm_arr X h (.retAddr 200) = some (0, L, .inl xs)) (hL : L ≤ 3072) (a0 : 0 ≤ i0.toInt) (b0 : i0.toInt + 6 ≤ L) {T : Int} (hJ0 : tp_T n T h) (hz : tz_R T h) (hr : rl 1 12 7 h) (hx : 2 ≤ (xs (i0.toInt.toNat + 1)).toInt) (K : ∀ h1, tq_K (n + 1) h1 → hq_W X d 12 false (some .boolean) pm_cL (1205, [some (.retAddr 200), some (.ref 0), some (.ref 97), some (.int i0)], [], h1) Q) : hq_W X d 12 false (some .boolean) pm_cL (1146, [some (.retAddr 200), some (.ref 0), some (.ref 97), some (.int i0)], [], h) Q := by
  have H := tp_Cn_7 1 12 n T h
  have hJ : tp_P (tp_T n T) [(3, 63, 0), (3, 106, 0), (3, 7, 0), (3, 41, 0), (3, 52, 0), (3, 100, 0), (3, 57, 0), (3, 101, 0)] 1 12 h h := ⟨⟨⟨hJ0, hr.1⟩, fr_refl h _⟩, fun _ _ _ => rfl⟩
  have I := H.1 h hJ
  refine hq_p rfl rfl ?_
  refine hq_p rfl rfl ?_
  refine hq_p rfl rfl ?_
  refine hq_p rfl rfl (ty_ge (n := 1) nk_i1 (fun z1 ez1 => ?_))
  refine hq_p rfl rfl (ty_ge (n := i0.toInt + z1.toInt) (nm_add (by omega) (by omega)) (fun z2 ez2 => ?_))
  refine hq_iald rfl (hS h) (hs_in (by omega) (by omega)) (ty_ge rfl (fun z3 ez3 => ?_))
  have az3 := nm_lo z3
  have bz3 := nm_hi z3
  have xz3 : 2 ≤ z3.toInt := by rw [ez3, show z2.toNatClampNeg = i0.toInt.toNat + 1 by rw [nm_nat]; omega]; exact hx
  clear ez3
  refine ty_callj 0 (W := (ty_W2n 7)) H hJ rfl (fun _ => rfl) rfl rfl rfl (hq_pre_o I.1 (x := 0) (ci := 10) rfl (by decide) rfl rfl rfl rfl) (fun a k w => by unfold ty_Wc at w; unfold ty_W2n; omega) (by unfold ty_Wc ty_W2n; omega) (ct_121q (x1 := z3) (by omega) (by omega) (by omega)) (fun h5 _ Jh5 P4 => ?_)
  have Ih5 := H.1 h5 Jh5
  obtain ⟨z6, rfl, fz6⟩ := P4
  refine hq_p rfl rfl ?_
  refine hq_p rfl rfl ?_
  refine hq_p rfl rfl ?_
  refine hq_p rfl rfl ?_
  refine hq_p rfl rfl (ty_ge (n := 1) nk_i1 (fun z7 ez7 => ?_))
  refine hq_p rfl rfl (ty_ge (n := i0.toInt + z7.toInt) (nm_add (by omega) (by omega)) (fun z8 ez8 => ?_))
  refine hq_iald rfl (hS h5) (hs_in (by omega) (by omega)) (ty_ge rfl (fun z9 ez9 => ?_))
  have az9 := nm_lo z9
  have bz9 := nm_hi z9
  have xz9 : 2 ≤ z9.toInt := by rw [ez9, show z8.toNatClampNeg = i0.toInt.toNat + 1 by rw [nm_nat]; omega]; exact hx
  clear ez9
  refine ty_callj 0 (W := (ty_W2n 7)) H Jh5 rfl (fun _ => rfl) rfl rfl rfl (hq_pre_o Ih5.1 (x := 97) (ci := 11) rfl (by decide) rfl rfl rfl rfl) (fun a k w => by unfold ty_Wx at w; unfold ty_W2n; omega) (by unfold ty_Wx ty_W2n; omega) (ct_148q (x1 := z9) (by omega) (by omega) (by omega)) (fun h11 _ Jh11 P10 => ?_)
  have Ih11 := H.1 h11 Jh11
  obtain ⟨z12, rfl, fz12⟩ := P10
  refine hq_p rfl rfl ?_
  refine hq_p rfl rfl ?_
  exact K h11 (tq_n7 hz hr Jh11)
set_option maxRecDepth 20000 in
set_option maxHeartbeats 4000000 in
theorem tb_38a0 {X : pm_X} {d L n : Nat} {xs : Nat → Int32} {h : pm_H} {i0 : Int32} {Q : pm_H → Option Value → Prop} (hd : 120 ≤ d) (hX : ty_SX X) (hS : ∀ h, pm_arr X h (.retAddr 200) = some (0, L, .inl xs)) (hL : L ≤ 3072) (a0 : 0 ≤ i0.toInt) (b0 : i0.toInt + 6 ≤ L) {T : Int} (hJ0 : tp_T n T h) (hz : tz_R T h) (hr : rl 1 12 7 h) (hx : (xs (i0.toInt.toNat + 1)).toInt = 0) (K : ∀ h1, tq_K (n + 1) h1 → hq_W X d 12 false (some .boolean) pm_cL (1205, [some (.retAddr 200), some (.ref 0), some (.ref 97), some (.int i0)], [], h1) Q) : hq_W X d 12 false (some .boolean) pm_cL (1146, [some (.retAddr 200), some (.ref 0), some (.ref 97), some (.int i0)], [], h) Q := by
  have H := tp_Cq_7 1 12 n T h
  have hJ : tp_P (tp_T n T) [(3, 63, 0), (3, 106, 0), (3, 18, 0), (3, 41, 0), (3, 52, 0), (3, 100, 0), (3, 57, 0), (3, 101, 0)] 1 12 h h := ⟨⟨⟨hJ0, hr.1⟩, fr_refl h _⟩, fun _ _ _ => rfl⟩
  have I := H.1 h hJ
  refine hq_p rfl rfl ?_
  refine hq_p rfl rfl ?_
  refine hq_p rfl rfl ?_
  refine hq_p rfl rfl (ty_ge (n := 1) nk_i1 (fun z1 ez1 => ?_))
  refine hq_p rfl rfl (ty_ge (n := i0.toInt + z1.toInt) (nm_add (by omega) (by omega)) (fun z2 ez2 => ?_))
  refine hq_iald rfl (hS h) (hs_in (by omega) (by omega)) (ty_ge rfl (fun z3 ez3 => ?_))
  have az3 := nm_lo z3
  have bz3 := nm_hi z3
  have xz3 : z3.toInt = 0 := by rw [ez3, show z2.toNatClampNeg = i0.toInt.toNat + 1 by rw [nm_nat]; omega]; exact hx
  clear ez3
  refine ty_callj 0 (W := (ty_W2q 7)) H hJ rfl (fun _ => rfl) rfl rfl rfl (hq_pre_o I.1 (x := 0) (ci := 10) rfl (by decide) rfl rfl rfl rfl) (fun a k w => by unfold ty_Wcl at w; unfold ty_W2q; omega) (by unfold ty_Wcl ty_W2q; omega) (ct_121a0 (x1 := z3) (by omega) (by omega) (by omega) hJ.1.1.2.1 hJ.1.1.2.2) (fun h5 _ Jh5 P4 => ?_)
  have Ih5 := H.1 h5 Jh5
  obtain ⟨z6, rfl, fz6⟩ := P4
  have az6 := nm_lo z6
  have bz6 := nm_hi z6
  refine hq_p rfl rfl ?_
  have H := tp_Cv 1 12 n T h5
  have hM : tp_Q (tp_T n T) [(3, 63, 0), (3, 106, 0), (3, 7, 0), (3, 18, 0), (3, 41, 0), (3, 52, 0), (3, 100, 0), (3, 57, 0), (3, 101, 0)] 1 12 h5 h5 := ⟨⟨Jh5.1.1.1, Jh5.1.1.2⟩, fr_refl h5 _⟩
  refine hq_p rfl rfl ?_
  refine hq_p rfl rfl ?_
  refine hq_p rfl rfl ?_
  refine hq_p rfl rfl (ty_ge (n := 1) nk_i1 (fun z7 ez7 => ?_))
  refine hq_p rfl rfl (ty_ge (n := i0.toInt + z7.toInt) (nm_add (by omega) (by omega)) (fun z8 ez8 => ?_))
  refine hq_iald rfl (hS h5) (hs_in (by omega) (by omega)) (ty_ge rfl (fun z9 ez9 => ?_))
  have az9 := nm_lo z9
  have bz9 := nm_hi z9
  have xz9 : z9.toInt = 0 := by rw [ez9, show z8.toNatClampNeg = i0.toInt.toNat + 1 by rw [nm_nat]; omega]; exact hx
  clear ez9
  have Hz := H.zz h5.1 h5.2.1
  refine hq_inv 0 rfl (fun _ => rfl) rfl rfl rfl (hq_pre_o Ih5.1 (x := 97) (ci := 11) rfl (by decide) rfl rfl rfl rfl) ((ct_148i0 (x1 := z9) (by omega) (by omega) (by omega) (Hz.mono (W' := ty_Wx) (fun a k w => by unfold ty_Wx at w; unfold ty_W2b; omega) (by unfold ty_Wx ty_W2b; omega)) ⟨hM, rfl, rfl⟩ (fun h j => ⟨tp_bkQ (k := 0) j.1 (tp_bk j.1.1.1 (by decide)), j.2⟩)).mono (Nat.le_refl _) (fun h10 v q => ?_))
  obtain ⟨⟨Jh10, m1, m2⟩, z11, rfl, fz11⟩ := q
  refine ⟨by omega, by omega, ?_⟩
  have Ih10 := H.1 h10 Jh10
  have az11 := nm_lo z11
  have bz11 := nm_hi z11
  have gC := Jh5
  have gM := Jh10
  obtain ⟨x63, x106, x18, x41, x52, x100, x57, x101, _⟩ := gC.1.2
  have x63 : hs_aI h5 63 = hs_aI h 63 := x63
  have x106 : hs_aI h5 106 = hs_aI h 106 := x106
  have x18 : hs_aI h5 18 = hs_aI h 18 := x18
  have x41 : hs_aI h5 41 = hs_aI h 41 := x41
  have x52 : hs_aI h5 52 = hs_aI h 52 := x52
  have x100 : hs_aI h5 100 = hs_aI h 100 := x100
  have x57 : hs_aI h5 57 = hs_aI h 57 := x57
  have x101 : hs_aI h5 101 = hs_aI h 101 := x101
  obtain ⟨y63, y106, y7, y18, y41, y52, y100, y57, y101, _⟩ := gM.2
  have y63 : hs_aI h10 63 = hs_aI h5 63 := y63
  have y106 : hs_aI h10 106 = hs_aI h5 106 := y106
  have y7 : hs_aI h10 7 = hs_aI h5 7 := y7
  have y18 : hs_aI h10 18 = hs_aI h5 18 := y18
  have y41 : hs_aI h10 41 = hs_aI h5 41 := y41
  have y52 : hs_aI h10 52 = hs_aI h5 52 := y52
  have y100 : hs_aI h10 100 = hs_aI h5 100 := y100
  have y57 : hs_aI h10 57 = hs_aI h5 57 := y57
  have y101 : hs_aI h10 101 = hs_aI h5 101 := y101
  obtain ⟨u1, u2⟩ := bk_eq (o := 0) (K := (hs_aI h 57 0).toInt) (K' := (hs_aI h5 101 0).toInt) (by rw [x101]; exact hr.2.2.2.2.1.symm) (fun j hj => (hr.2.1 j hj).trans (gC.2 (50 + j) (by omega) (by omega)).symm) (fun w j hj => by rw [x100]; exact (hr.2.2.1 w j hj).trans (congrArg (hs_aI h 100) (by omega))) fz6 fz11
  clear fz6 fz11
  refine hq_p rfl rfl ?_
  refine hq_p rfl rfl ?_
  exact K h10 (tq_1 gM.1.1 ⟨tz_t (tz_t hz x63 x106) y63 y106, Or.inl ⟨gM.1.2, fun j hj => by rw [y7]; exact u2 j hj, fun w j hj => by rw [y41, y100, x41, x100]; exact hr.2.2.1 (by rw [← x57, ← y57]; exact w) j hj, fun w j hj => by rw [y52, y100, x52, x100]; exact hr.2.2.2.1 (by rw [← x57, ← y57]; exact w) j hj, by rw [y57, y101, x57, x101]; exact hr.2.2.2.2.1, by rw [y57, y101, x57, x101]; exact hr.2.2.2.2.2⟩⟩)
set_option maxRecDepth 20000 in
set_option maxHeartbeats 4000000 in
theorem tb_38a1 {X : pm_X} {d L n : Nat} {xs : Nat → Int32} {h : pm_H} {i0 : Int32} {Q : pm_H → Option Value → Prop} (hd : 120 ≤ d) (hX : ty_SX X) (hS : ∀ h, pm_arr X h (.retAddr 200) = some (0, L, .inl xs)) (hL : L ≤ 3072) (a0 : 0 ≤ i0.toInt) (b0 : i0.toInt + 6 ≤ L) {T : Int} (hJ0 : tp_T n T h) (hz : tz_R T h) (hr : rl 1 12 7 h) (hx : (xs (i0.toInt.toNat + 1)).toInt = 1) (K : ∀ h1, tq_K (n + 1) h1 → hq_W X d 12 false (some .boolean) pm_cL (1205, [some (.retAddr 200), some (.ref 0), some (.ref 97), some (.int i0)], [], h1) Q) : hq_W X d 12 false (some .boolean) pm_cL (1146, [some (.retAddr 200), some (.ref 0), some (.ref 97), some (.int i0)], [], h) Q := by
  have H := tp_Cq_7 1 12 n T h
  have hJ : tp_P (tp_T n T) [(3, 63, 0), (3, 106, 0), (3, 18, 0), (3, 41, 0), (3, 52, 0), (3, 100, 0), (3, 57, 0), (3, 101, 0)] 1 12 h h := ⟨⟨⟨hJ0, hr.1⟩, fr_refl h _⟩, fun _ _ _ => rfl⟩
  have I := H.1 h hJ
  refine hq_p rfl rfl ?_
  refine hq_p rfl rfl ?_
  refine hq_p rfl rfl ?_
  refine hq_p rfl rfl (ty_ge (n := 1) nk_i1 (fun z1 ez1 => ?_))
  refine hq_p rfl rfl (ty_ge (n := i0.toInt + z1.toInt) (nm_add (by omega) (by omega)) (fun z2 ez2 => ?_))
  refine hq_iald rfl (hS h) (hs_in (by omega) (by omega)) (ty_ge rfl (fun z3 ez3 => ?_))
  have az3 := nm_lo z3
  have bz3 := nm_hi z3
  have xz3 : z3.toInt = 1 := by rw [ez3, show z2.toNatClampNeg = i0.toInt.toNat + 1 by rw [nm_nat]; omega]; exact hx
  clear ez3
  refine ty_callj 0 (W := (ty_W2q 7)) H hJ rfl (fun _ => rfl) rfl rfl rfl (hq_pre_o I.1 (x := 0) (ci := 10) rfl (by decide) rfl rfl rfl rfl) (fun a k w => by unfold ty_Wcl at w; unfold ty_W2q; omega) (by unfold ty_Wcl ty_W2q; omega) (ct_121a1 (x1 := z3) (by omega) (by omega) (by omega) hJ.1.1.2.1 hJ.1.1.2.2) (fun h5 _ Jh5 P4 => ?_)
  have Ih5 := H.1 h5 Jh5
  obtain ⟨z6, rfl, fz6⟩ := P4
  have az6 := nm_lo z6
  have bz6 := nm_hi z6
  refine hq_p rfl rfl ?_
  have H := tp_Cv 1 12 n T h5
  have hM : tp_Q (tp_T n T) [(3, 63, 0), (3, 106, 0), (3, 7, 0), (3, 18, 0), (3, 41, 0), (3, 52, 0), (3, 100, 0), (3, 57, 0), (3, 101, 0)] 1 12 h5 h5 := ⟨⟨Jh5.1.1.1, Jh5.1.1.2⟩, fr_refl h5 _⟩
  refine hq_p rfl rfl ?_
  refine hq_p rfl rfl ?_
  refine hq_p rfl rfl ?_
  refine hq_p rfl rfl (ty_ge (n := 1) nk_i1 (fun z7 ez7 => ?_))
  refine hq_p rfl rfl (ty_ge (n := i0.toInt + z7.toInt) (nm_add (by omega) (by omega)) (fun z8 ez8 => ?_))
  refine hq_iald rfl (hS h5) (hs_in (by omega) (by omega)) (ty_ge rfl (fun z9 ez9 => ?_))
  have az9 := nm_lo z9
  have bz9 := nm_hi z9
  have xz9 : z9.toInt = 1 := by rw [ez9, show z8.toNatClampNeg = i0.toInt.toNat + 1 by rw [nm_nat]; omega]; exact hx
  clear ez9
  have Hz := H.zz h5.1 h5.2.1
  refine hq_inv 0 rfl (fun _ => rfl) rfl rfl rfl (hq_pre_o Ih5.1 (x := 97) (ci := 11) rfl (by decide) rfl rfl rfl rfl) ((ct_148i1 (x1 := z9) (by omega) (by omega) (by omega) (Hz.mono (W' := ty_Wx) (fun a k w => by unfold ty_Wx at w; unfold ty_W2b; omega) (by unfold ty_Wx ty_W2b; omega)) ⟨hM, rfl, rfl⟩ (fun h j => ⟨tp_bkQ (k := 1) j.1 (tp_bk j.1.1.1 (by decide)), j.2⟩)).mono (Nat.le_refl _) (fun h10 v q => ?_))
  obtain ⟨⟨Jh10, m1, m2⟩, z11, rfl, fz11⟩ := q
  refine ⟨by omega, by omega, ?_⟩
  have Ih10 := H.1 h10 Jh10
  have az11 := nm_lo z11
  have bz11 := nm_hi z11
  have gC := Jh5
  have gM := Jh10
  obtain ⟨x63, x106, x18, x41, x52, x100, x57, x101, _⟩ := gC.1.2
  have x63 : hs_aI h5 63 = hs_aI h 63 := x63
  have x106 : hs_aI h5 106 = hs_aI h 106 := x106
  have x18 : hs_aI h5 18 = hs_aI h 18 := x18
  have x41 : hs_aI h5 41 = hs_aI h 41 := x41
  have x52 : hs_aI h5 52 = hs_aI h 52 := x52
  have x100 : hs_aI h5 100 = hs_aI h 100 := x100
  have x57 : hs_aI h5 57 = hs_aI h 57 := x57
  have x101 : hs_aI h5 101 = hs_aI h 101 := x101
  obtain ⟨y63, y106, y7, y18, y41, y52, y100, y57, y101, _⟩ := gM.2
  have y63 : hs_aI h10 63 = hs_aI h5 63 := y63
  have y106 : hs_aI h10 106 = hs_aI h5 106 := y106
  have y7 : hs_aI h10 7 = hs_aI h5 7 := y7
  have y18 : hs_aI h10 18 = hs_aI h5 18 := y18
  have y41 : hs_aI h10 41 = hs_aI h5 41 := y41
  have y52 : hs_aI h10 52 = hs_aI h5 52 := y52
  have y100 : hs_aI h10 100 = hs_aI h5 100 := y100
  have y57 : hs_aI h10 57 = hs_aI h5 57 := y57
  have y101 : hs_aI h10 101 = hs_aI h5 101 := y101
  obtain ⟨u1, u2⟩ := bk_eq (o := 5498) (K := (hs_aI h 57 1).toInt) (K' := (hs_aI h5 101 1).toInt) (by rw [x101]; exact hr.2.2.2.2.2.symm) (fun j hj => (hr.2.1 j hj).trans (gC.2 (50 + j) (by omega) (by omega)).symm) (fun w j hj => by rw [x100]; exact (hr.2.2.2.1 w j hj).trans (congrArg (hs_aI h 100) (by omega))) fz6 fz11
  clear fz6 fz11
  refine hq_p rfl rfl ?_
  refine hq_p rfl rfl ?_
  exact K h10 (tq_1 gM.1.1 ⟨tz_t (tz_t hz x63 x106) y63 y106, Or.inl ⟨gM.1.2, fun j hj => by rw [y7]; exact u2 j hj, fun w j hj => by rw [y41, y100, x41, x100]; exact hr.2.2.1 (by rw [← x57, ← y57]; exact w) j hj, fun w j hj => by rw [y52, y100, x52, x100]; exact hr.2.2.2.1 (by rw [← x57, ← y57]; exact w) j hj, by rw [y57, y101, x57, x101]; exact hr.2.2.2.2.1, by rw [y57, y101, x57, x101]; exact hr.2.2.2.2.2⟩⟩)
theorem tb_38a {X : pm_X} {d L n : Nat} {xs : Nat → Int32} {h : pm_H} {i0 : Int32} {Q : pm_H → Option Value → Prop} (hd : 120 ≤ d) (hX : ty_SX X) (hS : ∀ h, pm_arr X h (.retAddr 200) = some (0, L, .inl xs)) (hL : L ≤ 3072) (a0 : 0 ≤ i0.toInt) (b0 : i0.toInt + 6 ≤ L) {T : Int} (hJ0 : tp_T n T h) (hz : tz_R T h) (hr : rl 1 12 7 h) (K : ∀ h1, tq_K (n + 1) h1 → hq_W X d 12 false (some .boolean) pm_cL (1205, [some (.retAddr 200), some (.ref 0), some (.ref 97), some (.int i0)], [], h1) Q) : hq_W X d 12 false (some .boolean) pm_cL (1146, [some (.retAddr 200), some (.ref 0), some (.ref 97), some (.int i0)], [], h) Q := by
  rcases (show (xs (i0.toInt.toNat + 1)).toInt ≤ -1 ∨ (xs (i0.toInt.toNat + 1)).toInt = 0 ∨ (xs (i0.toInt.toNat + 1)).toInt = 1 ∨ 2 ≤ (xs (i0.toInt.toNat + 1)).toInt by omega) with hx | hx | hx | hx
  · exact tb_38am hd hX hS hL a0 b0 hJ0 hz hr hx K
  · exact tb_38a0 hd hX hS hL a0 b0 hJ0 hz hr hx K
  · exact tb_38a1 hd hX hS hL a0 b0 hJ0 hz hr hx K
  · exact tb_38aq hd hX hS hL a0 b0 hJ0 hz hr hx K
set_option maxRecDepth 20000 in
set_option maxHeartbeats 4000000 in
theorem tb_38bm {X : pm_X} {d L n : Nat} {xs : Nat → Int32} {h : pm_H} {i0 : Int32} {Q : pm_H → Option Value → Prop} (hd : 120 ≤ d) (hX : ty_SX X) (hS : ∀ h, pm_arr X h (.retAddr 200) = some (0, L, .inl xs)) (hL : L ≤ 3072) (a0 : 0 ≤ i0.toInt) (b0 : i0.toInt + 6 ≤ L) {T : Int} (hJ0 : tp_T n T h) (hz : tz_R T h) (hr : rl 12 1 18 h) (hx : (xs (i0.toInt.toNat + 1)).toInt ≤ -1) (K : ∀ h1, tq_K (n + 1) h1 → hq_W X d 12 false (some .boolean) pm_cL (1205, [some (.retAddr 200), some (.ref 0), some (.ref 97), some (.int i0)], [], h1) Q) : hq_W X d 12 false (some .boolean) pm_cL (1146, [some (.retAddr 200), some (.ref 0), some (.ref 97), some (.int i0)], [], h) Q := by
  have H := tp_Cn_18 12 1 n T h
  have hJ : tp_P (tp_T n T) [(3, 63, 0), (3, 106, 0), (3, 18, 0), (3, 41, 0), (3, 52, 0), (3, 100, 0), (3, 57, 0), (3, 101, 0)] 12 1 h h := ⟨⟨⟨hJ0, hr.1⟩, fr_refl h _⟩, fun _ _ _ => rfl⟩
  have I := H.1 h hJ
  refine hq_p rfl rfl ?_
  refine hq_p rfl rfl ?_
  refine hq_p rfl rfl ?_
  refine hq_p rfl rfl (ty_ge (n := 1) nk_i1 (fun z1 ez1 => ?_))
  refine hq_p rfl rfl (ty_ge (n := i0.toInt + z1.toInt) (nm_add (by omega) (by omega)) (fun z2 ez2 => ?_))
  refine hq_iald rfl (hS h) (hs_in (by omega) (by omega)) (ty_ge rfl (fun z3 ez3 => ?_))
  have az3 := nm_lo z3
  have bz3 := nm_hi z3
  have xz3 : z3.toInt ≤ -1 := by rw [ez3, show z2.toNatClampNeg = i0.toInt.toNat + 1 by rw [nm_nat]; omega]; exact hx
  clear ez3
  refine ty_callj 0 (W := (ty_W2n 18)) H hJ rfl (fun _ => rfl) rfl rfl rfl (hq_pre_o I.1 (x := 0) (ci := 10) rfl (by decide) rfl rfl rfl rfl) (fun a k w => by unfold ty_Wc at w; unfold ty_W2n; omega) (by unfold ty_Wc ty_W2n; omega) (ct_121m (x1 := z3) (by omega) (by omega) (by omega)) (fun h5 _ Jh5 P4 => ?_)
  have Ih5 := H.1 h5 Jh5
  obtain ⟨z6, rfl, fz6⟩ := P4
  refine hq_p rfl rfl ?_
  refine hq_p rfl rfl ?_
  refine hq_p rfl rfl ?_
  refine hq_p rfl rfl ?_
  refine hq_p rfl rfl (ty_ge (n := 1) nk_i1 (fun z7 ez7 => ?_))
  refine hq_p rfl rfl (ty_ge (n := i0.toInt + z7.toInt) (nm_add (by omega) (by omega)) (fun z8 ez8 => ?_))
  refine hq_iald rfl (hS h5) (hs_in (by omega) (by omega)) (ty_ge rfl (fun z9 ez9 => ?_))
  have az9 := nm_lo z9
  have bz9 := nm_hi z9
  have xz9 : z9.toInt ≤ -1 := by rw [ez9, show z8.toNatClampNeg = i0.toInt.toNat + 1 by rw [nm_nat]; omega]; exact hx
  clear ez9
  refine ty_callj 0 (W := (ty_W2n 18)) H Jh5 rfl (fun _ => rfl) rfl rfl rfl (hq_pre_o Ih5.1 (x := 97) (ci := 11) rfl (by decide) rfl rfl rfl rfl) (fun a k w => by unfold ty_Wx at w; unfold ty_W2n; omega) (by unfold ty_Wx ty_W2n; omega) (ct_148m (x1 := z9) (by omega) (by omega) (by omega)) (fun h11 _ Jh11 P10 => ?_)
  have Ih11 := H.1 h11 Jh11
  obtain ⟨z12, rfl, fz12⟩ := P10
  refine hq_p rfl rfl ?_
  refine hq_p rfl rfl ?_
  exact K h11 (tq_n18 hz hr Jh11)
set_option maxRecDepth 20000 in
set_option maxHeartbeats 4000000 in
theorem tb_38bq {X : pm_X} {d L n : Nat} {xs : Nat → Int32} {h : pm_H} {i0 : Int32} {Q : pm_H → Option Value → Prop} (hd : 120 ≤ d) (hX : ty_SX X) (hS : ∀ h, pm_arr X h (.retAddr 200) = some (0, L, .inl xs)) (hL : L ≤ 3072) (a0 : 0 ≤ i0.toInt) (b0 : i0.toInt + 6 ≤ L) {T : Int} (hJ0 : tp_T n T h) (hz : tz_R T h) (hr : rl 12 1 18 h) (hx : 2 ≤ (xs (i0.toInt.toNat + 1)).toInt) (K : ∀ h1, tq_K (n + 1) h1 → hq_W X d 12 false (some .boolean) pm_cL (1205, [some (.retAddr 200), some (.ref 0), some (.ref 97), some (.int i0)], [], h1) Q) : hq_W X d 12 false (some .boolean) pm_cL (1146, [some (.retAddr 200), some (.ref 0), some (.ref 97), some (.int i0)], [], h) Q := by
  have H := tp_Cn_18 12 1 n T h
  have hJ : tp_P (tp_T n T) [(3, 63, 0), (3, 106, 0), (3, 18, 0), (3, 41, 0), (3, 52, 0), (3, 100, 0), (3, 57, 0), (3, 101, 0)] 12 1 h h := ⟨⟨⟨hJ0, hr.1⟩, fr_refl h _⟩, fun _ _ _ => rfl⟩
  have I := H.1 h hJ
  refine hq_p rfl rfl ?_
  refine hq_p rfl rfl ?_
  refine hq_p rfl rfl ?_
  refine hq_p rfl rfl (ty_ge (n := 1) nk_i1 (fun z1 ez1 => ?_))
  refine hq_p rfl rfl (ty_ge (n := i0.toInt + z1.toInt) (nm_add (by omega) (by omega)) (fun z2 ez2 => ?_))
  refine hq_iald rfl (hS h) (hs_in (by omega) (by omega)) (ty_ge rfl (fun z3 ez3 => ?_))
  have az3 := nm_lo z3
  have bz3 := nm_hi z3
  have xz3 : 2 ≤ z3.toInt := by rw [ez3, show z2.toNatClampNeg = i0.toInt.toNat + 1 by rw [nm_nat]; omega]; exact hx
  clear ez3
  refine ty_callj 0 (W := (ty_W2n 18)) H hJ rfl (fun _ => rfl) rfl rfl rfl (hq_pre_o I.1 (x := 0) (ci := 10) rfl (by decide) rfl rfl rfl rfl) (fun a k w => by unfold ty_Wc at w; unfold ty_W2n; omega) (by unfold ty_Wc ty_W2n; omega) (ct_121q (x1 := z3) (by omega) (by omega) (by omega)) (fun h5 _ Jh5 P4 => ?_)
  have Ih5 := H.1 h5 Jh5
  obtain ⟨z6, rfl, fz6⟩ := P4
  refine hq_p rfl rfl ?_
  refine hq_p rfl rfl ?_
  refine hq_p rfl rfl ?_
  refine hq_p rfl rfl ?_
  refine hq_p rfl rfl (ty_ge (n := 1) nk_i1 (fun z7 ez7 => ?_))
  refine hq_p rfl rfl (ty_ge (n := i0.toInt + z7.toInt) (nm_add (by omega) (by omega)) (fun z8 ez8 => ?_))
  refine hq_iald rfl (hS h5) (hs_in (by omega) (by omega)) (ty_ge rfl (fun z9 ez9 => ?_))
  have az9 := nm_lo z9
  have bz9 := nm_hi z9
  have xz9 : 2 ≤ z9.toInt := by rw [ez9, show z8.toNatClampNeg = i0.toInt.toNat + 1 by rw [nm_nat]; omega]; exact hx
  clear ez9
  refine ty_callj 0 (W := (ty_W2n 18)) H Jh5 rfl (fun _ => rfl) rfl rfl rfl (hq_pre_o Ih5.1 (x := 97) (ci := 11) rfl (by decide) rfl rfl rfl rfl) (fun a k w => by unfold ty_Wx at w; unfold ty_W2n; omega) (by unfold ty_Wx ty_W2n; omega) (ct_148q (x1 := z9) (by omega) (by omega) (by omega)) (fun h11 _ Jh11 P10 => ?_)
  have Ih11 := H.1 h11 Jh11
  obtain ⟨z12, rfl, fz12⟩ := P10
  refine hq_p rfl rfl ?_
  refine hq_p rfl rfl ?_
  exact K h11 (tq_n18 hz hr Jh11)
set_option maxRecDepth 20000 in
set_option maxHeartbeats 4000000 in
theorem tb_38b0 {X : pm_X} {d L n : Nat} {xs : Nat → Int32} {h : pm_H} {i0 : Int32} {Q : pm_H → Option Value → Prop} (hd : 120 ≤ d) (hX : ty_SX X) (hS : ∀ h, pm_arr X h (.retAddr 200) = some (0, L, .inl xs)) (hL : L ≤ 3072) (a0 : 0 ≤ i0.toInt) (b0 : i0.toInt + 6 ≤ L) {T : Int} (hJ0 : tp_T n T h) (hz : tz_R T h) (hr : rl 12 1 18 h) (hx : (xs (i0.toInt.toNat + 1)).toInt = 0) (K : ∀ h1, tq_K (n + 1) h1 → hq_W X d 12 false (some .boolean) pm_cL (1205, [some (.retAddr 200), some (.ref 0), some (.ref 97), some (.int i0)], [], h1) Q) : hq_W X d 12 false (some .boolean) pm_cL (1146, [some (.retAddr 200), some (.ref 0), some (.ref 97), some (.int i0)], [], h) Q := by
  have H := tp_Cq_18 12 1 n T h
  have hJ : tp_P (tp_T n T) [(3, 63, 0), (3, 106, 0), (3, 7, 0), (3, 41, 0), (3, 52, 0), (3, 100, 0), (3, 57, 0), (3, 101, 0)] 12 1 h h := ⟨⟨⟨hJ0, hr.1⟩, fr_refl h _⟩, fun _ _ _ => rfl⟩
  have I := H.1 h hJ
  refine hq_p rfl rfl ?_
  refine hq_p rfl rfl ?_
  refine hq_p rfl rfl ?_
  refine hq_p rfl rfl (ty_ge (n := 1) nk_i1 (fun z1 ez1 => ?_))
  refine hq_p rfl rfl (ty_ge (n := i0.toInt + z1.toInt) (nm_add (by omega) (by omega)) (fun z2 ez2 => ?_))
  refine hq_iald rfl (hS h) (hs_in (by omega) (by omega)) (ty_ge rfl (fun z3 ez3 => ?_))
  have az3 := nm_lo z3
  have bz3 := nm_hi z3
  have xz3 : z3.toInt = 0 := by rw [ez3, show z2.toNatClampNeg = i0.toInt.toNat + 1 by rw [nm_nat]; omega]; exact hx
  clear ez3
  refine ty_callj 0 (W := (ty_W2q 18)) H hJ rfl (fun _ => rfl) rfl rfl rfl (hq_pre_o I.1 (x := 0) (ci := 10) rfl (by decide) rfl rfl rfl rfl) (fun a k w => by unfold ty_Wcl at w; unfold ty_W2q; omega) (by unfold ty_Wcl ty_W2q; omega) (ct_121b0 (x1 := z3) (by omega) (by omega) (by omega) hJ.1.1.2.1 hJ.1.1.2.2) (fun h5 _ Jh5 P4 => ?_)
  have Ih5 := H.1 h5 Jh5
  obtain ⟨z6, rfl, fz6⟩ := P4
  have az6 := nm_lo z6
  have bz6 := nm_hi z6
  refine hq_p rfl rfl ?_
  have H := tp_Cv 12 1 n T h5
  have hM : tp_Q (tp_T n T) [(3, 63, 0), (3, 106, 0), (3, 7, 0), (3, 18, 0), (3, 41, 0), (3, 52, 0), (3, 100, 0), (3, 57, 0), (3, 101, 0)] 12 1 h5 h5 := ⟨⟨Jh5.1.1.1, Jh5.1.1.2⟩, fr_refl h5 _⟩
  refine hq_p rfl rfl ?_
  refine hq_p rfl rfl ?_
  refine hq_p rfl rfl ?_
  refine hq_p rfl rfl (ty_ge (n := 1) nk_i1 (fun z7 ez7 => ?_))
  refine hq_p rfl rfl (ty_ge (n := i0.toInt + z7.toInt) (nm_add (by omega) (by omega)) (fun z8 ez8 => ?_))
  refine hq_iald rfl (hS h5) (hs_in (by omega) (by omega)) (ty_ge rfl (fun z9 ez9 => ?_))
  have az9 := nm_lo z9
  have bz9 := nm_hi z9
  have xz9 : z9.toInt = 0 := by rw [ez9, show z8.toNatClampNeg = i0.toInt.toNat + 1 by rw [nm_nat]; omega]; exact hx
  clear ez9
  have Hz := H.zz h5.1 h5.2.1
  refine hq_inv 0 rfl (fun _ => rfl) rfl rfl rfl (hq_pre_o Ih5.1 (x := 97) (ci := 11) rfl (by decide) rfl rfl rfl rfl) ((ct_148i0 (x1 := z9) (by omega) (by omega) (by omega) (Hz.mono (W' := ty_Wx) (fun a k w => by unfold ty_Wx at w; unfold ty_W2b; omega) (by unfold ty_Wx ty_W2b; omega)) ⟨hM, rfl, rfl⟩ (fun h j => ⟨tp_bkQ (k := 0) j.1 (tp_bk j.1.1.1 (by decide)), j.2⟩)).mono (Nat.le_refl _) (fun h10 v q => ?_))
  obtain ⟨⟨Jh10, m1, m2⟩, z11, rfl, fz11⟩ := q
  refine ⟨by omega, by omega, ?_⟩
  have Ih10 := H.1 h10 Jh10
  have az11 := nm_lo z11
  have bz11 := nm_hi z11
  have gC := Jh5
  have gM := Jh10
  obtain ⟨x63, x106, x7, x41, x52, x100, x57, x101, _⟩ := gC.1.2
  have x63 : hs_aI h5 63 = hs_aI h 63 := x63
  have x106 : hs_aI h5 106 = hs_aI h 106 := x106
  have x7 : hs_aI h5 7 = hs_aI h 7 := x7
  have x41 : hs_aI h5 41 = hs_aI h 41 := x41
  have x52 : hs_aI h5 52 = hs_aI h 52 := x52
  have x100 : hs_aI h5 100 = hs_aI h 100 := x100
  have x57 : hs_aI h5 57 = hs_aI h 57 := x57
  have x101 : hs_aI h5 101 = hs_aI h 101 := x101
  obtain ⟨y63, y106, y7, y18, y41, y52, y100, y57, y101, _⟩ := gM.2
  have y63 : hs_aI h10 63 = hs_aI h5 63 := y63
  have y106 : hs_aI h10 106 = hs_aI h5 106 := y106
  have y7 : hs_aI h10 7 = hs_aI h5 7 := y7
  have y18 : hs_aI h10 18 = hs_aI h5 18 := y18
  have y41 : hs_aI h10 41 = hs_aI h5 41 := y41
  have y52 : hs_aI h10 52 = hs_aI h5 52 := y52
  have y100 : hs_aI h10 100 = hs_aI h5 100 := y100
  have y57 : hs_aI h10 57 = hs_aI h5 57 := y57
  have y101 : hs_aI h10 101 = hs_aI h5 101 := y101
  obtain ⟨u1, u2⟩ := bk_eq (o := 0) (K := (hs_aI h 57 0).toInt) (K' := (hs_aI h5 101 0).toInt) (by rw [x101]; exact hr.2.2.2.2.1.symm) (fun j hj => (hr.2.1 j hj).trans (gC.2 (50 + j) (by omega) (by omega)).symm) (fun w j hj => by rw [x100]; exact (hr.2.2.1 w j hj).trans (congrArg (hs_aI h 100) (by omega))) fz6 fz11
  clear fz6 fz11
  refine hq_p rfl rfl ?_
  refine hq_p rfl rfl ?_
  exact K h10 (tq_1 gM.1.1 ⟨tz_t (tz_t hz x63 x106) y63 y106, Or.inr ⟨gM.1.2, fun j hj => by rw [y18]; exact u2 j hj, fun w j hj => by rw [y41, y100, x41, x100]; exact hr.2.2.1 (by rw [← x57, ← y57]; exact w) j hj, fun w j hj => by rw [y52, y100, x52, x100]; exact hr.2.2.2.1 (by rw [← x57, ← y57]; exact w) j hj, by rw [y57, y101, x57, x101]; exact hr.2.2.2.2.1, by rw [y57, y101, x57, x101]; exact hr.2.2.2.2.2⟩⟩)
set_option maxRecDepth 20000 in
set_option maxHeartbeats 4000000 in
theorem tb_38b1 {X : pm_X} {d L n : Nat} {xs : Nat → Int32} {h : pm_H} {i0 : Int32} {Q : pm_H → Option Value → Prop} (hd : 120 ≤ d) (hX : ty_SX X) (hS : ∀ h, pm_arr X h (.retAddr 200) = some (0, L, .inl xs)) (hL : L ≤ 3072) (a0 : 0 ≤ i0.toInt) (b0 : i0.toInt + 6 ≤ L) {T : Int} (hJ0 : tp_T n T h) (hz : tz_R T h) (hr : rl 12 1 18 h) (hx : (xs (i0.toInt.toNat + 1)).toInt = 1) (K : ∀ h1, tq_K (n + 1) h1 → hq_W X d 12 false (some .boolean) pm_cL (1205, [some (.retAddr 200), some (.ref 0), some (.ref 97), some (.int i0)], [], h1) Q) : hq_W X d 12 false (some .boolean) pm_cL (1146, [some (.retAddr 200), some (.ref 0), some (.ref 97), some (.int i0)], [], h) Q := by
  have H := tp_Cq_18 12 1 n T h
  have hJ : tp_P (tp_T n T) [(3, 63, 0), (3, 106, 0), (3, 7, 0), (3, 41, 0), (3, 52, 0), (3, 100, 0), (3, 57, 0), (3, 101, 0)] 12 1 h h := ⟨⟨⟨hJ0, hr.1⟩, fr_refl h _⟩, fun _ _ _ => rfl⟩
  have I := H.1 h hJ
  refine hq_p rfl rfl ?_
  refine hq_p rfl rfl ?_
  refine hq_p rfl rfl ?_
  refine hq_p rfl rfl (ty_ge (n := 1) nk_i1 (fun z1 ez1 => ?_))
  refine hq_p rfl rfl (ty_ge (n := i0.toInt + z1.toInt) (nm_add (by omega) (by omega)) (fun z2 ez2 => ?_))
  refine hq_iald rfl (hS h) (hs_in (by omega) (by omega)) (ty_ge rfl (fun z3 ez3 => ?_))
  have az3 := nm_lo z3
  have bz3 := nm_hi z3
  have xz3 : z3.toInt = 1 := by rw [ez3, show z2.toNatClampNeg = i0.toInt.toNat + 1 by rw [nm_nat]; omega]; exact hx
  clear ez3
  refine ty_callj 0 (W := (ty_W2q 18)) H hJ rfl (fun _ => rfl) rfl rfl rfl (hq_pre_o I.1 (x := 0) (ci := 10) rfl (by decide) rfl rfl rfl rfl) (fun a k w => by unfold ty_Wcl at w; unfold ty_W2q; omega) (by unfold ty_Wcl ty_W2q; omega) (ct_121b1 (x1 := z3) (by omega) (by omega) (by omega) hJ.1.1.2.1 hJ.1.1.2.2) (fun h5 _ Jh5 P4 => ?_)
  have Ih5 := H.1 h5 Jh5
  obtain ⟨z6, rfl, fz6⟩ := P4
  have az6 := nm_lo z6
  have bz6 := nm_hi z6
  refine hq_p rfl rfl ?_
  have H := tp_Cv 12 1 n T h5
  have hM : tp_Q (tp_T n T) [(3, 63, 0), (3, 106, 0), (3, 7, 0), (3, 18, 0), (3, 41, 0), (3, 52, 0), (3, 100, 0), (3, 57, 0), (3, 101, 0)] 12 1 h5 h5 := ⟨⟨Jh5.1.1.1, Jh5.1.1.2⟩, fr_refl h5 _⟩
  refine hq_p rfl rfl ?_
  refine hq_p rfl rfl ?_
  refine hq_p rfl rfl ?_
  refine hq_p rfl rfl (ty_ge (n := 1) nk_i1 (fun z7 ez7 => ?_))
  refine hq_p rfl rfl (ty_ge (n := i0.toInt + z7.toInt) (nm_add (by omega) (by omega)) (fun z8 ez8 => ?_))
  refine hq_iald rfl (hS h5) (hs_in (by omega) (by omega)) (ty_ge rfl (fun z9 ez9 => ?_))
  have az9 := nm_lo z9
  have bz9 := nm_hi z9
  have xz9 : z9.toInt = 1 := by rw [ez9, show z8.toNatClampNeg = i0.toInt.toNat + 1 by rw [nm_nat]; omega]; exact hx
  clear ez9
  have Hz := H.zz h5.1 h5.2.1
  refine hq_inv 0 rfl (fun _ => rfl) rfl rfl rfl (hq_pre_o Ih5.1 (x := 97) (ci := 11) rfl (by decide) rfl rfl rfl rfl) ((ct_148i1 (x1 := z9) (by omega) (by omega) (by omega) (Hz.mono (W' := ty_Wx) (fun a k w => by unfold ty_Wx at w; unfold ty_W2b; omega) (by unfold ty_Wx ty_W2b; omega)) ⟨hM, rfl, rfl⟩ (fun h j => ⟨tp_bkQ (k := 1) j.1 (tp_bk j.1.1.1 (by decide)), j.2⟩)).mono (Nat.le_refl _) (fun h10 v q => ?_))
  obtain ⟨⟨Jh10, m1, m2⟩, z11, rfl, fz11⟩ := q
  refine ⟨by omega, by omega, ?_⟩
  have Ih10 := H.1 h10 Jh10
  have az11 := nm_lo z11
  have bz11 := nm_hi z11
  have gC := Jh5
  have gM := Jh10
  obtain ⟨x63, x106, x7, x41, x52, x100, x57, x101, _⟩ := gC.1.2
  have x63 : hs_aI h5 63 = hs_aI h 63 := x63
  have x106 : hs_aI h5 106 = hs_aI h 106 := x106
  have x7 : hs_aI h5 7 = hs_aI h 7 := x7
  have x41 : hs_aI h5 41 = hs_aI h 41 := x41
  have x52 : hs_aI h5 52 = hs_aI h 52 := x52
  have x100 : hs_aI h5 100 = hs_aI h 100 := x100
  have x57 : hs_aI h5 57 = hs_aI h 57 := x57
  have x101 : hs_aI h5 101 = hs_aI h 101 := x101
  obtain ⟨y63, y106, y7, y18, y41, y52, y100, y57, y101, _⟩ := gM.2
  have y63 : hs_aI h10 63 = hs_aI h5 63 := y63
  have y106 : hs_aI h10 106 = hs_aI h5 106 := y106
  have y7 : hs_aI h10 7 = hs_aI h5 7 := y7
  have y18 : hs_aI h10 18 = hs_aI h5 18 := y18
  have y41 : hs_aI h10 41 = hs_aI h5 41 := y41
  have y52 : hs_aI h10 52 = hs_aI h5 52 := y52
  have y100 : hs_aI h10 100 = hs_aI h5 100 := y100
  have y57 : hs_aI h10 57 = hs_aI h5 57 := y57
  have y101 : hs_aI h10 101 = hs_aI h5 101 := y101
  obtain ⟨u1, u2⟩ := bk_eq (o := 5498) (K := (hs_aI h 57 1).toInt) (K' := (hs_aI h5 101 1).toInt) (by rw [x101]; exact hr.2.2.2.2.2.symm) (fun j hj => (hr.2.1 j hj).trans (gC.2 (50 + j) (by omega) (by omega)).symm) (fun w j hj => by rw [x100]; exact (hr.2.2.2.1 w j hj).trans (congrArg (hs_aI h 100) (by omega))) fz6 fz11
  clear fz6 fz11
  refine hq_p rfl rfl ?_
  refine hq_p rfl rfl ?_
  exact K h10 (tq_1 gM.1.1 ⟨tz_t (tz_t hz x63 x106) y63 y106, Or.inr ⟨gM.1.2, fun j hj => by rw [y18]; exact u2 j hj, fun w j hj => by rw [y41, y100, x41, x100]; exact hr.2.2.1 (by rw [← x57, ← y57]; exact w) j hj, fun w j hj => by rw [y52, y100, x52, x100]; exact hr.2.2.2.1 (by rw [← x57, ← y57]; exact w) j hj, by rw [y57, y101, x57, x101]; exact hr.2.2.2.2.1, by rw [y57, y101, x57, x101]; exact hr.2.2.2.2.2⟩⟩)
theorem tb_38b {X : pm_X} {d L n : Nat} {xs : Nat → Int32} {h : pm_H} {i0 : Int32} {Q : pm_H → Option Value → Prop} (hd : 120 ≤ d) (hX : ty_SX X) (hS : ∀ h, pm_arr X h (.retAddr 200) = some (0, L, .inl xs)) (hL : L ≤ 3072) (a0 : 0 ≤ i0.toInt) (b0 : i0.toInt + 6 ≤ L) {T : Int} (hJ0 : tp_T n T h) (hz : tz_R T h) (hr : rl 12 1 18 h) (K : ∀ h1, tq_K (n + 1) h1 → hq_W X d 12 false (some .boolean) pm_cL (1205, [some (.retAddr 200), some (.ref 0), some (.ref 97), some (.int i0)], [], h1) Q) : hq_W X d 12 false (some .boolean) pm_cL (1146, [some (.retAddr 200), some (.ref 0), some (.ref 97), some (.int i0)], [], h) Q := by
  rcases (show (xs (i0.toInt.toNat + 1)).toInt ≤ -1 ∨ (xs (i0.toInt.toNat + 1)).toInt = 0 ∨ (xs (i0.toInt.toNat + 1)).toInt = 1 ∨ 2 ≤ (xs (i0.toInt.toNat + 1)).toInt by omega) with hx | hx | hx | hx
  · exact tb_38bm hd hX hS hL a0 b0 hJ0 hz hr hx K
  · exact tb_38b0 hd hX hS hL a0 b0 hJ0 hz hr hx K
  · exact tb_38b1 hd hX hS hL a0 b0 hJ0 hz hr hx K
  · exact tb_38bq hd hX hS hL a0 b0 hJ0 hz hr hx K
theorem tb_38 {X : pm_X} {d L n : Nat} {xs : Nat → Int32} {h : pm_H} {i0 : Int32} {Q : pm_H → Option Value → Prop} (hd : 120 ≤ d) (hX : ty_SX X) (hS : ∀ h, pm_arr X h (.retAddr 200) = some (0, L, .inl xs)) (hL : L ≤ 3072) (a0 : 0 ≤ i0.toInt) (b0 : i0.toInt + 6 ≤ L) (hK : tq_K n h) (K : ∀ h1, tq_K (n + 1) h1 → hq_W X d 12 false (some .boolean) pm_cL (1205, [some (.retAddr 200), some (.ref 0), some (.ref 97), some (.int i0)], [], h1) Q) : hq_W X d 12 false (some .boolean) pm_cL (1146, [some (.retAddr 200), some (.ref 0), some (.ref 97), some (.int i0)], [], h) Q := by
  obtain ⟨T, hJ0, hz, hr⟩ := hK
  rcases hr with hr | hr
  · exact tb_38a hd hX hS hL a0 b0 hJ0 hz hr K
  · exact tb_38b hd hX hS hL a0 b0 hJ0 hz hr K
end CT75
