/-! CONTRACTS (printed by wip/pm/cts.py) -/
section CT65
set_option maxRecDepth 20000 in
set_option maxHeartbeats 4000000 in
theorem tb_37am {X : pm_X} {d L n : Nat} {xs : Nat → Int32} {h : pm_H} {i0 : Int32} {Q : pm_H → Option Value → Prop} (hd : 120 ≤ d) (hX : ty_SX X) (hS : ∀ h, pm_arr X h (.retAddr 200) = some (0, L, .inl xs)) (hL : L ≤ 3072) (a0 : 0 ≤ i0.toInt) (b0 : i0.toInt + 6 ≤ L) {T : Int} (hJ0 : tp_T n T h) (hr : rl 1 12 h) (hx : (xs (i0.toInt.toNat + 1)).toInt ≤ -1) (K : ∀ h1, tq_K (n + 1) h1 → hq_W X d 12 false (some .boolean) pm_cL (1205, [some (.retAddr 200), some (.ref 0), some (.ref 97), some (.int i0)], [], h1) Q) : hq_W X d 12 false (some .boolean) pm_cL (1123, [some (.retAddr 200), some (.ref 0), some (.ref 97), some (.int i0)], [], h) Q := by
  have H := tp_Cn_1 1 12 n T h
  have hJ : tp_F [(0, 1, 0), (0, 1, 3), (0, 1, 10), (0, 35, 0), (0, 35, 3), (0, 35, 10), (0, 46, 0), (0, 46, 3), (0, 46, 10), (1, 99, 0), (1, 99, 1), (1, 99, 2), (3, 100, 0), (3, 57, 0), (3, 101, 0)] 1 12 n T h h := ⟨⟨hJ0, hr.1⟩, fr_refl h _⟩
  have I := H.1 h hJ
  refine hq_p rfl rfl ?_
  refine hq_p rfl rfl ?_
  refine hq_p rfl rfl ?_
  refine hq_p rfl rfl (ty_ge (n := 1) nk_i1 (fun z1 ez1 => ?_))
  refine hq_p rfl rfl (ty_ge (n := i0.toInt + z1.toInt) (nm_add (by omega) (by omega)) (fun z2 ez2 => ?_))
  refine hq_iald rfl (hS h) (hs_in (by omega) (by omega)) (ty_ge rfl (fun z3 ez3 => ?_))
  have az3 := nm_lo z3
  have bz3 := nm_hi z3
  have xz3 : z3.toInt ≤ -1 := by rw [ez3, show z2.toNatClampNeg = i0.toInt.toNat + 1 by rw [nm_nat]; omega]; exact hx
  clear ez3
  refine ty_callj 0 (W := (ty_W2n 1)) H hJ rfl (fun _ => rfl) rfl rfl rfl (hq_pre_o I.1 (x := 0) (ci := 10) rfl (by decide) rfl rfl rfl rfl) (fun a k w => by unfold ty_Wc at w; unfold ty_W2n; omega) (by unfold ty_Wc ty_W2n; omega) (ct_120m (x1 := z3) (by omega) (by omega) (by omega)) (fun h5 _ Jh5 P4 => ?_)
  have Ih5 := H.1 h5 Jh5
  obtain ⟨z6, rfl, fz6⟩ := P4
  refine hq_p rfl rfl ?_
  refine hq_p rfl rfl ?_
  refine hq_p rfl rfl ?_
  refine hq_p rfl rfl ?_
  refine hq_p rfl rfl (ty_ge (n := 1) nk_i1 (fun z7 ez7 => ?_))
  refine hq_p rfl rfl (ty_ge (n := i0.toInt + z7.toInt) (nm_add (by omega) (by omega)) (fun z8 ez8 => ?_))
  refine hq_iald rfl (hS h5) (hs_in (by omega) (by omega)) (ty_ge rfl (fun z9 ez9 => ?_))
  have az9 := nm_lo z9
  have bz9 := nm_hi z9
  have xz9 : z9.toInt ≤ -1 := by rw [ez9, show z8.toNatClampNeg = i0.toInt.toNat + 1 by rw [nm_nat]; omega]; exact hx
  clear ez9
  refine ty_callj 0 (W := (ty_W2n 1)) H Jh5 rfl (fun _ => rfl) rfl rfl rfl (hq_pre_o Ih5.1 (x := 97) (ci := 11) rfl (by decide) rfl rfl rfl rfl) (fun a k w => by unfold ty_Wx at w; unfold ty_W2n; omega) (by unfold ty_Wx ty_W2n; omega) (ct_147m (x1 := z9) (by omega) (by omega) (by omega)) (fun h11 _ Jh11 P10 => ?_)
  have Ih11 := H.1 h11 Jh11
  obtain ⟨z12, rfl, fz12⟩ := P10
  refine hq_p rfl rfl ?_
  refine hq_p rfl rfl ?_
  exact K h11 (tq_n1 hr Jh11)
set_option maxRecDepth 20000 in
set_option maxHeartbeats 4000000 in
theorem tb_37aq {X : pm_X} {d L n : Nat} {xs : Nat → Int32} {h : pm_H} {i0 : Int32} {Q : pm_H → Option Value → Prop} (hd : 120 ≤ d) (hX : ty_SX X) (hS : ∀ h, pm_arr X h (.retAddr 200) = some (0, L, .inl xs)) (hL : L ≤ 3072) (a0 : 0 ≤ i0.toInt) (b0 : i0.toInt + 6 ≤ L) {T : Int} (hJ0 : tp_T n T h) (hr : rl 1 12 h) (hx : 2 ≤ (xs (i0.toInt.toNat + 1)).toInt) (K : ∀ h1, tq_K (n + 1) h1 → hq_W X d 12 false (some .boolean) pm_cL (1205, [some (.retAddr 200), some (.ref 0), some (.ref 97), some (.int i0)], [], h1) Q) : hq_W X d 12 false (some .boolean) pm_cL (1123, [some (.retAddr 200), some (.ref 0), some (.ref 97), some (.int i0)], [], h) Q := by
  have H := tp_Cn_1 1 12 n T h
  have hJ : tp_F [(0, 1, 0), (0, 1, 3), (0, 1, 10), (0, 35, 0), (0, 35, 3), (0, 35, 10), (0, 46, 0), (0, 46, 3), (0, 46, 10), (1, 99, 0), (1, 99, 1), (1, 99, 2), (3, 100, 0), (3, 57, 0), (3, 101, 0)] 1 12 n T h h := ⟨⟨hJ0, hr.1⟩, fr_refl h _⟩
  have I := H.1 h hJ
  refine hq_p rfl rfl ?_
  refine hq_p rfl rfl ?_
  refine hq_p rfl rfl ?_
  refine hq_p rfl rfl (ty_ge (n := 1) nk_i1 (fun z1 ez1 => ?_))
  refine hq_p rfl rfl (ty_ge (n := i0.toInt + z1.toInt) (nm_add (by omega) (by omega)) (fun z2 ez2 => ?_))
  refine hq_iald rfl (hS h) (hs_in (by omega) (by omega)) (ty_ge rfl (fun z3 ez3 => ?_))
  have az3 := nm_lo z3
  have bz3 := nm_hi z3
  have xz3 : 2 ≤ z3.toInt := by rw [ez3, show z2.toNatClampNeg = i0.toInt.toNat + 1 by rw [nm_nat]; omega]; exact hx
  clear ez3
  refine ty_callj 0 (W := (ty_W2n 1)) H hJ rfl (fun _ => rfl) rfl rfl rfl (hq_pre_o I.1 (x := 0) (ci := 10) rfl (by decide) rfl rfl rfl rfl) (fun a k w => by unfold ty_Wc at w; unfold ty_W2n; omega) (by unfold ty_Wc ty_W2n; omega) (ct_120q (x1 := z3) (by omega) (by omega) (by omega)) (fun h5 _ Jh5 P4 => ?_)
  have Ih5 := H.1 h5 Jh5
  obtain ⟨z6, rfl, fz6⟩ := P4
  refine hq_p rfl rfl ?_
  refine hq_p rfl rfl ?_
  refine hq_p rfl rfl ?_
  refine hq_p rfl rfl ?_
  refine hq_p rfl rfl (ty_ge (n := 1) nk_i1 (fun z7 ez7 => ?_))
  refine hq_p rfl rfl (ty_ge (n := i0.toInt + z7.toInt) (nm_add (by omega) (by omega)) (fun z8 ez8 => ?_))
  refine hq_iald rfl (hS h5) (hs_in (by omega) (by omega)) (ty_ge rfl (fun z9 ez9 => ?_))
  have az9 := nm_lo z9
  have bz9 := nm_hi z9
  have xz9 : 2 ≤ z9.toInt := by rw [ez9, show z8.toNatClampNeg = i0.toInt.toNat + 1 by rw [nm_nat]; omega]; exact hx
  clear ez9
  refine ty_callj 0 (W := (ty_W2n 1)) H Jh5 rfl (fun _ => rfl) rfl rfl rfl (hq_pre_o Ih5.1 (x := 97) (ci := 11) rfl (by decide) rfl rfl rfl rfl) (fun a k w => by unfold ty_Wx at w; unfold ty_W2n; omega) (by unfold ty_Wx ty_W2n; omega) (ct_147q (x1 := z9) (by omega) (by omega) (by omega)) (fun h11 _ Jh11 P10 => ?_)
  have Ih11 := H.1 h11 Jh11
  obtain ⟨z12, rfl, fz12⟩ := P10
  refine hq_p rfl rfl ?_
  refine hq_p rfl rfl ?_
  exact K h11 (tq_n1 hr Jh11)
set_option maxRecDepth 20000 in
set_option maxHeartbeats 4000000 in
theorem tb_37a0 {X : pm_X} {d L n : Nat} {xs : Nat → Int32} {h : pm_H} {i0 : Int32} {Q : pm_H → Option Value → Prop} (hd : 120 ≤ d) (hX : ty_SX X) (hS : ∀ h, pm_arr X h (.retAddr 200) = some (0, L, .inl xs)) (hL : L ≤ 3072) (a0 : 0 ≤ i0.toInt) (b0 : i0.toInt + 6 ≤ L) {T : Int} (hJ0 : tp_T n T h) (hr : rl 1 12 h) (hx : (xs (i0.toInt.toNat + 1)).toInt = 0) (K : ∀ h1, tq_K (n + 1) h1 → hq_W X d 12 false (some .boolean) pm_cL (1205, [some (.retAddr 200), some (.ref 0), some (.ref 97), some (.int i0)], [], h1) Q) : hq_W X d 12 false (some .boolean) pm_cL (1123, [some (.retAddr 200), some (.ref 0), some (.ref 97), some (.int i0)], [], h) Q := by
  have H := tp_Ci_0 1 12 n T h
  have hJ : tp_F [(0, 1, 0), (0, 1, 3), (0, 1, 10), (0, 12, 0), (0, 12, 3), (0, 12, 10), (0, 46, 0), (0, 46, 3), (0, 46, 10), (1, 99, 0), (1, 99, 1), (1, 99, 2), (3, 100, 0), (3, 101, 0)] 1 12 n T h h := ⟨⟨hJ0, hr.1⟩, fr_refl h _⟩
  have I := H.1 h hJ
  refine hq_p rfl rfl ?_
  refine hq_p rfl rfl ?_
  refine hq_p rfl rfl ?_
  refine hq_p rfl rfl (ty_ge (n := 1) nk_i1 (fun z1 ez1 => ?_))
  refine hq_p rfl rfl (ty_ge (n := i0.toInt + z1.toInt) (nm_add (by omega) (by omega)) (fun z2 ez2 => ?_))
  refine hq_iald rfl (hS h) (hs_in (by omega) (by omega)) (ty_ge rfl (fun z3 ez3 => ?_))
  have az3 := nm_lo z3
  have bz3 := nm_hi z3
  have xz3 : z3.toInt = 0 := by rw [ez3, show z2.toNatClampNeg = i0.toInt.toNat + 1 by rw [nm_nat]; omega]; exact hx
  clear ez3
  refine ty_callj 0 (W := (ty_W2i 46 0)) H hJ rfl (fun _ => rfl) rfl rfl rfl (hq_pre_o I.1 (x := 0) (ci := 10) rfl (by decide) rfl rfl rfl rfl) (fun a k w => by unfold ty_Win at w; unfold ty_W2i; omega) (by unfold ty_Win ty_W2i; omega) (ct_120a0 (x1 := z3) (by omega) (by omega) (by omega) hJ.1.2.1 hJ.1.2.2) (fun h5 _ Jh5 P4 => ?_)
  have Ih5 := H.1 h5 Jh5
  obtain ⟨z6, rfl, fz6⟩ := P4
  have az6 := nm_lo z6
  have bz6 := nm_hi z6
  refine hq_p rfl rfl ?_
  have H := tp_Cx_0 1 12 n T h5
  have hM : tp_F [(0, 1, 0), (0, 1, 3), (0, 1, 10), (0, 12, 0), (0, 12, 3), (0, 12, 10), (0, 35, 0), (0, 35, 3), (0, 35, 10), (0, 46, 0), (0, 46, 3), (0, 46, 10), (1, 99, 0), (1, 99, 1), (1, 99, 2), (3, 57, 0)] 1 12 n T h5 h5 := ⟨Jh5.1, fr_refl _ _⟩
  refine hq_p rfl rfl ?_
  refine hq_p rfl rfl ?_
  refine hq_p rfl rfl ?_
  refine hq_p rfl rfl (ty_ge (n := 1) nk_i1 (fun z7 ez7 => ?_))
  refine hq_p rfl rfl (ty_ge (n := i0.toInt + z7.toInt) (nm_add (by omega) (by omega)) (fun z8 ez8 => ?_))
  refine hq_iald rfl (hS h5) (hs_in (by omega) (by omega)) (ty_ge rfl (fun z9 ez9 => ?_))
  have az9 := nm_lo z9
  have bz9 := nm_hi z9
  have xz9 : z9.toInt = 0 := by rw [ez9, show z8.toNatClampNeg = i0.toInt.toNat + 1 by rw [nm_nat]; omega]; exact hx
  clear ez9
  have Hz := H.zz h5.1 h5.2.1
  refine hq_inv 0 rfl (fun _ => rfl) rfl rfl rfl (hq_pre_o Ih5.1 (x := 97) (ci := 11) rfl (by decide) rfl rfl rfl rfl) ((ct_147i0 (x1 := z9) (by omega) (by omega) (by omega) (Hz.mono (W' := (ty_Wxi 0)) (fun a k w => by unfold ty_Wxi at w; unfold ty_W2x; omega) (by unfold ty_Wxi ty_W2x; omega)) ⟨hM, rfl, rfl⟩ (fun h j => ⟨tp_imF (k := 0) (by decide) j.1 (tp_im j.1.1.1 (by decide)), j.2⟩)).mono (Nat.le_refl _) (fun h10 v q => ?_))
  obtain ⟨⟨Jh10, m1, m2⟩, z11, rfl, fz11⟩ := q
  refine ⟨by omega, by omega, ?_⟩
  have Ih10 := H.1 h10 Jh10
  have az11 := nm_lo z11
  have bz11 := nm_hi z11
  obtain ⟨⟨a1, a2⟩, ⟨b1, b2, b3⟩, ⟨c1, c2, c3⟩, ⟨d1, d2, d3⟩, k1, k2⟩ := hr
  obtain ⟨x0, x1, x2, x3, x4, x5, x6, x7, x8, x9, x10, x11, x12, x13, _⟩ := Jh5.2
  have x0 : (hs_fI h5 1 0).toInt = (hs_fI h 1 0).toInt := x0
  have x1 : (hs_fI h5 1 3).toInt = (hs_fI h 1 3).toInt := x1
  have x2 : (hs_fI h5 1 10).toInt = (hs_fI h 1 10).toInt := x2
  have x3 : (hs_fI h5 12 0).toInt = (hs_fI h 12 0).toInt := x3
  have x4 : (hs_fI h5 12 3).toInt = (hs_fI h 12 3).toInt := x4
  have x5 : (hs_fI h5 12 10).toInt = (hs_fI h 12 10).toInt := x5
  have x6 : (hs_fI h5 46 0).toInt = (hs_fI h 46 0).toInt := x6
  have x7 : (hs_fI h5 46 3).toInt = (hs_fI h 46 3).toInt := x7
  have x8 : (hs_fI h5 46 10).toInt = (hs_fI h 46 10).toInt := x8
  have x9 : (hs_aI h5 99 0).toInt = (hs_aI h 99 0).toInt := x9
  have x10 : (hs_aI h5 99 1).toInt = (hs_aI h 99 1).toInt := x10
  have x11 : (hs_aI h5 99 2).toInt = (hs_aI h 99 2).toInt := x11
  have x12 : hs_aI h5 100 = hs_aI h 100 := x12
  have x12_0 : (hs_aI h5 100 0).toInt = (hs_aI h 100 0).toInt := by rw [x12]
  have x12_1 : (hs_aI h5 100 1).toInt = (hs_aI h 100 1).toInt := by rw [x12]
  have x12_2 : (hs_aI h5 100 2).toInt = (hs_aI h 100 2).toInt := by rw [x12]
  have x12_5498 : (hs_aI h5 100 5498).toInt = (hs_aI h 100 5498).toInt := by rw [x12]
  have x12_5499 : (hs_aI h5 100 5499).toInt = (hs_aI h 100 5499).toInt := by rw [x12]
  have x12_5500 : (hs_aI h5 100 5500).toInt = (hs_aI h 100 5500).toInt := by rw [x12]
  have x13 : hs_aI h5 101 = hs_aI h 101 := x13
  have x13_0 : (hs_aI h5 101 0).toInt = (hs_aI h 101 0).toInt := by rw [x13]
  have x13_1 : (hs_aI h5 101 1).toInt = (hs_aI h 101 1).toInt := by rw [x13]
  obtain ⟨y0, y1, y2, y3, y4, y5, y6, y7, y8, y9, y10, y11, y12, y13, y14, y15, _⟩ := Jh10.2
  have y0 : (hs_fI h10 1 0).toInt = (hs_fI h5 1 0).toInt := y0
  have y1 : (hs_fI h10 1 3).toInt = (hs_fI h5 1 3).toInt := y1
  have y2 : (hs_fI h10 1 10).toInt = (hs_fI h5 1 10).toInt := y2
  have y3 : (hs_fI h10 12 0).toInt = (hs_fI h5 12 0).toInt := y3
  have y4 : (hs_fI h10 12 3).toInt = (hs_fI h5 12 3).toInt := y4
  have y5 : (hs_fI h10 12 10).toInt = (hs_fI h5 12 10).toInt := y5
  have y6 : (hs_fI h10 35 0).toInt = (hs_fI h5 35 0).toInt := y6
  have y7 : (hs_fI h10 35 3).toInt = (hs_fI h5 35 3).toInt := y7
  have y8 : (hs_fI h10 35 10).toInt = (hs_fI h5 35 10).toInt := y8
  have y9 : (hs_fI h10 46 0).toInt = (hs_fI h5 46 0).toInt := y9
  have y10 : (hs_fI h10 46 3).toInt = (hs_fI h5 46 3).toInt := y10
  have y11 : (hs_fI h10 46 10).toInt = (hs_fI h5 46 10).toInt := y11
  have y12 : (hs_aI h10 99 0).toInt = (hs_aI h5 99 0).toInt := y12
  have y13 : (hs_aI h10 99 1).toInt = (hs_aI h5 99 1).toInt := y13
  have y14 : (hs_aI h10 99 2).toInt = (hs_aI h5 99 2).toInt := y14
  have y15 : hs_aI h10 57 = hs_aI h5 57 := y15
  have y15_0 : (hs_aI h10 57 0).toInt = (hs_aI h5 57 0).toInt := by rw [y15]
  have y15_1 : (hs_aI h10 57 1).toInt = (hs_aI h5 57 1).toInt := by rw [y15]
  obtain ⟨u0, u1, u2, u3, u4, u5⟩ := fz6
  obtain ⟨v0, v1, v2, v3⟩ := fz11
  have w0 : (hs_aI h10 100 0).toInt = (hs_aI h5 99 0).toInt := (congrArg Int32.toInt (congrFun v1 0)).trans (congrArg Int32.toInt (va_in (by decide) (by decide)))
  have o0 : (hs_aI h10 100 5498).toInt = (hs_aI h5 100 5498).toInt := (congrArg Int32.toInt (congrFun v1 5498)).trans (congrArg Int32.toInt (va_out (by decide)))
  have w1 : (hs_aI h10 100 1).toInt = (hs_aI h5 99 1).toInt := (congrArg Int32.toInt (congrFun v1 1)).trans (congrArg Int32.toInt (va_in (by decide) (by decide)))
  have o1 : (hs_aI h10 100 5499).toInt = (hs_aI h5 100 5499).toInt := (congrArg Int32.toInt (congrFun v1 5499)).trans (congrArg Int32.toInt (va_out (by decide)))
  have w2 : (hs_aI h10 100 2).toInt = (hs_aI h5 99 2).toInt := (congrArg Int32.toInt (congrFun v1 2)).trans (congrArg Int32.toInt (va_in (by decide) (by decide)))
  have o2 : (hs_aI h10 100 5500).toInt = (hs_aI h5 100 5500).toInt := (congrArg Int32.toInt (congrFun v1 5500)).trans (congrArg Int32.toInt (va_out (by decide)))
  clear v1
  refine hq_p rfl rfl ?_
  refine hq_p rfl rfl ?_
  exact K h10 (tq_1 Jh10.1.1 (Or.inl ⟨Jh10.1.2, ⟨by omega, by omega, by omega⟩, ⟨by omega, by omega, by omega⟩, ⟨by omega, by omega, by omega⟩, by omega, by omega⟩))
set_option maxRecDepth 20000 in
set_option maxHeartbeats 4000000 in
theorem tb_37a1 {X : pm_X} {d L n : Nat} {xs : Nat → Int32} {h : pm_H} {i0 : Int32} {Q : pm_H → Option Value → Prop} (hd : 120 ≤ d) (hX : ty_SX X) (hS : ∀ h, pm_arr X h (.retAddr 200) = some (0, L, .inl xs)) (hL : L ≤ 3072) (a0 : 0 ≤ i0.toInt) (b0 : i0.toInt + 6 ≤ L) {T : Int} (hJ0 : tp_T n T h) (hr : rl 1 12 h) (hx : (xs (i0.toInt.toNat + 1)).toInt = 1) (K : ∀ h1, tq_K (n + 1) h1 → hq_W X d 12 false (some .boolean) pm_cL (1205, [some (.retAddr 200), some (.ref 0), some (.ref 97), some (.int i0)], [], h1) Q) : hq_W X d 12 false (some .boolean) pm_cL (1123, [some (.retAddr 200), some (.ref 0), some (.ref 97), some (.int i0)], [], h) Q := by
  have H := tp_Ci_1 1 12 n T h
  have hJ : tp_F [(0, 1, 0), (0, 1, 3), (0, 1, 10), (0, 12, 0), (0, 12, 3), (0, 12, 10), (0, 35, 0), (0, 35, 3), (0, 35, 10), (1, 99, 0), (1, 99, 1), (1, 99, 2), (3, 100, 0), (3, 101, 0)] 1 12 n T h h := ⟨⟨hJ0, hr.1⟩, fr_refl h _⟩
  have I := H.1 h hJ
  refine hq_p rfl rfl ?_
  refine hq_p rfl rfl ?_
  refine hq_p rfl rfl ?_
  refine hq_p rfl rfl (ty_ge (n := 1) nk_i1 (fun z1 ez1 => ?_))
  refine hq_p rfl rfl (ty_ge (n := i0.toInt + z1.toInt) (nm_add (by omega) (by omega)) (fun z2 ez2 => ?_))
  refine hq_iald rfl (hS h) (hs_in (by omega) (by omega)) (ty_ge rfl (fun z3 ez3 => ?_))
  have az3 := nm_lo z3
  have bz3 := nm_hi z3
  have xz3 : z3.toInt = 1 := by rw [ez3, show z2.toNatClampNeg = i0.toInt.toNat + 1 by rw [nm_nat]; omega]; exact hx
  clear ez3
  refine ty_callj 0 (W := (ty_W2i 35 1)) H hJ rfl (fun _ => rfl) rfl rfl rfl (hq_pre_o I.1 (x := 0) (ci := 10) rfl (by decide) rfl rfl rfl rfl) (fun a k w => by unfold ty_Win at w; unfold ty_W2i; omega) (by unfold ty_Win ty_W2i; omega) (ct_120a1 (x1 := z3) (by omega) (by omega) (by omega) hJ.1.2.1 hJ.1.2.2) (fun h5 _ Jh5 P4 => ?_)
  have Ih5 := H.1 h5 Jh5
  obtain ⟨z6, rfl, fz6⟩ := P4
  have az6 := nm_lo z6
  have bz6 := nm_hi z6
  refine hq_p rfl rfl ?_
  have H := tp_Cx_1 1 12 n T h5
  have hM : tp_F [(0, 1, 0), (0, 1, 3), (0, 1, 10), (0, 12, 0), (0, 12, 3), (0, 12, 10), (0, 35, 0), (0, 35, 3), (0, 35, 10), (0, 46, 0), (0, 46, 3), (0, 46, 10), (1, 99, 0), (1, 99, 1), (1, 99, 2), (3, 57, 0)] 1 12 n T h5 h5 := ⟨Jh5.1, fr_refl _ _⟩
  refine hq_p rfl rfl ?_
  refine hq_p rfl rfl ?_
  refine hq_p rfl rfl ?_
  refine hq_p rfl rfl (ty_ge (n := 1) nk_i1 (fun z7 ez7 => ?_))
  refine hq_p rfl rfl (ty_ge (n := i0.toInt + z7.toInt) (nm_add (by omega) (by omega)) (fun z8 ez8 => ?_))
  refine hq_iald rfl (hS h5) (hs_in (by omega) (by omega)) (ty_ge rfl (fun z9 ez9 => ?_))
  have az9 := nm_lo z9
  have bz9 := nm_hi z9
  have xz9 : z9.toInt = 1 := by rw [ez9, show z8.toNatClampNeg = i0.toInt.toNat + 1 by rw [nm_nat]; omega]; exact hx
  clear ez9
  have Hz := H.zz h5.1 h5.2.1
  refine hq_inv 0 rfl (fun _ => rfl) rfl rfl rfl (hq_pre_o Ih5.1 (x := 97) (ci := 11) rfl (by decide) rfl rfl rfl rfl) ((ct_147i1 (x1 := z9) (by omega) (by omega) (by omega) (Hz.mono (W' := (ty_Wxi 1)) (fun a k w => by unfold ty_Wxi at w; unfold ty_W2x; omega) (by unfold ty_Wxi ty_W2x; omega)) ⟨hM, rfl, rfl⟩ (fun h j => ⟨tp_imF (k := 1) (by decide) j.1 (tp_im j.1.1.1 (by decide)), j.2⟩)).mono (Nat.le_refl _) (fun h10 v q => ?_))
  obtain ⟨⟨Jh10, m1, m2⟩, z11, rfl, fz11⟩ := q
  refine ⟨by omega, by omega, ?_⟩
  have Ih10 := H.1 h10 Jh10
  have az11 := nm_lo z11
  have bz11 := nm_hi z11
  obtain ⟨⟨a1, a2⟩, ⟨b1, b2, b3⟩, ⟨c1, c2, c3⟩, ⟨d1, d2, d3⟩, k1, k2⟩ := hr
  obtain ⟨x0, x1, x2, x3, x4, x5, x6, x7, x8, x9, x10, x11, x12, x13, _⟩ := Jh5.2
  have x0 : (hs_fI h5 1 0).toInt = (hs_fI h 1 0).toInt := x0
  have x1 : (hs_fI h5 1 3).toInt = (hs_fI h 1 3).toInt := x1
  have x2 : (hs_fI h5 1 10).toInt = (hs_fI h 1 10).toInt := x2
  have x3 : (hs_fI h5 12 0).toInt = (hs_fI h 12 0).toInt := x3
  have x4 : (hs_fI h5 12 3).toInt = (hs_fI h 12 3).toInt := x4
  have x5 : (hs_fI h5 12 10).toInt = (hs_fI h 12 10).toInt := x5
  have x6 : (hs_fI h5 35 0).toInt = (hs_fI h 35 0).toInt := x6
  have x7 : (hs_fI h5 35 3).toInt = (hs_fI h 35 3).toInt := x7
  have x8 : (hs_fI h5 35 10).toInt = (hs_fI h 35 10).toInt := x8
  have x9 : (hs_aI h5 99 0).toInt = (hs_aI h 99 0).toInt := x9
  have x10 : (hs_aI h5 99 1).toInt = (hs_aI h 99 1).toInt := x10
  have x11 : (hs_aI h5 99 2).toInt = (hs_aI h 99 2).toInt := x11
  have x12 : hs_aI h5 100 = hs_aI h 100 := x12
  have x12_0 : (hs_aI h5 100 0).toInt = (hs_aI h 100 0).toInt := by rw [x12]
  have x12_1 : (hs_aI h5 100 1).toInt = (hs_aI h 100 1).toInt := by rw [x12]
  have x12_2 : (hs_aI h5 100 2).toInt = (hs_aI h 100 2).toInt := by rw [x12]
  have x12_5498 : (hs_aI h5 100 5498).toInt = (hs_aI h 100 5498).toInt := by rw [x12]
  have x12_5499 : (hs_aI h5 100 5499).toInt = (hs_aI h 100 5499).toInt := by rw [x12]
  have x12_5500 : (hs_aI h5 100 5500).toInt = (hs_aI h 100 5500).toInt := by rw [x12]
  have x13 : hs_aI h5 101 = hs_aI h 101 := x13
  have x13_0 : (hs_aI h5 101 0).toInt = (hs_aI h 101 0).toInt := by rw [x13]
  have x13_1 : (hs_aI h5 101 1).toInt = (hs_aI h 101 1).toInt := by rw [x13]
  obtain ⟨y0, y1, y2, y3, y4, y5, y6, y7, y8, y9, y10, y11, y12, y13, y14, y15, _⟩ := Jh10.2
  have y0 : (hs_fI h10 1 0).toInt = (hs_fI h5 1 0).toInt := y0
  have y1 : (hs_fI h10 1 3).toInt = (hs_fI h5 1 3).toInt := y1
  have y2 : (hs_fI h10 1 10).toInt = (hs_fI h5 1 10).toInt := y2
  have y3 : (hs_fI h10 12 0).toInt = (hs_fI h5 12 0).toInt := y3
  have y4 : (hs_fI h10 12 3).toInt = (hs_fI h5 12 3).toInt := y4
  have y5 : (hs_fI h10 12 10).toInt = (hs_fI h5 12 10).toInt := y5
  have y6 : (hs_fI h10 35 0).toInt = (hs_fI h5 35 0).toInt := y6
  have y7 : (hs_fI h10 35 3).toInt = (hs_fI h5 35 3).toInt := y7
  have y8 : (hs_fI h10 35 10).toInt = (hs_fI h5 35 10).toInt := y8
  have y9 : (hs_fI h10 46 0).toInt = (hs_fI h5 46 0).toInt := y9
  have y10 : (hs_fI h10 46 3).toInt = (hs_fI h5 46 3).toInt := y10
  have y11 : (hs_fI h10 46 10).toInt = (hs_fI h5 46 10).toInt := y11
  have y12 : (hs_aI h10 99 0).toInt = (hs_aI h5 99 0).toInt := y12
  have y13 : (hs_aI h10 99 1).toInt = (hs_aI h5 99 1).toInt := y13
  have y14 : (hs_aI h10 99 2).toInt = (hs_aI h5 99 2).toInt := y14
  have y15 : hs_aI h10 57 = hs_aI h5 57 := y15
  have y15_0 : (hs_aI h10 57 0).toInt = (hs_aI h5 57 0).toInt := by rw [y15]
  have y15_1 : (hs_aI h10 57 1).toInt = (hs_aI h5 57 1).toInt := by rw [y15]
  obtain ⟨u0, u1, u2, u3, u4, u5⟩ := fz6
  obtain ⟨v0, v1, v2, v3⟩ := fz11
  have w0 : (hs_aI h10 100 5498).toInt = (hs_aI h5 99 0).toInt := (congrArg Int32.toInt (congrFun v1 5498)).trans (congrArg Int32.toInt (va_in (by decide) (by decide)))
  have o0 : (hs_aI h10 100 0).toInt = (hs_aI h5 100 0).toInt := (congrArg Int32.toInt (congrFun v1 0)).trans (congrArg Int32.toInt (va_out (by decide)))
  have w1 : (hs_aI h10 100 5499).toInt = (hs_aI h5 99 1).toInt := (congrArg Int32.toInt (congrFun v1 5499)).trans (congrArg Int32.toInt (va_in (by decide) (by decide)))
  have o1 : (hs_aI h10 100 1).toInt = (hs_aI h5 100 1).toInt := (congrArg Int32.toInt (congrFun v1 1)).trans (congrArg Int32.toInt (va_out (by decide)))
  have w2 : (hs_aI h10 100 5500).toInt = (hs_aI h5 99 2).toInt := (congrArg Int32.toInt (congrFun v1 5500)).trans (congrArg Int32.toInt (va_in (by decide) (by decide)))
  have o2 : (hs_aI h10 100 2).toInt = (hs_aI h5 100 2).toInt := (congrArg Int32.toInt (congrFun v1 2)).trans (congrArg Int32.toInt (va_out (by decide)))
  clear v1
  refine hq_p rfl rfl ?_
  refine hq_p rfl rfl ?_
  exact K h10 (tq_1 Jh10.1.1 (Or.inl ⟨Jh10.1.2, ⟨by omega, by omega, by omega⟩, ⟨by omega, by omega, by omega⟩, ⟨by omega, by omega, by omega⟩, by omega, by omega⟩))
theorem tb_37a {X : pm_X} {d L n : Nat} {xs : Nat → Int32} {h : pm_H} {i0 : Int32} {Q : pm_H → Option Value → Prop} (hd : 120 ≤ d) (hX : ty_SX X) (hS : ∀ h, pm_arr X h (.retAddr 200) = some (0, L, .inl xs)) (hL : L ≤ 3072) (a0 : 0 ≤ i0.toInt) (b0 : i0.toInt + 6 ≤ L) {T : Int} (hJ0 : tp_T n T h) (hr : rl 1 12 h) (K : ∀ h1, tq_K (n + 1) h1 → hq_W X d 12 false (some .boolean) pm_cL (1205, [some (.retAddr 200), some (.ref 0), some (.ref 97), some (.int i0)], [], h1) Q) : hq_W X d 12 false (some .boolean) pm_cL (1123, [some (.retAddr 200), some (.ref 0), some (.ref 97), some (.int i0)], [], h) Q := by
  rcases (show (xs (i0.toInt.toNat + 1)).toInt ≤ -1 ∨ (xs (i0.toInt.toNat + 1)).toInt = 0 ∨ (xs (i0.toInt.toNat + 1)).toInt = 1 ∨ 2 ≤ (xs (i0.toInt.toNat + 1)).toInt by omega) with hx | hx | hx | hx
  · exact tb_37am hd hX hS hL a0 b0 hJ0 hr hx K
  · exact tb_37a0 hd hX hS hL a0 b0 hJ0 hr hx K
  · exact tb_37a1 hd hX hS hL a0 b0 hJ0 hr hx K
  · exact tb_37aq hd hX hS hL a0 b0 hJ0 hr hx K
set_option maxRecDepth 20000 in
set_option maxHeartbeats 4000000 in
theorem tb_37bm {X : pm_X} {d L n : Nat} {xs : Nat → Int32} {h : pm_H} {i0 : Int32} {Q : pm_H → Option Value → Prop} (hd : 120 ≤ d) (hX : ty_SX X) (hS : ∀ h, pm_arr X h (.retAddr 200) = some (0, L, .inl xs)) (hL : L ≤ 3072) (a0 : 0 ≤ i0.toInt) (b0 : i0.toInt + 6 ≤ L) {T : Int} (hJ0 : tp_T n T h) (hr : rl 12 1 h) (hx : (xs (i0.toInt.toNat + 1)).toInt ≤ -1) (K : ∀ h1, tq_K (n + 1) h1 → hq_W X d 12 false (some .boolean) pm_cL (1205, [some (.retAddr 200), some (.ref 0), some (.ref 97), some (.int i0)], [], h1) Q) : hq_W X d 12 false (some .boolean) pm_cL (1123, [some (.retAddr 200), some (.ref 0), some (.ref 97), some (.int i0)], [], h) Q := by
  have H := tp_Cn_12 12 1 n T h
  have hJ : tp_F [(0, 12, 0), (0, 12, 3), (0, 12, 10), (0, 35, 0), (0, 35, 3), (0, 35, 10), (0, 46, 0), (0, 46, 3), (0, 46, 10), (1, 99, 0), (1, 99, 1), (1, 99, 2), (3, 100, 0), (3, 57, 0), (3, 101, 0)] 12 1 n T h h := ⟨⟨hJ0, hr.1⟩, fr_refl h _⟩
  have I := H.1 h hJ
  refine hq_p rfl rfl ?_
  refine hq_p rfl rfl ?_
  refine hq_p rfl rfl ?_
  refine hq_p rfl rfl (ty_ge (n := 1) nk_i1 (fun z1 ez1 => ?_))
  refine hq_p rfl rfl (ty_ge (n := i0.toInt + z1.toInt) (nm_add (by omega) (by omega)) (fun z2 ez2 => ?_))
  refine hq_iald rfl (hS h) (hs_in (by omega) (by omega)) (ty_ge rfl (fun z3 ez3 => ?_))
  have az3 := nm_lo z3
  have bz3 := nm_hi z3
  have xz3 : z3.toInt ≤ -1 := by rw [ez3, show z2.toNatClampNeg = i0.toInt.toNat + 1 by rw [nm_nat]; omega]; exact hx
  clear ez3
  refine ty_callj 0 (W := (ty_W2n 12)) H hJ rfl (fun _ => rfl) rfl rfl rfl (hq_pre_o I.1 (x := 0) (ci := 10) rfl (by decide) rfl rfl rfl rfl) (fun a k w => by unfold ty_Wc at w; unfold ty_W2n; omega) (by unfold ty_Wc ty_W2n; omega) (ct_120m (x1 := z3) (by omega) (by omega) (by omega)) (fun h5 _ Jh5 P4 => ?_)
  have Ih5 := H.1 h5 Jh5
  obtain ⟨z6, rfl, fz6⟩ := P4
  refine hq_p rfl rfl ?_
  refine hq_p rfl rfl ?_
  refine hq_p rfl rfl ?_
  refine hq_p rfl rfl ?_
  refine hq_p rfl rfl (ty_ge (n := 1) nk_i1 (fun z7 ez7 => ?_))
  refine hq_p rfl rfl (ty_ge (n := i0.toInt + z7.toInt) (nm_add (by omega) (by omega)) (fun z8 ez8 => ?_))
  refine hq_iald rfl (hS h5) (hs_in (by omega) (by omega)) (ty_ge rfl (fun z9 ez9 => ?_))
  have az9 := nm_lo z9
  have bz9 := nm_hi z9
  have xz9 : z9.toInt ≤ -1 := by rw [ez9, show z8.toNatClampNeg = i0.toInt.toNat + 1 by rw [nm_nat]; omega]; exact hx
  clear ez9
  refine ty_callj 0 (W := (ty_W2n 12)) H Jh5 rfl (fun _ => rfl) rfl rfl rfl (hq_pre_o Ih5.1 (x := 97) (ci := 11) rfl (by decide) rfl rfl rfl rfl) (fun a k w => by unfold ty_Wx at w; unfold ty_W2n; omega) (by unfold ty_Wx ty_W2n; omega) (ct_147m (x1 := z9) (by omega) (by omega) (by omega)) (fun h11 _ Jh11 P10 => ?_)
  have Ih11 := H.1 h11 Jh11
  obtain ⟨z12, rfl, fz12⟩ := P10
  refine hq_p rfl rfl ?_
  refine hq_p rfl rfl ?_
  exact K h11 (tq_n12 hr Jh11)
set_option maxRecDepth 20000 in
set_option maxHeartbeats 4000000 in
theorem tb_37bq {X : pm_X} {d L n : Nat} {xs : Nat → Int32} {h : pm_H} {i0 : Int32} {Q : pm_H → Option Value → Prop} (hd : 120 ≤ d) (hX : ty_SX X) (hS : ∀ h, pm_arr X h (.retAddr 200) = some (0, L, .inl xs)) (hL : L ≤ 3072) (a0 : 0 ≤ i0.toInt) (b0 : i0.toInt + 6 ≤ L) {T : Int} (hJ0 : tp_T n T h) (hr : rl 12 1 h) (hx : 2 ≤ (xs (i0.toInt.toNat + 1)).toInt) (K : ∀ h1, tq_K (n + 1) h1 → hq_W X d 12 false (some .boolean) pm_cL (1205, [some (.retAddr 200), some (.ref 0), some (.ref 97), some (.int i0)], [], h1) Q) : hq_W X d 12 false (some .boolean) pm_cL (1123, [some (.retAddr 200), some (.ref 0), some (.ref 97), some (.int i0)], [], h) Q := by
  have H := tp_Cn_12 12 1 n T h
  have hJ : tp_F [(0, 12, 0), (0, 12, 3), (0, 12, 10), (0, 35, 0), (0, 35, 3), (0, 35, 10), (0, 46, 0), (0, 46, 3), (0, 46, 10), (1, 99, 0), (1, 99, 1), (1, 99, 2), (3, 100, 0), (3, 57, 0), (3, 101, 0)] 12 1 n T h h := ⟨⟨hJ0, hr.1⟩, fr_refl h _⟩
  have I := H.1 h hJ
  refine hq_p rfl rfl ?_
  refine hq_p rfl rfl ?_
  refine hq_p rfl rfl ?_
  refine hq_p rfl rfl (ty_ge (n := 1) nk_i1 (fun z1 ez1 => ?_))
  refine hq_p rfl rfl (ty_ge (n := i0.toInt + z1.toInt) (nm_add (by omega) (by omega)) (fun z2 ez2 => ?_))
  refine hq_iald rfl (hS h) (hs_in (by omega) (by omega)) (ty_ge rfl (fun z3 ez3 => ?_))
  have az3 := nm_lo z3
  have bz3 := nm_hi z3
  have xz3 : 2 ≤ z3.toInt := by rw [ez3, show z2.toNatClampNeg = i0.toInt.toNat + 1 by rw [nm_nat]; omega]; exact hx
  clear ez3
  refine ty_callj 0 (W := (ty_W2n 12)) H hJ rfl (fun _ => rfl) rfl rfl rfl (hq_pre_o I.1 (x := 0) (ci := 10) rfl (by decide) rfl rfl rfl rfl) (fun a k w => by unfold ty_Wc at w; unfold ty_W2n; omega) (by unfold ty_Wc ty_W2n; omega) (ct_120q (x1 := z3) (by omega) (by omega) (by omega)) (fun h5 _ Jh5 P4 => ?_)
  have Ih5 := H.1 h5 Jh5
  obtain ⟨z6, rfl, fz6⟩ := P4
  refine hq_p rfl rfl ?_
  refine hq_p rfl rfl ?_
  refine hq_p rfl rfl ?_
  refine hq_p rfl rfl ?_
  refine hq_p rfl rfl (ty_ge (n := 1) nk_i1 (fun z7 ez7 => ?_))
  refine hq_p rfl rfl (ty_ge (n := i0.toInt + z7.toInt) (nm_add (by omega) (by omega)) (fun z8 ez8 => ?_))
  refine hq_iald rfl (hS h5) (hs_in (by omega) (by omega)) (ty_ge rfl (fun z9 ez9 => ?_))
  have az9 := nm_lo z9
  have bz9 := nm_hi z9
  have xz9 : 2 ≤ z9.toInt := by rw [ez9, show z8.toNatClampNeg = i0.toInt.toNat + 1 by rw [nm_nat]; omega]; exact hx
  clear ez9
  refine ty_callj 0 (W := (ty_W2n 12)) H Jh5 rfl (fun _ => rfl) rfl rfl rfl (hq_pre_o Ih5.1 (x := 97) (ci := 11) rfl (by decide) rfl rfl rfl rfl) (fun a k w => by unfold ty_Wx at w; unfold ty_W2n; omega) (by unfold ty_Wx ty_W2n; omega) (ct_147q (x1 := z9) (by omega) (by omega) (by omega)) (fun h11 _ Jh11 P10 => ?_)
  have Ih11 := H.1 h11 Jh11
  obtain ⟨z12, rfl, fz12⟩ := P10
  refine hq_p rfl rfl ?_
  refine hq_p rfl rfl ?_
  exact K h11 (tq_n12 hr Jh11)
set_option maxRecDepth 20000 in
set_option maxHeartbeats 4000000 in
theorem tb_37b0 {X : pm_X} {d L n : Nat} {xs : Nat → Int32} {h : pm_H} {i0 : Int32} {Q : pm_H → Option Value → Prop} (hd : 120 ≤ d) (hX : ty_SX X) (hS : ∀ h, pm_arr X h (.retAddr 200) = some (0, L, .inl xs)) (hL : L ≤ 3072) (a0 : 0 ≤ i0.toInt) (b0 : i0.toInt + 6 ≤ L) {T : Int} (hJ0 : tp_T n T h) (hr : rl 12 1 h) (hx : (xs (i0.toInt.toNat + 1)).toInt = 0) (K : ∀ h1, tq_K (n + 1) h1 → hq_W X d 12 false (some .boolean) pm_cL (1205, [some (.retAddr 200), some (.ref 0), some (.ref 97), some (.int i0)], [], h1) Q) : hq_W X d 12 false (some .boolean) pm_cL (1123, [some (.retAddr 200), some (.ref 0), some (.ref 97), some (.int i0)], [], h) Q := by
  have H := tp_Ci_0 12 1 n T h
  have hJ : tp_F [(0, 1, 0), (0, 1, 3), (0, 1, 10), (0, 12, 0), (0, 12, 3), (0, 12, 10), (0, 46, 0), (0, 46, 3), (0, 46, 10), (1, 99, 0), (1, 99, 1), (1, 99, 2), (3, 100, 0), (3, 101, 0)] 12 1 n T h h := ⟨⟨hJ0, hr.1⟩, fr_refl h _⟩
  have I := H.1 h hJ
  refine hq_p rfl rfl ?_
  refine hq_p rfl rfl ?_
  refine hq_p rfl rfl ?_
  refine hq_p rfl rfl (ty_ge (n := 1) nk_i1 (fun z1 ez1 => ?_))
  refine hq_p rfl rfl (ty_ge (n := i0.toInt + z1.toInt) (nm_add (by omega) (by omega)) (fun z2 ez2 => ?_))
  refine hq_iald rfl (hS h) (hs_in (by omega) (by omega)) (ty_ge rfl (fun z3 ez3 => ?_))
  have az3 := nm_lo z3
  have bz3 := nm_hi z3
  have xz3 : z3.toInt = 0 := by rw [ez3, show z2.toNatClampNeg = i0.toInt.toNat + 1 by rw [nm_nat]; omega]; exact hx
  clear ez3
  refine ty_callj 0 (W := (ty_W2i 46 0)) H hJ rfl (fun _ => rfl) rfl rfl rfl (hq_pre_o I.1 (x := 0) (ci := 10) rfl (by decide) rfl rfl rfl rfl) (fun a k w => by unfold ty_Win at w; unfold ty_W2i; omega) (by unfold ty_Win ty_W2i; omega) (ct_120b0 (x1 := z3) (by omega) (by omega) (by omega) hJ.1.2.1 hJ.1.2.2) (fun h5 _ Jh5 P4 => ?_)
  have Ih5 := H.1 h5 Jh5
  obtain ⟨z6, rfl, fz6⟩ := P4
  have az6 := nm_lo z6
  have bz6 := nm_hi z6
  refine hq_p rfl rfl ?_
  have H := tp_Cx_0 12 1 n T h5
  have hM : tp_F [(0, 1, 0), (0, 1, 3), (0, 1, 10), (0, 12, 0), (0, 12, 3), (0, 12, 10), (0, 35, 0), (0, 35, 3), (0, 35, 10), (0, 46, 0), (0, 46, 3), (0, 46, 10), (1, 99, 0), (1, 99, 1), (1, 99, 2), (3, 57, 0)] 12 1 n T h5 h5 := ⟨Jh5.1, fr_refl _ _⟩
  refine hq_p rfl rfl ?_
  refine hq_p rfl rfl ?_
  refine hq_p rfl rfl ?_
  refine hq_p rfl rfl (ty_ge (n := 1) nk_i1 (fun z7 ez7 => ?_))
  refine hq_p rfl rfl (ty_ge (n := i0.toInt + z7.toInt) (nm_add (by omega) (by omega)) (fun z8 ez8 => ?_))
  refine hq_iald rfl (hS h5) (hs_in (by omega) (by omega)) (ty_ge rfl (fun z9 ez9 => ?_))
  have az9 := nm_lo z9
  have bz9 := nm_hi z9
  have xz9 : z9.toInt = 0 := by rw [ez9, show z8.toNatClampNeg = i0.toInt.toNat + 1 by rw [nm_nat]; omega]; exact hx
  clear ez9
  have Hz := H.zz h5.1 h5.2.1
  refine hq_inv 0 rfl (fun _ => rfl) rfl rfl rfl (hq_pre_o Ih5.1 (x := 97) (ci := 11) rfl (by decide) rfl rfl rfl rfl) ((ct_147i0 (x1 := z9) (by omega) (by omega) (by omega) (Hz.mono (W' := (ty_Wxi 0)) (fun a k w => by unfold ty_Wxi at w; unfold ty_W2x; omega) (by unfold ty_Wxi ty_W2x; omega)) ⟨hM, rfl, rfl⟩ (fun h j => ⟨tp_imF (k := 0) (by decide) j.1 (tp_im j.1.1.1 (by decide)), j.2⟩)).mono (Nat.le_refl _) (fun h10 v q => ?_))
  obtain ⟨⟨Jh10, m1, m2⟩, z11, rfl, fz11⟩ := q
  refine ⟨by omega, by omega, ?_⟩
  have Ih10 := H.1 h10 Jh10
  have az11 := nm_lo z11
  have bz11 := nm_hi z11
  obtain ⟨⟨a1, a2⟩, ⟨b1, b2, b3⟩, ⟨c1, c2, c3⟩, ⟨d1, d2, d3⟩, k1, k2⟩ := hr
  obtain ⟨x0, x1, x2, x3, x4, x5, x6, x7, x8, x9, x10, x11, x12, x13, _⟩ := Jh5.2
  have x0 : (hs_fI h5 1 0).toInt = (hs_fI h 1 0).toInt := x0
  have x1 : (hs_fI h5 1 3).toInt = (hs_fI h 1 3).toInt := x1
  have x2 : (hs_fI h5 1 10).toInt = (hs_fI h 1 10).toInt := x2
  have x3 : (hs_fI h5 12 0).toInt = (hs_fI h 12 0).toInt := x3
  have x4 : (hs_fI h5 12 3).toInt = (hs_fI h 12 3).toInt := x4
  have x5 : (hs_fI h5 12 10).toInt = (hs_fI h 12 10).toInt := x5
  have x6 : (hs_fI h5 46 0).toInt = (hs_fI h 46 0).toInt := x6
  have x7 : (hs_fI h5 46 3).toInt = (hs_fI h 46 3).toInt := x7
  have x8 : (hs_fI h5 46 10).toInt = (hs_fI h 46 10).toInt := x8
  have x9 : (hs_aI h5 99 0).toInt = (hs_aI h 99 0).toInt := x9
  have x10 : (hs_aI h5 99 1).toInt = (hs_aI h 99 1).toInt := x10
  have x11 : (hs_aI h5 99 2).toInt = (hs_aI h 99 2).toInt := x11
  have x12 : hs_aI h5 100 = hs_aI h 100 := x12
  have x12_0 : (hs_aI h5 100 0).toInt = (hs_aI h 100 0).toInt := by rw [x12]
  have x12_1 : (hs_aI h5 100 1).toInt = (hs_aI h 100 1).toInt := by rw [x12]
  have x12_2 : (hs_aI h5 100 2).toInt = (hs_aI h 100 2).toInt := by rw [x12]
  have x12_5498 : (hs_aI h5 100 5498).toInt = (hs_aI h 100 5498).toInt := by rw [x12]
  have x12_5499 : (hs_aI h5 100 5499).toInt = (hs_aI h 100 5499).toInt := by rw [x12]
  have x12_5500 : (hs_aI h5 100 5500).toInt = (hs_aI h 100 5500).toInt := by rw [x12]
  have x13 : hs_aI h5 101 = hs_aI h 101 := x13
  have x13_0 : (hs_aI h5 101 0).toInt = (hs_aI h 101 0).toInt := by rw [x13]
  have x13_1 : (hs_aI h5 101 1).toInt = (hs_aI h 101 1).toInt := by rw [x13]
  obtain ⟨y0, y1, y2, y3, y4, y5, y6, y7, y8, y9, y10, y11, y12, y13, y14, y15, _⟩ := Jh10.2
  have y0 : (hs_fI h10 1 0).toInt = (hs_fI h5 1 0).toInt := y0
  have y1 : (hs_fI h10 1 3).toInt = (hs_fI h5 1 3).toInt := y1
  have y2 : (hs_fI h10 1 10).toInt = (hs_fI h5 1 10).toInt := y2
  have y3 : (hs_fI h10 12 0).toInt = (hs_fI h5 12 0).toInt := y3
  have y4 : (hs_fI h10 12 3).toInt = (hs_fI h5 12 3).toInt := y4
  have y5 : (hs_fI h10 12 10).toInt = (hs_fI h5 12 10).toInt := y5
  have y6 : (hs_fI h10 35 0).toInt = (hs_fI h5 35 0).toInt := y6
  have y7 : (hs_fI h10 35 3).toInt = (hs_fI h5 35 3).toInt := y7
  have y8 : (hs_fI h10 35 10).toInt = (hs_fI h5 35 10).toInt := y8
  have y9 : (hs_fI h10 46 0).toInt = (hs_fI h5 46 0).toInt := y9
  have y10 : (hs_fI h10 46 3).toInt = (hs_fI h5 46 3).toInt := y10
  have y11 : (hs_fI h10 46 10).toInt = (hs_fI h5 46 10).toInt := y11
  have y12 : (hs_aI h10 99 0).toInt = (hs_aI h5 99 0).toInt := y12
  have y13 : (hs_aI h10 99 1).toInt = (hs_aI h5 99 1).toInt := y13
  have y14 : (hs_aI h10 99 2).toInt = (hs_aI h5 99 2).toInt := y14
  have y15 : hs_aI h10 57 = hs_aI h5 57 := y15
  have y15_0 : (hs_aI h10 57 0).toInt = (hs_aI h5 57 0).toInt := by rw [y15]
  have y15_1 : (hs_aI h10 57 1).toInt = (hs_aI h5 57 1).toInt := by rw [y15]
  obtain ⟨u0, u1, u2, u3, u4, u5⟩ := fz6
  obtain ⟨v0, v1, v2, v3⟩ := fz11
  have w0 : (hs_aI h10 100 0).toInt = (hs_aI h5 99 0).toInt := (congrArg Int32.toInt (congrFun v1 0)).trans (congrArg Int32.toInt (va_in (by decide) (by decide)))
  have o0 : (hs_aI h10 100 5498).toInt = (hs_aI h5 100 5498).toInt := (congrArg Int32.toInt (congrFun v1 5498)).trans (congrArg Int32.toInt (va_out (by decide)))
  have w1 : (hs_aI h10 100 1).toInt = (hs_aI h5 99 1).toInt := (congrArg Int32.toInt (congrFun v1 1)).trans (congrArg Int32.toInt (va_in (by decide) (by decide)))
  have o1 : (hs_aI h10 100 5499).toInt = (hs_aI h5 100 5499).toInt := (congrArg Int32.toInt (congrFun v1 5499)).trans (congrArg Int32.toInt (va_out (by decide)))
  have w2 : (hs_aI h10 100 2).toInt = (hs_aI h5 99 2).toInt := (congrArg Int32.toInt (congrFun v1 2)).trans (congrArg Int32.toInt (va_in (by decide) (by decide)))
  have o2 : (hs_aI h10 100 5500).toInt = (hs_aI h5 100 5500).toInt := (congrArg Int32.toInt (congrFun v1 5500)).trans (congrArg Int32.toInt (va_out (by decide)))
  clear v1
  refine hq_p rfl rfl ?_
  refine hq_p rfl rfl ?_
  exact K h10 (tq_1 Jh10.1.1 (Or.inr ⟨Jh10.1.2, ⟨by omega, by omega, by omega⟩, ⟨by omega, by omega, by omega⟩, ⟨by omega, by omega, by omega⟩, by omega, by omega⟩))
set_option maxRecDepth 20000 in
set_option maxHeartbeats 4000000 in
theorem tb_37b1 {X : pm_X} {d L n : Nat} {xs : Nat → Int32} {h : pm_H} {i0 : Int32} {Q : pm_H → Option Value → Prop} (hd : 120 ≤ d) (hX : ty_SX X) (hS : ∀ h, pm_arr X h (.retAddr 200) = some (0, L, .inl xs)) (hL : L ≤ 3072) (a0 : 0 ≤ i0.toInt) (b0 : i0.toInt + 6 ≤ L) {T : Int} (hJ0 : tp_T n T h) (hr : rl 12 1 h) (hx : (xs (i0.toInt.toNat + 1)).toInt = 1) (K : ∀ h1, tq_K (n + 1) h1 → hq_W X d 12 false (some .boolean) pm_cL (1205, [some (.retAddr 200), some (.ref 0), some (.ref 97), some (.int i0)], [], h1) Q) : hq_W X d 12 false (some .boolean) pm_cL (1123, [some (.retAddr 200), some (.ref 0), some (.ref 97), some (.int i0)], [], h) Q := by
  have H := tp_Ci_1 12 1 n T h
  have hJ : tp_F [(0, 1, 0), (0, 1, 3), (0, 1, 10), (0, 12, 0), (0, 12, 3), (0, 12, 10), (0, 35, 0), (0, 35, 3), (0, 35, 10), (1, 99, 0), (1, 99, 1), (1, 99, 2), (3, 100, 0), (3, 101, 0)] 12 1 n T h h := ⟨⟨hJ0, hr.1⟩, fr_refl h _⟩
  have I := H.1 h hJ
  refine hq_p rfl rfl ?_
  refine hq_p rfl rfl ?_
  refine hq_p rfl rfl ?_
  refine hq_p rfl rfl (ty_ge (n := 1) nk_i1 (fun z1 ez1 => ?_))
  refine hq_p rfl rfl (ty_ge (n := i0.toInt + z1.toInt) (nm_add (by omega) (by omega)) (fun z2 ez2 => ?_))
  refine hq_iald rfl (hS h) (hs_in (by omega) (by omega)) (ty_ge rfl (fun z3 ez3 => ?_))
  have az3 := nm_lo z3
  have bz3 := nm_hi z3
  have xz3 : z3.toInt = 1 := by rw [ez3, show z2.toNatClampNeg = i0.toInt.toNat + 1 by rw [nm_nat]; omega]; exact hx
  clear ez3
  refine ty_callj 0 (W := (ty_W2i 35 1)) H hJ rfl (fun _ => rfl) rfl rfl rfl (hq_pre_o I.1 (x := 0) (ci := 10) rfl (by decide) rfl rfl rfl rfl) (fun a k w => by unfold ty_Win at w; unfold ty_W2i; omega) (by unfold ty_Win ty_W2i; omega) (ct_120b1 (x1 := z3) (by omega) (by omega) (by omega) hJ.1.2.1 hJ.1.2.2) (fun h5 _ Jh5 P4 => ?_)
  have Ih5 := H.1 h5 Jh5
  obtain ⟨z6, rfl, fz6⟩ := P4
  have az6 := nm_lo z6
  have bz6 := nm_hi z6
  refine hq_p rfl rfl ?_
  have H := tp_Cx_1 12 1 n T h5
  have hM : tp_F [(0, 1, 0), (0, 1, 3), (0, 1, 10), (0, 12, 0), (0, 12, 3), (0, 12, 10), (0, 35, 0), (0, 35, 3), (0, 35, 10), (0, 46, 0), (0, 46, 3), (0, 46, 10), (1, 99, 0), (1, 99, 1), (1, 99, 2), (3, 57, 0)] 12 1 n T h5 h5 := ⟨Jh5.1, fr_refl _ _⟩
  refine hq_p rfl rfl ?_
  refine hq_p rfl rfl ?_
  refine hq_p rfl rfl ?_
  refine hq_p rfl rfl (ty_ge (n := 1) nk_i1 (fun z7 ez7 => ?_))
  refine hq_p rfl rfl (ty_ge (n := i0.toInt + z7.toInt) (nm_add (by omega) (by omega)) (fun z8 ez8 => ?_))
  refine hq_iald rfl (hS h5) (hs_in (by omega) (by omega)) (ty_ge rfl (fun z9 ez9 => ?_))
  have az9 := nm_lo z9
  have bz9 := nm_hi z9
  have xz9 : z9.toInt = 1 := by rw [ez9, show z8.toNatClampNeg = i0.toInt.toNat + 1 by rw [nm_nat]; omega]; exact hx
  clear ez9
  have Hz := H.zz h5.1 h5.2.1
  refine hq_inv 0 rfl (fun _ => rfl) rfl rfl rfl (hq_pre_o Ih5.1 (x := 97) (ci := 11) rfl (by decide) rfl rfl rfl rfl) ((ct_147i1 (x1 := z9) (by omega) (by omega) (by omega) (Hz.mono (W' := (ty_Wxi 1)) (fun a k w => by unfold ty_Wxi at w; unfold ty_W2x; omega) (by unfold ty_Wxi ty_W2x; omega)) ⟨hM, rfl, rfl⟩ (fun h j => ⟨tp_imF (k := 1) (by decide) j.1 (tp_im j.1.1.1 (by decide)), j.2⟩)).mono (Nat.le_refl _) (fun h10 v q => ?_))
  obtain ⟨⟨Jh10, m1, m2⟩, z11, rfl, fz11⟩ := q
  refine ⟨by omega, by omega, ?_⟩
  have Ih10 := H.1 h10 Jh10
  have az11 := nm_lo z11
  have bz11 := nm_hi z11
  obtain ⟨⟨a1, a2⟩, ⟨b1, b2, b3⟩, ⟨c1, c2, c3⟩, ⟨d1, d2, d3⟩, k1, k2⟩ := hr
  obtain ⟨x0, x1, x2, x3, x4, x5, x6, x7, x8, x9, x10, x11, x12, x13, _⟩ := Jh5.2
  have x0 : (hs_fI h5 1 0).toInt = (hs_fI h 1 0).toInt := x0
  have x1 : (hs_fI h5 1 3).toInt = (hs_fI h 1 3).toInt := x1
  have x2 : (hs_fI h5 1 10).toInt = (hs_fI h 1 10).toInt := x2
  have x3 : (hs_fI h5 12 0).toInt = (hs_fI h 12 0).toInt := x3
  have x4 : (hs_fI h5 12 3).toInt = (hs_fI h 12 3).toInt := x4
  have x5 : (hs_fI h5 12 10).toInt = (hs_fI h 12 10).toInt := x5
  have x6 : (hs_fI h5 35 0).toInt = (hs_fI h 35 0).toInt := x6
  have x7 : (hs_fI h5 35 3).toInt = (hs_fI h 35 3).toInt := x7
  have x8 : (hs_fI h5 35 10).toInt = (hs_fI h 35 10).toInt := x8
  have x9 : (hs_aI h5 99 0).toInt = (hs_aI h 99 0).toInt := x9
  have x10 : (hs_aI h5 99 1).toInt = (hs_aI h 99 1).toInt := x10
  have x11 : (hs_aI h5 99 2).toInt = (hs_aI h 99 2).toInt := x11
  have x12 : hs_aI h5 100 = hs_aI h 100 := x12
  have x12_0 : (hs_aI h5 100 0).toInt = (hs_aI h 100 0).toInt := by rw [x12]
  have x12_1 : (hs_aI h5 100 1).toInt = (hs_aI h 100 1).toInt := by rw [x12]
  have x12_2 : (hs_aI h5 100 2).toInt = (hs_aI h 100 2).toInt := by rw [x12]
  have x12_5498 : (hs_aI h5 100 5498).toInt = (hs_aI h 100 5498).toInt := by rw [x12]
  have x12_5499 : (hs_aI h5 100 5499).toInt = (hs_aI h 100 5499).toInt := by rw [x12]
  have x12_5500 : (hs_aI h5 100 5500).toInt = (hs_aI h 100 5500).toInt := by rw [x12]
  have x13 : hs_aI h5 101 = hs_aI h 101 := x13
  have x13_0 : (hs_aI h5 101 0).toInt = (hs_aI h 101 0).toInt := by rw [x13]
  have x13_1 : (hs_aI h5 101 1).toInt = (hs_aI h 101 1).toInt := by rw [x13]
  obtain ⟨y0, y1, y2, y3, y4, y5, y6, y7, y8, y9, y10, y11, y12, y13, y14, y15, _⟩ := Jh10.2
  have y0 : (hs_fI h10 1 0).toInt = (hs_fI h5 1 0).toInt := y0
  have y1 : (hs_fI h10 1 3).toInt = (hs_fI h5 1 3).toInt := y1
  have y2 : (hs_fI h10 1 10).toInt = (hs_fI h5 1 10).toInt := y2
  have y3 : (hs_fI h10 12 0).toInt = (hs_fI h5 12 0).toInt := y3
  have y4 : (hs_fI h10 12 3).toInt = (hs_fI h5 12 3).toInt := y4
  have y5 : (hs_fI h10 12 10).toInt = (hs_fI h5 12 10).toInt := y5
  have y6 : (hs_fI h10 35 0).toInt = (hs_fI h5 35 0).toInt := y6
  have y7 : (hs_fI h10 35 3).toInt = (hs_fI h5 35 3).toInt := y7
  have y8 : (hs_fI h10 35 10).toInt = (hs_fI h5 35 10).toInt := y8
  have y9 : (hs_fI h10 46 0).toInt = (hs_fI h5 46 0).toInt := y9
  have y10 : (hs_fI h10 46 3).toInt = (hs_fI h5 46 3).toInt := y10
  have y11 : (hs_fI h10 46 10).toInt = (hs_fI h5 46 10).toInt := y11
  have y12 : (hs_aI h10 99 0).toInt = (hs_aI h5 99 0).toInt := y12
  have y13 : (hs_aI h10 99 1).toInt = (hs_aI h5 99 1).toInt := y13
  have y14 : (hs_aI h10 99 2).toInt = (hs_aI h5 99 2).toInt := y14
  have y15 : hs_aI h10 57 = hs_aI h5 57 := y15
  have y15_0 : (hs_aI h10 57 0).toInt = (hs_aI h5 57 0).toInt := by rw [y15]
  have y15_1 : (hs_aI h10 57 1).toInt = (hs_aI h5 57 1).toInt := by rw [y15]
  obtain ⟨u0, u1, u2, u3, u4, u5⟩ := fz6
  obtain ⟨v0, v1, v2, v3⟩ := fz11
  have w0 : (hs_aI h10 100 5498).toInt = (hs_aI h5 99 0).toInt := (congrArg Int32.toInt (congrFun v1 5498)).trans (congrArg Int32.toInt (va_in (by decide) (by decide)))
  have o0 : (hs_aI h10 100 0).toInt = (hs_aI h5 100 0).toInt := (congrArg Int32.toInt (congrFun v1 0)).trans (congrArg Int32.toInt (va_out (by decide)))
  have w1 : (hs_aI h10 100 5499).toInt = (hs_aI h5 99 1).toInt := (congrArg Int32.toInt (congrFun v1 5499)).trans (congrArg Int32.toInt (va_in (by decide) (by decide)))
  have o1 : (hs_aI h10 100 1).toInt = (hs_aI h5 100 1).toInt := (congrArg Int32.toInt (congrFun v1 1)).trans (congrArg Int32.toInt (va_out (by decide)))
  have w2 : (hs_aI h10 100 5500).toInt = (hs_aI h5 99 2).toInt := (congrArg Int32.toInt (congrFun v1 5500)).trans (congrArg Int32.toInt (va_in (by decide) (by decide)))
  have o2 : (hs_aI h10 100 2).toInt = (hs_aI h5 100 2).toInt := (congrArg Int32.toInt (congrFun v1 2)).trans (congrArg Int32.toInt (va_out (by decide)))
  clear v1
  refine hq_p rfl rfl ?_
  refine hq_p rfl rfl ?_
  exact K h10 (tq_1 Jh10.1.1 (Or.inr ⟨Jh10.1.2, ⟨by omega, by omega, by omega⟩, ⟨by omega, by omega, by omega⟩, ⟨by omega, by omega, by omega⟩, by omega, by omega⟩))
theorem tb_37b {X : pm_X} {d L n : Nat} {xs : Nat → Int32} {h : pm_H} {i0 : Int32} {Q : pm_H → Option Value → Prop} (hd : 120 ≤ d) (hX : ty_SX X) (hS : ∀ h, pm_arr X h (.retAddr 200) = some (0, L, .inl xs)) (hL : L ≤ 3072) (a0 : 0 ≤ i0.toInt) (b0 : i0.toInt + 6 ≤ L) {T : Int} (hJ0 : tp_T n T h) (hr : rl 12 1 h) (K : ∀ h1, tq_K (n + 1) h1 → hq_W X d 12 false (some .boolean) pm_cL (1205, [some (.retAddr 200), some (.ref 0), some (.ref 97), some (.int i0)], [], h1) Q) : hq_W X d 12 false (some .boolean) pm_cL (1123, [some (.retAddr 200), some (.ref 0), some (.ref 97), some (.int i0)], [], h) Q := by
  rcases (show (xs (i0.toInt.toNat + 1)).toInt ≤ -1 ∨ (xs (i0.toInt.toNat + 1)).toInt = 0 ∨ (xs (i0.toInt.toNat + 1)).toInt = 1 ∨ 2 ≤ (xs (i0.toInt.toNat + 1)).toInt by omega) with hx | hx | hx | hx
  · exact tb_37bm hd hX hS hL a0 b0 hJ0 hr hx K
  · exact tb_37b0 hd hX hS hL a0 b0 hJ0 hr hx K
  · exact tb_37b1 hd hX hS hL a0 b0 hJ0 hr hx K
  · exact tb_37bq hd hX hS hL a0 b0 hJ0 hr hx K
theorem tb_37 {X : pm_X} {d L n : Nat} {xs : Nat → Int32} {h : pm_H} {i0 : Int32} {Q : pm_H → Option Value → Prop} (hd : 120 ≤ d) (hX : ty_SX X) (hS : ∀ h, pm_arr X h (.retAddr 200) = some (0, L, .inl xs)) (hL : L ≤ 3072) (a0 : 0 ≤ i0.toInt) (b0 : i0.toInt + 6 ≤ L) (hK : tq_K n h) (K : ∀ h1, tq_K (n + 1) h1 → hq_W X d 12 false (some .boolean) pm_cL (1205, [some (.retAddr 200), some (.ref 0), some (.ref 97), some (.int i0)], [], h1) Q) : hq_W X d 12 false (some .boolean) pm_cL (1123, [some (.retAddr 200), some (.ref 0), some (.ref 97), some (.int i0)], [], h) Q := by
  obtain ⟨T, hJ0, hr⟩ := hK
  rcases hr with hr | hr
  · exact tb_37a hd hX hS hL a0 b0 hJ0 hr K
  · exact tb_37b hd hX hS hL a0 b0 hJ0 hr K
set_option maxRecDepth 20000 in
set_option maxHeartbeats 4000000 in
theorem tb_38am {X : pm_X} {d L n : Nat} {xs : Nat → Int32} {h : pm_H} {i0 : Int32} {Q : pm_H → Option Value → Prop} (hd : 120 ≤ d) (hX : ty_SX X) (hS : ∀ h, pm_arr X h (.retAddr 200) = some (0, L, .inl xs)) (hL : L ≤ 3072) (a0 : 0 ≤ i0.toInt) (b0 : i0.toInt + 6 ≤ L) {T : Int} (hJ0 : tp_T n T h) (hr : rl 1 12 h) (hx : (xs (i0.toInt.toNat + 1)).toInt ≤ -1) (K : ∀ h1, tq_K (n + 1) h1 → hq_W X d 12 false (some .boolean) pm_cL (1205, [some (.retAddr 200), some (.ref 0), some (.ref 97), some (.int i0)], [], h1) Q) : hq_W X d 12 false (some .boolean) pm_cL (1146, [some (.retAddr 200), some (.ref 0), some (.ref 97), some (.int i0)], [], h) Q := by
  have H := tp_Cn_1 1 12 n T h
  have hJ : tp_F [(0, 1, 0), (0, 1, 3), (0, 1, 10), (0, 35, 0), (0, 35, 3), (0, 35, 10), (0, 46, 0), (0, 46, 3), (0, 46, 10), (1, 99, 0), (1, 99, 1), (1, 99, 2), (3, 100, 0), (3, 57, 0), (3, 101, 0)] 1 12 n T h h := ⟨⟨hJ0, hr.1⟩, fr_refl h _⟩
  have I := H.1 h hJ
  refine hq_p rfl rfl ?_
  refine hq_p rfl rfl ?_
  refine hq_p rfl rfl ?_
  refine hq_p rfl rfl (ty_ge (n := 1) nk_i1 (fun z1 ez1 => ?_))
  refine hq_p rfl rfl (ty_ge (n := i0.toInt + z1.toInt) (nm_add (by omega) (by omega)) (fun z2 ez2 => ?_))
  refine hq_iald rfl (hS h) (hs_in (by omega) (by omega)) (ty_ge rfl (fun z3 ez3 => ?_))
  have az3 := nm_lo z3
  have bz3 := nm_hi z3
  have xz3 : z3.toInt ≤ -1 := by rw [ez3, show z2.toNatClampNeg = i0.toInt.toNat + 1 by rw [nm_nat]; omega]; exact hx
  clear ez3
  refine ty_callj 0 (W := (ty_W2n 1)) H hJ rfl (fun _ => rfl) rfl rfl rfl (hq_pre_o I.1 (x := 0) (ci := 10) rfl (by decide) rfl rfl rfl rfl) (fun a k w => by unfold ty_Wc at w; unfold ty_W2n; omega) (by unfold ty_Wc ty_W2n; omega) (ct_121m (x1 := z3) (by omega) (by omega) (by omega)) (fun h5 _ Jh5 P4 => ?_)
  have Ih5 := H.1 h5 Jh5
  obtain ⟨z6, rfl, fz6⟩ := P4
  refine hq_p rfl rfl ?_
  refine hq_p rfl rfl ?_
  refine hq_p rfl rfl ?_
  refine hq_p rfl rfl (ty_ge (n := 1) nk_i1 (fun z7 ez7 => ?_))
  refine hq_p rfl rfl (ty_ge (n := i0.toInt + z7.toInt) (nm_add (by omega) (by omega)) (fun z8 ez8 => ?_))
  refine hq_iald rfl (hS h5) (hs_in (by omega) (by omega)) (ty_ge rfl (fun z9 ez9 => ?_))
  have az9 := nm_lo z9
  have bz9 := nm_hi z9
  have xz9 : z9.toInt ≤ -1 := by rw [ez9, show z8.toNatClampNeg = i0.toInt.toNat + 1 by rw [nm_nat]; omega]; exact hx
  clear ez9
  refine ty_callj 0 (W := (ty_W2n 1)) H Jh5 rfl (fun _ => rfl) rfl rfl rfl (hq_pre_o Ih5.1 (x := 97) (ci := 11) rfl (by decide) rfl rfl rfl rfl) (fun a k w => by unfold ty_Wx at w; unfold ty_W2n; omega) (by unfold ty_Wx ty_W2n; omega) (ct_148m (x1 := z9) (by omega) (by omega) (by omega)) (fun h11 _ Jh11 P10 => ?_)
  have Ih11 := H.1 h11 Jh11
  obtain ⟨z12, rfl, fz12⟩ := P10
  refine ty_ieq rfl (fun c13 => ?_) (fun c13 => ?_)
  · exact K h11 (tq_n1 hr Jh11)
  · exfalso; omega
set_option maxRecDepth 20000 in
set_option maxHeartbeats 4000000 in
theorem tb_38aq {X : pm_X} {d L n : Nat} {xs : Nat → Int32} {h : pm_H} {i0 : Int32} {Q : pm_H → Option Value → Prop} (hd : 120 ≤ d) (hX : ty_SX X) (hS : ∀ h, pm_arr X h (.retAddr 200) = some (0, L, .inl xs)) (hL : L ≤ 3072) (a0 : 0 ≤ i0.toInt) (b0 : i0.toInt + 6 ≤ L) {T : Int} (hJ0 : tp_T n T h) (hr : rl 1 12 h) (hx : 2 ≤ (xs (i0.toInt.toNat + 1)).toInt) (K : ∀ h1, tq_K (n + 1) h1 → hq_W X d 12 false (some .boolean) pm_cL (1205, [some (.retAddr 200), some (.ref 0), some (.ref 97), some (.int i0)], [], h1) Q) : hq_W X d 12 false (some .boolean) pm_cL (1146, [some (.retAddr 200), some (.ref 0), some (.ref 97), some (.int i0)], [], h) Q := by
  have H := tp_Cn_1 1 12 n T h
  have hJ : tp_F [(0, 1, 0), (0, 1, 3), (0, 1, 10), (0, 35, 0), (0, 35, 3), (0, 35, 10), (0, 46, 0), (0, 46, 3), (0, 46, 10), (1, 99, 0), (1, 99, 1), (1, 99, 2), (3, 100, 0), (3, 57, 0), (3, 101, 0)] 1 12 n T h h := ⟨⟨hJ0, hr.1⟩, fr_refl h _⟩
  have I := H.1 h hJ
  refine hq_p rfl rfl ?_
  refine hq_p rfl rfl ?_
  refine hq_p rfl rfl ?_
  refine hq_p rfl rfl (ty_ge (n := 1) nk_i1 (fun z1 ez1 => ?_))
  refine hq_p rfl rfl (ty_ge (n := i0.toInt + z1.toInt) (nm_add (by omega) (by omega)) (fun z2 ez2 => ?_))
  refine hq_iald rfl (hS h) (hs_in (by omega) (by omega)) (ty_ge rfl (fun z3 ez3 => ?_))
  have az3 := nm_lo z3
  have bz3 := nm_hi z3
  have xz3 : 2 ≤ z3.toInt := by rw [ez3, show z2.toNatClampNeg = i0.toInt.toNat + 1 by rw [nm_nat]; omega]; exact hx
  clear ez3
  refine ty_callj 0 (W := (ty_W2n 1)) H hJ rfl (fun _ => rfl) rfl rfl rfl (hq_pre_o I.1 (x := 0) (ci := 10) rfl (by decide) rfl rfl rfl rfl) (fun a k w => by unfold ty_Wc at w; unfold ty_W2n; omega) (by unfold ty_Wc ty_W2n; omega) (ct_121q (x1 := z3) (by omega) (by omega) (by omega)) (fun h5 _ Jh5 P4 => ?_)
  have Ih5 := H.1 h5 Jh5
  obtain ⟨z6, rfl, fz6⟩ := P4
  refine hq_p rfl rfl ?_
  refine hq_p rfl rfl ?_
  refine hq_p rfl rfl ?_
  refine hq_p rfl rfl (ty_ge (n := 1) nk_i1 (fun z7 ez7 => ?_))
  refine hq_p rfl rfl (ty_ge (n := i0.toInt + z7.toInt) (nm_add (by omega) (by omega)) (fun z8 ez8 => ?_))
  refine hq_iald rfl (hS h5) (hs_in (by omega) (by omega)) (ty_ge rfl (fun z9 ez9 => ?_))
  have az9 := nm_lo z9
  have bz9 := nm_hi z9
  have xz9 : 2 ≤ z9.toInt := by rw [ez9, show z8.toNatClampNeg = i0.toInt.toNat + 1 by rw [nm_nat]; omega]; exact hx
  clear ez9
  refine ty_callj 0 (W := (ty_W2n 1)) H Jh5 rfl (fun _ => rfl) rfl rfl rfl (hq_pre_o Ih5.1 (x := 97) (ci := 11) rfl (by decide) rfl rfl rfl rfl) (fun a k w => by unfold ty_Wx at w; unfold ty_W2n; omega) (by unfold ty_Wx ty_W2n; omega) (ct_148q (x1 := z9) (by omega) (by omega) (by omega)) (fun h11 _ Jh11 P10 => ?_)
  have Ih11 := H.1 h11 Jh11
  obtain ⟨z12, rfl, fz12⟩ := P10
  refine ty_ieq rfl (fun c13 => ?_) (fun c13 => ?_)
  · exact K h11 (tq_n1 hr Jh11)
  · exfalso; omega
set_option maxRecDepth 20000 in
set_option maxHeartbeats 4000000 in
theorem tb_38a0 {X : pm_X} {d L n : Nat} {xs : Nat → Int32} {h : pm_H} {i0 : Int32} {Q : pm_H → Option Value → Prop} (hd : 120 ≤ d) (hX : ty_SX X) (hS : ∀ h, pm_arr X h (.retAddr 200) = some (0, L, .inl xs)) (hL : L ≤ 3072) (a0 : 0 ≤ i0.toInt) (b0 : i0.toInt + 6 ≤ L) {T : Int} (hJ0 : tp_T n T h) (hr : rl 1 12 h) (hx : (xs (i0.toInt.toNat + 1)).toInt = 0) (K : ∀ h1, tq_K (n + 1) h1 → hq_W X d 12 false (some .boolean) pm_cL (1205, [some (.retAddr 200), some (.ref 0), some (.ref 97), some (.int i0)], [], h1) Q) : hq_W X d 12 false (some .boolean) pm_cL (1146, [some (.retAddr 200), some (.ref 0), some (.ref 97), some (.int i0)], [], h) Q := by
  have H := tp_Ck 1 12 n T h
  have hJ : tp_F [(0, 35, 0), (0, 35, 3), (0, 35, 10), (0, 46, 0), (0, 46, 3), (0, 46, 10), (1, 99, 0), (1, 99, 1), (1, 99, 2), (3, 100, 0), (3, 57, 0), (3, 101, 0)] 1 12 n T h h := ⟨⟨hJ0, hr.1⟩, fr_refl h _⟩
  have I := H.1 h hJ
  refine hq_p rfl rfl ?_
  refine hq_p rfl rfl ?_
  refine hq_p rfl rfl ?_
  refine hq_p rfl rfl (ty_ge (n := 1) nk_i1 (fun z1 ez1 => ?_))
  refine hq_p rfl rfl (ty_ge (n := i0.toInt + z1.toInt) (nm_add (by omega) (by omega)) (fun z2 ez2 => ?_))
  refine hq_iald rfl (hS h) (hs_in (by omega) (by omega)) (ty_ge rfl (fun z3 ez3 => ?_))
  have az3 := nm_lo z3
  have bz3 := nm_hi z3
  have xz3 : z3.toInt = 0 := by rw [ez3, show z2.toNatClampNeg = i0.toInt.toNat + 1 by rw [nm_nat]; omega]; exact hx
  clear ez3
  refine ty_callj 0 (W := ty_W2k) H hJ rfl (fun _ => rfl) rfl rfl rfl (hq_pre_o I.1 (x := 0) (ci := 10) rfl (by decide) rfl rfl rfl rfl) (fun a k w => by unfold ty_Wbn at w; unfold ty_W2k; omega) (by unfold ty_Wbn ty_W2k; omega) (ct_121a0 (x1 := z3) (by omega) (by omega) (by omega) hJ.1.2.1 hJ.1.2.2) (fun h5 _ Jh5 P4 => ?_)
  have Ih5 := H.1 h5 Jh5
  obtain ⟨z6, rfl, fz6⟩ := P4
  have az6 := nm_lo z6
  have bz6 := nm_hi z6
  have H := tp_Cv 1 12 n T h5
  have hM : tp_F [(0, 1, 0), (0, 1, 3), (0, 1, 10), (0, 12, 0), (0, 12, 3), (0, 12, 10), (0, 35, 0), (0, 35, 3), (0, 35, 10), (0, 46, 0), (0, 46, 3), (0, 46, 10), (3, 100, 0), (3, 57, 0), (3, 101, 0)] 1 12 n T h5 h5 := ⟨Jh5.1, fr_refl _ _⟩
  refine hq_p rfl rfl ?_
  refine hq_p rfl rfl ?_
  refine hq_p rfl rfl ?_
  refine hq_p rfl rfl (ty_ge (n := 1) nk_i1 (fun z7 ez7 => ?_))
  refine hq_p rfl rfl (ty_ge (n := i0.toInt + z7.toInt) (nm_add (by omega) (by omega)) (fun z8 ez8 => ?_))
  refine hq_iald rfl (hS h5) (hs_in (by omega) (by omega)) (ty_ge rfl (fun z9 ez9 => ?_))
  have az9 := nm_lo z9
  have bz9 := nm_hi z9
  have xz9 : z9.toInt = 0 := by rw [ez9, show z8.toNatClampNeg = i0.toInt.toNat + 1 by rw [nm_nat]; omega]; exact hx
  clear ez9
  have Hz := H.zz h5.1 h5.2.1
  refine hq_inv 0 rfl (fun _ => rfl) rfl rfl rfl (hq_pre_o Ih5.1 (x := 97) (ci := 11) rfl (by decide) rfl rfl rfl rfl) ((ct_148i0 (x1 := z9) (by omega) (by omega) (by omega) (Hz.mono (W' := ty_Wx) (fun a k w => by unfold ty_Wx at w; unfold ty_W2b; omega) (by unfold ty_Wx ty_W2b; omega)) ⟨hM, rfl, rfl⟩ (fun h j => ⟨tp_bkF (k := 0) (by decide) j.1 (tp_bk j.1.1.1 (by decide)), j.2⟩)).mono (Nat.le_refl _) (fun h10 v q => ?_))
  obtain ⟨⟨Jh10, m1, m2⟩, z11, rfl, fz11⟩ := q
  refine ⟨by omega, by omega, ?_⟩
  have Ih10 := H.1 h10 Jh10
  have az11 := nm_lo z11
  have bz11 := nm_hi z11
  obtain ⟨⟨a1, a2⟩, ⟨b1, b2, b3⟩, ⟨c1, c2, c3⟩, ⟨d1, d2, d3⟩, k1, k2⟩ := hr
  obtain ⟨x0, x1, x2, x3, x4, x5, x6, x7, x8, x9, x10, x11, _⟩ := Jh5.2
  have x0 : (hs_fI h5 35 0).toInt = (hs_fI h 35 0).toInt := x0
  have x1 : (hs_fI h5 35 3).toInt = (hs_fI h 35 3).toInt := x1
  have x2 : (hs_fI h5 35 10).toInt = (hs_fI h 35 10).toInt := x2
  have x3 : (hs_fI h5 46 0).toInt = (hs_fI h 46 0).toInt := x3
  have x4 : (hs_fI h5 46 3).toInt = (hs_fI h 46 3).toInt := x4
  have x5 : (hs_fI h5 46 10).toInt = (hs_fI h 46 10).toInt := x5
  have x6 : (hs_aI h5 99 0).toInt = (hs_aI h 99 0).toInt := x6
  have x7 : (hs_aI h5 99 1).toInt = (hs_aI h 99 1).toInt := x7
  have x8 : (hs_aI h5 99 2).toInt = (hs_aI h 99 2).toInt := x8
  have x9 : hs_aI h5 100 = hs_aI h 100 := x9
  have x9_0 : (hs_aI h5 100 0).toInt = (hs_aI h 100 0).toInt := by rw [x9]
  have x9_1 : (hs_aI h5 100 1).toInt = (hs_aI h 100 1).toInt := by rw [x9]
  have x9_2 : (hs_aI h5 100 2).toInt = (hs_aI h 100 2).toInt := by rw [x9]
  have x9_5498 : (hs_aI h5 100 5498).toInt = (hs_aI h 100 5498).toInt := by rw [x9]
  have x9_5499 : (hs_aI h5 100 5499).toInt = (hs_aI h 100 5499).toInt := by rw [x9]
  have x9_5500 : (hs_aI h5 100 5500).toInt = (hs_aI h 100 5500).toInt := by rw [x9]
  have x10 : hs_aI h5 57 = hs_aI h 57 := x10
  have x10_0 : (hs_aI h5 57 0).toInt = (hs_aI h 57 0).toInt := by rw [x10]
  have x10_1 : (hs_aI h5 57 1).toInt = (hs_aI h 57 1).toInt := by rw [x10]
  have x11 : hs_aI h5 101 = hs_aI h 101 := x11
  have x11_0 : (hs_aI h5 101 0).toInt = (hs_aI h 101 0).toInt := by rw [x11]
  have x11_1 : (hs_aI h5 101 1).toInt = (hs_aI h 101 1).toInt := by rw [x11]
  obtain ⟨y0, y1, y2, y3, y4, y5, y6, y7, y8, y9, y10, y11, y12, y13, y14, _⟩ := Jh10.2
  have y0 : (hs_fI h10 1 0).toInt = (hs_fI h5 1 0).toInt := y0
  have y1 : (hs_fI h10 1 3).toInt = (hs_fI h5 1 3).toInt := y1
  have y2 : (hs_fI h10 1 10).toInt = (hs_fI h5 1 10).toInt := y2
  have y3 : (hs_fI h10 12 0).toInt = (hs_fI h5 12 0).toInt := y3
  have y4 : (hs_fI h10 12 3).toInt = (hs_fI h5 12 3).toInt := y4
  have y5 : (hs_fI h10 12 10).toInt = (hs_fI h5 12 10).toInt := y5
  have y6 : (hs_fI h10 35 0).toInt = (hs_fI h5 35 0).toInt := y6
  have y7 : (hs_fI h10 35 3).toInt = (hs_fI h5 35 3).toInt := y7
  have y8 : (hs_fI h10 35 10).toInt = (hs_fI h5 35 10).toInt := y8
  have y9 : (hs_fI h10 46 0).toInt = (hs_fI h5 46 0).toInt := y9
  have y10 : (hs_fI h10 46 3).toInt = (hs_fI h5 46 3).toInt := y10
  have y11 : (hs_fI h10 46 10).toInt = (hs_fI h5 46 10).toInt := y11
  have y12 : hs_aI h10 100 = hs_aI h5 100 := y12
  have y12_0 : (hs_aI h10 100 0).toInt = (hs_aI h5 100 0).toInt := by rw [y12]
  have y12_1 : (hs_aI h10 100 1).toInt = (hs_aI h5 100 1).toInt := by rw [y12]
  have y12_2 : (hs_aI h10 100 2).toInt = (hs_aI h5 100 2).toInt := by rw [y12]
  have y12_5498 : (hs_aI h10 100 5498).toInt = (hs_aI h5 100 5498).toInt := by rw [y12]
  have y12_5499 : (hs_aI h10 100 5499).toInt = (hs_aI h5 100 5499).toInt := by rw [y12]
  have y12_5500 : (hs_aI h10 100 5500).toInt = (hs_aI h5 100 5500).toInt := by rw [y12]
  have y13 : hs_aI h10 57 = hs_aI h5 57 := y13
  have y13_0 : (hs_aI h10 57 0).toInt = (hs_aI h5 57 0).toInt := by rw [y13]
  have y13_1 : (hs_aI h10 57 1).toInt = (hs_aI h5 57 1).toInt := by rw [y13]
  have y14 : hs_aI h10 101 = hs_aI h5 101 := y14
  have y14_0 : (hs_aI h10 101 0).toInt = (hs_aI h5 101 0).toInt := by rw [y14]
  have y14_1 : (hs_aI h10 101 1).toInt = (hs_aI h5 101 1).toInt := by rw [y14]
  obtain ⟨u1, u2, u3, u4⟩ := cn_bk_f (by omega) (by omega) (by omega) (by omega) (by omega) (by omega) (by omega) fz6 fz11
  refine ty_ieq rfl (fun c12 => ?_) (fun c12 => ?_)
  · exact K h10 (tq_1 Jh10.1.1 (Or.inl ⟨Jh10.1.2, ⟨by omega, by omega, by omega⟩, ⟨by omega, by omega, by omega⟩, ⟨by omega, by omega, by omega⟩, by omega, by omega⟩))
  · exfalso; omega
set_option maxRecDepth 20000 in
set_option maxHeartbeats 4000000 in
theorem tb_38a1 {X : pm_X} {d L n : Nat} {xs : Nat → Int32} {h : pm_H} {i0 : Int32} {Q : pm_H → Option Value → Prop} (hd : 120 ≤ d) (hX : ty_SX X) (hS : ∀ h, pm_arr X h (.retAddr 200) = some (0, L, .inl xs)) (hL : L ≤ 3072) (a0 : 0 ≤ i0.toInt) (b0 : i0.toInt + 6 ≤ L) {T : Int} (hJ0 : tp_T n T h) (hr : rl 1 12 h) (hx : (xs (i0.toInt.toNat + 1)).toInt = 1) (K : ∀ h1, tq_K (n + 1) h1 → hq_W X d 12 false (some .boolean) pm_cL (1205, [some (.retAddr 200), some (.ref 0), some (.ref 97), some (.int i0)], [], h1) Q) : hq_W X d 12 false (some .boolean) pm_cL (1146, [some (.retAddr 200), some (.ref 0), some (.ref 97), some (.int i0)], [], h) Q := by
  have H := tp_Ck 1 12 n T h
  have hJ : tp_F [(0, 35, 0), (0, 35, 3), (0, 35, 10), (0, 46, 0), (0, 46, 3), (0, 46, 10), (1, 99, 0), (1, 99, 1), (1, 99, 2), (3, 100, 0), (3, 57, 0), (3, 101, 0)] 1 12 n T h h := ⟨⟨hJ0, hr.1⟩, fr_refl h _⟩
  have I := H.1 h hJ
  refine hq_p rfl rfl ?_
  refine hq_p rfl rfl ?_
  refine hq_p rfl rfl ?_
  refine hq_p rfl rfl (ty_ge (n := 1) nk_i1 (fun z1 ez1 => ?_))
  refine hq_p rfl rfl (ty_ge (n := i0.toInt + z1.toInt) (nm_add (by omega) (by omega)) (fun z2 ez2 => ?_))
  refine hq_iald rfl (hS h) (hs_in (by omega) (by omega)) (ty_ge rfl (fun z3 ez3 => ?_))
  have az3 := nm_lo z3
  have bz3 := nm_hi z3
  have xz3 : z3.toInt = 1 := by rw [ez3, show z2.toNatClampNeg = i0.toInt.toNat + 1 by rw [nm_nat]; omega]; exact hx
  clear ez3
  refine ty_callj 0 (W := ty_W2k) H hJ rfl (fun _ => rfl) rfl rfl rfl (hq_pre_o I.1 (x := 0) (ci := 10) rfl (by decide) rfl rfl rfl rfl) (fun a k w => by unfold ty_Wbn at w; unfold ty_W2k; omega) (by unfold ty_Wbn ty_W2k; omega) (ct_121a1 (x1 := z3) (by omega) (by omega) (by omega) hJ.1.2.1 hJ.1.2.2) (fun h5 _ Jh5 P4 => ?_)
  have Ih5 := H.1 h5 Jh5
  obtain ⟨z6, rfl, fz6⟩ := P4
  have az6 := nm_lo z6
  have bz6 := nm_hi z6
  have H := tp_Cv 1 12 n T h5
  have hM : tp_F [(0, 1, 0), (0, 1, 3), (0, 1, 10), (0, 12, 0), (0, 12, 3), (0, 12, 10), (0, 35, 0), (0, 35, 3), (0, 35, 10), (0, 46, 0), (0, 46, 3), (0, 46, 10), (3, 100, 0), (3, 57, 0), (3, 101, 0)] 1 12 n T h5 h5 := ⟨Jh5.1, fr_refl _ _⟩
  refine hq_p rfl rfl ?_
  refine hq_p rfl rfl ?_
  refine hq_p rfl rfl ?_
  refine hq_p rfl rfl (ty_ge (n := 1) nk_i1 (fun z7 ez7 => ?_))
  refine hq_p rfl rfl (ty_ge (n := i0.toInt + z7.toInt) (nm_add (by omega) (by omega)) (fun z8 ez8 => ?_))
  refine hq_iald rfl (hS h5) (hs_in (by omega) (by omega)) (ty_ge rfl (fun z9 ez9 => ?_))
  have az9 := nm_lo z9
  have bz9 := nm_hi z9
  have xz9 : z9.toInt = 1 := by rw [ez9, show z8.toNatClampNeg = i0.toInt.toNat + 1 by rw [nm_nat]; omega]; exact hx
  clear ez9
  have Hz := H.zz h5.1 h5.2.1
  refine hq_inv 0 rfl (fun _ => rfl) rfl rfl rfl (hq_pre_o Ih5.1 (x := 97) (ci := 11) rfl (by decide) rfl rfl rfl rfl) ((ct_148i1 (x1 := z9) (by omega) (by omega) (by omega) (Hz.mono (W' := ty_Wx) (fun a k w => by unfold ty_Wx at w; unfold ty_W2b; omega) (by unfold ty_Wx ty_W2b; omega)) ⟨hM, rfl, rfl⟩ (fun h j => ⟨tp_bkF (k := 1) (by decide) j.1 (tp_bk j.1.1.1 (by decide)), j.2⟩)).mono (Nat.le_refl _) (fun h10 v q => ?_))
  obtain ⟨⟨Jh10, m1, m2⟩, z11, rfl, fz11⟩ := q
  refine ⟨by omega, by omega, ?_⟩
  have Ih10 := H.1 h10 Jh10
  have az11 := nm_lo z11
  have bz11 := nm_hi z11
  obtain ⟨⟨a1, a2⟩, ⟨b1, b2, b3⟩, ⟨c1, c2, c3⟩, ⟨d1, d2, d3⟩, k1, k2⟩ := hr
  obtain ⟨x0, x1, x2, x3, x4, x5, x6, x7, x8, x9, x10, x11, _⟩ := Jh5.2
  have x0 : (hs_fI h5 35 0).toInt = (hs_fI h 35 0).toInt := x0
  have x1 : (hs_fI h5 35 3).toInt = (hs_fI h 35 3).toInt := x1
  have x2 : (hs_fI h5 35 10).toInt = (hs_fI h 35 10).toInt := x2
  have x3 : (hs_fI h5 46 0).toInt = (hs_fI h 46 0).toInt := x3
  have x4 : (hs_fI h5 46 3).toInt = (hs_fI h 46 3).toInt := x4
  have x5 : (hs_fI h5 46 10).toInt = (hs_fI h 46 10).toInt := x5
  have x6 : (hs_aI h5 99 0).toInt = (hs_aI h 99 0).toInt := x6
  have x7 : (hs_aI h5 99 1).toInt = (hs_aI h 99 1).toInt := x7
  have x8 : (hs_aI h5 99 2).toInt = (hs_aI h 99 2).toInt := x8
  have x9 : hs_aI h5 100 = hs_aI h 100 := x9
  have x9_0 : (hs_aI h5 100 0).toInt = (hs_aI h 100 0).toInt := by rw [x9]
  have x9_1 : (hs_aI h5 100 1).toInt = (hs_aI h 100 1).toInt := by rw [x9]
  have x9_2 : (hs_aI h5 100 2).toInt = (hs_aI h 100 2).toInt := by rw [x9]
  have x9_5498 : (hs_aI h5 100 5498).toInt = (hs_aI h 100 5498).toInt := by rw [x9]
  have x9_5499 : (hs_aI h5 100 5499).toInt = (hs_aI h 100 5499).toInt := by rw [x9]
  have x9_5500 : (hs_aI h5 100 5500).toInt = (hs_aI h 100 5500).toInt := by rw [x9]
  have x10 : hs_aI h5 57 = hs_aI h 57 := x10
  have x10_0 : (hs_aI h5 57 0).toInt = (hs_aI h 57 0).toInt := by rw [x10]
  have x10_1 : (hs_aI h5 57 1).toInt = (hs_aI h 57 1).toInt := by rw [x10]
  have x11 : hs_aI h5 101 = hs_aI h 101 := x11
  have x11_0 : (hs_aI h5 101 0).toInt = (hs_aI h 101 0).toInt := by rw [x11]
  have x11_1 : (hs_aI h5 101 1).toInt = (hs_aI h 101 1).toInt := by rw [x11]
  obtain ⟨y0, y1, y2, y3, y4, y5, y6, y7, y8, y9, y10, y11, y12, y13, y14, _⟩ := Jh10.2
  have y0 : (hs_fI h10 1 0).toInt = (hs_fI h5 1 0).toInt := y0
  have y1 : (hs_fI h10 1 3).toInt = (hs_fI h5 1 3).toInt := y1
  have y2 : (hs_fI h10 1 10).toInt = (hs_fI h5 1 10).toInt := y2
  have y3 : (hs_fI h10 12 0).toInt = (hs_fI h5 12 0).toInt := y3
  have y4 : (hs_fI h10 12 3).toInt = (hs_fI h5 12 3).toInt := y4
  have y5 : (hs_fI h10 12 10).toInt = (hs_fI h5 12 10).toInt := y5
  have y6 : (hs_fI h10 35 0).toInt = (hs_fI h5 35 0).toInt := y6
  have y7 : (hs_fI h10 35 3).toInt = (hs_fI h5 35 3).toInt := y7
  have y8 : (hs_fI h10 35 10).toInt = (hs_fI h5 35 10).toInt := y8
  have y9 : (hs_fI h10 46 0).toInt = (hs_fI h5 46 0).toInt := y9
  have y10 : (hs_fI h10 46 3).toInt = (hs_fI h5 46 3).toInt := y10
  have y11 : (hs_fI h10 46 10).toInt = (hs_fI h5 46 10).toInt := y11
  have y12 : hs_aI h10 100 = hs_aI h5 100 := y12
  have y12_0 : (hs_aI h10 100 0).toInt = (hs_aI h5 100 0).toInt := by rw [y12]
  have y12_1 : (hs_aI h10 100 1).toInt = (hs_aI h5 100 1).toInt := by rw [y12]
  have y12_2 : (hs_aI h10 100 2).toInt = (hs_aI h5 100 2).toInt := by rw [y12]
  have y12_5498 : (hs_aI h10 100 5498).toInt = (hs_aI h5 100 5498).toInt := by rw [y12]
  have y12_5499 : (hs_aI h10 100 5499).toInt = (hs_aI h5 100 5499).toInt := by rw [y12]
  have y12_5500 : (hs_aI h10 100 5500).toInt = (hs_aI h5 100 5500).toInt := by rw [y12]
  have y13 : hs_aI h10 57 = hs_aI h5 57 := y13
  have y13_0 : (hs_aI h10 57 0).toInt = (hs_aI h5 57 0).toInt := by rw [y13]
  have y13_1 : (hs_aI h10 57 1).toInt = (hs_aI h5 57 1).toInt := by rw [y13]
  have y14 : hs_aI h10 101 = hs_aI h5 101 := y14
  have y14_0 : (hs_aI h10 101 0).toInt = (hs_aI h5 101 0).toInt := by rw [y14]
  have y14_1 : (hs_aI h10 101 1).toInt = (hs_aI h5 101 1).toInt := by rw [y14]
  obtain ⟨u1, u2, u3, u4⟩ := cn_bk_f (by omega) (by omega) (by omega) (by omega) (by omega) (by omega) (by omega) fz6 fz11
  refine ty_ieq rfl (fun c12 => ?_) (fun c12 => ?_)
  · exact K h10 (tq_1 Jh10.1.1 (Or.inl ⟨Jh10.1.2, ⟨by omega, by omega, by omega⟩, ⟨by omega, by omega, by omega⟩, ⟨by omega, by omega, by omega⟩, by omega, by omega⟩))
  · exfalso; omega
theorem tb_38a {X : pm_X} {d L n : Nat} {xs : Nat → Int32} {h : pm_H} {i0 : Int32} {Q : pm_H → Option Value → Prop} (hd : 120 ≤ d) (hX : ty_SX X) (hS : ∀ h, pm_arr X h (.retAddr 200) = some (0, L, .inl xs)) (hL : L ≤ 3072) (a0 : 0 ≤ i0.toInt) (b0 : i0.toInt + 6 ≤ L) {T : Int} (hJ0 : tp_T n T h) (hr : rl 1 12 h) (K : ∀ h1, tq_K (n + 1) h1 → hq_W X d 12 false (some .boolean) pm_cL (1205, [some (.retAddr 200), some (.ref 0), some (.ref 97), some (.int i0)], [], h1) Q) : hq_W X d 12 false (some .boolean) pm_cL (1146, [some (.retAddr 200), some (.ref 0), some (.ref 97), some (.int i0)], [], h) Q := by
  rcases (show (xs (i0.toInt.toNat + 1)).toInt ≤ -1 ∨ (xs (i0.toInt.toNat + 1)).toInt = 0 ∨ (xs (i0.toInt.toNat + 1)).toInt = 1 ∨ 2 ≤ (xs (i0.toInt.toNat + 1)).toInt by omega) with hx | hx | hx | hx
  · exact tb_38am hd hX hS hL a0 b0 hJ0 hr hx K
  · exact tb_38a0 hd hX hS hL a0 b0 hJ0 hr hx K
  · exact tb_38a1 hd hX hS hL a0 b0 hJ0 hr hx K
  · exact tb_38aq hd hX hS hL a0 b0 hJ0 hr hx K
set_option maxRecDepth 20000 in
set_option maxHeartbeats 4000000 in
theorem tb_38bm {X : pm_X} {d L n : Nat} {xs : Nat → Int32} {h : pm_H} {i0 : Int32} {Q : pm_H → Option Value → Prop} (hd : 120 ≤ d) (hX : ty_SX X) (hS : ∀ h, pm_arr X h (.retAddr 200) = some (0, L, .inl xs)) (hL : L ≤ 3072) (a0 : 0 ≤ i0.toInt) (b0 : i0.toInt + 6 ≤ L) {T : Int} (hJ0 : tp_T n T h) (hr : rl 12 1 h) (hx : (xs (i0.toInt.toNat + 1)).toInt ≤ -1) (K : ∀ h1, tq_K (n + 1) h1 → hq_W X d 12 false (some .boolean) pm_cL (1205, [some (.retAddr 200), some (.ref 0), some (.ref 97), some (.int i0)], [], h1) Q) : hq_W X d 12 false (some .boolean) pm_cL (1146, [some (.retAddr 200), some (.ref 0), some (.ref 97), some (.int i0)], [], h) Q := by
  have H := tp_Cn_12 12 1 n T h
  have hJ : tp_F [(0, 12, 0), (0, 12, 3), (0, 12, 10), (0, 35, 0), (0, 35, 3), (0, 35, 10), (0, 46, 0), (0, 46, 3), (0, 46, 10), (1, 99, 0), (1, 99, 1), (1, 99, 2), (3, 100, 0), (3, 57, 0), (3, 101, 0)] 12 1 n T h h := ⟨⟨hJ0, hr.1⟩, fr_refl h _⟩
  have I := H.1 h hJ
  refine hq_p rfl rfl ?_
  refine hq_p rfl rfl ?_
  refine hq_p rfl rfl ?_
  refine hq_p rfl rfl (ty_ge (n := 1) nk_i1 (fun z1 ez1 => ?_))
  refine hq_p rfl rfl (ty_ge (n := i0.toInt + z1.toInt) (nm_add (by omega) (by omega)) (fun z2 ez2 => ?_))
  refine hq_iald rfl (hS h) (hs_in (by omega) (by omega)) (ty_ge rfl (fun z3 ez3 => ?_))
  have az3 := nm_lo z3
  have bz3 := nm_hi z3
  have xz3 : z3.toInt ≤ -1 := by rw [ez3, show z2.toNatClampNeg = i0.toInt.toNat + 1 by rw [nm_nat]; omega]; exact hx
  clear ez3
  refine ty_callj 0 (W := (ty_W2n 12)) H hJ rfl (fun _ => rfl) rfl rfl rfl (hq_pre_o I.1 (x := 0) (ci := 10) rfl (by decide) rfl rfl rfl rfl) (fun a k w => by unfold ty_Wc at w; unfold ty_W2n; omega) (by unfold ty_Wc ty_W2n; omega) (ct_121m (x1 := z3) (by omega) (by omega) (by omega)) (fun h5 _ Jh5 P4 => ?_)
  have Ih5 := H.1 h5 Jh5
  obtain ⟨z6, rfl, fz6⟩ := P4
  refine hq_p rfl rfl ?_
  refine hq_p rfl rfl ?_
  refine hq_p rfl rfl ?_
  refine hq_p rfl rfl (ty_ge (n := 1) nk_i1 (fun z7 ez7 => ?_))
  refine hq_p rfl rfl (ty_ge (n := i0.toInt + z7.toInt) (nm_add (by omega) (by omega)) (fun z8 ez8 => ?_))
  refine hq_iald rfl (hS h5) (hs_in (by omega) (by omega)) (ty_ge rfl (fun z9 ez9 => ?_))
  have az9 := nm_lo z9
  have bz9 := nm_hi z9
  have xz9 : z9.toInt ≤ -1 := by rw [ez9, show z8.toNatClampNeg = i0.toInt.toNat + 1 by rw [nm_nat]; omega]; exact hx
  clear ez9
  refine ty_callj 0 (W := (ty_W2n 12)) H Jh5 rfl (fun _ => rfl) rfl rfl rfl (hq_pre_o Ih5.1 (x := 97) (ci := 11) rfl (by decide) rfl rfl rfl rfl) (fun a k w => by unfold ty_Wx at w; unfold ty_W2n; omega) (by unfold ty_Wx ty_W2n; omega) (ct_148m (x1 := z9) (by omega) (by omega) (by omega)) (fun h11 _ Jh11 P10 => ?_)
  have Ih11 := H.1 h11 Jh11
  obtain ⟨z12, rfl, fz12⟩ := P10
  refine ty_ieq rfl (fun c13 => ?_) (fun c13 => ?_)
  · exact K h11 (tq_n12 hr Jh11)
  · exfalso; omega
set_option maxRecDepth 20000 in
set_option maxHeartbeats 4000000 in
theorem tb_38bq {X : pm_X} {d L n : Nat} {xs : Nat → Int32} {h : pm_H} {i0 : Int32} {Q : pm_H → Option Value → Prop} (hd : 120 ≤ d) (hX : ty_SX X) (hS : ∀ h, pm_arr X h (.retAddr 200) = some (0, L, .inl xs)) (hL : L ≤ 3072) (a0 : 0 ≤ i0.toInt) (b0 : i0.toInt + 6 ≤ L) {T : Int} (hJ0 : tp_T n T h) (hr : rl 12 1 h) (hx : 2 ≤ (xs (i0.toInt.toNat + 1)).toInt) (K : ∀ h1, tq_K (n + 1) h1 → hq_W X d 12 false (some .boolean) pm_cL (1205, [some (.retAddr 200), some (.ref 0), some (.ref 97), some (.int i0)], [], h1) Q) : hq_W X d 12 false (some .boolean) pm_cL (1146, [some (.retAddr 200), some (.ref 0), some (.ref 97), some (.int i0)], [], h) Q := by
  have H := tp_Cn_12 12 1 n T h
  have hJ : tp_F [(0, 12, 0), (0, 12, 3), (0, 12, 10), (0, 35, 0), (0, 35, 3), (0, 35, 10), (0, 46, 0), (0, 46, 3), (0, 46, 10), (1, 99, 0), (1, 99, 1), (1, 99, 2), (3, 100, 0), (3, 57, 0), (3, 101, 0)] 12 1 n T h h := ⟨⟨hJ0, hr.1⟩, fr_refl h _⟩
  have I := H.1 h hJ
  refine hq_p rfl rfl ?_
  refine hq_p rfl rfl ?_
  refine hq_p rfl rfl ?_
  refine hq_p rfl rfl (ty_ge (n := 1) nk_i1 (fun z1 ez1 => ?_))
  refine hq_p rfl rfl (ty_ge (n := i0.toInt + z1.toInt) (nm_add (by omega) (by omega)) (fun z2 ez2 => ?_))
  refine hq_iald rfl (hS h) (hs_in (by omega) (by omega)) (ty_ge rfl (fun z3 ez3 => ?_))
  have az3 := nm_lo z3
  have bz3 := nm_hi z3
  have xz3 : 2 ≤ z3.toInt := by rw [ez3, show z2.toNatClampNeg = i0.toInt.toNat + 1 by rw [nm_nat]; omega]; exact hx
  clear ez3
  refine ty_callj 0 (W := (ty_W2n 12)) H hJ rfl (fun _ => rfl) rfl rfl rfl (hq_pre_o I.1 (x := 0) (ci := 10) rfl (by decide) rfl rfl rfl rfl) (fun a k w => by unfold ty_Wc at w; unfold ty_W2n; omega) (by unfold ty_Wc ty_W2n; omega) (ct_121q (x1 := z3) (by omega) (by omega) (by omega)) (fun h5 _ Jh5 P4 => ?_)
  have Ih5 := H.1 h5 Jh5
  obtain ⟨z6, rfl, fz6⟩ := P4
  refine hq_p rfl rfl ?_
  refine hq_p rfl rfl ?_
  refine hq_p rfl rfl ?_
  refine hq_p rfl rfl (ty_ge (n := 1) nk_i1 (fun z7 ez7 => ?_))
  refine hq_p rfl rfl (ty_ge (n := i0.toInt + z7.toInt) (nm_add (by omega) (by omega)) (fun z8 ez8 => ?_))
  refine hq_iald rfl (hS h5) (hs_in (by omega) (by omega)) (ty_ge rfl (fun z9 ez9 => ?_))
  have az9 := nm_lo z9
  have bz9 := nm_hi z9
  have xz9 : 2 ≤ z9.toInt := by rw [ez9, show z8.toNatClampNeg = i0.toInt.toNat + 1 by rw [nm_nat]; omega]; exact hx
  clear ez9
  refine ty_callj 0 (W := (ty_W2n 12)) H Jh5 rfl (fun _ => rfl) rfl rfl rfl (hq_pre_o Ih5.1 (x := 97) (ci := 11) rfl (by decide) rfl rfl rfl rfl) (fun a k w => by unfold ty_Wx at w; unfold ty_W2n; omega) (by unfold ty_Wx ty_W2n; omega) (ct_148q (x1 := z9) (by omega) (by omega) (by omega)) (fun h11 _ Jh11 P10 => ?_)
  have Ih11 := H.1 h11 Jh11
  obtain ⟨z12, rfl, fz12⟩ := P10
  refine ty_ieq rfl (fun c13 => ?_) (fun c13 => ?_)
  · exact K h11 (tq_n12 hr Jh11)
  · exfalso; omega
set_option maxRecDepth 20000 in
set_option maxHeartbeats 4000000 in
theorem tb_38b0 {X : pm_X} {d L n : Nat} {xs : Nat → Int32} {h : pm_H} {i0 : Int32} {Q : pm_H → Option Value → Prop} (hd : 120 ≤ d) (hX : ty_SX X) (hS : ∀ h, pm_arr X h (.retAddr 200) = some (0, L, .inl xs)) (hL : L ≤ 3072) (a0 : 0 ≤ i0.toInt) (b0 : i0.toInt + 6 ≤ L) {T : Int} (hJ0 : tp_T n T h) (hr : rl 12 1 h) (hx : (xs (i0.toInt.toNat + 1)).toInt = 0) (K : ∀ h1, tq_K (n + 1) h1 → hq_W X d 12 false (some .boolean) pm_cL (1205, [some (.retAddr 200), some (.ref 0), some (.ref 97), some (.int i0)], [], h1) Q) : hq_W X d 12 false (some .boolean) pm_cL (1146, [some (.retAddr 200), some (.ref 0), some (.ref 97), some (.int i0)], [], h) Q := by
  have H := tp_Ck 12 1 n T h
  have hJ : tp_F [(0, 35, 0), (0, 35, 3), (0, 35, 10), (0, 46, 0), (0, 46, 3), (0, 46, 10), (1, 99, 0), (1, 99, 1), (1, 99, 2), (3, 100, 0), (3, 57, 0), (3, 101, 0)] 12 1 n T h h := ⟨⟨hJ0, hr.1⟩, fr_refl h _⟩
  have I := H.1 h hJ
  refine hq_p rfl rfl ?_
  refine hq_p rfl rfl ?_
  refine hq_p rfl rfl ?_
  refine hq_p rfl rfl (ty_ge (n := 1) nk_i1 (fun z1 ez1 => ?_))
  refine hq_p rfl rfl (ty_ge (n := i0.toInt + z1.toInt) (nm_add (by omega) (by omega)) (fun z2 ez2 => ?_))
  refine hq_iald rfl (hS h) (hs_in (by omega) (by omega)) (ty_ge rfl (fun z3 ez3 => ?_))
  have az3 := nm_lo z3
  have bz3 := nm_hi z3
  have xz3 : z3.toInt = 0 := by rw [ez3, show z2.toNatClampNeg = i0.toInt.toNat + 1 by rw [nm_nat]; omega]; exact hx
  clear ez3
  refine ty_callj 0 (W := ty_W2k) H hJ rfl (fun _ => rfl) rfl rfl rfl (hq_pre_o I.1 (x := 0) (ci := 10) rfl (by decide) rfl rfl rfl rfl) (fun a k w => by unfold ty_Wbn at w; unfold ty_W2k; omega) (by unfold ty_Wbn ty_W2k; omega) (ct_121b0 (x1 := z3) (by omega) (by omega) (by omega) hJ.1.2.1 hJ.1.2.2) (fun h5 _ Jh5 P4 => ?_)
  have Ih5 := H.1 h5 Jh5
  obtain ⟨z6, rfl, fz6⟩ := P4
  have az6 := nm_lo z6
  have bz6 := nm_hi z6
  have H := tp_Cv 12 1 n T h5
  have hM : tp_F [(0, 1, 0), (0, 1, 3), (0, 1, 10), (0, 12, 0), (0, 12, 3), (0, 12, 10), (0, 35, 0), (0, 35, 3), (0, 35, 10), (0, 46, 0), (0, 46, 3), (0, 46, 10), (3, 100, 0), (3, 57, 0), (3, 101, 0)] 12 1 n T h5 h5 := ⟨Jh5.1, fr_refl _ _⟩
  refine hq_p rfl rfl ?_
  refine hq_p rfl rfl ?_
  refine hq_p rfl rfl ?_
  refine hq_p rfl rfl (ty_ge (n := 1) nk_i1 (fun z7 ez7 => ?_))
  refine hq_p rfl rfl (ty_ge (n := i0.toInt + z7.toInt) (nm_add (by omega) (by omega)) (fun z8 ez8 => ?_))
  refine hq_iald rfl (hS h5) (hs_in (by omega) (by omega)) (ty_ge rfl (fun z9 ez9 => ?_))
  have az9 := nm_lo z9
  have bz9 := nm_hi z9
  have xz9 : z9.toInt = 0 := by rw [ez9, show z8.toNatClampNeg = i0.toInt.toNat + 1 by rw [nm_nat]; omega]; exact hx
  clear ez9
  have Hz := H.zz h5.1 h5.2.1
  refine hq_inv 0 rfl (fun _ => rfl) rfl rfl rfl (hq_pre_o Ih5.1 (x := 97) (ci := 11) rfl (by decide) rfl rfl rfl rfl) ((ct_148i0 (x1 := z9) (by omega) (by omega) (by omega) (Hz.mono (W' := ty_Wx) (fun a k w => by unfold ty_Wx at w; unfold ty_W2b; omega) (by unfold ty_Wx ty_W2b; omega)) ⟨hM, rfl, rfl⟩ (fun h j => ⟨tp_bkF (k := 0) (by decide) j.1 (tp_bk j.1.1.1 (by decide)), j.2⟩)).mono (Nat.le_refl _) (fun h10 v q => ?_))
  obtain ⟨⟨Jh10, m1, m2⟩, z11, rfl, fz11⟩ := q
  refine ⟨by omega, by omega, ?_⟩
  have Ih10 := H.1 h10 Jh10
  have az11 := nm_lo z11
  have bz11 := nm_hi z11
  obtain ⟨⟨a1, a2⟩, ⟨b1, b2, b3⟩, ⟨c1, c2, c3⟩, ⟨d1, d2, d3⟩, k1, k2⟩ := hr
  obtain ⟨x0, x1, x2, x3, x4, x5, x6, x7, x8, x9, x10, x11, _⟩ := Jh5.2
  have x0 : (hs_fI h5 35 0).toInt = (hs_fI h 35 0).toInt := x0
  have x1 : (hs_fI h5 35 3).toInt = (hs_fI h 35 3).toInt := x1
  have x2 : (hs_fI h5 35 10).toInt = (hs_fI h 35 10).toInt := x2
  have x3 : (hs_fI h5 46 0).toInt = (hs_fI h 46 0).toInt := x3
  have x4 : (hs_fI h5 46 3).toInt = (hs_fI h 46 3).toInt := x4
  have x5 : (hs_fI h5 46 10).toInt = (hs_fI h 46 10).toInt := x5
  have x6 : (hs_aI h5 99 0).toInt = (hs_aI h 99 0).toInt := x6
  have x7 : (hs_aI h5 99 1).toInt = (hs_aI h 99 1).toInt := x7
  have x8 : (hs_aI h5 99 2).toInt = (hs_aI h 99 2).toInt := x8
  have x9 : hs_aI h5 100 = hs_aI h 100 := x9
  have x9_0 : (hs_aI h5 100 0).toInt = (hs_aI h 100 0).toInt := by rw [x9]
  have x9_1 : (hs_aI h5 100 1).toInt = (hs_aI h 100 1).toInt := by rw [x9]
  have x9_2 : (hs_aI h5 100 2).toInt = (hs_aI h 100 2).toInt := by rw [x9]
  have x9_5498 : (hs_aI h5 100 5498).toInt = (hs_aI h 100 5498).toInt := by rw [x9]
  have x9_5499 : (hs_aI h5 100 5499).toInt = (hs_aI h 100 5499).toInt := by rw [x9]
  have x9_5500 : (hs_aI h5 100 5500).toInt = (hs_aI h 100 5500).toInt := by rw [x9]
  have x10 : hs_aI h5 57 = hs_aI h 57 := x10
  have x10_0 : (hs_aI h5 57 0).toInt = (hs_aI h 57 0).toInt := by rw [x10]
  have x10_1 : (hs_aI h5 57 1).toInt = (hs_aI h 57 1).toInt := by rw [x10]
  have x11 : hs_aI h5 101 = hs_aI h 101 := x11
  have x11_0 : (hs_aI h5 101 0).toInt = (hs_aI h 101 0).toInt := by rw [x11]
  have x11_1 : (hs_aI h5 101 1).toInt = (hs_aI h 101 1).toInt := by rw [x11]
  obtain ⟨y0, y1, y2, y3, y4, y5, y6, y7, y8, y9, y10, y11, y12, y13, y14, _⟩ := Jh10.2
  have y0 : (hs_fI h10 1 0).toInt = (hs_fI h5 1 0).toInt := y0
  have y1 : (hs_fI h10 1 3).toInt = (hs_fI h5 1 3).toInt := y1
  have y2 : (hs_fI h10 1 10).toInt = (hs_fI h5 1 10).toInt := y2
  have y3 : (hs_fI h10 12 0).toInt = (hs_fI h5 12 0).toInt := y3
  have y4 : (hs_fI h10 12 3).toInt = (hs_fI h5 12 3).toInt := y4
  have y5 : (hs_fI h10 12 10).toInt = (hs_fI h5 12 10).toInt := y5
  have y6 : (hs_fI h10 35 0).toInt = (hs_fI h5 35 0).toInt := y6
  have y7 : (hs_fI h10 35 3).toInt = (hs_fI h5 35 3).toInt := y7
  have y8 : (hs_fI h10 35 10).toInt = (hs_fI h5 35 10).toInt := y8
  have y9 : (hs_fI h10 46 0).toInt = (hs_fI h5 46 0).toInt := y9
  have y10 : (hs_fI h10 46 3).toInt = (hs_fI h5 46 3).toInt := y10
  have y11 : (hs_fI h10 46 10).toInt = (hs_fI h5 46 10).toInt := y11
  have y12 : hs_aI h10 100 = hs_aI h5 100 := y12
  have y12_0 : (hs_aI h10 100 0).toInt = (hs_aI h5 100 0).toInt := by rw [y12]
  have y12_1 : (hs_aI h10 100 1).toInt = (hs_aI h5 100 1).toInt := by rw [y12]
  have y12_2 : (hs_aI h10 100 2).toInt = (hs_aI h5 100 2).toInt := by rw [y12]
  have y12_5498 : (hs_aI h10 100 5498).toInt = (hs_aI h5 100 5498).toInt := by rw [y12]
  have y12_5499 : (hs_aI h10 100 5499).toInt = (hs_aI h5 100 5499).toInt := by rw [y12]
  have y12_5500 : (hs_aI h10 100 5500).toInt = (hs_aI h5 100 5500).toInt := by rw [y12]
  have y13 : hs_aI h10 57 = hs_aI h5 57 := y13
  have y13_0 : (hs_aI h10 57 0).toInt = (hs_aI h5 57 0).toInt := by rw [y13]
  have y13_1 : (hs_aI h10 57 1).toInt = (hs_aI h5 57 1).toInt := by rw [y13]
  have y14 : hs_aI h10 101 = hs_aI h5 101 := y14
  have y14_0 : (hs_aI h10 101 0).toInt = (hs_aI h5 101 0).toInt := by rw [y14]
  have y14_1 : (hs_aI h10 101 1).toInt = (hs_aI h5 101 1).toInt := by rw [y14]
  obtain ⟨u1, u2, u3, u4⟩ := cn_bk_f (by omega) (by omega) (by omega) (by omega) (by omega) (by omega) (by omega) fz6 fz11
  refine ty_ieq rfl (fun c12 => ?_) (fun c12 => ?_)
  · exact K h10 (tq_1 Jh10.1.1 (Or.inr ⟨Jh10.1.2, ⟨by omega, by omega, by omega⟩, ⟨by omega, by omega, by omega⟩, ⟨by omega, by omega, by omega⟩, by omega, by omega⟩))
  · exfalso; omega
set_option maxRecDepth 20000 in
set_option maxHeartbeats 4000000 in
theorem tb_38b1 {X : pm_X} {d L n : Nat} {xs : Nat → Int32} {h : pm_H} {i0 : Int32} {Q : pm_H → Option Value → Prop} (hd : 120 ≤ d) (hX : ty_SX X) (hS : ∀ h, pm_arr X h (.retAddr 200) = some (0, L, .inl xs)) (hL : L ≤ 3072) (a0 : 0 ≤ i0.toInt) (b0 : i0.toInt + 6 ≤ L) {T : Int} (hJ0 : tp_T n T h) (hr : rl 12 1 h) (hx : (xs (i0.toInt.toNat + 1)).toInt = 1) (K : ∀ h1, tq_K (n + 1) h1 → hq_W X d 12 false (some .boolean) pm_cL (1205, [some (.retAddr 200), some (.ref 0), some (.ref 97), some (.int i0)], [], h1) Q) : hq_W X d 12 false (some .boolean) pm_cL (1146, [some (.retAddr 200), some (.ref 0), some (.ref 97), some (.int i0)], [], h) Q := by
  have H := tp_Ck 12 1 n T h
  have hJ : tp_F [(0, 35, 0), (0, 35, 3), (0, 35, 10), (0, 46, 0), (0, 46, 3), (0, 46, 10), (1, 99, 0), (1, 99, 1), (1, 99, 2), (3, 100, 0), (3, 57, 0), (3, 101, 0)] 12 1 n T h h := ⟨⟨hJ0, hr.1⟩, fr_refl h _⟩
  have I := H.1 h hJ
  refine hq_p rfl rfl ?_
  refine hq_p rfl rfl ?_
  refine hq_p rfl rfl ?_
  refine hq_p rfl rfl (ty_ge (n := 1) nk_i1 (fun z1 ez1 => ?_))
  refine hq_p rfl rfl (ty_ge (n := i0.toInt + z1.toInt) (nm_add (by omega) (by omega)) (fun z2 ez2 => ?_))
  refine hq_iald rfl (hS h) (hs_in (by omega) (by omega)) (ty_ge rfl (fun z3 ez3 => ?_))
  have az3 := nm_lo z3
  have bz3 := nm_hi z3
  have xz3 : z3.toInt = 1 := by rw [ez3, show z2.toNatClampNeg = i0.toInt.toNat + 1 by rw [nm_nat]; omega]; exact hx
  clear ez3
  refine ty_callj 0 (W := ty_W2k) H hJ rfl (fun _ => rfl) rfl rfl rfl (hq_pre_o I.1 (x := 0) (ci := 10) rfl (by decide) rfl rfl rfl rfl) (fun a k w => by unfold ty_Wbn at w; unfold ty_W2k; omega) (by unfold ty_Wbn ty_W2k; omega) (ct_121b1 (x1 := z3) (by omega) (by omega) (by omega) hJ.1.2.1 hJ.1.2.2) (fun h5 _ Jh5 P4 => ?_)
  have Ih5 := H.1 h5 Jh5
  obtain ⟨z6, rfl, fz6⟩ := P4
  have az6 := nm_lo z6
  have bz6 := nm_hi z6
  have H := tp_Cv 12 1 n T h5
  have hM : tp_F [(0, 1, 0), (0, 1, 3), (0, 1, 10), (0, 12, 0), (0, 12, 3), (0, 12, 10), (0, 35, 0), (0, 35, 3), (0, 35, 10), (0, 46, 0), (0, 46, 3), (0, 46, 10), (3, 100, 0), (3, 57, 0), (3, 101, 0)] 12 1 n T h5 h5 := ⟨Jh5.1, fr_refl _ _⟩
  refine hq_p rfl rfl ?_
  refine hq_p rfl rfl ?_
  refine hq_p rfl rfl ?_
  refine hq_p rfl rfl (ty_ge (n := 1) nk_i1 (fun z7 ez7 => ?_))
  refine hq_p rfl rfl (ty_ge (n := i0.toInt + z7.toInt) (nm_add (by omega) (by omega)) (fun z8 ez8 => ?_))
  refine hq_iald rfl (hS h5) (hs_in (by omega) (by omega)) (ty_ge rfl (fun z9 ez9 => ?_))
  have az9 := nm_lo z9
  have bz9 := nm_hi z9
  have xz9 : z9.toInt = 1 := by rw [ez9, show z8.toNatClampNeg = i0.toInt.toNat + 1 by rw [nm_nat]; omega]; exact hx
  clear ez9
  have Hz := H.zz h5.1 h5.2.1
  refine hq_inv 0 rfl (fun _ => rfl) rfl rfl rfl (hq_pre_o Ih5.1 (x := 97) (ci := 11) rfl (by decide) rfl rfl rfl rfl) ((ct_148i1 (x1 := z9) (by omega) (by omega) (by omega) (Hz.mono (W' := ty_Wx) (fun a k w => by unfold ty_Wx at w; unfold ty_W2b; omega) (by unfold ty_Wx ty_W2b; omega)) ⟨hM, rfl, rfl⟩ (fun h j => ⟨tp_bkF (k := 1) (by decide) j.1 (tp_bk j.1.1.1 (by decide)), j.2⟩)).mono (Nat.le_refl _) (fun h10 v q => ?_))
  obtain ⟨⟨Jh10, m1, m2⟩, z11, rfl, fz11⟩ := q
  refine ⟨by omega, by omega, ?_⟩
  have Ih10 := H.1 h10 Jh10
  have az11 := nm_lo z11
  have bz11 := nm_hi z11
  obtain ⟨⟨a1, a2⟩, ⟨b1, b2, b3⟩, ⟨c1, c2, c3⟩, ⟨d1, d2, d3⟩, k1, k2⟩ := hr
  obtain ⟨x0, x1, x2, x3, x4, x5, x6, x7, x8, x9, x10, x11, _⟩ := Jh5.2
  have x0 : (hs_fI h5 35 0).toInt = (hs_fI h 35 0).toInt := x0
  have x1 : (hs_fI h5 35 3).toInt = (hs_fI h 35 3).toInt := x1
  have x2 : (hs_fI h5 35 10).toInt = (hs_fI h 35 10).toInt := x2
  have x3 : (hs_fI h5 46 0).toInt = (hs_fI h 46 0).toInt := x3
  have x4 : (hs_fI h5 46 3).toInt = (hs_fI h 46 3).toInt := x4
  have x5 : (hs_fI h5 46 10).toInt = (hs_fI h 46 10).toInt := x5
  have x6 : (hs_aI h5 99 0).toInt = (hs_aI h 99 0).toInt := x6
  have x7 : (hs_aI h5 99 1).toInt = (hs_aI h 99 1).toInt := x7
  have x8 : (hs_aI h5 99 2).toInt = (hs_aI h 99 2).toInt := x8
  have x9 : hs_aI h5 100 = hs_aI h 100 := x9
  have x9_0 : (hs_aI h5 100 0).toInt = (hs_aI h 100 0).toInt := by rw [x9]
  have x9_1 : (hs_aI h5 100 1).toInt = (hs_aI h 100 1).toInt := by rw [x9]
  have x9_2 : (hs_aI h5 100 2).toInt = (hs_aI h 100 2).toInt := by rw [x9]
  have x9_5498 : (hs_aI h5 100 5498).toInt = (hs_aI h 100 5498).toInt := by rw [x9]
  have x9_5499 : (hs_aI h5 100 5499).toInt = (hs_aI h 100 5499).toInt := by rw [x9]
  have x9_5500 : (hs_aI h5 100 5500).toInt = (hs_aI h 100 5500).toInt := by rw [x9]
  have x10 : hs_aI h5 57 = hs_aI h 57 := x10
  have x10_0 : (hs_aI h5 57 0).toInt = (hs_aI h 57 0).toInt := by rw [x10]
  have x10_1 : (hs_aI h5 57 1).toInt = (hs_aI h 57 1).toInt := by rw [x10]
  have x11 : hs_aI h5 101 = hs_aI h 101 := x11
  have x11_0 : (hs_aI h5 101 0).toInt = (hs_aI h 101 0).toInt := by rw [x11]
  have x11_1 : (hs_aI h5 101 1).toInt = (hs_aI h 101 1).toInt := by rw [x11]
  obtain ⟨y0, y1, y2, y3, y4, y5, y6, y7, y8, y9, y10, y11, y12, y13, y14, _⟩ := Jh10.2
  have y0 : (hs_fI h10 1 0).toInt = (hs_fI h5 1 0).toInt := y0
  have y1 : (hs_fI h10 1 3).toInt = (hs_fI h5 1 3).toInt := y1
  have y2 : (hs_fI h10 1 10).toInt = (hs_fI h5 1 10).toInt := y2
  have y3 : (hs_fI h10 12 0).toInt = (hs_fI h5 12 0).toInt := y3
  have y4 : (hs_fI h10 12 3).toInt = (hs_fI h5 12 3).toInt := y4
  have y5 : (hs_fI h10 12 10).toInt = (hs_fI h5 12 10).toInt := y5
  have y6 : (hs_fI h10 35 0).toInt = (hs_fI h5 35 0).toInt := y6
  have y7 : (hs_fI h10 35 3).toInt = (hs_fI h5 35 3).toInt := y7
  have y8 : (hs_fI h10 35 10).toInt = (hs_fI h5 35 10).toInt := y8
  have y9 : (hs_fI h10 46 0).toInt = (hs_fI h5 46 0).toInt := y9
  have y10 : (hs_fI h10 46 3).toInt = (hs_fI h5 46 3).toInt := y10
  have y11 : (hs_fI h10 46 10).toInt = (hs_fI h5 46 10).toInt := y11
  have y12 : hs_aI h10 100 = hs_aI h5 100 := y12
  have y12_0 : (hs_aI h10 100 0).toInt = (hs_aI h5 100 0).toInt := by rw [y12]
  have y12_1 : (hs_aI h10 100 1).toInt = (hs_aI h5 100 1).toInt := by rw [y12]
  have y12_2 : (hs_aI h10 100 2).toInt = (hs_aI h5 100 2).toInt := by rw [y12]
  have y12_5498 : (hs_aI h10 100 5498).toInt = (hs_aI h5 100 5498).toInt := by rw [y12]
  have y12_5499 : (hs_aI h10 100 5499).toInt = (hs_aI h5 100 5499).toInt := by rw [y12]
  have y12_5500 : (hs_aI h10 100 5500).toInt = (hs_aI h5 100 5500).toInt := by rw [y12]
  have y13 : hs_aI h10 57 = hs_aI h5 57 := y13
  have y13_0 : (hs_aI h10 57 0).toInt = (hs_aI h5 57 0).toInt := by rw [y13]
  have y13_1 : (hs_aI h10 57 1).toInt = (hs_aI h5 57 1).toInt := by rw [y13]
  have y14 : hs_aI h10 101 = hs_aI h5 101 := y14
  have y14_0 : (hs_aI h10 101 0).toInt = (hs_aI h5 101 0).toInt := by rw [y14]
  have y14_1 : (hs_aI h10 101 1).toInt = (hs_aI h5 101 1).toInt := by rw [y14]
  obtain ⟨u1, u2, u3, u4⟩ := cn_bk_f (by omega) (by omega) (by omega) (by omega) (by omega) (by omega) (by omega) fz6 fz11
  refine ty_ieq rfl (fun c12 => ?_) (fun c12 => ?_)
  · exact K h10 (tq_1 Jh10.1.1 (Or.inr ⟨Jh10.1.2, ⟨by omega, by omega, by omega⟩, ⟨by omega, by omega, by omega⟩, ⟨by omega, by omega, by omega⟩, by omega, by omega⟩))
  · exfalso; omega
theorem tb_38b {X : pm_X} {d L n : Nat} {xs : Nat → Int32} {h : pm_H} {i0 : Int32} {Q : pm_H → Option Value → Prop} (hd : 120 ≤ d) (hX : ty_SX X) (hS : ∀ h, pm_arr X h (.retAddr 200) = some (0, L, .inl xs)) (hL : L ≤ 3072) (a0 : 0 ≤ i0.toInt) (b0 : i0.toInt + 6 ≤ L) {T : Int} (hJ0 : tp_T n T h) (hr : rl 12 1 h) (K : ∀ h1, tq_K (n + 1) h1 → hq_W X d 12 false (some .boolean) pm_cL (1205, [some (.retAddr 200), some (.ref 0), some (.ref 97), some (.int i0)], [], h1) Q) : hq_W X d 12 false (some .boolean) pm_cL (1146, [some (.retAddr 200), some (.ref 0), some (.ref 97), some (.int i0)], [], h) Q := by
  rcases (show (xs (i0.toInt.toNat + 1)).toInt ≤ -1 ∨ (xs (i0.toInt.toNat + 1)).toInt = 0 ∨ (xs (i0.toInt.toNat + 1)).toInt = 1 ∨ 2 ≤ (xs (i0.toInt.toNat + 1)).toInt by omega) with hx | hx | hx | hx
  · exact tb_38bm hd hX hS hL a0 b0 hJ0 hr hx K
  · exact tb_38b0 hd hX hS hL a0 b0 hJ0 hr hx K
  · exact tb_38b1 hd hX hS hL a0 b0 hJ0 hr hx K
  · exact tb_38bq hd hX hS hL a0 b0 hJ0 hr hx K
theorem tb_38 {X : pm_X} {d L n : Nat} {xs : Nat → Int32} {h : pm_H} {i0 : Int32} {Q : pm_H → Option Value → Prop} (hd : 120 ≤ d) (hX : ty_SX X) (hS : ∀ h, pm_arr X h (.retAddr 200) = some (0, L, .inl xs)) (hL : L ≤ 3072) (a0 : 0 ≤ i0.toInt) (b0 : i0.toInt + 6 ≤ L) (hK : tq_K n h) (K : ∀ h1, tq_K (n + 1) h1 → hq_W X d 12 false (some .boolean) pm_cL (1205, [some (.retAddr 200), some (.ref 0), some (.ref 97), some (.int i0)], [], h1) Q) : hq_W X d 12 false (some .boolean) pm_cL (1146, [some (.retAddr 200), some (.ref 0), some (.ref 97), some (.int i0)], [], h) Q := by
  obtain ⟨T, hJ0, hr⟩ := hK
  rcases hr with hr | hr
  · exact tb_38a hd hX hS hL a0 b0 hJ0 hr K
  · exact tb_38b hd hX hS hL a0 b0 hJ0 hr K
end CT65
