/-! CONTRACTS (printed by wip/pm/cts.py) -/
section CT64
set_option maxRecDepth 20000 in
set_option maxHeartbeats 4000000 in
theorem tb_0a {X : pm_X} {d L n : Nat} {xs : Nat → Int32} {h : pm_H} {i0 : Int32} {Q : pm_H → Option Value → Prop} (hd : 120 ≤ d) (hX : ty_SX X) (hS : ∀ h, pm_arr X h (.retAddr 200) = some (0, L, .inl xs)) (hL : L ≤ 3072) (a0 : 0 ≤ i0.toInt) (b0 : i0.toInt + 6 ≤ L) {T : Int} (hJ0 : tp_T n T h) (hr : rl 1 12 h) (K : ∀ h1, tq_K (n + 1) h1 → hq_W X d 12 false (some .boolean) pm_cL (1205, [some (.retAddr 200), some (.ref 0), some (.ref 97), some (.int i0)], [], h1) Q) : hq_W X d 12 false (some .boolean) pm_cL (212, [some (.retAddr 200), some (.ref 0), some (.ref 97), some (.int i0)], [], h) Q := by
  have H := tp_Cq_1_0 1 12 n T h
  have hJ : tp_F [(0, 1, 3), (0, 1, 10), (0, 35, 0), (0, 35, 3), (0, 35, 10), (0, 46, 0), (0, 46, 3), (0, 46, 10), (1, 99, 0), (1, 99, 1), (1, 99, 2), (3, 100, 0), (3, 57, 0), (3, 101, 0)] 1 12 n T h h := ⟨⟨hJ0, hr.1⟩, fr_refl h _⟩
  have I := H.1 h hJ
  refine hq_p rfl rfl ?_
  refine hq_p rfl rfl ?_
  refine hq_p rfl rfl ?_
  refine hq_p rfl rfl (ty_ge (n := 1) nk_i1 (fun z1 ez1 => ?_))
  refine hq_p rfl rfl (ty_ge (n := i0.toInt + z1.toInt) (nm_add (by omega) (by omega)) (fun z2 ez2 => ?_))
  refine hq_iald rfl (hS h) (hs_in (by omega) (by omega)) (ty_ge rfl (fun z3 ez3 => ?_))
  have az3 := nm_lo z3
  have bz3 := nm_hi z3
  refine ty_callj 0 (W := (ty_W2q 1 0)) H hJ rfl (fun _ => rfl) rfl rfl rfl (hq_pre_o I.1 (x := 0) (ci := 10) rfl (by decide) rfl rfl rfl rfl) (fun a k w => by unfold ty_Wqn at w; unfold ty_W2q; omega) (by unfold ty_Wqn ty_W2q; omega) (ct_83a (x1 := z3) (by omega) hJ.1.2.1 hJ.1.2.2) (fun h5 _ Jh5 P4 => ?_)
  have Ih5 := H.1 h5 Jh5
  obtain ⟨z6, rfl, fz6⟩ := P4
  have az6 := nm_lo z6
  have bz6 := nm_hi z6
  refine hq_p rfl rfl ?_
  have H := tp_Cr_0 1 12 n T h5
  have hM : tp_F [(0, 1, 0), (0, 1, 3), (0, 1, 10), (0, 12, 0), (0, 12, 3), (0, 12, 10), (0, 35, 0), (0, 35, 3), (0, 35, 10), (0, 46, 0), (0, 46, 3), (0, 46, 10), (1, 99, 1), (1, 99, 2), (3, 100, 0), (3, 57, 0), (3, 101, 0)] 1 12 n T h5 h5 := ⟨Jh5.1, fr_refl _ _⟩
  refine hq_p rfl rfl ?_
  refine hq_p rfl rfl ?_
  refine hq_p rfl rfl ?_
  refine hq_p rfl rfl (ty_ge (n := 1) nk_i1 (fun z7 ez7 => ?_))
  refine hq_p rfl rfl (ty_ge (n := i0.toInt + z7.toInt) (nm_add (by omega) (by omega)) (fun z8 ez8 => ?_))
  refine hq_iald rfl (hS h5) (hs_in (by omega) (by omega)) (ty_ge rfl (fun z9 ez9 => ?_))
  have az9 := nm_lo z9
  have bz9 := nm_hi z9
  have qz9 : z9.toInt = z3.toInt := by rw [ez9, ez3, show z8.toNatClampNeg = z2.toNatClampNeg by rw [nm_nat, nm_nat]; omega]
  clear ez9 ez3
  refine ty_callj 0 (W := (ty_W2r 0)) H hM rfl (fun _ => rfl) rfl rfl rfl (hq_pre_o Ih5.1 (x := 97) (ci := 11) rfl (by decide) rfl rfl rfl rfl) (fun a k w => by unfold ty_Wxr at w; unfold ty_W2r; omega) (by unfold ty_Wxr ty_W2r; omega) (ct_154 (x1 := z9) (by omega)) (fun h11 _ Jh11 P10 => ?_)
  have Ih11 := H.1 h11 Jh11
  obtain ⟨z12, rfl, fz12⟩ := P10
  have az12 := nm_lo z12
  have bz12 := nm_hi z12
  obtain ⟨⟨a1, a2⟩, ⟨b1, b2, b3⟩, ⟨c1, c2, c3⟩, ⟨d1, d2, d3⟩, k1, k2⟩ := hr
  obtain ⟨x0, x1, x2, x3, x4, x5, x6, x7, x8, x9, x10, x11, x12, x13, _⟩ := Jh5.2
  have x0 : (hs_fI h5 1 3).toInt = (hs_fI h 1 3).toInt := x0
  have x1 : (hs_fI h5 1 10).toInt = (hs_fI h 1 10).toInt := x1
  have x2 : (hs_fI h5 35 0).toInt = (hs_fI h 35 0).toInt := x2
  have x3 : (hs_fI h5 35 3).toInt = (hs_fI h 35 3).toInt := x3
  have x4 : (hs_fI h5 35 10).toInt = (hs_fI h 35 10).toInt := x4
  have x5 : (hs_fI h5 46 0).toInt = (hs_fI h 46 0).toInt := x5
  have x6 : (hs_fI h5 46 3).toInt = (hs_fI h 46 3).toInt := x6
  have x7 : (hs_fI h5 46 10).toInt = (hs_fI h 46 10).toInt := x7
  have x8 : (hs_aI h5 99 0).toInt = (hs_aI h 99 0).toInt := x8
  have x9 : (hs_aI h5 99 1).toInt = (hs_aI h 99 1).toInt := x9
  have x10 : (hs_aI h5 99 2).toInt = (hs_aI h 99 2).toInt := x10
  have x11 : hs_aI h5 100 = hs_aI h 100 := x11
  have x11_0 : (hs_aI h5 100 0).toInt = (hs_aI h 100 0).toInt := by rw [x11]
  have x11_1 : (hs_aI h5 100 1).toInt = (hs_aI h 100 1).toInt := by rw [x11]
  have x11_2 : (hs_aI h5 100 2).toInt = (hs_aI h 100 2).toInt := by rw [x11]
  have x11_5498 : (hs_aI h5 100 5498).toInt = (hs_aI h 100 5498).toInt := by rw [x11]
  have x11_5499 : (hs_aI h5 100 5499).toInt = (hs_aI h 100 5499).toInt := by rw [x11]
  have x11_5500 : (hs_aI h5 100 5500).toInt = (hs_aI h 100 5500).toInt := by rw [x11]
  have x12 : hs_aI h5 57 = hs_aI h 57 := x12
  have x12_0 : (hs_aI h5 57 0).toInt = (hs_aI h 57 0).toInt := by rw [x12]
  have x12_1 : (hs_aI h5 57 1).toInt = (hs_aI h 57 1).toInt := by rw [x12]
  have x13 : hs_aI h5 101 = hs_aI h 101 := x13
  have x13_0 : (hs_aI h5 101 0).toInt = (hs_aI h 101 0).toInt := by rw [x13]
  have x13_1 : (hs_aI h5 101 1).toInt = (hs_aI h 101 1).toInt := by rw [x13]
  obtain ⟨y0, y1, y2, y3, y4, y5, y6, y7, y8, y9, y10, y11, y12, y13, y14, y15, y16, _⟩ := Jh11.2
  have y0 : (hs_fI h11 1 0).toInt = (hs_fI h5 1 0).toInt := y0
  have y1 : (hs_fI h11 1 3).toInt = (hs_fI h5 1 3).toInt := y1
  have y2 : (hs_fI h11 1 10).toInt = (hs_fI h5 1 10).toInt := y2
  have y3 : (hs_fI h11 12 0).toInt = (hs_fI h5 12 0).toInt := y3
  have y4 : (hs_fI h11 12 3).toInt = (hs_fI h5 12 3).toInt := y4
  have y5 : (hs_fI h11 12 10).toInt = (hs_fI h5 12 10).toInt := y5
  have y6 : (hs_fI h11 35 0).toInt = (hs_fI h5 35 0).toInt := y6
  have y7 : (hs_fI h11 35 3).toInt = (hs_fI h5 35 3).toInt := y7
  have y8 : (hs_fI h11 35 10).toInt = (hs_fI h5 35 10).toInt := y8
  have y9 : (hs_fI h11 46 0).toInt = (hs_fI h5 46 0).toInt := y9
  have y10 : (hs_fI h11 46 3).toInt = (hs_fI h5 46 3).toInt := y10
  have y11 : (hs_fI h11 46 10).toInt = (hs_fI h5 46 10).toInt := y11
  have y12 : (hs_aI h11 99 1).toInt = (hs_aI h5 99 1).toInt := y12
  have y13 : (hs_aI h11 99 2).toInt = (hs_aI h5 99 2).toInt := y13
  have y14 : hs_aI h11 100 = hs_aI h5 100 := y14
  have y14_0 : (hs_aI h11 100 0).toInt = (hs_aI h5 100 0).toInt := by rw [y14]
  have y14_1 : (hs_aI h11 100 1).toInt = (hs_aI h5 100 1).toInt := by rw [y14]
  have y14_2 : (hs_aI h11 100 2).toInt = (hs_aI h5 100 2).toInt := by rw [y14]
  have y14_5498 : (hs_aI h11 100 5498).toInt = (hs_aI h5 100 5498).toInt := by rw [y14]
  have y14_5499 : (hs_aI h11 100 5499).toInt = (hs_aI h5 100 5499).toInt := by rw [y14]
  have y14_5500 : (hs_aI h11 100 5500).toInt = (hs_aI h5 100 5500).toInt := by rw [y14]
  have y15 : hs_aI h11 57 = hs_aI h5 57 := y15
  have y15_0 : (hs_aI h11 57 0).toInt = (hs_aI h5 57 0).toInt := by rw [y15]
  have y15_1 : (hs_aI h11 57 1).toInt = (hs_aI h5 57 1).toInt := by rw [y15]
  have y16 : hs_aI h11 101 = hs_aI h5 101 := y16
  have y16_0 : (hs_aI h11 101 0).toInt = (hs_aI h5 101 0).toInt := by rw [y16]
  have y16_1 : (hs_aI h11 101 1).toInt = (hs_aI h5 101 1).toInt := by rw [y16]
  obtain ⟨u1, u2⟩ := cn_ad_f (by omega) (by omega) fz6 fz12
  refine hq_p rfl rfl ?_
  refine hq_p rfl rfl ?_
  exact K h11 (tq_1 Jh11.1.1 (Or.inl ⟨Jh11.1.2, ⟨by omega, by omega, by omega⟩, ⟨by omega, by omega, by omega⟩, ⟨by omega, by omega, by omega⟩, by omega, by omega⟩))
set_option maxRecDepth 20000 in
set_option maxHeartbeats 4000000 in
theorem tb_0b {X : pm_X} {d L n : Nat} {xs : Nat → Int32} {h : pm_H} {i0 : Int32} {Q : pm_H → Option Value → Prop} (hd : 120 ≤ d) (hX : ty_SX X) (hS : ∀ h, pm_arr X h (.retAddr 200) = some (0, L, .inl xs)) (hL : L ≤ 3072) (a0 : 0 ≤ i0.toInt) (b0 : i0.toInt + 6 ≤ L) {T : Int} (hJ0 : tp_T n T h) (hr : rl 12 1 h) (K : ∀ h1, tq_K (n + 1) h1 → hq_W X d 12 false (some .boolean) pm_cL (1205, [some (.retAddr 200), some (.ref 0), some (.ref 97), some (.int i0)], [], h1) Q) : hq_W X d 12 false (some .boolean) pm_cL (212, [some (.retAddr 200), some (.ref 0), some (.ref 97), some (.int i0)], [], h) Q := by
  have H := tp_Cq_12_0 12 1 n T h
  have hJ : tp_F [(0, 12, 3), (0, 12, 10), (0, 35, 0), (0, 35, 3), (0, 35, 10), (0, 46, 0), (0, 46, 3), (0, 46, 10), (1, 99, 0), (1, 99, 1), (1, 99, 2), (3, 100, 0), (3, 57, 0), (3, 101, 0)] 12 1 n T h h := ⟨⟨hJ0, hr.1⟩, fr_refl h _⟩
  have I := H.1 h hJ
  refine hq_p rfl rfl ?_
  refine hq_p rfl rfl ?_
  refine hq_p rfl rfl ?_
  refine hq_p rfl rfl (ty_ge (n := 1) nk_i1 (fun z1 ez1 => ?_))
  refine hq_p rfl rfl (ty_ge (n := i0.toInt + z1.toInt) (nm_add (by omega) (by omega)) (fun z2 ez2 => ?_))
  refine hq_iald rfl (hS h) (hs_in (by omega) (by omega)) (ty_ge rfl (fun z3 ez3 => ?_))
  have az3 := nm_lo z3
  have bz3 := nm_hi z3
  refine ty_callj 0 (W := (ty_W2q 12 0)) H hJ rfl (fun _ => rfl) rfl rfl rfl (hq_pre_o I.1 (x := 0) (ci := 10) rfl (by decide) rfl rfl rfl rfl) (fun a k w => by unfold ty_Wqn at w; unfold ty_W2q; omega) (by unfold ty_Wqn ty_W2q; omega) (ct_83b (x1 := z3) (by omega) hJ.1.2.1 hJ.1.2.2) (fun h5 _ Jh5 P4 => ?_)
  have Ih5 := H.1 h5 Jh5
  obtain ⟨z6, rfl, fz6⟩ := P4
  have az6 := nm_lo z6
  have bz6 := nm_hi z6
  refine hq_p rfl rfl ?_
  have H := tp_Cr_0 12 1 n T h5
  have hM : tp_F [(0, 1, 0), (0, 1, 3), (0, 1, 10), (0, 12, 0), (0, 12, 3), (0, 12, 10), (0, 35, 0), (0, 35, 3), (0, 35, 10), (0, 46, 0), (0, 46, 3), (0, 46, 10), (1, 99, 1), (1, 99, 2), (3, 100, 0), (3, 57, 0), (3, 101, 0)] 12 1 n T h5 h5 := ⟨Jh5.1, fr_refl _ _⟩
  refine hq_p rfl rfl ?_
  refine hq_p rfl rfl ?_
  refine hq_p rfl rfl ?_
  refine hq_p rfl rfl (ty_ge (n := 1) nk_i1 (fun z7 ez7 => ?_))
  refine hq_p rfl rfl (ty_ge (n := i0.toInt + z7.toInt) (nm_add (by omega) (by omega)) (fun z8 ez8 => ?_))
  refine hq_iald rfl (hS h5) (hs_in (by omega) (by omega)) (ty_ge rfl (fun z9 ez9 => ?_))
  have az9 := nm_lo z9
  have bz9 := nm_hi z9
  have qz9 : z9.toInt = z3.toInt := by rw [ez9, ez3, show z8.toNatClampNeg = z2.toNatClampNeg by rw [nm_nat, nm_nat]; omega]
  clear ez9 ez3
  refine ty_callj 0 (W := (ty_W2r 0)) H hM rfl (fun _ => rfl) rfl rfl rfl (hq_pre_o Ih5.1 (x := 97) (ci := 11) rfl (by decide) rfl rfl rfl rfl) (fun a k w => by unfold ty_Wxr at w; unfold ty_W2r; omega) (by unfold ty_Wxr ty_W2r; omega) (ct_154 (x1 := z9) (by omega)) (fun h11 _ Jh11 P10 => ?_)
  have Ih11 := H.1 h11 Jh11
  obtain ⟨z12, rfl, fz12⟩ := P10
  have az12 := nm_lo z12
  have bz12 := nm_hi z12
  obtain ⟨⟨a1, a2⟩, ⟨b1, b2, b3⟩, ⟨c1, c2, c3⟩, ⟨d1, d2, d3⟩, k1, k2⟩ := hr
  obtain ⟨x0, x1, x2, x3, x4, x5, x6, x7, x8, x9, x10, x11, x12, x13, _⟩ := Jh5.2
  have x0 : (hs_fI h5 12 3).toInt = (hs_fI h 12 3).toInt := x0
  have x1 : (hs_fI h5 12 10).toInt = (hs_fI h 12 10).toInt := x1
  have x2 : (hs_fI h5 35 0).toInt = (hs_fI h 35 0).toInt := x2
  have x3 : (hs_fI h5 35 3).toInt = (hs_fI h 35 3).toInt := x3
  have x4 : (hs_fI h5 35 10).toInt = (hs_fI h 35 10).toInt := x4
  have x5 : (hs_fI h5 46 0).toInt = (hs_fI h 46 0).toInt := x5
  have x6 : (hs_fI h5 46 3).toInt = (hs_fI h 46 3).toInt := x6
  have x7 : (hs_fI h5 46 10).toInt = (hs_fI h 46 10).toInt := x7
  have x8 : (hs_aI h5 99 0).toInt = (hs_aI h 99 0).toInt := x8
  have x9 : (hs_aI h5 99 1).toInt = (hs_aI h 99 1).toInt := x9
  have x10 : (hs_aI h5 99 2).toInt = (hs_aI h 99 2).toInt := x10
  have x11 : hs_aI h5 100 = hs_aI h 100 := x11
  have x11_0 : (hs_aI h5 100 0).toInt = (hs_aI h 100 0).toInt := by rw [x11]
  have x11_1 : (hs_aI h5 100 1).toInt = (hs_aI h 100 1).toInt := by rw [x11]
  have x11_2 : (hs_aI h5 100 2).toInt = (hs_aI h 100 2).toInt := by rw [x11]
  have x11_5498 : (hs_aI h5 100 5498).toInt = (hs_aI h 100 5498).toInt := by rw [x11]
  have x11_5499 : (hs_aI h5 100 5499).toInt = (hs_aI h 100 5499).toInt := by rw [x11]
  have x11_5500 : (hs_aI h5 100 5500).toInt = (hs_aI h 100 5500).toInt := by rw [x11]
  have x12 : hs_aI h5 57 = hs_aI h 57 := x12
  have x12_0 : (hs_aI h5 57 0).toInt = (hs_aI h 57 0).toInt := by rw [x12]
  have x12_1 : (hs_aI h5 57 1).toInt = (hs_aI h 57 1).toInt := by rw [x12]
  have x13 : hs_aI h5 101 = hs_aI h 101 := x13
  have x13_0 : (hs_aI h5 101 0).toInt = (hs_aI h 101 0).toInt := by rw [x13]
  have x13_1 : (hs_aI h5 101 1).toInt = (hs_aI h 101 1).toInt := by rw [x13]
  obtain ⟨y0, y1, y2, y3, y4, y5, y6, y7, y8, y9, y10, y11, y12, y13, y14, y15, y16, _⟩ := Jh11.2
  have y0 : (hs_fI h11 1 0).toInt = (hs_fI h5 1 0).toInt := y0
  have y1 : (hs_fI h11 1 3).toInt = (hs_fI h5 1 3).toInt := y1
  have y2 : (hs_fI h11 1 10).toInt = (hs_fI h5 1 10).toInt := y2
  have y3 : (hs_fI h11 12 0).toInt = (hs_fI h5 12 0).toInt := y3
  have y4 : (hs_fI h11 12 3).toInt = (hs_fI h5 12 3).toInt := y4
  have y5 : (hs_fI h11 12 10).toInt = (hs_fI h5 12 10).toInt := y5
  have y6 : (hs_fI h11 35 0).toInt = (hs_fI h5 35 0).toInt := y6
  have y7 : (hs_fI h11 35 3).toInt = (hs_fI h5 35 3).toInt := y7
  have y8 : (hs_fI h11 35 10).toInt = (hs_fI h5 35 10).toInt := y8
  have y9 : (hs_fI h11 46 0).toInt = (hs_fI h5 46 0).toInt := y9
  have y10 : (hs_fI h11 46 3).toInt = (hs_fI h5 46 3).toInt := y10
  have y11 : (hs_fI h11 46 10).toInt = (hs_fI h5 46 10).toInt := y11
  have y12 : (hs_aI h11 99 1).toInt = (hs_aI h5 99 1).toInt := y12
  have y13 : (hs_aI h11 99 2).toInt = (hs_aI h5 99 2).toInt := y13
  have y14 : hs_aI h11 100 = hs_aI h5 100 := y14
  have y14_0 : (hs_aI h11 100 0).toInt = (hs_aI h5 100 0).toInt := by rw [y14]
  have y14_1 : (hs_aI h11 100 1).toInt = (hs_aI h5 100 1).toInt := by rw [y14]
  have y14_2 : (hs_aI h11 100 2).toInt = (hs_aI h5 100 2).toInt := by rw [y14]
  have y14_5498 : (hs_aI h11 100 5498).toInt = (hs_aI h5 100 5498).toInt := by rw [y14]
  have y14_5499 : (hs_aI h11 100 5499).toInt = (hs_aI h5 100 5499).toInt := by rw [y14]
  have y14_5500 : (hs_aI h11 100 5500).toInt = (hs_aI h5 100 5500).toInt := by rw [y14]
  have y15 : hs_aI h11 57 = hs_aI h5 57 := y15
  have y15_0 : (hs_aI h11 57 0).toInt = (hs_aI h5 57 0).toInt := by rw [y15]
  have y15_1 : (hs_aI h11 57 1).toInt = (hs_aI h5 57 1).toInt := by rw [y15]
  have y16 : hs_aI h11 101 = hs_aI h5 101 := y16
  have y16_0 : (hs_aI h11 101 0).toInt = (hs_aI h5 101 0).toInt := by rw [y16]
  have y16_1 : (hs_aI h11 101 1).toInt = (hs_aI h5 101 1).toInt := by rw [y16]
  obtain ⟨u1, u2⟩ := cn_ad_f (by omega) (by omega) fz6 fz12
  refine hq_p rfl rfl ?_
  refine hq_p rfl rfl ?_
  exact K h11 (tq_1 Jh11.1.1 (Or.inr ⟨Jh11.1.2, ⟨by omega, by omega, by omega⟩, ⟨by omega, by omega, by omega⟩, ⟨by omega, by omega, by omega⟩, by omega, by omega⟩))
theorem tb_0 {X : pm_X} {d L n : Nat} {xs : Nat → Int32} {h : pm_H} {i0 : Int32} {Q : pm_H → Option Value → Prop} (hd : 120 ≤ d) (hX : ty_SX X) (hS : ∀ h, pm_arr X h (.retAddr 200) = some (0, L, .inl xs)) (hL : L ≤ 3072) (a0 : 0 ≤ i0.toInt) (b0 : i0.toInt + 6 ≤ L) (hK : tq_K n h) (K : ∀ h1, tq_K (n + 1) h1 → hq_W X d 12 false (some .boolean) pm_cL (1205, [some (.retAddr 200), some (.ref 0), some (.ref 97), some (.int i0)], [], h1) Q) : hq_W X d 12 false (some .boolean) pm_cL (212, [some (.retAddr 200), some (.ref 0), some (.ref 97), some (.int i0)], [], h) Q := by
  obtain ⟨T, hJ0, hr⟩ := hK
  rcases hr with hr | hr
  · exact tb_0a hd hX hS hL a0 b0 hJ0 hr K
  · exact tb_0b hd hX hS hL a0 b0 hJ0 hr K
set_option maxRecDepth 20000 in
set_option maxHeartbeats 4000000 in
theorem tb_2a {X : pm_X} {d L n : Nat} {xs : Nat → Int32} {h : pm_H} {i0 : Int32} {Q : pm_H → Option Value → Prop} (hd : 120 ≤ d) (hX : ty_SX X) (hS : ∀ h, pm_arr X h (.retAddr 200) = some (0, L, .inl xs)) (hL : L ≤ 3072) (a0 : 0 ≤ i0.toInt) (b0 : i0.toInt + 6 ≤ L) {T : Int} (hJ0 : tp_T n T h) (hr : rl 1 12 h) (K : ∀ h1, tq_K (n + 1) h1 → hq_W X d 12 false (some .boolean) pm_cL (1205, [some (.retAddr 200), some (.ref 0), some (.ref 97), some (.int i0)], [], h1) Q) : hq_W X d 12 false (some .boolean) pm_cL (268, [some (.retAddr 200), some (.ref 0), some (.ref 97), some (.int i0)], [], h) Q := by
  have H := tp_Cq_1_3 1 12 n T h
  have hJ : tp_F [(0, 1, 0), (0, 1, 10), (0, 35, 0), (0, 35, 3), (0, 35, 10), (0, 46, 0), (0, 46, 3), (0, 46, 10), (1, 99, 0), (1, 99, 1), (1, 99, 2), (3, 100, 0), (3, 57, 0), (3, 101, 0)] 1 12 n T h h := ⟨⟨hJ0, hr.1⟩, fr_refl h _⟩
  have I := H.1 h hJ
  refine hq_p rfl rfl ?_
  refine hq_p rfl rfl ?_
  refine hq_p rfl rfl ?_
  refine hq_p rfl rfl (ty_ge (n := 1) nk_i1 (fun z1 ez1 => ?_))
  refine hq_p rfl rfl (ty_ge (n := i0.toInt + z1.toInt) (nm_add (by omega) (by omega)) (fun z2 ez2 => ?_))
  refine hq_iald rfl (hS h) (hs_in (by omega) (by omega)) (ty_ge rfl (fun z3 ez3 => ?_))
  have az3 := nm_lo z3
  have bz3 := nm_hi z3
  refine ty_callj 0 (W := (ty_W2q 1 3)) H hJ rfl (fun _ => rfl) rfl rfl rfl (hq_pre_o I.1 (x := 0) (ci := 10) rfl (by decide) rfl rfl rfl rfl) (fun a k w => by unfold ty_Wqn at w; unfold ty_W2q; omega) (by unfold ty_Wqn ty_W2q; omega) (ct_85a (x1 := z3) (by omega) hJ.1.2.1 hJ.1.2.2) (fun h5 _ Jh5 P4 => ?_)
  have Ih5 := H.1 h5 Jh5
  obtain ⟨z6, rfl, fz6⟩ := P4
  have az6 := nm_lo z6
  have bz6 := nm_hi z6
  refine hq_p rfl rfl ?_
  have H := tp_Cr_1 1 12 n T h5
  have hM : tp_F [(0, 1, 0), (0, 1, 3), (0, 1, 10), (0, 12, 0), (0, 12, 3), (0, 12, 10), (0, 35, 0), (0, 35, 3), (0, 35, 10), (0, 46, 0), (0, 46, 3), (0, 46, 10), (1, 99, 0), (1, 99, 2), (3, 100, 0), (3, 57, 0), (3, 101, 0)] 1 12 n T h5 h5 := ⟨Jh5.1, fr_refl _ _⟩
  refine hq_p rfl rfl ?_
  refine hq_p rfl rfl ?_
  refine hq_p rfl rfl ?_
  refine hq_p rfl rfl (ty_ge (n := 1) nk_i1 (fun z7 ez7 => ?_))
  refine hq_p rfl rfl (ty_ge (n := i0.toInt + z7.toInt) (nm_add (by omega) (by omega)) (fun z8 ez8 => ?_))
  refine hq_iald rfl (hS h5) (hs_in (by omega) (by omega)) (ty_ge rfl (fun z9 ez9 => ?_))
  have az9 := nm_lo z9
  have bz9 := nm_hi z9
  have qz9 : z9.toInt = z3.toInt := by rw [ez9, ez3, show z8.toNatClampNeg = z2.toNatClampNeg by rw [nm_nat, nm_nat]; omega]
  clear ez9 ez3
  refine ty_callj 0 (W := (ty_W2r 1)) H hM rfl (fun _ => rfl) rfl rfl rfl (hq_pre_o Ih5.1 (x := 97) (ci := 11) rfl (by decide) rfl rfl rfl rfl) (fun a k w => by unfold ty_Wxr at w; unfold ty_W2r; omega) (by unfold ty_Wxr ty_W2r; omega) (ct_156 (x1 := z9) (by omega)) (fun h11 _ Jh11 P10 => ?_)
  have Ih11 := H.1 h11 Jh11
  obtain ⟨z12, rfl, fz12⟩ := P10
  have az12 := nm_lo z12
  have bz12 := nm_hi z12
  obtain ⟨⟨a1, a2⟩, ⟨b1, b2, b3⟩, ⟨c1, c2, c3⟩, ⟨d1, d2, d3⟩, k1, k2⟩ := hr
  obtain ⟨x0, x1, x2, x3, x4, x5, x6, x7, x8, x9, x10, x11, x12, x13, _⟩ := Jh5.2
  have x0 : (hs_fI h5 1 0).toInt = (hs_fI h 1 0).toInt := x0
  have x1 : (hs_fI h5 1 10).toInt = (hs_fI h 1 10).toInt := x1
  have x2 : (hs_fI h5 35 0).toInt = (hs_fI h 35 0).toInt := x2
  have x3 : (hs_fI h5 35 3).toInt = (hs_fI h 35 3).toInt := x3
  have x4 : (hs_fI h5 35 10).toInt = (hs_fI h 35 10).toInt := x4
  have x5 : (hs_fI h5 46 0).toInt = (hs_fI h 46 0).toInt := x5
  have x6 : (hs_fI h5 46 3).toInt = (hs_fI h 46 3).toInt := x6
  have x7 : (hs_fI h5 46 10).toInt = (hs_fI h 46 10).toInt := x7
  have x8 : (hs_aI h5 99 0).toInt = (hs_aI h 99 0).toInt := x8
  have x9 : (hs_aI h5 99 1).toInt = (hs_aI h 99 1).toInt := x9
  have x10 : (hs_aI h5 99 2).toInt = (hs_aI h 99 2).toInt := x10
  have x11 : hs_aI h5 100 = hs_aI h 100 := x11
  have x11_0 : (hs_aI h5 100 0).toInt = (hs_aI h 100 0).toInt := by rw [x11]
  have x11_1 : (hs_aI h5 100 1).toInt = (hs_aI h 100 1).toInt := by rw [x11]
  have x11_2 : (hs_aI h5 100 2).toInt = (hs_aI h 100 2).toInt := by rw [x11]
  have x11_5498 : (hs_aI h5 100 5498).toInt = (hs_aI h 100 5498).toInt := by rw [x11]
  have x11_5499 : (hs_aI h5 100 5499).toInt = (hs_aI h 100 5499).toInt := by rw [x11]
  have x11_5500 : (hs_aI h5 100 5500).toInt = (hs_aI h 100 5500).toInt := by rw [x11]
  have x12 : hs_aI h5 57 = hs_aI h 57 := x12
  have x12_0 : (hs_aI h5 57 0).toInt = (hs_aI h 57 0).toInt := by rw [x12]
  have x12_1 : (hs_aI h5 57 1).toInt = (hs_aI h 57 1).toInt := by rw [x12]
  have x13 : hs_aI h5 101 = hs_aI h 101 := x13
  have x13_0 : (hs_aI h5 101 0).toInt = (hs_aI h 101 0).toInt := by rw [x13]
  have x13_1 : (hs_aI h5 101 1).toInt = (hs_aI h 101 1).toInt := by rw [x13]
  obtain ⟨y0, y1, y2, y3, y4, y5, y6, y7, y8, y9, y10, y11, y12, y13, y14, y15, y16, _⟩ := Jh11.2
  have y0 : (hs_fI h11 1 0).toInt = (hs_fI h5 1 0).toInt := y0
  have y1 : (hs_fI h11 1 3).toInt = (hs_fI h5 1 3).toInt := y1
  have y2 : (hs_fI h11 1 10).toInt = (hs_fI h5 1 10).toInt := y2
  have y3 : (hs_fI h11 12 0).toInt = (hs_fI h5 12 0).toInt := y3
  have y4 : (hs_fI h11 12 3).toInt = (hs_fI h5 12 3).toInt := y4
  have y5 : (hs_fI h11 12 10).toInt = (hs_fI h5 12 10).toInt := y5
  have y6 : (hs_fI h11 35 0).toInt = (hs_fI h5 35 0).toInt := y6
  have y7 : (hs_fI h11 35 3).toInt = (hs_fI h5 35 3).toInt := y7
  have y8 : (hs_fI h11 35 10).toInt = (hs_fI h5 35 10).toInt := y8
  have y9 : (hs_fI h11 46 0).toInt = (hs_fI h5 46 0).toInt := y9
  have y10 : (hs_fI h11 46 3).toInt = (hs_fI h5 46 3).toInt := y10
  have y11 : (hs_fI h11 46 10).toInt = (hs_fI h5 46 10).toInt := y11
  have y12 : (hs_aI h11 99 0).toInt = (hs_aI h5 99 0).toInt := y12
  have y13 : (hs_aI h11 99 2).toInt = (hs_aI h5 99 2).toInt := y13
  have y14 : hs_aI h11 100 = hs_aI h5 100 := y14
  have y14_0 : (hs_aI h11 100 0).toInt = (hs_aI h5 100 0).toInt := by rw [y14]
  have y14_1 : (hs_aI h11 100 1).toInt = (hs_aI h5 100 1).toInt := by rw [y14]
  have y14_2 : (hs_aI h11 100 2).toInt = (hs_aI h5 100 2).toInt := by rw [y14]
  have y14_5498 : (hs_aI h11 100 5498).toInt = (hs_aI h5 100 5498).toInt := by rw [y14]
  have y14_5499 : (hs_aI h11 100 5499).toInt = (hs_aI h5 100 5499).toInt := by rw [y14]
  have y14_5500 : (hs_aI h11 100 5500).toInt = (hs_aI h5 100 5500).toInt := by rw [y14]
  have y15 : hs_aI h11 57 = hs_aI h5 57 := y15
  have y15_0 : (hs_aI h11 57 0).toInt = (hs_aI h5 57 0).toInt := by rw [y15]
  have y15_1 : (hs_aI h11 57 1).toInt = (hs_aI h5 57 1).toInt := by rw [y15]
  have y16 : hs_aI h11 101 = hs_aI h5 101 := y16
  have y16_0 : (hs_aI h11 101 0).toInt = (hs_aI h5 101 0).toInt := by rw [y16]
  have y16_1 : (hs_aI h11 101 1).toInt = (hs_aI h5 101 1).toInt := by rw [y16]
  obtain ⟨u1, u2⟩ := cn_ad_f (by omega) (by omega) fz6 fz12
  refine hq_p rfl rfl ?_
  refine hq_p rfl rfl ?_
  exact K h11 (tq_1 Jh11.1.1 (Or.inl ⟨Jh11.1.2, ⟨by omega, by omega, by omega⟩, ⟨by omega, by omega, by omega⟩, ⟨by omega, by omega, by omega⟩, by omega, by omega⟩))
set_option maxRecDepth 20000 in
set_option maxHeartbeats 4000000 in
theorem tb_2b {X : pm_X} {d L n : Nat} {xs : Nat → Int32} {h : pm_H} {i0 : Int32} {Q : pm_H → Option Value → Prop} (hd : 120 ≤ d) (hX : ty_SX X) (hS : ∀ h, pm_arr X h (.retAddr 200) = some (0, L, .inl xs)) (hL : L ≤ 3072) (a0 : 0 ≤ i0.toInt) (b0 : i0.toInt + 6 ≤ L) {T : Int} (hJ0 : tp_T n T h) (hr : rl 12 1 h) (K : ∀ h1, tq_K (n + 1) h1 → hq_W X d 12 false (some .boolean) pm_cL (1205, [some (.retAddr 200), some (.ref 0), some (.ref 97), some (.int i0)], [], h1) Q) : hq_W X d 12 false (some .boolean) pm_cL (268, [some (.retAddr 200), some (.ref 0), some (.ref 97), some (.int i0)], [], h) Q := by
  have H := tp_Cq_12_3 12 1 n T h
  have hJ : tp_F [(0, 12, 0), (0, 12, 10), (0, 35, 0), (0, 35, 3), (0, 35, 10), (0, 46, 0), (0, 46, 3), (0, 46, 10), (1, 99, 0), (1, 99, 1), (1, 99, 2), (3, 100, 0), (3, 57, 0), (3, 101, 0)] 12 1 n T h h := ⟨⟨hJ0, hr.1⟩, fr_refl h _⟩
  have I := H.1 h hJ
  refine hq_p rfl rfl ?_
  refine hq_p rfl rfl ?_
  refine hq_p rfl rfl ?_
  refine hq_p rfl rfl (ty_ge (n := 1) nk_i1 (fun z1 ez1 => ?_))
  refine hq_p rfl rfl (ty_ge (n := i0.toInt + z1.toInt) (nm_add (by omega) (by omega)) (fun z2 ez2 => ?_))
  refine hq_iald rfl (hS h) (hs_in (by omega) (by omega)) (ty_ge rfl (fun z3 ez3 => ?_))
  have az3 := nm_lo z3
  have bz3 := nm_hi z3
  refine ty_callj 0 (W := (ty_W2q 12 3)) H hJ rfl (fun _ => rfl) rfl rfl rfl (hq_pre_o I.1 (x := 0) (ci := 10) rfl (by decide) rfl rfl rfl rfl) (fun a k w => by unfold ty_Wqn at w; unfold ty_W2q; omega) (by unfold ty_Wqn ty_W2q; omega) (ct_85b (x1 := z3) (by omega) hJ.1.2.1 hJ.1.2.2) (fun h5 _ Jh5 P4 => ?_)
  have Ih5 := H.1 h5 Jh5
  obtain ⟨z6, rfl, fz6⟩ := P4
  have az6 := nm_lo z6
  have bz6 := nm_hi z6
  refine hq_p rfl rfl ?_
  have H := tp_Cr_1 12 1 n T h5
  have hM : tp_F [(0, 1, 0), (0, 1, 3), (0, 1, 10), (0, 12, 0), (0, 12, 3), (0, 12, 10), (0, 35, 0), (0, 35, 3), (0, 35, 10), (0, 46, 0), (0, 46, 3), (0, 46, 10), (1, 99, 0), (1, 99, 2), (3, 100, 0), (3, 57, 0), (3, 101, 0)] 12 1 n T h5 h5 := ⟨Jh5.1, fr_refl _ _⟩
  refine hq_p rfl rfl ?_
  refine hq_p rfl rfl ?_
  refine hq_p rfl rfl ?_
  refine hq_p rfl rfl (ty_ge (n := 1) nk_i1 (fun z7 ez7 => ?_))
  refine hq_p rfl rfl (ty_ge (n := i0.toInt + z7.toInt) (nm_add (by omega) (by omega)) (fun z8 ez8 => ?_))
  refine hq_iald rfl (hS h5) (hs_in (by omega) (by omega)) (ty_ge rfl (fun z9 ez9 => ?_))
  have az9 := nm_lo z9
  have bz9 := nm_hi z9
  have qz9 : z9.toInt = z3.toInt := by rw [ez9, ez3, show z8.toNatClampNeg = z2.toNatClampNeg by rw [nm_nat, nm_nat]; omega]
  clear ez9 ez3
  refine ty_callj 0 (W := (ty_W2r 1)) H hM rfl (fun _ => rfl) rfl rfl rfl (hq_pre_o Ih5.1 (x := 97) (ci := 11) rfl (by decide) rfl rfl rfl rfl) (fun a k w => by unfold ty_Wxr at w; unfold ty_W2r; omega) (by unfold ty_Wxr ty_W2r; omega) (ct_156 (x1 := z9) (by omega)) (fun h11 _ Jh11 P10 => ?_)
  have Ih11 := H.1 h11 Jh11
  obtain ⟨z12, rfl, fz12⟩ := P10
  have az12 := nm_lo z12
  have bz12 := nm_hi z12
  obtain ⟨⟨a1, a2⟩, ⟨b1, b2, b3⟩, ⟨c1, c2, c3⟩, ⟨d1, d2, d3⟩, k1, k2⟩ := hr
  obtain ⟨x0, x1, x2, x3, x4, x5, x6, x7, x8, x9, x10, x11, x12, x13, _⟩ := Jh5.2
  have x0 : (hs_fI h5 12 0).toInt = (hs_fI h 12 0).toInt := x0
  have x1 : (hs_fI h5 12 10).toInt = (hs_fI h 12 10).toInt := x1
  have x2 : (hs_fI h5 35 0).toInt = (hs_fI h 35 0).toInt := x2
  have x3 : (hs_fI h5 35 3).toInt = (hs_fI h 35 3).toInt := x3
  have x4 : (hs_fI h5 35 10).toInt = (hs_fI h 35 10).toInt := x4
  have x5 : (hs_fI h5 46 0).toInt = (hs_fI h 46 0).toInt := x5
  have x6 : (hs_fI h5 46 3).toInt = (hs_fI h 46 3).toInt := x6
  have x7 : (hs_fI h5 46 10).toInt = (hs_fI h 46 10).toInt := x7
  have x8 : (hs_aI h5 99 0).toInt = (hs_aI h 99 0).toInt := x8
  have x9 : (hs_aI h5 99 1).toInt = (hs_aI h 99 1).toInt := x9
  have x10 : (hs_aI h5 99 2).toInt = (hs_aI h 99 2).toInt := x10
  have x11 : hs_aI h5 100 = hs_aI h 100 := x11
  have x11_0 : (hs_aI h5 100 0).toInt = (hs_aI h 100 0).toInt := by rw [x11]
  have x11_1 : (hs_aI h5 100 1).toInt = (hs_aI h 100 1).toInt := by rw [x11]
  have x11_2 : (hs_aI h5 100 2).toInt = (hs_aI h 100 2).toInt := by rw [x11]
  have x11_5498 : (hs_aI h5 100 5498).toInt = (hs_aI h 100 5498).toInt := by rw [x11]
  have x11_5499 : (hs_aI h5 100 5499).toInt = (hs_aI h 100 5499).toInt := by rw [x11]
  have x11_5500 : (hs_aI h5 100 5500).toInt = (hs_aI h 100 5500).toInt := by rw [x11]
  have x12 : hs_aI h5 57 = hs_aI h 57 := x12
  have x12_0 : (hs_aI h5 57 0).toInt = (hs_aI h 57 0).toInt := by rw [x12]
  have x12_1 : (hs_aI h5 57 1).toInt = (hs_aI h 57 1).toInt := by rw [x12]
  have x13 : hs_aI h5 101 = hs_aI h 101 := x13
  have x13_0 : (hs_aI h5 101 0).toInt = (hs_aI h 101 0).toInt := by rw [x13]
  have x13_1 : (hs_aI h5 101 1).toInt = (hs_aI h 101 1).toInt := by rw [x13]
  obtain ⟨y0, y1, y2, y3, y4, y5, y6, y7, y8, y9, y10, y11, y12, y13, y14, y15, y16, _⟩ := Jh11.2
  have y0 : (hs_fI h11 1 0).toInt = (hs_fI h5 1 0).toInt := y0
  have y1 : (hs_fI h11 1 3).toInt = (hs_fI h5 1 3).toInt := y1
  have y2 : (hs_fI h11 1 10).toInt = (hs_fI h5 1 10).toInt := y2
  have y3 : (hs_fI h11 12 0).toInt = (hs_fI h5 12 0).toInt := y3
  have y4 : (hs_fI h11 12 3).toInt = (hs_fI h5 12 3).toInt := y4
  have y5 : (hs_fI h11 12 10).toInt = (hs_fI h5 12 10).toInt := y5
  have y6 : (hs_fI h11 35 0).toInt = (hs_fI h5 35 0).toInt := y6
  have y7 : (hs_fI h11 35 3).toInt = (hs_fI h5 35 3).toInt := y7
  have y8 : (hs_fI h11 35 10).toInt = (hs_fI h5 35 10).toInt := y8
  have y9 : (hs_fI h11 46 0).toInt = (hs_fI h5 46 0).toInt := y9
  have y10 : (hs_fI h11 46 3).toInt = (hs_fI h5 46 3).toInt := y10
  have y11 : (hs_fI h11 46 10).toInt = (hs_fI h5 46 10).toInt := y11
  have y12 : (hs_aI h11 99 0).toInt = (hs_aI h5 99 0).toInt := y12
  have y13 : (hs_aI h11 99 2).toInt = (hs_aI h5 99 2).toInt := y13
  have y14 : hs_aI h11 100 = hs_aI h5 100 := y14
  have y14_0 : (hs_aI h11 100 0).toInt = (hs_aI h5 100 0).toInt := by rw [y14]
  have y14_1 : (hs_aI h11 100 1).toInt = (hs_aI h5 100 1).toInt := by rw [y14]
  have y14_2 : (hs_aI h11 100 2).toInt = (hs_aI h5 100 2).toInt := by rw [y14]
  have y14_5498 : (hs_aI h11 100 5498).toInt = (hs_aI h5 100 5498).toInt := by rw [y14]
  have y14_5499 : (hs_aI h11 100 5499).toInt = (hs_aI h5 100 5499).toInt := by rw [y14]
  have y14_5500 : (hs_aI h11 100 5500).toInt = (hs_aI h5 100 5500).toInt := by rw [y14]
  have y15 : hs_aI h11 57 = hs_aI h5 57 := y15
  have y15_0 : (hs_aI h11 57 0).toInt = (hs_aI h5 57 0).toInt := by rw [y15]
  have y15_1 : (hs_aI h11 57 1).toInt = (hs_aI h5 57 1).toInt := by rw [y15]
  have y16 : hs_aI h11 101 = hs_aI h5 101 := y16
  have y16_0 : (hs_aI h11 101 0).toInt = (hs_aI h5 101 0).toInt := by rw [y16]
  have y16_1 : (hs_aI h11 101 1).toInt = (hs_aI h5 101 1).toInt := by rw [y16]
  obtain ⟨u1, u2⟩ := cn_ad_f (by omega) (by omega) fz6 fz12
  refine hq_p rfl rfl ?_
  refine hq_p rfl rfl ?_
  exact K h11 (tq_1 Jh11.1.1 (Or.inr ⟨Jh11.1.2, ⟨by omega, by omega, by omega⟩, ⟨by omega, by omega, by omega⟩, ⟨by omega, by omega, by omega⟩, by omega, by omega⟩))
theorem tb_2 {X : pm_X} {d L n : Nat} {xs : Nat → Int32} {h : pm_H} {i0 : Int32} {Q : pm_H → Option Value → Prop} (hd : 120 ≤ d) (hX : ty_SX X) (hS : ∀ h, pm_arr X h (.retAddr 200) = some (0, L, .inl xs)) (hL : L ≤ 3072) (a0 : 0 ≤ i0.toInt) (b0 : i0.toInt + 6 ≤ L) (hK : tq_K n h) (K : ∀ h1, tq_K (n + 1) h1 → hq_W X d 12 false (some .boolean) pm_cL (1205, [some (.retAddr 200), some (.ref 0), some (.ref 97), some (.int i0)], [], h1) Q) : hq_W X d 12 false (some .boolean) pm_cL (268, [some (.retAddr 200), some (.ref 0), some (.ref 97), some (.int i0)], [], h) Q := by
  obtain ⟨T, hJ0, hr⟩ := hK
  rcases hr with hr | hr
  · exact tb_2a hd hX hS hL a0 b0 hJ0 hr K
  · exact tb_2b hd hX hS hL a0 b0 hJ0 hr K
set_option maxRecDepth 20000 in
set_option maxHeartbeats 4000000 in
theorem tb_24a {X : pm_X} {d L n : Nat} {xs : Nat → Int32} {h : pm_H} {i0 : Int32} {Q : pm_H → Option Value → Prop} (hd : 120 ≤ d) (hX : ty_SX X) (hS : ∀ h, pm_arr X h (.retAddr 200) = some (0, L, .inl xs)) (hL : L ≤ 3072) (a0 : 0 ≤ i0.toInt) (b0 : i0.toInt + 6 ≤ L) {T : Int} (hJ0 : tp_T n T h) (hr : rl 1 12 h) (K : ∀ h1, tq_K (n + 1) h1 → hq_W X d 12 false (some .boolean) pm_cL (1205, [some (.retAddr 200), some (.ref 0), some (.ref 97), some (.int i0)], [], h1) Q) : hq_W X d 12 false (some .boolean) pm_cL (814, [some (.retAddr 200), some (.ref 0), some (.ref 97), some (.int i0)], [], h) Q := by
  have H := tp_Cq_1_10 1 12 n T h
  have hJ : tp_F [(0, 1, 0), (0, 1, 3), (0, 35, 0), (0, 35, 3), (0, 35, 10), (0, 46, 0), (0, 46, 3), (0, 46, 10), (1, 99, 0), (1, 99, 1), (1, 99, 2), (3, 100, 0), (3, 57, 0), (3, 101, 0)] 1 12 n T h h := ⟨⟨hJ0, hr.1⟩, fr_refl h _⟩
  have I := H.1 h hJ
  refine hq_p rfl rfl ?_
  refine hq_p rfl rfl ?_
  refine hq_p rfl rfl ?_
  refine hq_p rfl rfl (ty_ge (n := 1) nk_i1 (fun z1 ez1 => ?_))
  refine hq_p rfl rfl (ty_ge (n := i0.toInt + z1.toInt) (nm_add (by omega) (by omega)) (fun z2 ez2 => ?_))
  refine hq_iald rfl (hS h) (hs_in (by omega) (by omega)) (ty_ge rfl (fun z3 ez3 => ?_))
  have az3 := nm_lo z3
  have bz3 := nm_hi z3
  refine hq_p rfl rfl ?_
  refine hq_p rfl rfl ?_
  refine hq_p rfl rfl (ty_ge (n := 2) nk_i2 (fun z4 ez4 => ?_))
  refine hq_p rfl rfl (ty_ge (n := i0.toInt + z4.toInt) (nm_add (by omega) (by omega)) (fun z5 ez5 => ?_))
  refine hq_iald rfl (hS h) (hs_in (by omega) (by omega)) (ty_ge rfl (fun z6 ez6 => ?_))
  have az6 := nm_lo z6
  have bz6 := nm_hi z6
  refine ty_callj 0 (W := (ty_W2q 1 10)) H hJ rfl (fun _ => rfl) rfl rfl rfl (hq_pre_o I.1 (x := 0) (ci := 10) rfl (by decide) rfl rfl rfl rfl) (fun a k w => by unfold ty_Wqn at w; unfold ty_W2q; omega) (by unfold ty_Wqn ty_W2q; omega) (ct_107a (x1 := z3) (x2 := z6) (by omega) hJ.1.2.1 hJ.1.2.2) (fun h8 _ Jh8 P7 => ?_)
  have Ih8 := H.1 h8 Jh8
  obtain ⟨z9, rfl, fz9⟩ := P7
  have az9 := nm_lo z9
  have bz9 := nm_hi z9
  refine hq_p rfl rfl ?_
  have H := tp_Cr_2 1 12 n T h8
  have hM : tp_F [(0, 1, 0), (0, 1, 3), (0, 1, 10), (0, 12, 0), (0, 12, 3), (0, 12, 10), (0, 35, 0), (0, 35, 3), (0, 35, 10), (0, 46, 0), (0, 46, 3), (0, 46, 10), (1, 99, 0), (1, 99, 1), (3, 100, 0), (3, 57, 0), (3, 101, 0)] 1 12 n T h8 h8 := ⟨Jh8.1, fr_refl _ _⟩
  refine hq_p rfl rfl ?_
  refine hq_p rfl rfl ?_
  refine hq_p rfl rfl ?_
  refine hq_p rfl rfl (ty_ge (n := 1) nk_i1 (fun z10 ez10 => ?_))
  refine hq_p rfl rfl (ty_ge (n := i0.toInt + z10.toInt) (nm_add (by omega) (by omega)) (fun z11 ez11 => ?_))
  refine hq_iald rfl (hS h8) (hs_in (by omega) (by omega)) (ty_ge rfl (fun z12 ez12 => ?_))
  have az12 := nm_lo z12
  have bz12 := nm_hi z12
  have qz12 : z12.toInt = z3.toInt := by rw [ez12, ez3, show z11.toNatClampNeg = z2.toNatClampNeg by rw [nm_nat, nm_nat]; omega]
  clear ez12 ez3
  refine hq_p rfl rfl ?_
  refine hq_p rfl rfl ?_
  refine hq_p rfl rfl (ty_ge (n := 2) nk_i2 (fun z13 ez13 => ?_))
  refine hq_p rfl rfl (ty_ge (n := i0.toInt + z13.toInt) (nm_add (by omega) (by omega)) (fun z14 ez14 => ?_))
  refine hq_iald rfl (hS h8) (hs_in (by omega) (by omega)) (ty_ge rfl (fun z15 ez15 => ?_))
  have az15 := nm_lo z15
  have bz15 := nm_hi z15
  have qz15 : z15.toInt = z6.toInt := by rw [ez15, ez6, show z14.toNatClampNeg = z5.toNatClampNeg by rw [nm_nat, nm_nat]; omega]
  clear ez15 ez6
  refine ty_callj 0 (W := (ty_W2r 2)) H hM rfl (fun _ => rfl) rfl rfl rfl (hq_pre_o Ih8.1 (x := 97) (ci := 11) rfl (by decide) rfl rfl rfl rfl) (fun a k w => by unfold ty_Wxr at w; unfold ty_W2r; omega) (by unfold ty_Wxr ty_W2r; omega) (ct_228 (x1 := z12) (x2 := z15) (by omega)) (fun h17 _ Jh17 P16 => ?_)
  have Ih17 := H.1 h17 Jh17
  obtain ⟨z18, rfl, fz18⟩ := P16
  have az18 := nm_lo z18
  have bz18 := nm_hi z18
  obtain ⟨⟨a1, a2⟩, ⟨b1, b2, b3⟩, ⟨c1, c2, c3⟩, ⟨d1, d2, d3⟩, k1, k2⟩ := hr
  obtain ⟨x0, x1, x2, x3, x4, x5, x6, x7, x8, x9, x10, x11, x12, x13, _⟩ := Jh8.2
  have x0 : (hs_fI h8 1 0).toInt = (hs_fI h 1 0).toInt := x0
  have x1 : (hs_fI h8 1 3).toInt = (hs_fI h 1 3).toInt := x1
  have x2 : (hs_fI h8 35 0).toInt = (hs_fI h 35 0).toInt := x2
  have x3 : (hs_fI h8 35 3).toInt = (hs_fI h 35 3).toInt := x3
  have x4 : (hs_fI h8 35 10).toInt = (hs_fI h 35 10).toInt := x4
  have x5 : (hs_fI h8 46 0).toInt = (hs_fI h 46 0).toInt := x5
  have x6 : (hs_fI h8 46 3).toInt = (hs_fI h 46 3).toInt := x6
  have x7 : (hs_fI h8 46 10).toInt = (hs_fI h 46 10).toInt := x7
  have x8 : (hs_aI h8 99 0).toInt = (hs_aI h 99 0).toInt := x8
  have x9 : (hs_aI h8 99 1).toInt = (hs_aI h 99 1).toInt := x9
  have x10 : (hs_aI h8 99 2).toInt = (hs_aI h 99 2).toInt := x10
  have x11 : hs_aI h8 100 = hs_aI h 100 := x11
  have x11_0 : (hs_aI h8 100 0).toInt = (hs_aI h 100 0).toInt := by rw [x11]
  have x11_1 : (hs_aI h8 100 1).toInt = (hs_aI h 100 1).toInt := by rw [x11]
  have x11_2 : (hs_aI h8 100 2).toInt = (hs_aI h 100 2).toInt := by rw [x11]
  have x11_5498 : (hs_aI h8 100 5498).toInt = (hs_aI h 100 5498).toInt := by rw [x11]
  have x11_5499 : (hs_aI h8 100 5499).toInt = (hs_aI h 100 5499).toInt := by rw [x11]
  have x11_5500 : (hs_aI h8 100 5500).toInt = (hs_aI h 100 5500).toInt := by rw [x11]
  have x12 : hs_aI h8 57 = hs_aI h 57 := x12
  have x12_0 : (hs_aI h8 57 0).toInt = (hs_aI h 57 0).toInt := by rw [x12]
  have x12_1 : (hs_aI h8 57 1).toInt = (hs_aI h 57 1).toInt := by rw [x12]
  have x13 : hs_aI h8 101 = hs_aI h 101 := x13
  have x13_0 : (hs_aI h8 101 0).toInt = (hs_aI h 101 0).toInt := by rw [x13]
  have x13_1 : (hs_aI h8 101 1).toInt = (hs_aI h 101 1).toInt := by rw [x13]
  obtain ⟨y0, y1, y2, y3, y4, y5, y6, y7, y8, y9, y10, y11, y12, y13, y14, y15, y16, _⟩ := Jh17.2
  have y0 : (hs_fI h17 1 0).toInt = (hs_fI h8 1 0).toInt := y0
  have y1 : (hs_fI h17 1 3).toInt = (hs_fI h8 1 3).toInt := y1
  have y2 : (hs_fI h17 1 10).toInt = (hs_fI h8 1 10).toInt := y2
  have y3 : (hs_fI h17 12 0).toInt = (hs_fI h8 12 0).toInt := y3
  have y4 : (hs_fI h17 12 3).toInt = (hs_fI h8 12 3).toInt := y4
  have y5 : (hs_fI h17 12 10).toInt = (hs_fI h8 12 10).toInt := y5
  have y6 : (hs_fI h17 35 0).toInt = (hs_fI h8 35 0).toInt := y6
  have y7 : (hs_fI h17 35 3).toInt = (hs_fI h8 35 3).toInt := y7
  have y8 : (hs_fI h17 35 10).toInt = (hs_fI h8 35 10).toInt := y8
  have y9 : (hs_fI h17 46 0).toInt = (hs_fI h8 46 0).toInt := y9
  have y10 : (hs_fI h17 46 3).toInt = (hs_fI h8 46 3).toInt := y10
  have y11 : (hs_fI h17 46 10).toInt = (hs_fI h8 46 10).toInt := y11
  have y12 : (hs_aI h17 99 0).toInt = (hs_aI h8 99 0).toInt := y12
  have y13 : (hs_aI h17 99 1).toInt = (hs_aI h8 99 1).toInt := y13
  have y14 : hs_aI h17 100 = hs_aI h8 100 := y14
  have y14_0 : (hs_aI h17 100 0).toInt = (hs_aI h8 100 0).toInt := by rw [y14]
  have y14_1 : (hs_aI h17 100 1).toInt = (hs_aI h8 100 1).toInt := by rw [y14]
  have y14_2 : (hs_aI h17 100 2).toInt = (hs_aI h8 100 2).toInt := by rw [y14]
  have y14_5498 : (hs_aI h17 100 5498).toInt = (hs_aI h8 100 5498).toInt := by rw [y14]
  have y14_5499 : (hs_aI h17 100 5499).toInt = (hs_aI h8 100 5499).toInt := by rw [y14]
  have y14_5500 : (hs_aI h17 100 5500).toInt = (hs_aI h8 100 5500).toInt := by rw [y14]
  have y15 : hs_aI h17 57 = hs_aI h8 57 := y15
  have y15_0 : (hs_aI h17 57 0).toInt = (hs_aI h8 57 0).toInt := by rw [y15]
  have y15_1 : (hs_aI h17 57 1).toInt = (hs_aI h8 57 1).toInt := by rw [y15]
  have y16 : hs_aI h17 101 = hs_aI h8 101 := y16
  have y16_0 : (hs_aI h17 101 0).toInt = (hs_aI h8 101 0).toInt := by rw [y16]
  have y16_1 : (hs_aI h17 101 1).toInt = (hs_aI h8 101 1).toInt := by rw [y16]
  obtain ⟨u1, u2⟩ := cn_se_f (by omega) (by omega) (by omega) (by omega) fz9 fz18
  refine hq_p rfl rfl ?_
  refine hq_p rfl rfl ?_
  exact K h17 (tq_1 Jh17.1.1 (Or.inl ⟨Jh17.1.2, ⟨by omega, by omega, by omega⟩, ⟨by omega, by omega, by omega⟩, ⟨by omega, by omega, by omega⟩, by omega, by omega⟩))
set_option maxRecDepth 20000 in
set_option maxHeartbeats 4000000 in
theorem tb_24b {X : pm_X} {d L n : Nat} {xs : Nat → Int32} {h : pm_H} {i0 : Int32} {Q : pm_H → Option Value → Prop} (hd : 120 ≤ d) (hX : ty_SX X) (hS : ∀ h, pm_arr X h (.retAddr 200) = some (0, L, .inl xs)) (hL : L ≤ 3072) (a0 : 0 ≤ i0.toInt) (b0 : i0.toInt + 6 ≤ L) {T : Int} (hJ0 : tp_T n T h) (hr : rl 12 1 h) (K : ∀ h1, tq_K (n + 1) h1 → hq_W X d 12 false (some .boolean) pm_cL (1205, [some (.retAddr 200), some (.ref 0), some (.ref 97), some (.int i0)], [], h1) Q) : hq_W X d 12 false (some .boolean) pm_cL (814, [some (.retAddr 200), some (.ref 0), some (.ref 97), some (.int i0)], [], h) Q := by
  have H := tp_Cq_12_10 12 1 n T h
  have hJ : tp_F [(0, 12, 0), (0, 12, 3), (0, 35, 0), (0, 35, 3), (0, 35, 10), (0, 46, 0), (0, 46, 3), (0, 46, 10), (1, 99, 0), (1, 99, 1), (1, 99, 2), (3, 100, 0), (3, 57, 0), (3, 101, 0)] 12 1 n T h h := ⟨⟨hJ0, hr.1⟩, fr_refl h _⟩
  have I := H.1 h hJ
  refine hq_p rfl rfl ?_
  refine hq_p rfl rfl ?_
  refine hq_p rfl rfl ?_
  refine hq_p rfl rfl (ty_ge (n := 1) nk_i1 (fun z1 ez1 => ?_))
  refine hq_p rfl rfl (ty_ge (n := i0.toInt + z1.toInt) (nm_add (by omega) (by omega)) (fun z2 ez2 => ?_))
  refine hq_iald rfl (hS h) (hs_in (by omega) (by omega)) (ty_ge rfl (fun z3 ez3 => ?_))
  have az3 := nm_lo z3
  have bz3 := nm_hi z3
  refine hq_p rfl rfl ?_
  refine hq_p rfl rfl ?_
  refine hq_p rfl rfl (ty_ge (n := 2) nk_i2 (fun z4 ez4 => ?_))
  refine hq_p rfl rfl (ty_ge (n := i0.toInt + z4.toInt) (nm_add (by omega) (by omega)) (fun z5 ez5 => ?_))
  refine hq_iald rfl (hS h) (hs_in (by omega) (by omega)) (ty_ge rfl (fun z6 ez6 => ?_))
  have az6 := nm_lo z6
  have bz6 := nm_hi z6
  refine ty_callj 0 (W := (ty_W2q 12 10)) H hJ rfl (fun _ => rfl) rfl rfl rfl (hq_pre_o I.1 (x := 0) (ci := 10) rfl (by decide) rfl rfl rfl rfl) (fun a k w => by unfold ty_Wqn at w; unfold ty_W2q; omega) (by unfold ty_Wqn ty_W2q; omega) (ct_107b (x1 := z3) (x2 := z6) (by omega) hJ.1.2.1 hJ.1.2.2) (fun h8 _ Jh8 P7 => ?_)
  have Ih8 := H.1 h8 Jh8
  obtain ⟨z9, rfl, fz9⟩ := P7
  have az9 := nm_lo z9
  have bz9 := nm_hi z9
  refine hq_p rfl rfl ?_
  have H := tp_Cr_2 12 1 n T h8
  have hM : tp_F [(0, 1, 0), (0, 1, 3), (0, 1, 10), (0, 12, 0), (0, 12, 3), (0, 12, 10), (0, 35, 0), (0, 35, 3), (0, 35, 10), (0, 46, 0), (0, 46, 3), (0, 46, 10), (1, 99, 0), (1, 99, 1), (3, 100, 0), (3, 57, 0), (3, 101, 0)] 12 1 n T h8 h8 := ⟨Jh8.1, fr_refl _ _⟩
  refine hq_p rfl rfl ?_
  refine hq_p rfl rfl ?_
  refine hq_p rfl rfl ?_
  refine hq_p rfl rfl (ty_ge (n := 1) nk_i1 (fun z10 ez10 => ?_))
  refine hq_p rfl rfl (ty_ge (n := i0.toInt + z10.toInt) (nm_add (by omega) (by omega)) (fun z11 ez11 => ?_))
  refine hq_iald rfl (hS h8) (hs_in (by omega) (by omega)) (ty_ge rfl (fun z12 ez12 => ?_))
  have az12 := nm_lo z12
  have bz12 := nm_hi z12
  have qz12 : z12.toInt = z3.toInt := by rw [ez12, ez3, show z11.toNatClampNeg = z2.toNatClampNeg by rw [nm_nat, nm_nat]; omega]
  clear ez12 ez3
  refine hq_p rfl rfl ?_
  refine hq_p rfl rfl ?_
  refine hq_p rfl rfl (ty_ge (n := 2) nk_i2 (fun z13 ez13 => ?_))
  refine hq_p rfl rfl (ty_ge (n := i0.toInt + z13.toInt) (nm_add (by omega) (by omega)) (fun z14 ez14 => ?_))
  refine hq_iald rfl (hS h8) (hs_in (by omega) (by omega)) (ty_ge rfl (fun z15 ez15 => ?_))
  have az15 := nm_lo z15
  have bz15 := nm_hi z15
  have qz15 : z15.toInt = z6.toInt := by rw [ez15, ez6, show z14.toNatClampNeg = z5.toNatClampNeg by rw [nm_nat, nm_nat]; omega]
  clear ez15 ez6
  refine ty_callj 0 (W := (ty_W2r 2)) H hM rfl (fun _ => rfl) rfl rfl rfl (hq_pre_o Ih8.1 (x := 97) (ci := 11) rfl (by decide) rfl rfl rfl rfl) (fun a k w => by unfold ty_Wxr at w; unfold ty_W2r; omega) (by unfold ty_Wxr ty_W2r; omega) (ct_228 (x1 := z12) (x2 := z15) (by omega)) (fun h17 _ Jh17 P16 => ?_)
  have Ih17 := H.1 h17 Jh17
  obtain ⟨z18, rfl, fz18⟩ := P16
  have az18 := nm_lo z18
  have bz18 := nm_hi z18
  obtain ⟨⟨a1, a2⟩, ⟨b1, b2, b3⟩, ⟨c1, c2, c3⟩, ⟨d1, d2, d3⟩, k1, k2⟩ := hr
  obtain ⟨x0, x1, x2, x3, x4, x5, x6, x7, x8, x9, x10, x11, x12, x13, _⟩ := Jh8.2
  have x0 : (hs_fI h8 12 0).toInt = (hs_fI h 12 0).toInt := x0
  have x1 : (hs_fI h8 12 3).toInt = (hs_fI h 12 3).toInt := x1
  have x2 : (hs_fI h8 35 0).toInt = (hs_fI h 35 0).toInt := x2
  have x3 : (hs_fI h8 35 3).toInt = (hs_fI h 35 3).toInt := x3
  have x4 : (hs_fI h8 35 10).toInt = (hs_fI h 35 10).toInt := x4
  have x5 : (hs_fI h8 46 0).toInt = (hs_fI h 46 0).toInt := x5
  have x6 : (hs_fI h8 46 3).toInt = (hs_fI h 46 3).toInt := x6
  have x7 : (hs_fI h8 46 10).toInt = (hs_fI h 46 10).toInt := x7
  have x8 : (hs_aI h8 99 0).toInt = (hs_aI h 99 0).toInt := x8
  have x9 : (hs_aI h8 99 1).toInt = (hs_aI h 99 1).toInt := x9
  have x10 : (hs_aI h8 99 2).toInt = (hs_aI h 99 2).toInt := x10
  have x11 : hs_aI h8 100 = hs_aI h 100 := x11
  have x11_0 : (hs_aI h8 100 0).toInt = (hs_aI h 100 0).toInt := by rw [x11]
  have x11_1 : (hs_aI h8 100 1).toInt = (hs_aI h 100 1).toInt := by rw [x11]
  have x11_2 : (hs_aI h8 100 2).toInt = (hs_aI h 100 2).toInt := by rw [x11]
  have x11_5498 : (hs_aI h8 100 5498).toInt = (hs_aI h 100 5498).toInt := by rw [x11]
  have x11_5499 : (hs_aI h8 100 5499).toInt = (hs_aI h 100 5499).toInt := by rw [x11]
  have x11_5500 : (hs_aI h8 100 5500).toInt = (hs_aI h 100 5500).toInt := by rw [x11]
  have x12 : hs_aI h8 57 = hs_aI h 57 := x12
  have x12_0 : (hs_aI h8 57 0).toInt = (hs_aI h 57 0).toInt := by rw [x12]
  have x12_1 : (hs_aI h8 57 1).toInt = (hs_aI h 57 1).toInt := by rw [x12]
  have x13 : hs_aI h8 101 = hs_aI h 101 := x13
  have x13_0 : (hs_aI h8 101 0).toInt = (hs_aI h 101 0).toInt := by rw [x13]
  have x13_1 : (hs_aI h8 101 1).toInt = (hs_aI h 101 1).toInt := by rw [x13]
  obtain ⟨y0, y1, y2, y3, y4, y5, y6, y7, y8, y9, y10, y11, y12, y13, y14, y15, y16, _⟩ := Jh17.2
  have y0 : (hs_fI h17 1 0).toInt = (hs_fI h8 1 0).toInt := y0
  have y1 : (hs_fI h17 1 3).toInt = (hs_fI h8 1 3).toInt := y1
  have y2 : (hs_fI h17 1 10).toInt = (hs_fI h8 1 10).toInt := y2
  have y3 : (hs_fI h17 12 0).toInt = (hs_fI h8 12 0).toInt := y3
  have y4 : (hs_fI h17 12 3).toInt = (hs_fI h8 12 3).toInt := y4
  have y5 : (hs_fI h17 12 10).toInt = (hs_fI h8 12 10).toInt := y5
  have y6 : (hs_fI h17 35 0).toInt = (hs_fI h8 35 0).toInt := y6
  have y7 : (hs_fI h17 35 3).toInt = (hs_fI h8 35 3).toInt := y7
  have y8 : (hs_fI h17 35 10).toInt = (hs_fI h8 35 10).toInt := y8
  have y9 : (hs_fI h17 46 0).toInt = (hs_fI h8 46 0).toInt := y9
  have y10 : (hs_fI h17 46 3).toInt = (hs_fI h8 46 3).toInt := y10
  have y11 : (hs_fI h17 46 10).toInt = (hs_fI h8 46 10).toInt := y11
  have y12 : (hs_aI h17 99 0).toInt = (hs_aI h8 99 0).toInt := y12
  have y13 : (hs_aI h17 99 1).toInt = (hs_aI h8 99 1).toInt := y13
  have y14 : hs_aI h17 100 = hs_aI h8 100 := y14
  have y14_0 : (hs_aI h17 100 0).toInt = (hs_aI h8 100 0).toInt := by rw [y14]
  have y14_1 : (hs_aI h17 100 1).toInt = (hs_aI h8 100 1).toInt := by rw [y14]
  have y14_2 : (hs_aI h17 100 2).toInt = (hs_aI h8 100 2).toInt := by rw [y14]
  have y14_5498 : (hs_aI h17 100 5498).toInt = (hs_aI h8 100 5498).toInt := by rw [y14]
  have y14_5499 : (hs_aI h17 100 5499).toInt = (hs_aI h8 100 5499).toInt := by rw [y14]
  have y14_5500 : (hs_aI h17 100 5500).toInt = (hs_aI h8 100 5500).toInt := by rw [y14]
  have y15 : hs_aI h17 57 = hs_aI h8 57 := y15
  have y15_0 : (hs_aI h17 57 0).toInt = (hs_aI h8 57 0).toInt := by rw [y15]
  have y15_1 : (hs_aI h17 57 1).toInt = (hs_aI h8 57 1).toInt := by rw [y15]
  have y16 : hs_aI h17 101 = hs_aI h8 101 := y16
  have y16_0 : (hs_aI h17 101 0).toInt = (hs_aI h8 101 0).toInt := by rw [y16]
  have y16_1 : (hs_aI h17 101 1).toInt = (hs_aI h8 101 1).toInt := by rw [y16]
  obtain ⟨u1, u2⟩ := cn_se_f (by omega) (by omega) (by omega) (by omega) fz9 fz18
  refine hq_p rfl rfl ?_
  refine hq_p rfl rfl ?_
  exact K h17 (tq_1 Jh17.1.1 (Or.inr ⟨Jh17.1.2, ⟨by omega, by omega, by omega⟩, ⟨by omega, by omega, by omega⟩, ⟨by omega, by omega, by omega⟩, by omega, by omega⟩))
theorem tb_24 {X : pm_X} {d L n : Nat} {xs : Nat → Int32} {h : pm_H} {i0 : Int32} {Q : pm_H → Option Value → Prop} (hd : 120 ≤ d) (hX : ty_SX X) (hS : ∀ h, pm_arr X h (.retAddr 200) = some (0, L, .inl xs)) (hL : L ≤ 3072) (a0 : 0 ≤ i0.toInt) (b0 : i0.toInt + 6 ≤ L) (hK : tq_K n h) (K : ∀ h1, tq_K (n + 1) h1 → hq_W X d 12 false (some .boolean) pm_cL (1205, [some (.retAddr 200), some (.ref 0), some (.ref 97), some (.int i0)], [], h1) Q) : hq_W X d 12 false (some .boolean) pm_cL (814, [some (.retAddr 200), some (.ref 0), some (.ref 97), some (.int i0)], [], h) Q := by
  obtain ⟨T, hJ0, hr⟩ := hK
  rcases hr with hr | hr
  · exact tb_24a hd hX hS hL a0 b0 hJ0 hr K
  · exact tb_24b hd hX hS hL a0 b0 hJ0 hr K
set_option maxRecDepth 20000 in
set_option maxHeartbeats 4000000 in
theorem tb_25a {X : pm_X} {d L n : Nat} {xs : Nat → Int32} {h : pm_H} {i0 : Int32} {Q : pm_H → Option Value → Prop} (hd : 120 ≤ d) (hX : ty_SX X) (hS : ∀ h, pm_arr X h (.retAddr 200) = some (0, L, .inl xs)) (hL : L ≤ 3072) (a0 : 0 ≤ i0.toInt) (b0 : i0.toInt + 6 ≤ L) {T : Int} (hJ0 : tp_T n T h) (hr : rl 1 12 h) (K : ∀ h1, tq_K (n + 1) h1 → hq_W X d 12 false (some .boolean) pm_cL (1205, [some (.retAddr 200), some (.ref 0), some (.ref 97), some (.int i0)], [], h1) Q) : hq_W X d 12 false (some .boolean) pm_cL (847, [some (.retAddr 200), some (.ref 0), some (.ref 97), some (.int i0)], [], h) Q := by
  have H := tp_Cq_1_10 1 12 n T h
  have hJ : tp_F [(0, 1, 0), (0, 1, 3), (0, 35, 0), (0, 35, 3), (0, 35, 10), (0, 46, 0), (0, 46, 3), (0, 46, 10), (1, 99, 0), (1, 99, 1), (1, 99, 2), (3, 100, 0), (3, 57, 0), (3, 101, 0)] 1 12 n T h h := ⟨⟨hJ0, hr.1⟩, fr_refl h _⟩
  have I := H.1 h hJ
  refine hq_p rfl rfl ?_
  refine ty_callj 0 (W := (ty_W2q 1 10)) H hJ rfl (fun _ => rfl) rfl rfl rfl (hq_pre_o I.1 (x := 0) (ci := 10) rfl (by decide) rfl rfl rfl rfl) (fun a k w => by unfold ty_Wqn at w; unfold ty_W2q; omega) (by unfold ty_Wqn ty_W2q; omega) (ct_108a (by omega) hJ.1.2.1 hJ.1.2.2) (fun h2 _ Jh2 P1 => ?_)
  have Ih2 := H.1 h2 Jh2
  obtain ⟨z3, rfl, fz3⟩ := P1
  have az3 := nm_lo z3
  have bz3 := nm_hi z3
  refine hq_p rfl rfl ?_
  have H := tp_Cr_2 1 12 n T h2
  have hM : tp_F [(0, 1, 0), (0, 1, 3), (0, 1, 10), (0, 12, 0), (0, 12, 3), (0, 12, 10), (0, 35, 0), (0, 35, 3), (0, 35, 10), (0, 46, 0), (0, 46, 3), (0, 46, 10), (1, 99, 0), (1, 99, 1), (3, 100, 0), (3, 57, 0), (3, 101, 0)] 1 12 n T h2 h2 := ⟨Jh2.1, fr_refl _ _⟩
  refine hq_p rfl rfl ?_
  refine ty_callj 0 (W := (ty_W2r 2)) H hM rfl (fun _ => rfl) rfl rfl rfl (hq_pre_o Ih2.1 (x := 97) (ci := 11) rfl (by decide) rfl rfl rfl rfl) (fun a k w => by unfold ty_Wxr at w; unfold ty_W2r; omega) (by unfold ty_Wxr ty_W2r; omega) (ct_229 (by omega)) (fun h5 _ Jh5 P4 => ?_)
  have Ih5 := H.1 h5 Jh5
  obtain ⟨z6, rfl, fz6⟩ := P4
  have az6 := nm_lo z6
  have bz6 := nm_hi z6
  obtain ⟨⟨a1, a2⟩, ⟨b1, b2, b3⟩, ⟨c1, c2, c3⟩, ⟨d1, d2, d3⟩, k1, k2⟩ := hr
  obtain ⟨x0, x1, x2, x3, x4, x5, x6, x7, x8, x9, x10, x11, x12, x13, _⟩ := Jh2.2
  have x0 : (hs_fI h2 1 0).toInt = (hs_fI h 1 0).toInt := x0
  have x1 : (hs_fI h2 1 3).toInt = (hs_fI h 1 3).toInt := x1
  have x2 : (hs_fI h2 35 0).toInt = (hs_fI h 35 0).toInt := x2
  have x3 : (hs_fI h2 35 3).toInt = (hs_fI h 35 3).toInt := x3
  have x4 : (hs_fI h2 35 10).toInt = (hs_fI h 35 10).toInt := x4
  have x5 : (hs_fI h2 46 0).toInt = (hs_fI h 46 0).toInt := x5
  have x6 : (hs_fI h2 46 3).toInt = (hs_fI h 46 3).toInt := x6
  have x7 : (hs_fI h2 46 10).toInt = (hs_fI h 46 10).toInt := x7
  have x8 : (hs_aI h2 99 0).toInt = (hs_aI h 99 0).toInt := x8
  have x9 : (hs_aI h2 99 1).toInt = (hs_aI h 99 1).toInt := x9
  have x10 : (hs_aI h2 99 2).toInt = (hs_aI h 99 2).toInt := x10
  have x11 : hs_aI h2 100 = hs_aI h 100 := x11
  have x11_0 : (hs_aI h2 100 0).toInt = (hs_aI h 100 0).toInt := by rw [x11]
  have x11_1 : (hs_aI h2 100 1).toInt = (hs_aI h 100 1).toInt := by rw [x11]
  have x11_2 : (hs_aI h2 100 2).toInt = (hs_aI h 100 2).toInt := by rw [x11]
  have x11_5498 : (hs_aI h2 100 5498).toInt = (hs_aI h 100 5498).toInt := by rw [x11]
  have x11_5499 : (hs_aI h2 100 5499).toInt = (hs_aI h 100 5499).toInt := by rw [x11]
  have x11_5500 : (hs_aI h2 100 5500).toInt = (hs_aI h 100 5500).toInt := by rw [x11]
  have x12 : hs_aI h2 57 = hs_aI h 57 := x12
  have x12_0 : (hs_aI h2 57 0).toInt = (hs_aI h 57 0).toInt := by rw [x12]
  have x12_1 : (hs_aI h2 57 1).toInt = (hs_aI h 57 1).toInt := by rw [x12]
  have x13 : hs_aI h2 101 = hs_aI h 101 := x13
  have x13_0 : (hs_aI h2 101 0).toInt = (hs_aI h 101 0).toInt := by rw [x13]
  have x13_1 : (hs_aI h2 101 1).toInt = (hs_aI h 101 1).toInt := by rw [x13]
  obtain ⟨y0, y1, y2, y3, y4, y5, y6, y7, y8, y9, y10, y11, y12, y13, y14, y15, y16, _⟩ := Jh5.2
  have y0 : (hs_fI h5 1 0).toInt = (hs_fI h2 1 0).toInt := y0
  have y1 : (hs_fI h5 1 3).toInt = (hs_fI h2 1 3).toInt := y1
  have y2 : (hs_fI h5 1 10).toInt = (hs_fI h2 1 10).toInt := y2
  have y3 : (hs_fI h5 12 0).toInt = (hs_fI h2 12 0).toInt := y3
  have y4 : (hs_fI h5 12 3).toInt = (hs_fI h2 12 3).toInt := y4
  have y5 : (hs_fI h5 12 10).toInt = (hs_fI h2 12 10).toInt := y5
  have y6 : (hs_fI h5 35 0).toInt = (hs_fI h2 35 0).toInt := y6
  have y7 : (hs_fI h5 35 3).toInt = (hs_fI h2 35 3).toInt := y7
  have y8 : (hs_fI h5 35 10).toInt = (hs_fI h2 35 10).toInt := y8
  have y9 : (hs_fI h5 46 0).toInt = (hs_fI h2 46 0).toInt := y9
  have y10 : (hs_fI h5 46 3).toInt = (hs_fI h2 46 3).toInt := y10
  have y11 : (hs_fI h5 46 10).toInt = (hs_fI h2 46 10).toInt := y11
  have y12 : (hs_aI h5 99 0).toInt = (hs_aI h2 99 0).toInt := y12
  have y13 : (hs_aI h5 99 1).toInt = (hs_aI h2 99 1).toInt := y13
  have y14 : hs_aI h5 100 = hs_aI h2 100 := y14
  have y14_0 : (hs_aI h5 100 0).toInt = (hs_aI h2 100 0).toInt := by rw [y14]
  have y14_1 : (hs_aI h5 100 1).toInt = (hs_aI h2 100 1).toInt := by rw [y14]
  have y14_2 : (hs_aI h5 100 2).toInt = (hs_aI h2 100 2).toInt := by rw [y14]
  have y14_5498 : (hs_aI h5 100 5498).toInt = (hs_aI h2 100 5498).toInt := by rw [y14]
  have y14_5499 : (hs_aI h5 100 5499).toInt = (hs_aI h2 100 5499).toInt := by rw [y14]
  have y14_5500 : (hs_aI h5 100 5500).toInt = (hs_aI h2 100 5500).toInt := by rw [y14]
  have y15 : hs_aI h5 57 = hs_aI h2 57 := y15
  have y15_0 : (hs_aI h5 57 0).toInt = (hs_aI h2 57 0).toInt := by rw [y15]
  have y15_1 : (hs_aI h5 57 1).toInt = (hs_aI h2 57 1).toInt := by rw [y15]
  have y16 : hs_aI h5 101 = hs_aI h2 101 := y16
  have y16_0 : (hs_aI h5 101 0).toInt = (hs_aI h2 101 0).toInt := by rw [y16]
  have y16_1 : (hs_aI h5 101 1).toInt = (hs_aI h2 101 1).toInt := by rw [y16]
  refine hq_p rfl rfl ?_
  refine hq_p rfl rfl ?_
  exact K h5 (tq_1 Jh5.1.1 (Or.inl ⟨Jh5.1.2, ⟨by omega, by omega, by omega⟩, ⟨by omega, by omega, by omega⟩, ⟨by omega, by omega, by omega⟩, by omega, by omega⟩))
set_option maxRecDepth 20000 in
set_option maxHeartbeats 4000000 in
theorem tb_25b {X : pm_X} {d L n : Nat} {xs : Nat → Int32} {h : pm_H} {i0 : Int32} {Q : pm_H → Option Value → Prop} (hd : 120 ≤ d) (hX : ty_SX X) (hS : ∀ h, pm_arr X h (.retAddr 200) = some (0, L, .inl xs)) (hL : L ≤ 3072) (a0 : 0 ≤ i0.toInt) (b0 : i0.toInt + 6 ≤ L) {T : Int} (hJ0 : tp_T n T h) (hr : rl 12 1 h) (K : ∀ h1, tq_K (n + 1) h1 → hq_W X d 12 false (some .boolean) pm_cL (1205, [some (.retAddr 200), some (.ref 0), some (.ref 97), some (.int i0)], [], h1) Q) : hq_W X d 12 false (some .boolean) pm_cL (847, [some (.retAddr 200), some (.ref 0), some (.ref 97), some (.int i0)], [], h) Q := by
  have H := tp_Cq_12_10 12 1 n T h
  have hJ : tp_F [(0, 12, 0), (0, 12, 3), (0, 35, 0), (0, 35, 3), (0, 35, 10), (0, 46, 0), (0, 46, 3), (0, 46, 10), (1, 99, 0), (1, 99, 1), (1, 99, 2), (3, 100, 0), (3, 57, 0), (3, 101, 0)] 12 1 n T h h := ⟨⟨hJ0, hr.1⟩, fr_refl h _⟩
  have I := H.1 h hJ
  refine hq_p rfl rfl ?_
  refine ty_callj 0 (W := (ty_W2q 12 10)) H hJ rfl (fun _ => rfl) rfl rfl rfl (hq_pre_o I.1 (x := 0) (ci := 10) rfl (by decide) rfl rfl rfl rfl) (fun a k w => by unfold ty_Wqn at w; unfold ty_W2q; omega) (by unfold ty_Wqn ty_W2q; omega) (ct_108b (by omega) hJ.1.2.1 hJ.1.2.2) (fun h2 _ Jh2 P1 => ?_)
  have Ih2 := H.1 h2 Jh2
  obtain ⟨z3, rfl, fz3⟩ := P1
  have az3 := nm_lo z3
  have bz3 := nm_hi z3
  refine hq_p rfl rfl ?_
  have H := tp_Cr_2 12 1 n T h2
  have hM : tp_F [(0, 1, 0), (0, 1, 3), (0, 1, 10), (0, 12, 0), (0, 12, 3), (0, 12, 10), (0, 35, 0), (0, 35, 3), (0, 35, 10), (0, 46, 0), (0, 46, 3), (0, 46, 10), (1, 99, 0), (1, 99, 1), (3, 100, 0), (3, 57, 0), (3, 101, 0)] 12 1 n T h2 h2 := ⟨Jh2.1, fr_refl _ _⟩
  refine hq_p rfl rfl ?_
  refine ty_callj 0 (W := (ty_W2r 2)) H hM rfl (fun _ => rfl) rfl rfl rfl (hq_pre_o Ih2.1 (x := 97) (ci := 11) rfl (by decide) rfl rfl rfl rfl) (fun a k w => by unfold ty_Wxr at w; unfold ty_W2r; omega) (by unfold ty_Wxr ty_W2r; omega) (ct_229 (by omega)) (fun h5 _ Jh5 P4 => ?_)
  have Ih5 := H.1 h5 Jh5
  obtain ⟨z6, rfl, fz6⟩ := P4
  have az6 := nm_lo z6
  have bz6 := nm_hi z6
  obtain ⟨⟨a1, a2⟩, ⟨b1, b2, b3⟩, ⟨c1, c2, c3⟩, ⟨d1, d2, d3⟩, k1, k2⟩ := hr
  obtain ⟨x0, x1, x2, x3, x4, x5, x6, x7, x8, x9, x10, x11, x12, x13, _⟩ := Jh2.2
  have x0 : (hs_fI h2 12 0).toInt = (hs_fI h 12 0).toInt := x0
  have x1 : (hs_fI h2 12 3).toInt = (hs_fI h 12 3).toInt := x1
  have x2 : (hs_fI h2 35 0).toInt = (hs_fI h 35 0).toInt := x2
  have x3 : (hs_fI h2 35 3).toInt = (hs_fI h 35 3).toInt := x3
  have x4 : (hs_fI h2 35 10).toInt = (hs_fI h 35 10).toInt := x4
  have x5 : (hs_fI h2 46 0).toInt = (hs_fI h 46 0).toInt := x5
  have x6 : (hs_fI h2 46 3).toInt = (hs_fI h 46 3).toInt := x6
  have x7 : (hs_fI h2 46 10).toInt = (hs_fI h 46 10).toInt := x7
  have x8 : (hs_aI h2 99 0).toInt = (hs_aI h 99 0).toInt := x8
  have x9 : (hs_aI h2 99 1).toInt = (hs_aI h 99 1).toInt := x9
  have x10 : (hs_aI h2 99 2).toInt = (hs_aI h 99 2).toInt := x10
  have x11 : hs_aI h2 100 = hs_aI h 100 := x11
  have x11_0 : (hs_aI h2 100 0).toInt = (hs_aI h 100 0).toInt := by rw [x11]
  have x11_1 : (hs_aI h2 100 1).toInt = (hs_aI h 100 1).toInt := by rw [x11]
  have x11_2 : (hs_aI h2 100 2).toInt = (hs_aI h 100 2).toInt := by rw [x11]
  have x11_5498 : (hs_aI h2 100 5498).toInt = (hs_aI h 100 5498).toInt := by rw [x11]
  have x11_5499 : (hs_aI h2 100 5499).toInt = (hs_aI h 100 5499).toInt := by rw [x11]
  have x11_5500 : (hs_aI h2 100 5500).toInt = (hs_aI h 100 5500).toInt := by rw [x11]
  have x12 : hs_aI h2 57 = hs_aI h 57 := x12
  have x12_0 : (hs_aI h2 57 0).toInt = (hs_aI h 57 0).toInt := by rw [x12]
  have x12_1 : (hs_aI h2 57 1).toInt = (hs_aI h 57 1).toInt := by rw [x12]
  have x13 : hs_aI h2 101 = hs_aI h 101 := x13
  have x13_0 : (hs_aI h2 101 0).toInt = (hs_aI h 101 0).toInt := by rw [x13]
  have x13_1 : (hs_aI h2 101 1).toInt = (hs_aI h 101 1).toInt := by rw [x13]
  obtain ⟨y0, y1, y2, y3, y4, y5, y6, y7, y8, y9, y10, y11, y12, y13, y14, y15, y16, _⟩ := Jh5.2
  have y0 : (hs_fI h5 1 0).toInt = (hs_fI h2 1 0).toInt := y0
  have y1 : (hs_fI h5 1 3).toInt = (hs_fI h2 1 3).toInt := y1
  have y2 : (hs_fI h5 1 10).toInt = (hs_fI h2 1 10).toInt := y2
  have y3 : (hs_fI h5 12 0).toInt = (hs_fI h2 12 0).toInt := y3
  have y4 : (hs_fI h5 12 3).toInt = (hs_fI h2 12 3).toInt := y4
  have y5 : (hs_fI h5 12 10).toInt = (hs_fI h2 12 10).toInt := y5
  have y6 : (hs_fI h5 35 0).toInt = (hs_fI h2 35 0).toInt := y6
  have y7 : (hs_fI h5 35 3).toInt = (hs_fI h2 35 3).toInt := y7
  have y8 : (hs_fI h5 35 10).toInt = (hs_fI h2 35 10).toInt := y8
  have y9 : (hs_fI h5 46 0).toInt = (hs_fI h2 46 0).toInt := y9
  have y10 : (hs_fI h5 46 3).toInt = (hs_fI h2 46 3).toInt := y10
  have y11 : (hs_fI h5 46 10).toInt = (hs_fI h2 46 10).toInt := y11
  have y12 : (hs_aI h5 99 0).toInt = (hs_aI h2 99 0).toInt := y12
  have y13 : (hs_aI h5 99 1).toInt = (hs_aI h2 99 1).toInt := y13
  have y14 : hs_aI h5 100 = hs_aI h2 100 := y14
  have y14_0 : (hs_aI h5 100 0).toInt = (hs_aI h2 100 0).toInt := by rw [y14]
  have y14_1 : (hs_aI h5 100 1).toInt = (hs_aI h2 100 1).toInt := by rw [y14]
  have y14_2 : (hs_aI h5 100 2).toInt = (hs_aI h2 100 2).toInt := by rw [y14]
  have y14_5498 : (hs_aI h5 100 5498).toInt = (hs_aI h2 100 5498).toInt := by rw [y14]
  have y14_5499 : (hs_aI h5 100 5499).toInt = (hs_aI h2 100 5499).toInt := by rw [y14]
  have y14_5500 : (hs_aI h5 100 5500).toInt = (hs_aI h2 100 5500).toInt := by rw [y14]
  have y15 : hs_aI h5 57 = hs_aI h2 57 := y15
  have y15_0 : (hs_aI h5 57 0).toInt = (hs_aI h2 57 0).toInt := by rw [y15]
  have y15_1 : (hs_aI h5 57 1).toInt = (hs_aI h2 57 1).toInt := by rw [y15]
  have y16 : hs_aI h5 101 = hs_aI h2 101 := y16
  have y16_0 : (hs_aI h5 101 0).toInt = (hs_aI h2 101 0).toInt := by rw [y16]
  have y16_1 : (hs_aI h5 101 1).toInt = (hs_aI h2 101 1).toInt := by rw [y16]
  refine hq_p rfl rfl ?_
  refine hq_p rfl rfl ?_
  exact K h5 (tq_1 Jh5.1.1 (Or.inr ⟨Jh5.1.2, ⟨by omega, by omega, by omega⟩, ⟨by omega, by omega, by omega⟩, ⟨by omega, by omega, by omega⟩, by omega, by omega⟩))
theorem tb_25 {X : pm_X} {d L n : Nat} {xs : Nat → Int32} {h : pm_H} {i0 : Int32} {Q : pm_H → Option Value → Prop} (hd : 120 ≤ d) (hX : ty_SX X) (hS : ∀ h, pm_arr X h (.retAddr 200) = some (0, L, .inl xs)) (hL : L ≤ 3072) (a0 : 0 ≤ i0.toInt) (b0 : i0.toInt + 6 ≤ L) (hK : tq_K n h) (K : ∀ h1, tq_K (n + 1) h1 → hq_W X d 12 false (some .boolean) pm_cL (1205, [some (.retAddr 200), some (.ref 0), some (.ref 97), some (.int i0)], [], h1) Q) : hq_W X d 12 false (some .boolean) pm_cL (847, [some (.retAddr 200), some (.ref 0), some (.ref 97), some (.int i0)], [], h) Q := by
  obtain ⟨T, hJ0, hr⟩ := hK
  rcases hr with hr | hr
  · exact tb_25a hd hX hS hL a0 b0 hJ0 hr K
  · exact tb_25b hd hX hS hL a0 b0 hJ0 hr K
end CT64
