/-! CONTRACTS (printed by wip/pm/cts.py) -/
section CT74
set_option maxRecDepth 20000 in
set_option maxHeartbeats 4000000 in
theorem tb_5a {X : pm_X} {d L n : Nat} {xs : Nat → Int32} {h : pm_H} {i0 : Int32} {Q : pm_H → Option Value → Prop} (hd : 120 ≤ d) (hX : ty_SX X) (hS : ∀ h, pm_arr X h (.retAddr 200) = some (0, L, .inl xs)) (hL : L ≤ 3072) (a0 : 0 ≤ i0.toInt) (b0 : i0.toInt + 6 ≤ L) {T : Int} (hJ0 : tp_T n T h) (hz : tz_R T h) (hr : rl 1 12 7 h) (K : ∀ h1, tq_K (n + 1) h1 → hq_W X d 12 false (some .boolean) pm_cL (1205, [some (.retAddr 200), some (.ref 0), some (.ref 97), some (.int i0)], [], h1) Q) : hq_W X d 12 false (some .boolean) pm_cL (367, [some (.retAddr 200), some (.ref 0), some (.ref 97), some (.int i0)], [], h) Q := by
  have H := tp_Cq_7 1 12 n T h
  have hJ : tp_P (tp_T n T) [(3, 63, 0), (3, 106, 0), (3, 18, 0), (3, 41, 0), (3, 52, 0), (3, 100, 0), (3, 57, 0), (3, 101, 0)] 1 12 h h := ⟨⟨⟨hJ0, hr.1⟩, fr_refl h _⟩, fun _ _ _ => rfl⟩
  have I := H.1 h hJ
  refine hq_p rfl rfl ?_
  refine hq_p rfl rfl ?_
  refine hq_p rfl rfl ?_
  refine hq_p rfl rfl (ty_ge (n := 1) nk_i1 (fun z1 ez1 => ?_))
  refine hq_p rfl rfl (ty_ge (n := i0.toInt + z1.toInt) (nm_add (by omega) (by omega)) (fun z2 ez2 => ?_))
  refine hq_iald rfl (hS h) (hs_in (by omega) (by omega)) (ty_ge rfl (fun z3 ez3 => ?_))
  have az3 := nm_lo z3
  have bz3 := nm_hi z3
  refine hq_p rfl rfl ?_
  refine hq_p rfl rfl ?_
  refine hq_p rfl rfl (ty_ge (n := 2) nk_i2 (fun z4 ez4 => ?_))
  refine hq_p rfl rfl (ty_ge (n := i0.toInt + z4.toInt) (nm_add (by omega) (by omega)) (fun z5 ez5 => ?_))
  refine hq_iald rfl (hS h) (hs_in (by omega) (by omega)) (ty_ge rfl (fun z6 ez6 => ?_))
  have az6 := nm_lo z6
  have bz6 := nm_hi z6
  refine hq_p rfl rfl ?_
  refine hq_p rfl rfl ?_
  refine hq_p rfl rfl (ty_ge (n := 3) nk_i3 (fun z7 ez7 => ?_))
  refine hq_p rfl rfl (ty_ge (n := i0.toInt + z7.toInt) (nm_add (by omega) (by omega)) (fun z8 ez8 => ?_))
  refine hq_iald rfl (hS h) (hs_in (by omega) (by omega)) (ty_ge rfl (fun z9 ez9 => ?_))
  have az9 := nm_lo z9
  have bz9 := nm_hi z9
  refine ty_callj 0 (W := (ty_W2q 7)) H hJ rfl (fun _ => rfl) rfl rfl rfl (hq_pre_o I.1 (x := 0) (ci := 10) rfl (by decide) rfl rfl rfl rfl) (fun a k w => by unfold ty_Wcl at w; unfold ty_W2q; omega) (by unfold ty_Wcl ty_W2q; omega) (ct_88a (x1 := z3) (x2 := z6) (x3 := z9) (by omega) hJ.1.1.2.1 hJ.1.1.2.2) (fun h11 _ Jh11 P10 => ?_)
  have Ih11 := H.1 h11 Jh11
  obtain ⟨⟨z12, rfl, fz12⟩, lz12⟩ := P10
  have az12 := nm_lo z12
  have bz12 := nm_hi z12
  refine hq_p rfl rfl ?_
  have H := tp_Cr 1 12 n T h11
  have hM : tp_Q (tp_T n T) [(3, 63, 0), (3, 106, 0), (3, 7, 0), (3, 18, 0), (3, 41, 0), (3, 52, 0), (3, 100, 0), (3, 57, 0), (3, 101, 0)] 1 12 h11 h11 := ⟨⟨Jh11.1.1.1, Jh11.1.1.2⟩, fr_refl h11 _⟩
  refine hq_p rfl rfl ?_
  refine hq_p rfl rfl ?_
  refine hq_p rfl rfl ?_
  refine hq_p rfl rfl (ty_ge (n := 1) nk_i1 (fun z13 ez13 => ?_))
  refine hq_p rfl rfl (ty_ge (n := i0.toInt + z13.toInt) (nm_add (by omega) (by omega)) (fun z14 ez14 => ?_))
  refine hq_iald rfl (hS h11) (hs_in (by omega) (by omega)) (ty_ge rfl (fun z15 ez15 => ?_))
  have az15 := nm_lo z15
  have bz15 := nm_hi z15
  have qz15 : z15.toInt = z3.toInt := by rw [ez15, ez3, show z14.toNatClampNeg = z2.toNatClampNeg by rw [nm_nat, nm_nat]; omega]
  clear ez15 ez3
  refine hq_p rfl rfl ?_
  refine hq_p rfl rfl ?_
  refine hq_p rfl rfl (ty_ge (n := 2) nk_i2 (fun z16 ez16 => ?_))
  refine hq_p rfl rfl (ty_ge (n := i0.toInt + z16.toInt) (nm_add (by omega) (by omega)) (fun z17 ez17 => ?_))
  refine hq_iald rfl (hS h11) (hs_in (by omega) (by omega)) (ty_ge rfl (fun z18 ez18 => ?_))
  have az18 := nm_lo z18
  have bz18 := nm_hi z18
  have qz18 : z18.toInt = z6.toInt := by rw [ez18, ez6, show z17.toNatClampNeg = z5.toNatClampNeg by rw [nm_nat, nm_nat]; omega]
  clear ez18 ez6
  refine hq_p rfl rfl ?_
  refine hq_p rfl rfl ?_
  refine hq_p rfl rfl (ty_ge (n := 3) nk_i3 (fun z19 ez19 => ?_))
  refine hq_p rfl rfl (ty_ge (n := i0.toInt + z19.toInt) (nm_add (by omega) (by omega)) (fun z20 ez20 => ?_))
  refine hq_iald rfl (hS h11) (hs_in (by omega) (by omega)) (ty_ge rfl (fun z21 ez21 => ?_))
  have az21 := nm_lo z21
  have bz21 := nm_hi z21
  have qz21 : z21.toInt = z9.toInt := by rw [ez21, ez9, show z20.toNatClampNeg = z8.toNatClampNeg by rw [nm_nat, nm_nat]; omega]
  clear ez21 ez9
  refine ty_callj 0 (W := ty_W2r) H hM rfl (fun _ => rfl) rfl rfl rfl (hq_pre_o Ih11.1 (x := 97) (ci := 11) rfl (by decide) rfl rfl rfl rfl) (fun a k w => by unfold ty_Wxl at w; unfold ty_W2r; omega) (by unfold ty_Wxl ty_W2r; omega) (ct_161l (x1 := z15) (x2 := z18) (x3 := z21) (by omega)) (fun h23 _ Jh23 P22 => ?_)
  have Ih23 := H.1 h23 Jh23
  obtain ⟨⟨z24, rfl, fz24⟩, lz24⟩ := P22
  have az24 := nm_lo z24
  have bz24 := nm_hi z24
  have gC := Jh11
  have gM := Jh23
  obtain ⟨x63, x106, x18, x41, x52, x100, x57, x101, _⟩ := gC.1.2
  have x63 : hs_aI h11 63 = hs_aI h 63 := x63
  have x106 : hs_aI h11 106 = hs_aI h 106 := x106
  have x18 : hs_aI h11 18 = hs_aI h 18 := x18
  have x41 : hs_aI h11 41 = hs_aI h 41 := x41
  have x52 : hs_aI h11 52 = hs_aI h 52 := x52
  have x100 : hs_aI h11 100 = hs_aI h 100 := x100
  have x57 : hs_aI h11 57 = hs_aI h 57 := x57
  have x101 : hs_aI h11 101 = hs_aI h 101 := x101
  obtain ⟨y63, y106, y7, y18, y41, y52, y100, y57, y101, _⟩ := gM.2
  have y63 : hs_aI h23 63 = hs_aI h11 63 := y63
  have y106 : hs_aI h23 106 = hs_aI h11 106 := y106
  have y7 : hs_aI h23 7 = hs_aI h11 7 := y7
  have y18 : hs_aI h23 18 = hs_aI h11 18 := y18
  have y41 : hs_aI h23 41 = hs_aI h11 41 := y41
  have y52 : hs_aI h23 52 = hs_aI h11 52 := y52
  have y100 : hs_aI h23 100 = hs_aI h11 100 := y100
  have y57 : hs_aI h23 57 = hs_aI h11 57 := y57
  have y101 : hs_aI h23 101 = hs_aI h11 101 := y101
  obtain ⟨u1, u2⟩ := la_eq (nm_eqi.mpr qz15).symm (nm_eqi.mpr qz18).symm (nm_eqi.mpr qz21).symm (fun j hj => (hr.2.1 j hj).trans (gC.2 (50 + j) (by omega) (by omega)).symm) fz12 lz12 fz24 lz24
  clear fz12 fz24 lz12 lz24
  clear gC
  refine hq_p rfl rfl ?_
  refine hq_p rfl rfl ?_
  exact K h23 (tq_1 gM.1.1 ⟨tz_t (tz_t hz x63 x106) y63 y106, Or.inl ⟨gM.1.2, fun j hj => by rw [y7]; exact u2 j hj, fun w j hj => by rw [y41, y100, x41, x100]; exact hr.2.2.1 (by rw [← x57, ← y57]; exact w) j hj, fun w j hj => by rw [y52, y100, x52, x100]; exact hr.2.2.2.1 (by rw [← x57, ← y57]; exact w) j hj, by rw [y57, y101, x57, x101]; exact hr.2.2.2.2.1, by rw [y57, y101, x57, x101]; exact hr.2.2.2.2.2⟩⟩)
set_option maxRecDepth 20000 in
set_option maxHeartbeats 4000000 in
theorem tb_5b {X : pm_X} {d L n : Nat} {xs : Nat → Int32} {h : pm_H} {i0 : Int32} {Q : pm_H → Option Value → Prop} (hd : 120 ≤ d) (hX : ty_SX X) (hS : ∀ h, pm_arr X h (.retAddr 200) = some (0, L, .inl xs)) (hL : L ≤ 3072) (a0 : 0 ≤ i0.toInt) (b0 : i0.toInt + 6 ≤ L) {T : Int} (hJ0 : tp_T n T h) (hz : tz_R T h) (hr : rl 12 1 18 h) (K : ∀ h1, tq_K (n + 1) h1 → hq_W X d 12 false (some .boolean) pm_cL (1205, [some (.retAddr 200), some (.ref 0), some (.ref 97), some (.int i0)], [], h1) Q) : hq_W X d 12 false (some .boolean) pm_cL (367, [some (.retAddr 200), some (.ref 0), some (.ref 97), some (.int i0)], [], h) Q := by
  have H := tp_Cq_18 12 1 n T h
  have hJ : tp_P (tp_T n T) [(3, 63, 0), (3, 106, 0), (3, 7, 0), (3, 41, 0), (3, 52, 0), (3, 100, 0), (3, 57, 0), (3, 101, 0)] 12 1 h h := ⟨⟨⟨hJ0, hr.1⟩, fr_refl h _⟩, fun _ _ _ => rfl⟩
  have I := H.1 h hJ
  refine hq_p rfl rfl ?_
  refine hq_p rfl rfl ?_
  refine hq_p rfl rfl ?_
  refine hq_p rfl rfl (ty_ge (n := 1) nk_i1 (fun z1 ez1 => ?_))
  refine hq_p rfl rfl (ty_ge (n := i0.toInt + z1.toInt) (nm_add (by omega) (by omega)) (fun z2 ez2 => ?_))
  refine hq_iald rfl (hS h) (hs_in (by omega) (by omega)) (ty_ge rfl (fun z3 ez3 => ?_))
  have az3 := nm_lo z3
  have bz3 := nm_hi z3
  refine hq_p rfl rfl ?_
  refine hq_p rfl rfl ?_
  refine hq_p rfl rfl (ty_ge (n := 2) nk_i2 (fun z4 ez4 => ?_))
  refine hq_p rfl rfl (ty_ge (n := i0.toInt + z4.toInt) (nm_add (by omega) (by omega)) (fun z5 ez5 => ?_))
  refine hq_iald rfl (hS h) (hs_in (by omega) (by omega)) (ty_ge rfl (fun z6 ez6 => ?_))
  have az6 := nm_lo z6
  have bz6 := nm_hi z6
  refine hq_p rfl rfl ?_
  refine hq_p rfl rfl ?_
  refine hq_p rfl rfl (ty_ge (n := 3) nk_i3 (fun z7 ez7 => ?_))
  refine hq_p rfl rfl (ty_ge (n := i0.toInt + z7.toInt) (nm_add (by omega) (by omega)) (fun z8 ez8 => ?_))
  refine hq_iald rfl (hS h) (hs_in (by omega) (by omega)) (ty_ge rfl (fun z9 ez9 => ?_))
  have az9 := nm_lo z9
  have bz9 := nm_hi z9
  refine ty_callj 0 (W := (ty_W2q 18)) H hJ rfl (fun _ => rfl) rfl rfl rfl (hq_pre_o I.1 (x := 0) (ci := 10) rfl (by decide) rfl rfl rfl rfl) (fun a k w => by unfold ty_Wcl at w; unfold ty_W2q; omega) (by unfold ty_Wcl ty_W2q; omega) (ct_88b (x1 := z3) (x2 := z6) (x3 := z9) (by omega) hJ.1.1.2.1 hJ.1.1.2.2) (fun h11 _ Jh11 P10 => ?_)
  have Ih11 := H.1 h11 Jh11
  obtain ⟨⟨z12, rfl, fz12⟩, lz12⟩ := P10
  have az12 := nm_lo z12
  have bz12 := nm_hi z12
  refine hq_p rfl rfl ?_
  have H := tp_Cr 12 1 n T h11
  have hM : tp_Q (tp_T n T) [(3, 63, 0), (3, 106, 0), (3, 7, 0), (3, 18, 0), (3, 41, 0), (3, 52, 0), (3, 100, 0), (3, 57, 0), (3, 101, 0)] 12 1 h11 h11 := ⟨⟨Jh11.1.1.1, Jh11.1.1.2⟩, fr_refl h11 _⟩
  refine hq_p rfl rfl ?_
  refine hq_p rfl rfl ?_
  refine hq_p rfl rfl ?_
  refine hq_p rfl rfl (ty_ge (n := 1) nk_i1 (fun z13 ez13 => ?_))
  refine hq_p rfl rfl (ty_ge (n := i0.toInt + z13.toInt) (nm_add (by omega) (by omega)) (fun z14 ez14 => ?_))
  refine hq_iald rfl (hS h11) (hs_in (by omega) (by omega)) (ty_ge rfl (fun z15 ez15 => ?_))
  have az15 := nm_lo z15
  have bz15 := nm_hi z15
  have qz15 : z15.toInt = z3.toInt := by rw [ez15, ez3, show z14.toNatClampNeg = z2.toNatClampNeg by rw [nm_nat, nm_nat]; omega]
  clear ez15 ez3
  refine hq_p rfl rfl ?_
  refine hq_p rfl rfl ?_
  refine hq_p rfl rfl (ty_ge (n := 2) nk_i2 (fun z16 ez16 => ?_))
  refine hq_p rfl rfl (ty_ge (n := i0.toInt + z16.toInt) (nm_add (by omega) (by omega)) (fun z17 ez17 => ?_))
  refine hq_iald rfl (hS h11) (hs_in (by omega) (by omega)) (ty_ge rfl (fun z18 ez18 => ?_))
  have az18 := nm_lo z18
  have bz18 := nm_hi z18
  have qz18 : z18.toInt = z6.toInt := by rw [ez18, ez6, show z17.toNatClampNeg = z5.toNatClampNeg by rw [nm_nat, nm_nat]; omega]
  clear ez18 ez6
  refine hq_p rfl rfl ?_
  refine hq_p rfl rfl ?_
  refine hq_p rfl rfl (ty_ge (n := 3) nk_i3 (fun z19 ez19 => ?_))
  refine hq_p rfl rfl (ty_ge (n := i0.toInt + z19.toInt) (nm_add (by omega) (by omega)) (fun z20 ez20 => ?_))
  refine hq_iald rfl (hS h11) (hs_in (by omega) (by omega)) (ty_ge rfl (fun z21 ez21 => ?_))
  have az21 := nm_lo z21
  have bz21 := nm_hi z21
  have qz21 : z21.toInt = z9.toInt := by rw [ez21, ez9, show z20.toNatClampNeg = z8.toNatClampNeg by rw [nm_nat, nm_nat]; omega]
  clear ez21 ez9
  refine ty_callj 0 (W := ty_W2r) H hM rfl (fun _ => rfl) rfl rfl rfl (hq_pre_o Ih11.1 (x := 97) (ci := 11) rfl (by decide) rfl rfl rfl rfl) (fun a k w => by unfold ty_Wxl at w; unfold ty_W2r; omega) (by unfold ty_Wxl ty_W2r; omega) (ct_161l (x1 := z15) (x2 := z18) (x3 := z21) (by omega)) (fun h23 _ Jh23 P22 => ?_)
  have Ih23 := H.1 h23 Jh23
  obtain ⟨⟨z24, rfl, fz24⟩, lz24⟩ := P22
  have az24 := nm_lo z24
  have bz24 := nm_hi z24
  have gC := Jh11
  have gM := Jh23
  obtain ⟨x63, x106, x7, x41, x52, x100, x57, x101, _⟩ := gC.1.2
  have x63 : hs_aI h11 63 = hs_aI h 63 := x63
  have x106 : hs_aI h11 106 = hs_aI h 106 := x106
  have x7 : hs_aI h11 7 = hs_aI h 7 := x7
  have x41 : hs_aI h11 41 = hs_aI h 41 := x41
  have x52 : hs_aI h11 52 = hs_aI h 52 := x52
  have x100 : hs_aI h11 100 = hs_aI h 100 := x100
  have x57 : hs_aI h11 57 = hs_aI h 57 := x57
  have x101 : hs_aI h11 101 = hs_aI h 101 := x101
  obtain ⟨y63, y106, y7, y18, y41, y52, y100, y57, y101, _⟩ := gM.2
  have y63 : hs_aI h23 63 = hs_aI h11 63 := y63
  have y106 : hs_aI h23 106 = hs_aI h11 106 := y106
  have y7 : hs_aI h23 7 = hs_aI h11 7 := y7
  have y18 : hs_aI h23 18 = hs_aI h11 18 := y18
  have y41 : hs_aI h23 41 = hs_aI h11 41 := y41
  have y52 : hs_aI h23 52 = hs_aI h11 52 := y52
  have y100 : hs_aI h23 100 = hs_aI h11 100 := y100
  have y57 : hs_aI h23 57 = hs_aI h11 57 := y57
  have y101 : hs_aI h23 101 = hs_aI h11 101 := y101
  obtain ⟨u1, u2⟩ := la_eq (nm_eqi.mpr qz15).symm (nm_eqi.mpr qz18).symm (nm_eqi.mpr qz21).symm (fun j hj => (hr.2.1 j hj).trans (gC.2 (50 + j) (by omega) (by omega)).symm) fz12 lz12 fz24 lz24
  clear fz12 fz24 lz12 lz24
  clear gC
  refine hq_p rfl rfl ?_
  refine hq_p rfl rfl ?_
  exact K h23 (tq_1 gM.1.1 ⟨tz_t (tz_t hz x63 x106) y63 y106, Or.inr ⟨gM.1.2, fun j hj => by rw [y18]; exact u2 j hj, fun w j hj => by rw [y41, y100, x41, x100]; exact hr.2.2.1 (by rw [← x57, ← y57]; exact w) j hj, fun w j hj => by rw [y52, y100, x52, x100]; exact hr.2.2.2.1 (by rw [← x57, ← y57]; exact w) j hj, by rw [y57, y101, x57, x101]; exact hr.2.2.2.2.1, by rw [y57, y101, x57, x101]; exact hr.2.2.2.2.2⟩⟩)
theorem tb_5 {X : pm_X} {d L n : Nat} {xs : Nat → Int32} {h : pm_H} {i0 : Int32} {Q : pm_H → Option Value → Prop} (hd : 120 ≤ d) (hX : ty_SX X) (hS : ∀ h, pm_arr X h (.retAddr 200) = some (0, L, .inl xs)) (hL : L ≤ 3072) (a0 : 0 ≤ i0.toInt) (b0 : i0.toInt + 6 ≤ L) (hK : tq_K n h) (K : ∀ h1, tq_K (n + 1) h1 → hq_W X d 12 false (some .boolean) pm_cL (1205, [some (.retAddr 200), some (.ref 0), some (.ref 97), some (.int i0)], [], h1) Q) : hq_W X d 12 false (some .boolean) pm_cL (367, [some (.retAddr 200), some (.ref 0), some (.ref 97), some (.int i0)], [], h) Q := by
  obtain ⟨T, hJ0, hz, hr⟩ := hK
  rcases hr with hr | hr
  · exact tb_5a hd hX hS hL a0 b0 hJ0 hz hr K
  · exact tb_5b hd hX hS hL a0 b0 hJ0 hz hr K
set_option maxRecDepth 20000 in
set_option maxHeartbeats 4000000 in
theorem tb_6a {X : pm_X} {d L n : Nat} {xs : Nat → Int32} {h : pm_H} {i0 : Int32} {Q : pm_H → Option Value → Prop} (hd : 120 ≤ d) (hX : ty_SX X) (hS : ∀ h, pm_arr X h (.retAddr 200) = some (0, L, .inl xs)) (hL : L ≤ 3072) (a0 : 0 ≤ i0.toInt) (b0 : i0.toInt + 6 ≤ L) {T : Int} (hJ0 : tp_T n T h) (hz : tz_R T h) (hr : rl 1 12 7 h) (K : ∀ h1, tq_K (n + 1) h1 → hq_W X d 12 false (some .boolean) pm_cL (1205, [some (.retAddr 200), some (.ref 0), some (.ref 97), some (.int i0)], [], h1) Q) : hq_W X d 12 false (some .boolean) pm_cL (410, [some (.retAddr 200), some (.ref 0), some (.ref 97), some (.int i0)], [], h) Q := by
  have H := tp_Cb 1 12 n T h
  have hJ : tp_P (tp_T n T) [(3, 63, 0), (3, 106, 0), (3, 7, 0), (3, 18, 0), (3, 41, 0), (3, 52, 0), (3, 100, 0), (3, 57, 0), (3, 101, 0)] 1 12 h h := ⟨⟨⟨hJ0, hr.1⟩, fr_refl h _⟩, fun _ _ _ => rfl⟩
  have I := H.1 h hJ
  refine hq_p rfl rfl ?_
  refine hq_p rfl rfl ?_
  refine hq_p rfl rfl ?_
  refine hq_p rfl rfl (ty_ge (n := 1) nk_i1 (fun z1 ez1 => ?_))
  refine hq_p rfl rfl (ty_ge (n := i0.toInt + z1.toInt) (nm_add (by omega) (by omega)) (fun z2 ez2 => ?_))
  refine hq_iald rfl (hS h) (hs_in (by omega) (by omega)) (ty_ge rfl (fun z3 ez3 => ?_))
  have az3 := nm_lo z3
  have bz3 := nm_hi z3
  refine hq_p rfl rfl ?_
  refine hq_p rfl rfl ?_
  refine hq_p rfl rfl (ty_ge (n := 2) nk_i2 (fun z4 ez4 => ?_))
  refine hq_p rfl rfl (ty_ge (n := i0.toInt + z4.toInt) (nm_add (by omega) (by omega)) (fun z5 ez5 => ?_))
  refine hq_iald rfl (hS h) (hs_in (by omega) (by omega)) (ty_ge rfl (fun z6 ez6 => ?_))
  have az6 := nm_lo z6
  have bz6 := nm_hi z6
  refine ty_callj 0 (W := ty_W2b) H hJ rfl (fun _ => rfl) rfl rfl rfl (hq_pre_o I.1 (x := 0) (ci := 10) rfl (by decide) rfl rfl rfl rfl) (fun a k w => by unfold ty_Wc at w; unfold ty_W2b; omega) (by unfold ty_Wc ty_W2b; omega) (ct_89a (x1 := z3) (x2 := z6) (by omega) hJ.1.1.2.1 hJ.1.1.2.2) (fun h8 _ Jh8 P7 => ?_)
  have Ih8 := H.1 h8 Jh8
  obtain ⟨z9, rfl, fz9⟩ := P7
  have az9 := nm_lo z9
  have bz9 := nm_hi z9
  refine hq_p rfl rfl ?_
  refine hq_p rfl rfl ?_
  refine hq_p rfl rfl ?_
  refine hq_p rfl rfl (ty_ge (n := 1) nk_i1 (fun z10 ez10 => ?_))
  refine hq_p rfl rfl (ty_ge (n := i0.toInt + z10.toInt) (nm_add (by omega) (by omega)) (fun z11 ez11 => ?_))
  refine hq_iald rfl (hS h8) (hs_in (by omega) (by omega)) (ty_ge rfl (fun z12 ez12 => ?_))
  have az12 := nm_lo z12
  have bz12 := nm_hi z12
  have qz12 : z12.toInt = z3.toInt := by rw [ez12, ez3, show z11.toNatClampNeg = z2.toNatClampNeg by rw [nm_nat, nm_nat]; omega]
  clear ez12 ez3
  refine hq_p rfl rfl ?_
  refine hq_p rfl rfl ?_
  refine hq_p rfl rfl (ty_ge (n := 2) nk_i2 (fun z13 ez13 => ?_))
  refine hq_p rfl rfl (ty_ge (n := i0.toInt + z13.toInt) (nm_add (by omega) (by omega)) (fun z14 ez14 => ?_))
  refine hq_iald rfl (hS h8) (hs_in (by omega) (by omega)) (ty_ge rfl (fun z15 ez15 => ?_))
  have az15 := nm_lo z15
  have bz15 := nm_hi z15
  have qz15 : z15.toInt = z6.toInt := by rw [ez15, ez6, show z14.toNatClampNeg = z5.toNatClampNeg by rw [nm_nat, nm_nat]; omega]
  clear ez15 ez6
  refine ty_callj 0 (W := ty_W2b) H Jh8 rfl (fun _ => rfl) rfl rfl rfl (hq_pre_o Ih8.1 (x := 97) (ci := 11) rfl (by decide) rfl rfl rfl rfl) (fun a k w => by unfold ty_Wt at w; unfold ty_W2b; omega) (by unfold ty_Wt ty_W2b; omega) (ct_162l (x1 := z12) (x2 := z15) (by omega)) (fun h17 _ Jh17 P16 => ?_)
  have Ih17 := H.1 h17 Jh17
  obtain ⟨z18, rfl, fz18⟩ := P16
  have az18 := nm_lo z18
  have bz18 := nm_hi z18
  have gC := Jh8
  obtain ⟨x63, x106, x7, x18, x41, x52, x100, x57, x101, _⟩ := gC.1.2
  have x63 : hs_aI h8 63 = hs_aI h 63 := x63
  have x106 : hs_aI h8 106 = hs_aI h 106 := x106
  have x7 : hs_aI h8 7 = hs_aI h 7 := x7
  have x18 : hs_aI h8 18 = hs_aI h 18 := x18
  have x41 : hs_aI h8 41 = hs_aI h 41 := x41
  have x52 : hs_aI h8 52 = hs_aI h 52 := x52
  have x100 : hs_aI h8 100 = hs_aI h 100 := x100
  have x57 : hs_aI h8 57 = hs_aI h 57 := x57
  have x101 : hs_aI h8 101 = hs_aI h 101 := x101
  have u1 := st_eq (nm_eqi.mpr qz12).symm (nm_eqi.mpr qz15).symm (fun j hj => (hr.2.1 j hj).trans (gC.2 (50 + j) (by omega) (by omega)).symm) fz9 fz18
  clear fz9 fz18 gC
  refine ty_ieq rfl (fun c19 => ?_) (fun c19 => ?_)
  · exact K h17 (tq_b hz (Or.inl hr) hr.1.1.symm hr.1.2.symm Jh17)
  · exfalso; omega
set_option maxRecDepth 20000 in
set_option maxHeartbeats 4000000 in
theorem tb_6b {X : pm_X} {d L n : Nat} {xs : Nat → Int32} {h : pm_H} {i0 : Int32} {Q : pm_H → Option Value → Prop} (hd : 120 ≤ d) (hX : ty_SX X) (hS : ∀ h, pm_arr X h (.retAddr 200) = some (0, L, .inl xs)) (hL : L ≤ 3072) (a0 : 0 ≤ i0.toInt) (b0 : i0.toInt + 6 ≤ L) {T : Int} (hJ0 : tp_T n T h) (hz : tz_R T h) (hr : rl 12 1 18 h) (K : ∀ h1, tq_K (n + 1) h1 → hq_W X d 12 false (some .boolean) pm_cL (1205, [some (.retAddr 200), some (.ref 0), some (.ref 97), some (.int i0)], [], h1) Q) : hq_W X d 12 false (some .boolean) pm_cL (410, [some (.retAddr 200), some (.ref 0), some (.ref 97), some (.int i0)], [], h) Q := by
  have H := tp_Cb 12 1 n T h
  have hJ : tp_P (tp_T n T) [(3, 63, 0), (3, 106, 0), (3, 7, 0), (3, 18, 0), (3, 41, 0), (3, 52, 0), (3, 100, 0), (3, 57, 0), (3, 101, 0)] 12 1 h h := ⟨⟨⟨hJ0, hr.1⟩, fr_refl h _⟩, fun _ _ _ => rfl⟩
  have I := H.1 h hJ
  refine hq_p rfl rfl ?_
  refine hq_p rfl rfl ?_
  refine hq_p rfl rfl ?_
  refine hq_p rfl rfl (ty_ge (n := 1) nk_i1 (fun z1 ez1 => ?_))
  refine hq_p rfl rfl (ty_ge (n := i0.toInt + z1.toInt) (nm_add (by omega) (by omega)) (fun z2 ez2 => ?_))
  refine hq_iald rfl (hS h) (hs_in (by omega) (by omega)) (ty_ge rfl (fun z3 ez3 => ?_))
  have az3 := nm_lo z3
  have bz3 := nm_hi z3
  refine hq_p rfl rfl ?_
  refine hq_p rfl rfl ?_
  refine hq_p rfl rfl (ty_ge (n := 2) nk_i2 (fun z4 ez4 => ?_))
  refine hq_p rfl rfl (ty_ge (n := i0.toInt + z4.toInt) (nm_add (by omega) (by omega)) (fun z5 ez5 => ?_))
  refine hq_iald rfl (hS h) (hs_in (by omega) (by omega)) (ty_ge rfl (fun z6 ez6 => ?_))
  have az6 := nm_lo z6
  have bz6 := nm_hi z6
  refine ty_callj 0 (W := ty_W2b) H hJ rfl (fun _ => rfl) rfl rfl rfl (hq_pre_o I.1 (x := 0) (ci := 10) rfl (by decide) rfl rfl rfl rfl) (fun a k w => by unfold ty_Wc at w; unfold ty_W2b; omega) (by unfold ty_Wc ty_W2b; omega) (ct_89b (x1 := z3) (x2 := z6) (by omega) hJ.1.1.2.1 hJ.1.1.2.2) (fun h8 _ Jh8 P7 => ?_)
  have Ih8 := H.1 h8 Jh8
  obtain ⟨z9, rfl, fz9⟩ := P7
  have az9 := nm_lo z9
  have bz9 := nm_hi z9
  refine hq_p rfl rfl ?_
  refine hq_p rfl rfl ?_
  refine hq_p rfl rfl ?_
  refine hq_p rfl rfl (ty_ge (n := 1) nk_i1 (fun z10 ez10 => ?_))
  refine hq_p rfl rfl (ty_ge (n := i0.toInt + z10.toInt) (nm_add (by omega) (by omega)) (fun z11 ez11 => ?_))
  refine hq_iald rfl (hS h8) (hs_in (by omega) (by omega)) (ty_ge rfl (fun z12 ez12 => ?_))
  have az12 := nm_lo z12
  have bz12 := nm_hi z12
  have qz12 : z12.toInt = z3.toInt := by rw [ez12, ez3, show z11.toNatClampNeg = z2.toNatClampNeg by rw [nm_nat, nm_nat]; omega]
  clear ez12 ez3
  refine hq_p rfl rfl ?_
  refine hq_p rfl rfl ?_
  refine hq_p rfl rfl (ty_ge (n := 2) nk_i2 (fun z13 ez13 => ?_))
  refine hq_p rfl rfl (ty_ge (n := i0.toInt + z13.toInt) (nm_add (by omega) (by omega)) (fun z14 ez14 => ?_))
  refine hq_iald rfl (hS h8) (hs_in (by omega) (by omega)) (ty_ge rfl (fun z15 ez15 => ?_))
  have az15 := nm_lo z15
  have bz15 := nm_hi z15
  have qz15 : z15.toInt = z6.toInt := by rw [ez15, ez6, show z14.toNatClampNeg = z5.toNatClampNeg by rw [nm_nat, nm_nat]; omega]
  clear ez15 ez6
  refine ty_callj 0 (W := ty_W2b) H Jh8 rfl (fun _ => rfl) rfl rfl rfl (hq_pre_o Ih8.1 (x := 97) (ci := 11) rfl (by decide) rfl rfl rfl rfl) (fun a k w => by unfold ty_Wt at w; unfold ty_W2b; omega) (by unfold ty_Wt ty_W2b; omega) (ct_162l (x1 := z12) (x2 := z15) (by omega)) (fun h17 _ Jh17 P16 => ?_)
  have Ih17 := H.1 h17 Jh17
  obtain ⟨z18, rfl, fz18⟩ := P16
  have az18 := nm_lo z18
  have bz18 := nm_hi z18
  have gC := Jh8
  obtain ⟨x63, x106, x7, x18, x41, x52, x100, x57, x101, _⟩ := gC.1.2
  have x63 : hs_aI h8 63 = hs_aI h 63 := x63
  have x106 : hs_aI h8 106 = hs_aI h 106 := x106
  have x7 : hs_aI h8 7 = hs_aI h 7 := x7
  have x18 : hs_aI h8 18 = hs_aI h 18 := x18
  have x41 : hs_aI h8 41 = hs_aI h 41 := x41
  have x52 : hs_aI h8 52 = hs_aI h 52 := x52
  have x100 : hs_aI h8 100 = hs_aI h 100 := x100
  have x57 : hs_aI h8 57 = hs_aI h 57 := x57
  have x101 : hs_aI h8 101 = hs_aI h 101 := x101
  have u1 := st_eq (nm_eqi.mpr qz12).symm (nm_eqi.mpr qz15).symm (fun j hj => (hr.2.1 j hj).trans (gC.2 (50 + j) (by omega) (by omega)).symm) fz9 fz18
  clear fz9 fz18 gC
  refine ty_ieq rfl (fun c19 => ?_) (fun c19 => ?_)
  · exact K h17 (tq_b hz (Or.inr hr) hr.1.1.symm hr.1.2.symm Jh17)
  · exfalso; omega
theorem tb_6 {X : pm_X} {d L n : Nat} {xs : Nat → Int32} {h : pm_H} {i0 : Int32} {Q : pm_H → Option Value → Prop} (hd : 120 ≤ d) (hX : ty_SX X) (hS : ∀ h, pm_arr X h (.retAddr 200) = some (0, L, .inl xs)) (hL : L ≤ 3072) (a0 : 0 ≤ i0.toInt) (b0 : i0.toInt + 6 ≤ L) (hK : tq_K n h) (K : ∀ h1, tq_K (n + 1) h1 → hq_W X d 12 false (some .boolean) pm_cL (1205, [some (.retAddr 200), some (.ref 0), some (.ref 97), some (.int i0)], [], h1) Q) : hq_W X d 12 false (some .boolean) pm_cL (410, [some (.retAddr 200), some (.ref 0), some (.ref 97), some (.int i0)], [], h) Q := by
  obtain ⟨T, hJ0, hz, hr⟩ := hK
  rcases hr with hr | hr
  · exact tb_6a hd hX hS hL a0 b0 hJ0 hz hr K
  · exact tb_6b hd hX hS hL a0 b0 hJ0 hz hr K
end CT74
