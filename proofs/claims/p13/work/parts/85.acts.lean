/-! CONTRACTS (printed by wip/pm/cts.py) -/
section CT58
def ty_Wac (a k : Nat) : Prop := a = 200 ∨ a = 202 ∨ (a = 97 ∧ (k = 8 ∨ k = 34 ∨ k = 38 ∨ k = 39 ∨ k = 40)) ∨ a = 102 ∨ a = 103 ∨ a = 115 ∨ a = 117 ∨ a = 118 ∨ a = 119 ∨ (a = 99 ∧ 5 ≤ k ∧ k < 34)
theorem ct_210b {X : pm_X} {d : Nat} {h : pm_H} {x1 : Int32} {x2 : Int32} (hd : 7 ≤ d)  : ty_M X ty_Wac d 210 [.ref 97, .int x1, .int x2] h (ty_pi (-3) 29) := by
  intro J H hJ
  obtain ⟨d, rfl⟩ : ∃ e, d = e + 1 := ⟨d - 1, by omega⟩
  have I := H.1 h hJ
  have ax1 := nm_lo x1
  have bx1 := nm_hi x1
  have ax2 := nm_lo x2
  have bx2 := nm_hi x2
  refine hq_M.enter (q := (⟨"TrainBearersModel", "holdNow", "(II)I"⟩, _, 3, some .int, 11, 3, pm_c210)) rfl rfl ?_
  show hq_W X d 11 false (some .int) pm_c210 (0, [some (.ref 97), some (.int x1), some (.int x2)], [], h) (fun h' v => J h' ∧ (ty_pi (-3) 29) h' v)
  refine hq_p rfl rfl ?_
  refine hq_p rfl rfl ?_
  refine ty_callp 0 I rfl (fun _ => rfl) rfl rfl rfl (hq_pre_o I.1 (x := 97) (ci := 11) rfl (by decide) rfl rfl rfl rfl) (ct_150 (x1 := x1) (by omega)) (fun _ P1 => ?_)
  obtain ⟨z2, rfl, az2, bz2, iz2⟩ := P1
  refine ty_zeq rfl (fun c3 => ?_) (fun c3 => ?_)
  · clear iz2
    refine hq_p rfl rfl (ty_ge (n := -2) nk_bm2 (fun z4 ez4 => ?_))
    exact hq_W.ret rfl rfl rfl ⟨hJ, _, rfl, by omega, by omega⟩
  · replace c3 : 1 ≤ z2.toInt ∧ z2.toInt ≤ 1 := by omega
    have f5 := iz2 (by omega)
    clear iz2
    refine hq_p rfl rfl ?_
    refine hq_p rfl rfl ?_
    refine ty_callp 0 I rfl (fun _ => rfl) rfl rfl rfl (hq_pre_o I.1 (x := 97) (ci := 11) rfl (by decide) rfl rfl rfl rfl) (ct_149 (x1 := x2) (by omega)) (fun _ P6 => ?_)
    obtain ⟨z7, rfl, az7, bz7, iz7⟩ := P6
    refine ty_zne rfl (fun c8 => ?_) (fun c8 => ?_)
    · replace c8 : 1 ≤ z7.toInt ∧ z7.toInt ≤ 1 := by omega
      have f9 := iz7 (by omega)
      clear iz7
      refine hq_p rfl rfl ?_
      refine hq_p rfl rfl ?_
      refine hq_p rfl rfl ?_
      refine ty_callj 0 (W := ty_Wac) H hJ rfl (fun _ => rfl) rfl rfl rfl (hq_pre_o I.1 (x := 97) (ci := 11) rfl (by decide) rfl rfl rfl rfl) (fun a k w => by unfold ty_Wy at w; unfold ty_Wac; omega) (by unfold ty_Wy ty_Wac; omega) (ct_209 (x1 := x1) (x2 := x2) (by omega) (by omega) (by omega) (by omega) (by omega)) (fun h11 _ Jh11 P10 => ?_)
      have Ih11 := H.1 h11 Jh11
      obtain ⟨z12, rfl, az12, bz12⟩ := P10
      refine ty_zne rfl (fun c13 => ?_) (fun c13 => ?_)
      · replace c13 : 1 ≤ z12.toInt ∧ z12.toInt ≤ 1 := by omega
        refine hq_p rfl rfl ?_
        refine hq_p rfl rfl (ty_ge (n := 0) nk_i0 (fun z14 ez14 => ?_))
        refine ty_callj 0 (W := ty_Wac) H Jh11 rfl (fun _ => rfl) rfl rfl rfl (hq_pre_o Ih11.1 (x := 97) (ci := 11) rfl (by decide) rfl rfl rfl rfl) (fun a k w => by unfold ty_Wm at w; unfold ty_Wac; omega) (by unfold ty_Wm ty_Wac; omega) (ct_145 (x1 := z14) (by omega) (by omega) (by omega)) (fun h16 _ Jh16 P15 => ?_)
        have Ih16 := H.1 h16 Jh16
        subst P15
        refine hq_p rfl rfl ?_
        refine hq_gR Ih16.1 rfl rfl (by decide) (by decide) rfl ?_
        refine hq_p rfl rfl (ty_ge (n := 26) nk_b26 (fun z17 ez17 => ?_))
        refine hq_p rfl rfl ?_
        refine hq_p rfl rfl (ty_ge (n := z17.toInt + x1.toInt) (nm_add (by omega) (by omega)) (fun z18 ez18 => ?_))
        refine hq_p rfl rfl ?_
        refine ty_aS (W := ty_Wac) H Jh16 rfl rfl (by decide) (by omega) (by omega) (fun i e => by unfold ty_Wac; omega) (fun i e => ty_eg (ty_w26 (by omega) (by omega))) (by omega) (by omega) (fun e1 e2 w => by omega) (fun h19 eh19 Jh19 => ?_)
        have Ih19 := H.1 h19 Jh19
        refine hq_p rfl rfl ?_
        refine hq_p rfl rfl ?_
        refine hq_p rfl rfl ?_
        refine hq_p rfl rfl ?_
        refine ty_callp 0 Ih19 rfl (fun _ => rfl) rfl rfl rfl (hq_pre_o Ih19.1 (x := 97) (ci := 11) rfl (by decide) rfl rfl rfl rfl) (ct_152 (x1 := x2) (by omega)) (fun _ P20 => ?_)
        obtain ⟨z21, rfl, az21, bz21⟩ := P20
        refine ty_callj 0 (W := ty_Wac) H Jh19 rfl (fun _ => rfl) rfl rfl rfl (hq_pre_o Ih19.1 (x := 97) (ci := 11) rfl (by decide) rfl rfl rfl rfl) (fun a k w => by unfold ty_Wy at w; unfold ty_Wac; omega) (by unfold ty_Wy ty_Wac; omega) (ct_207 (x1 := x2) (x2 := z21) (by omega) (by omega) (by omega)) (fun h23 _ Jh23 P22 => ?_)
        have Ih23 := H.1 h23 Jh23
        obtain ⟨z24, rfl, az24, bz24⟩ := P22
        exact hq_W.ret rfl rfl rfl ⟨Jh23, _, rfl, by omega, by omega⟩
      · refine hq_p rfl rfl (ty_ge (n := -3) nk_bm3 (fun z25 ez25 => ?_))
        exact hq_W.ret rfl rfl rfl ⟨Jh11, _, rfl, by omega, by omega⟩
    · clear iz7
      refine hq_p rfl rfl (ty_ge (n := -2) nk_bm2 (fun z26 ez26 => ?_))
      exact hq_W.ret rfl rfl rfl ⟨hJ, _, rfl, by omega, by omega⟩
theorem ct_212b {X : pm_X} {d : Nat} {h : pm_H} {x1 : Int32} (hd : 3 ≤ d)  : ty_M X ty_Wac d 212 [.ref 97, .int x1] h (ty_pi (-3) 7) := by
  intro J H hJ
  obtain ⟨d, rfl⟩ : ∃ e, d = e + 1 := ⟨d - 1, by omega⟩
  have I := H.1 h hJ
  have ax1 := nm_lo x1
  have bx1 := nm_hi x1
  refine hq_M.enter (q := (⟨"TrainBearersModel", "dropNow", "(I)I"⟩, _, 3, some .int, 11, 2, pm_c212)) rfl rfl ?_
  show hq_W X d 11 false (some .int) pm_c212 (0, [some (.ref 97), some (.int x1), none], [], h) (fun h' v => J h' ∧ (ty_pi (-3) 7) h' v)
  refine hq_p rfl rfl ?_
  refine hq_p rfl rfl ?_
  refine ty_callp 0 I rfl (fun _ => rfl) rfl rfl rfl (hq_pre_o I.1 (x := 97) (ci := 11) rfl (by decide) rfl rfl rfl rfl) (ct_150 (x1 := x1) (by omega)) (fun _ P1 => ?_)
  obtain ⟨z2, rfl, az2, bz2, iz2⟩ := P1
  refine ty_zne rfl (fun c3 => ?_) (fun c3 => ?_)
  · replace c3 : 1 ≤ z2.toInt ∧ z2.toInt ≤ 1 := by omega
    have f4 := iz2 (by omega)
    clear iz2
    refine hq_p rfl rfl ?_
    refine hq_gR I.1 rfl rfl (by decide) (by decide) rfl ?_
    refine hq_p rfl rfl (ty_ge (n := 26) nk_b26 (fun z5 ez5 => ?_))
    refine hq_p rfl rfl ?_
    refine hq_p rfl rfl (ty_ge (n := z5.toInt + x1.toInt) (nm_add (by omega) (by omega)) (fun z6 ez6 => ?_))
    refine ty_aL I rfl rfl (by decide) (by omega) (by omega) (fun i e => ty_le (ty_w26 (by omega) (by omega))) (fun z7 ez7 az7 bz7 => ?_)
    refine hq_p (ls' := [some (.ref 97), some (.int x1), some (.int z7)]) rfl rfl ?_
    refine hq_p rfl rfl ?_
    refine hq_p rfl rfl (ty_ge (n := -1) nk_im1 (fun z8 ez8 => ?_))
    refine ty_ine rfl (fun c9 => ?_) (fun c9 => ?_)
    · replace c9 : 0 ≤ z7.toInt ∧ z7.toInt ≤ 7 := by omega
      refine hq_p rfl rfl ?_
      refine hq_p rfl rfl (ty_ge (n := 1) nk_i1 (fun z10 ez10 => ?_))
      refine ty_callj 0 (W := ty_Wac) H hJ rfl (fun _ => rfl) rfl rfl rfl (hq_pre_o I.1 (x := 97) (ci := 11) rfl (by decide) rfl rfl rfl rfl) (fun a k w => by unfold ty_Wm at w; unfold ty_Wac; omega) (by unfold ty_Wm ty_Wac; omega) (ct_145 (x1 := z10) (by omega) (by omega) (by omega)) (fun h12 _ Jh12 P11 => ?_)
      have Ih12 := H.1 h12 Jh12
      subst P11
      refine hq_p rfl rfl ?_
      refine hq_gR Ih12.1 rfl rfl (by decide) (by decide) rfl ?_
      refine hq_p rfl rfl (ty_ge (n := 26) nk_b26 (fun z13 ez13 => ?_))
      refine hq_p rfl rfl ?_
      refine hq_p rfl rfl (ty_ge (n := z13.toInt + x1.toInt) (nm_add (by omega) (by omega)) (fun z14 ez14 => ?_))
      refine hq_p rfl rfl (ty_ge (n := -1) nk_im1 (fun z15 ez15 => ?_))
      refine ty_aS (W := ty_Wac) H Jh12 rfl rfl (by decide) (by omega) (by omega) (fun i e => by unfold ty_Wac; omega) (fun i e => ty_eg (ty_w26 (by omega) (by omega))) (by omega) (by omega) (fun e1 e2 w => by omega) (fun h16 eh16 Jh16 => ?_)
      have Ih16 := H.1 h16 Jh16
      refine hq_p rfl rfl ?_
      exact hq_W.ret rfl rfl rfl ⟨Jh16, _, rfl, by omega, by omega⟩
    · refine hq_p rfl rfl (ty_ge (n := -3) nk_bm3 (fun z17 ez17 => ?_))
      exact hq_W.ret rfl rfl rfl ⟨hJ, _, rfl, by omega, by omega⟩
  · clear iz2
    refine hq_p rfl rfl (ty_ge (n := -2) nk_bm2 (fun z18 ez18 => ?_))
    exact hq_W.ret rfl rfl rfl ⟨hJ, _, rfl, by omega, by omega⟩
theorem ct_217b {X : pm_X} {d : Nat} {h : pm_H} {x1 : Int32} (hd : 9 ≤ d)  : ty_M X ty_Wac d 217 [.ref 97, .int x1] h (ty_pi (-3) 792) := by
  intro J H hJ
  obtain ⟨d, rfl⟩ : ∃ e, d = e + 1 := ⟨d - 1, by omega⟩
  have I := H.1 h hJ
  have ax1 := nm_lo x1
  have bx1 := nm_hi x1
  refine hq_M.enter (q := (⟨"TrainBearersModel", "walkNow", "(I)I"⟩, _, 2, some .int, 11, 2, pm_c217)) rfl rfl ?_
  show hq_W X d 11 false (some .int) pm_c217 (0, [some (.ref 97), some (.int x1)], [], h) (fun h' v => J h' ∧ (ty_pi (-3) 792) h' v)
  refine hq_p rfl rfl ?_
  refine ty_callp 1 I rfl (fun _ => rfl) rfl rfl rfl rfl (ct_151 (x0 := x1) (by omega)) (fun _ P1 => ?_)
  obtain ⟨z2, rfl, az2, bz2, iz2⟩ := P1
  refine ty_zne rfl (fun c3 => ?_) (fun c3 => ?_)
  · replace c3 : 1 ≤ z2.toInt ∧ z2.toInt ≤ 1 := by omega
    have f4 := iz2 (by omega)
    clear iz2
    refine hq_p rfl rfl ?_
    refine hq_p rfl rfl ?_
    refine ty_callp 0 I rfl (fun _ => rfl) rfl rfl rfl (hq_pre_o I.1 (x := 97) (ci := 11) rfl (by decide) rfl rfl rfl rfl) (ct_215 (x1 := x1) (by omega) (by omega) (by omega)) (fun _ P5 => ?_)
    obtain ⟨z6, rfl, az6, bz6⟩ := P5
    refine ty_zne rfl (fun c7 => ?_) (fun c7 => ?_)
    · replace c7 : 1 ≤ z6.toInt ∧ z6.toInt ≤ 1 := by omega
      refine hq_p rfl rfl ?_
      refine hq_p rfl rfl (ty_ge (n := 2) nk_i2 (fun z8 ez8 => ?_))
      refine ty_callj 0 (W := ty_Wac) H hJ rfl (fun _ => rfl) rfl rfl rfl (hq_pre_o I.1 (x := 97) (ci := 11) rfl (by decide) rfl rfl rfl rfl) (fun a k w => by unfold ty_Wm at w; unfold ty_Wac; omega) (by unfold ty_Wm ty_Wac; omega) (ct_145 (x1 := z8) (by omega) (by omega) (by omega)) (fun h10 _ Jh10 P9 => ?_)
      have Ih10 := H.1 h10 Jh10
      subst P9
      refine hq_p rfl rfl ?_
      refine hq_p rfl rfl ?_
      refine ty_callj 0 (W := ty_Wac) H Jh10 rfl (fun _ => rfl) rfl rfl rfl (hq_pre_o Ih10.1 (x := 97) (ci := 11) rfl (by decide) rfl rfl rfl rfl) (fun a k w => by unfold ty_Wj at w; unfold ty_Wac; omega) (by unfold ty_Wj ty_Wac; omega) (ct_216b (x1 := x1) (by omega) (by omega) (by omega)) (fun h12 _ Jh12 P11 => ?_)
      have Ih12 := H.1 h12 Jh12
      obtain ⟨⟨z13, rfl, az13, bz13⟩, p8z13, p9z13⟩ := P11
      obtain ⟨q14, eq14⟩ : ∃ q : Int32, q.toInt = (hs_aI h12 99 9).toInt := ⟨_, rfl⟩
      have kq14 := Ih12.2.2.2.1 99 9 (by decide) (by decide)
      have k0q14 : 0 ≤ (hs_aI h12 99 9).toInt := kq14.1
      have k1q14 : (hs_aI h12 99 9).toInt ≤ 9999 := kq14.2
      clear kq14
      exact hq_W.ret rfl rfl rfl ⟨Jh12, _, rfl, by omega, by omega⟩
    · refine hq_p rfl rfl (ty_ge (n := -3) nk_bm3 (fun z15 ez15 => ?_))
      exact hq_W.ret rfl rfl rfl ⟨hJ, _, rfl, by omega, by omega⟩
  · clear iz2
    refine hq_p rfl rfl (ty_ge (n := -1) nk_im1 (fun z16 ez16 => ?_))
    exact hq_W.ret rfl rfl rfl ⟨hJ, _, rfl, by omega, by omega⟩
theorem ct_220b {X : pm_X} {d : Nat} {h : pm_H}  (hd : 3 ≤ d)  : ty_M X ty_Wac d 220 [.ref 97] h (ty_pi (-3) 1020) := by
  intro J H hJ
  obtain ⟨d, rfl⟩ : ∃ e, d = e + 1 := ⟨d - 1, by omega⟩
  have I := H.1 h hJ
  refine hq_M.enter (q := (⟨"TrainBearersModel", "restNow", "()I"⟩, _, 1, some .int, 11, 1, pm_c220)) rfl rfl ?_
  show hq_W X d 11 false (some .int) pm_c220 (0, [some (.ref 97)], [], h) (fun h' v => J h' ∧ (ty_pi (-3) 1020) h' v)
  refine hq_p rfl rfl ?_
  refine hq_gR I.1 rfl rfl (by decide) (by decide) rfl ?_
  refine hq_p rfl rfl (ty_ge (n := 5) nk_i5 (fun z1 ez1 => ?_))
  refine ty_aL I rfl rfl (by decide) (by omega) (by omega) (fun i e => ty_le (ty_w5 (by omega) (by omega))) (fun z2 ez2 az2 bz2 => ?_)
  rw [show z1.toInt.toNat = 5 by omega] at ez2
  have h9 := H.2.2.2.2.2.1 (by unfold ty_Wac; omega) h hJ
  refine hq_p rfl rfl (ty_ge (n := 999) nk_s999 (fun z3 ez3 => ?_))
  refine ty_ine rfl (fun c4 => ?_) (fun c4 => ?_)
  · replace c4 : 0 ≤ z2.toInt ∧ z2.toInt ≤ 998 := by omega
    refine hq_p rfl rfl ?_
    refine hq_p rfl rfl (ty_ge (n := 3) nk_i3 (fun z5 ez5 => ?_))
    refine ty_calle 0 (c := 99) (j := 5) (W := ty_Wac) H hJ rfl (fun _ => rfl) rfl rfl rfl (hq_pre_o I.1 (x := 97) (ci := 11) rfl (by decide) rfl rfl rfl rfl) (fun a k w => by unfold ty_Wm at w; unfold ty_Wac; omega) (by unfold ty_Wm ty_Wac; omega) (ct_145 (x1 := z5) (by omega) (by omega) (by omega)) (by decide) (by unfold ty_Wm; omega) (fun h7 _ Jh7 gh7 P6 => ?_)
    have Ih7 := H.1 h7 Jh7
    subst P6
    refine hq_p rfl rfl ?_
    refine ty_callj 0 (W := ty_Wac) H Jh7 rfl (fun _ => rfl) rfl rfl rfl (hq_pre_o Ih7.1 (x := 97) (ci := 11) rfl (by decide) rfl rfl rfl rfl) (fun a k w => by unfold ty_Whz at w; unfold ty_Wac; omega) (by unfold ty_Whz ty_Wac; omega) (ct_219c (by omega) (by omega) (by omega)) (fun h9 _ Jh9 P8 => ?_)
    have Ih9 := H.1 h9 Jh9
    subst P8
    refine hq_p rfl rfl ?_
    refine hq_gR Ih9.1 rfl rfl (by decide) (by decide) rfl ?_
    refine hq_p rfl rfl (ty_ge (n := 5) nk_i5 (fun z10 ez10 => ?_))
    refine ty_aL Ih9 rfl rfl (by decide) (by omega) (by omega) (fun i e => ty_le (ty_w5 (by omega) (by omega))) (fun z11 ez11 az11 bz11 => ?_)
    rw [show z10.toInt.toNat = 5 by omega] at ez11
    exact hq_W.ret rfl rfl rfl ⟨Jh9, _, rfl, by omega, by omega⟩
  · refine hq_p rfl rfl (ty_ge (n := -3) nk_bm3 (fun z12 ez12 => ?_))
    exact hq_W.ret rfl rfl rfl ⟨hJ, _, rfl, by omega, by omega⟩
theorem ct_247b {X : pm_X} {d : Nat} {h : pm_H} {x1 : Int32} {x2 : Int32} {x3 : Int32} (hd : 10 ≤ d)  : ty_M X ty_Wac d 247 [.ref 97, .int x1, .int x2, .int x3] h (ty_pi (-3) 1020) := by
  intro J H hJ
  obtain ⟨d, rfl⟩ : ∃ e, d = e + 1 := ⟨d - 1, by omega⟩
  have I := H.1 h hJ
  have ax1 := nm_lo x1
  have bx1 := nm_hi x1
  have ax2 := nm_lo x2
  have bx2 := nm_hi x2
  have ax3 := nm_lo x3
  have bx3 := nm_hi x3
  refine hq_M.enter (q := (⟨"TrainBearersModel", "act", "(III)I"⟩, _, 4, some .int, 11, 4, pm_c247)) rfl rfl ?_
  show hq_W X d 11 false (some .int) pm_c247 (0, [some (.ref 97), some (.int x1), some (.int x2), some (.int x3)], [], h) (fun h' v => J h' ∧ (ty_pi (-3) 1020) h' v)
  refine hq_p rfl rfl ?_
  rcases (show x1.toInt = 0 ∨ x1.toInt = 1 ∨ x1.toInt = 2 ∨ (x1.toInt < 0 ∨ 2 < x1.toInt) by omega) with c1 | c1 | c1 | c1
  · refine ty_ts (n := 0) rfl c1 rfl rfl (by decide) ?_
    refine hq_p rfl rfl ?_
    refine hq_p rfl rfl ?_
    refine hq_p rfl rfl ?_
    refine ty_callj 0 (W := ty_Wac) H hJ rfl (fun _ => rfl) rfl rfl rfl (hq_pre_o I.1 (x := 97) (ci := 11) rfl (by decide) rfl rfl rfl rfl) (fun _ _ w => w) (fun _ w => w) (ct_210b (x1 := x2) (x2 := x3) (by omega)) (fun h3 _ Jh3 P2 => ?_)
    have Ih3 := H.1 h3 Jh3
    obtain ⟨z4, rfl, az4, bz4⟩ := P2
    exact hq_W.ret rfl rfl rfl ⟨Jh3, _, rfl, by omega, by omega⟩
  · refine ty_ts (n := 1) rfl c1 rfl rfl (by decide) ?_
    refine hq_p rfl rfl ?_
    refine hq_p rfl rfl ?_
    refine ty_callj 0 (W := ty_Wac) H hJ rfl (fun _ => rfl) rfl rfl rfl (hq_pre_o I.1 (x := 97) (ci := 11) rfl (by decide) rfl rfl rfl rfl) (fun _ _ w => w) (fun _ w => w) (ct_212b (x1 := x2) (by omega)) (fun h6 _ Jh6 P5 => ?_)
    have Ih6 := H.1 h6 Jh6
    obtain ⟨z7, rfl, az7, bz7⟩ := P5
    exact hq_W.ret rfl rfl rfl ⟨Jh6, _, rfl, by omega, by omega⟩
  · refine ty_ts (n := 2) rfl c1 rfl rfl (by decide) ?_
    refine hq_p rfl rfl ?_
    refine hq_p rfl rfl ?_
    refine ty_callj 0 (W := ty_Wac) H hJ rfl (fun _ => rfl) rfl rfl rfl (hq_pre_o I.1 (x := 97) (ci := 11) rfl (by decide) rfl rfl rfl rfl) (fun _ _ w => w) (fun _ w => w) (ct_217b (x1 := x2) (by omega)) (fun h9 _ Jh9 P8 => ?_)
    have Ih9 := H.1 h9 Jh9
    obtain ⟨z10, rfl, az10, bz10⟩ := P8
    exact hq_W.ret rfl rfl rfl ⟨Jh9, _, rfl, by omega, by omega⟩
  · refine ty_td rfl c1 (by decide) ?_
    refine hq_p rfl rfl ?_
    refine ty_callj 0 (W := ty_Wac) H hJ rfl (fun _ => rfl) rfl rfl rfl (hq_pre_o I.1 (x := 97) (ci := 11) rfl (by decide) rfl rfl rfl rfl) (fun _ _ w => w) (fun _ w => w) (ct_220b (by omega)) (fun h12 _ Jh12 P11 => ?_)
    have Ih12 := H.1 h12 Jh12
    obtain ⟨z13, rfl, az13, bz13⟩ := P11
    exact hq_W.ret rfl rfl rfl ⟨Jh12, _, rfl, by omega, by omega⟩
end CT58
