/-! CONTRACTS (printed by wip/pm/cts.py) -/
section CT19
theorem ct_32 {X : pm_X} {d : Nat} {h : pm_H} {x1 : Int32} {x2 : Int32} (hd : 100 ≤ d) (ax1 : 0 ≤ x1.toInt) (bx1 : x1.toInt ≤ 2) (ax2 : 0 ≤ x2.toInt) (bx2 : x2.toInt ≤ 0) (hX : ty_SX X) (h02 : x1.toInt = 0 ∨ x1.toInt = 2) : ty_M X ty_Wr d 32 [.ref 62, .int x1, .int x2] h (ty_pi 0 1) := by
  have c2 : ∀ (m : Nat) (z y : Int32) (h1 : pm_H) (e : Nat), 0 ≤ z.toInt → z.toInt ≤ 8 → 8 - z.toInt ≤ m → 20 + 3 * m ≤ e → y.toInt = 2 → ty_M X ty_Wr e 32 [.ref 62, .int y, .int z] h1 (ty_pi 0 1) := by
    intro m
    induction m with
    | zero =>
      intro z y h1 e z0 z1 hm he hy
      exact ct_32r2 (by omega) hX (by omega) (by omega) z0 z1 (fun h2 y2 z2 e1 e2 => ct_32r3 (by omega) hX (by omega) (by omega) (by omega) (by omega) (fun h3 z3 e3 => ct_35 (by omega) hX (by omega) (by omega) (fun q => by omega)))
    | succ m ih =>
      intro z y h1 e z0 z1 hm he hy
      exact ct_32r2 (by omega) hX (by omega) (by omega) z0 z1 (fun h2 y2 z2 e1 e2 => ct_32r3 (by omega) hX (by omega) (by omega) (by omega) (by omega) (fun h3 z3 e3 => ct_35 (by omega) hX (by omega) (by omega) (fun q h4 y4 z4 e4 e5 => ih z4 y4 h4 _ (by omega) (by omega) (by omega) (by omega) e4)))
  have c0 : ∀ (m : Nat) (z y : Int32) (h1 : pm_H) (e : Nat), 0 ≤ z.toInt → z.toInt ≤ 8 → 8 - z.toInt ≤ m → 60 + 3 * m ≤ e → y.toInt = 0 → ty_M X ty_Wr e 32 [.ref 62, .int y, .int z] h1 (ty_pi 0 1) := by
    intro m
    induction m with
    | zero =>
      intro z y h1 e z0 z1 hm he hy
      exact ct_32r0 (by omega) hX (by omega) (by omega) z0 z1 (fun h2 y2 z2 e1 e2 => ct_32r1 (by omega) hX (by omega) (by omega) (by omega) (by omega) (fun h3 z3 e3 => ct_34 (by omega) hX (by omega) (by omega) (fun q => by omega) (fun q h4 y4 z4 e4 e5 => c2 8 z4 y4 h4 _ (by omega) (by omega) (by omega) (by omega) e4)))
    | succ m ih =>
      intro z y h1 e z0 z1 hm he hy
      exact ct_32r0 (by omega) hX (by omega) (by omega) z0 z1 (fun h2 y2 z2 e1 e2 => ct_32r1 (by omega) hX (by omega) (by omega) (by omega) (by omega) (fun h3 z3 e3 => ct_34 (by omega) hX (by omega) (by omega) (fun q h4 y4 z4 e4 e5 => ih z4 y4 h4 _ (by omega) (by omega) (by omega) (by omega) e4) (fun q h4 y4 z4 e4 e5 => c2 8 z4 y4 h4 _ (by omega) (by omega) (by omega) (by omega) e4)))
  rcases h02 with q | q
  · exact c0 8 x2 x1 h d (by omega) (by omega) (by omega) (by omega) q
  · exact c2 8 x2 x1 h d (by omega) (by omega) (by omega) (by omega) q
theorem ct_28 {X : pm_X} {d : Nat} {h : pm_H} {x1 : Int32} (hd : 101 ≤ d) (hX : ty_SX X) (ax1 : 0 ≤ x1.toInt) (bx1 : x1.toInt ≤ 11) : ty_M X ty_Wr d 28 [.ref 62, .int x1] h (ty_pi 0 1) := by
  intro J H hJ
  obtain ⟨d, rfl⟩ : ∃ e, d = e + 1 := ⟨d - 1, by omega⟩
  have I := H.1 h hJ
  refine hq_M.enter (q := (⟨"TrainBearers$Reader", "firstSum", "(I)Z"⟩, _, 3, some .boolean, 3, 2, pm_c28)) rfl rfl ?_
  show hq_W X d 3 false (some .boolean) pm_c28 (0, [some (.ref 62), some (.int x1), none], [], h) (fun h' v => J h' ∧ (ty_pi 0 1) h' v)
  refine hq_p rfl rfl ?_
  refine hq_gR I.1 rfl rfl (by decide) (by decide) rfl ?_
  refine hq_gR I.1 rfl rfl (by decide) (by decide) rfl ?_
  refine hq_p rfl rfl ?_
  refine hq_p rfl rfl ?_
  refine hq_gR I.1 rfl rfl (by decide) (by decide) rfl ?_
  refine ty_gI I rfl rfl (by decide) (by decide) rfl rfl (fun z1 ez1 az1 bz1 => ?_)
  refine ty_aS (W := ty_Wr) H hJ rfl rfl (by decide) (by omega) (by omega) (fun i e => by unfold ty_Wr; omega) (fun _ _ => ty_eg rfl) (by omega) (by omega) (fun e1 e2 w => by omega) (fun h2 eh2 Jh2 => ?_)
  have Ih2 := H.1 h2 Jh2
  refine hq_p rfl rfl ?_
  refine hq_p rfl rfl (ty_ge (n := 2) nk_i2 (fun z3 ez3 => ?_))
  refine hq_p rfl rfl (ty_ge (n := 0) nk_i0 (fun z4 ez4 => ?_))
  refine ty_callj 0 (W := ty_Wr) H Jh2 rfl (fun _ => rfl) rfl rfl rfl (hq_pre_o Ih2.1 (x := 62) (ci := 3) rfl (by decide) rfl rfl rfl rfl) (fun _ _ w => w) (fun _ w => w) (ct_32 (x1 := z3) (x2 := z4) (by omega) (by omega) (by omega) (by omega) (by omega) hX (by omega)) (fun h6 _ Jh6 P5 => ?_)
  have Ih6 := H.1 h6 Jh6
  obtain ⟨z7, rfl, az7, bz7⟩ := P5
  refine hq_p (ls' := [some (.ref 62), some (.int x1), some (.int z7)]) rfl rfl ?_
  refine hq_p rfl rfl ?_
  refine hq_gR Ih6.1 rfl rfl (by decide) (by decide) rfl ?_
  refine hq_p rfl rfl (ty_ge (n := 0) nk_i0 (fun z8 ez8 => ?_))
  refine hq_p rfl rfl (ty_ge (n := 0) nk_i0 (fun z9 ez9 => ?_))
  refine ty_callj 0 (W := ty_Wr) H Jh6 rfl (fun _ => rfl) rfl rfl rfl (hq_pre_o Ih6.1 (x := 64) (ci := 7) rfl (by decide) rfl rfl rfl rfl) (fun _ _ w => w) (fun _ w => w) (ct_63 (x1 := z8) (x2 := z9) (by omega) (by omega) (by omega)) (fun h11 _ Jh11 P10 => ?_)
  have Ih11 := H.1 h11 Jh11
  subst P10
  refine hq_p rfl rfl ?_
  exact ty_rB rfl rfl (by omega) (by omega) ⟨Jh11, _, rfl, by omega, by omega⟩
theorem ct_29 {X : pm_X} {d : Nat} {h : pm_H} {x1 : Int32} (hd : 101 ≤ d) (hX : ty_SX X) (ax1 : 0 ≤ x1.toInt) (bx1 : x1.toInt ≤ 11) : ty_M X ty_Wr d 29 [.ref 62, .int x1] h (ty_pi 0 1) := by
  intro J H hJ
  obtain ⟨d, rfl⟩ : ∃ e, d = e + 1 := ⟨d - 1, by omega⟩
  have I := H.1 h hJ
  refine hq_M.enter (q := (⟨"TrainBearers$Reader", "secondSum", "(I)Z"⟩, _, 3, some .boolean, 3, 2, pm_c29)) rfl rfl ?_
  show hq_W X d 3 false (some .boolean) pm_c29 (0, [some (.ref 62), some (.int x1), none], [], h) (fun h' v => J h' ∧ (ty_pi 0 1) h' v)
  refine hq_p rfl rfl ?_
  refine hq_gR I.1 rfl rfl (by decide) (by decide) rfl ?_
  refine hq_gR I.1 rfl rfl (by decide) (by decide) rfl ?_
  refine hq_p rfl rfl ?_
  refine hq_p rfl rfl ?_
  refine hq_gR I.1 rfl rfl (by decide) (by decide) rfl ?_
  refine ty_gI I rfl rfl (by decide) (by decide) rfl rfl (fun z1 ez1 az1 bz1 => ?_)
  refine ty_aS (W := ty_Wr) H hJ rfl rfl (by decide) (by omega) (by omega) (fun i e => by unfold ty_Wr; omega) (fun _ _ => ty_eg rfl) (by omega) (by omega) (fun e1 e2 w => by omega) (fun h2 eh2 Jh2 => ?_)
  have Ih2 := H.1 h2 Jh2
  refine hq_p rfl rfl ?_
  refine hq_p rfl rfl ?_
  refine ty_callj 0 (W := ty_Wr) H Jh2 rfl (fun _ => rfl) rfl rfl rfl (hq_pre_o Ih2.1 (x := 62) (ci := 3) rfl (by decide) rfl rfl rfl rfl) (fun _ _ w => w) (fun _ w => w) (ct_39 (k1 := 19) (by omega) hX (by decide)) (fun h4 _ Jh4 P3 => ?_)
  have Ih4 := H.1 h4 Jh4
  obtain ⟨z5, rfl, az5, bz5⟩ := P3
  refine ty_zeq rfl (fun c6 => ?_) (fun c6 => ?_)
  · refine hq_p rfl rfl (ty_ge (n := 0) nk_i0 (fun z7 ez7 => ?_))
    refine hq_p (ls' := [some (.ref 62), some (.int x1), some (.int z7)]) rfl rfl ?_
    refine hq_p rfl rfl ?_
    refine hq_gR Ih4.1 rfl rfl (by decide) (by decide) rfl ?_
    refine hq_p rfl rfl (ty_ge (n := 0) nk_i0 (fun z8 ez8 => ?_))
    refine hq_p rfl rfl (ty_ge (n := 0) nk_i0 (fun z9 ez9 => ?_))
    refine ty_callj 0 (W := ty_Wr) H Jh4 rfl (fun _ => rfl) rfl rfl rfl (hq_pre_o Ih4.1 (x := 64) (ci := 7) rfl (by decide) rfl rfl rfl rfl) (fun _ _ w => w) (fun _ w => w) (ct_63 (x1 := z8) (x2 := z9) (by omega) (by omega) (by omega)) (fun h11 _ Jh11 P10 => ?_)
    have Ih11 := H.1 h11 Jh11
    subst P10
    refine hq_p rfl rfl ?_
    exact ty_rB rfl rfl (by omega) (by omega) ⟨Jh11, _, rfl, by omega, by omega⟩
  · replace c6 : 1 ≤ z5.toInt ∧ z5.toInt ≤ 1 := by omega
    refine hq_p rfl rfl ?_
    refine hq_p rfl rfl (ty_ge (n := 2) nk_i2 (fun z12 ez12 => ?_))
    refine hq_p rfl rfl (ty_ge (n := 0) nk_i0 (fun z13 ez13 => ?_))
    refine ty_callj 0 (W := ty_Wr) H Jh4 rfl (fun _ => rfl) rfl rfl rfl (hq_pre_o Ih4.1 (x := 62) (ci := 3) rfl (by decide) rfl rfl rfl rfl) (fun _ _ w => w) (fun _ w => w) (ct_32 (x1 := z12) (x2 := z13) (by omega) (by omega) (by omega) (by omega) (by omega) hX (by omega)) (fun h15 _ Jh15 P14 => ?_)
    have Ih15 := H.1 h15 Jh15
    obtain ⟨z16, rfl, az16, bz16⟩ := P14
    refine ty_zeq rfl (fun c17 => ?_) (fun c17 => ?_)
    · refine hq_p rfl rfl (ty_ge (n := 0) nk_i0 (fun z18 ez18 => ?_))
      refine hq_p (ls' := [some (.ref 62), some (.int x1), some (.int z18)]) rfl rfl ?_
      refine hq_p rfl rfl ?_
      refine hq_gR Ih15.1 rfl rfl (by decide) (by decide) rfl ?_
      refine hq_p rfl rfl (ty_ge (n := 0) nk_i0 (fun z19 ez19 => ?_))
      refine hq_p rfl rfl (ty_ge (n := 0) nk_i0 (fun z20 ez20 => ?_))
      refine ty_callj 0 (W := ty_Wr) H Jh15 rfl (fun _ => rfl) rfl rfl rfl (hq_pre_o Ih15.1 (x := 64) (ci := 7) rfl (by decide) rfl rfl rfl rfl) (fun _ _ w => w) (fun _ w => w) (ct_63 (x1 := z19) (x2 := z20) (by omega) (by omega) (by omega)) (fun h22 _ Jh22 P21 => ?_)
      have Ih22 := H.1 h22 Jh22
      subst P21
      refine hq_p rfl rfl ?_
      exact ty_rB rfl rfl (by omega) (by omega) ⟨Jh22, _, rfl, by omega, by omega⟩
    · replace c17 : 1 ≤ z16.toInt ∧ z16.toInt ≤ 1 := by omega
      refine hq_p rfl rfl (ty_ge (n := 1) nk_i1 (fun z23 ez23 => ?_))
      refine hq_p rfl rfl ?_
      refine hq_p (ls' := [some (.ref 62), some (.int x1), some (.int z23)]) rfl rfl ?_
      refine hq_p rfl rfl ?_
      refine hq_gR Ih15.1 rfl rfl (by decide) (by decide) rfl ?_
      refine hq_p rfl rfl (ty_ge (n := 0) nk_i0 (fun z24 ez24 => ?_))
      refine hq_p rfl rfl (ty_ge (n := 0) nk_i0 (fun z25 ez25 => ?_))
      refine ty_callj 0 (W := ty_Wr) H Jh15 rfl (fun _ => rfl) rfl rfl rfl (hq_pre_o Ih15.1 (x := 64) (ci := 7) rfl (by decide) rfl rfl rfl rfl) (fun _ _ w => w) (fun _ w => w) (ct_63 (x1 := z24) (x2 := z25) (by omega) (by omega) (by omega)) (fun h27 _ Jh27 P26 => ?_)
      have Ih27 := H.1 h27 Jh27
      subst P26
      refine hq_p rfl rfl ?_
      exact ty_rB rfl rfl (by omega) (by omega) ⟨Jh27, _, rfl, by omega, by omega⟩
theorem ct_31 {X : pm_X} {d : Nat} {h : pm_H} {x1 : Int32} (hd : 101 ≤ d) (hX : ty_SX X) (ax1 : 0 ≤ x1.toInt) (bx1 : x1.toInt ≤ 11) : ty_M X ty_Wr d 31 [.ref 62, .int x1] h (ty_pi 0 1) := by
  intro J H hJ
  obtain ⟨d, rfl⟩ : ∃ e, d = e + 1 := ⟨d - 1, by omega⟩
  have I := H.1 h hJ
  refine hq_M.enter (q := (⟨"TrainBearers$Reader", "condition", "(I)Z"⟩, _, 3, some .boolean, 3, 2, pm_c31)) rfl rfl ?_
  show hq_W X d 3 false (some .boolean) pm_c31 (0, [some (.ref 62), some (.int x1), none], [], h) (fun h' v => J h' ∧ (ty_pi 0 1) h' v)
  refine hq_p rfl rfl ?_
  refine hq_p rfl rfl ?_
  refine ty_callj 0 (W := ty_Wr) H hJ rfl (fun _ => rfl) rfl rfl rfl (hq_pre_o I.1 (x := 62) (ci := 3) rfl (by decide) rfl rfl rfl rfl) (fun _ _ w => w) (fun _ w => w) (ct_39 (k1 := 21) (by omega) hX (by decide)) (fun h2 _ Jh2 P1 => ?_)
  have Ih2 := H.1 h2 Jh2
  obtain ⟨z3, rfl, az3, bz3⟩ := P1
  refine ty_zne rfl (fun c4 => ?_) (fun c4 => ?_)
  · replace c4 : 1 ≤ z3.toInt ∧ z3.toInt ≤ 1 := by omega
    refine hq_p rfl rfl ?_
    refine hq_gR Ih2.1 rfl rfl (by decide) (by decide) rfl ?_
    refine hq_gR Ih2.1 rfl rfl (by decide) (by decide) rfl ?_
    refine hq_p rfl rfl ?_
    refine hq_p rfl rfl ?_
    refine hq_gR Ih2.1 rfl rfl (by decide) (by decide) rfl ?_
    refine ty_gI Ih2 rfl rfl (by decide) (by decide) rfl rfl (fun z5 ez5 az5 bz5 => ?_)
    refine ty_aS (W := ty_Wr) H Jh2 rfl rfl (by decide) (by omega) (by omega) (fun i e => by unfold ty_Wr; omega) (fun _ _ => ty_eg rfl) (by omega) (by omega) (fun e1 e2 w => by omega) (fun h6 eh6 Jh6 => ?_)
    have Ih6 := H.1 h6 Jh6
    refine hq_p rfl rfl ?_
    refine hq_p rfl rfl (ty_ge (n := 0) nk_i0 (fun z7 ez7 => ?_))
    refine hq_p rfl rfl (ty_ge (n := 0) nk_i0 (fun z8 ez8 => ?_))
    refine ty_callj 0 (W := ty_Wr) H Jh6 rfl (fun _ => rfl) rfl rfl rfl (hq_pre_o Ih6.1 (x := 62) (ci := 3) rfl (by decide) rfl rfl rfl rfl) (fun _ _ w => w) (fun _ w => w) (ct_32 (x1 := z7) (x2 := z8) (by omega) (by omega) (by omega) (by omega) (by omega) hX (by omega)) (fun h10 _ Jh10 P9 => ?_)
    have Ih10 := H.1 h10 Jh10
    obtain ⟨z11, rfl, az11, bz11⟩ := P9
    refine hq_p (ls' := [some (.ref 62), some (.int x1), some (.int z11)]) rfl rfl ?_
    refine hq_p rfl rfl ?_
    refine hq_gR Ih10.1 rfl rfl (by decide) (by decide) rfl ?_
    refine hq_p rfl rfl (ty_ge (n := 0) nk_i0 (fun z12 ez12 => ?_))
    refine hq_p rfl rfl (ty_ge (n := 0) nk_i0 (fun z13 ez13 => ?_))
    refine ty_callj 0 (W := ty_Wr) H Jh10 rfl (fun _ => rfl) rfl rfl rfl (hq_pre_o Ih10.1 (x := 64) (ci := 7) rfl (by decide) rfl rfl rfl rfl) (fun _ _ w => w) (fun _ w => w) (ct_63 (x1 := z12) (x2 := z13) (by omega) (by omega) (by omega)) (fun h15 _ Jh15 P14 => ?_)
    have Ih15 := H.1 h15 Jh15
    subst P14
    refine hq_p rfl rfl ?_
    exact ty_rB rfl rfl (by omega) (by omega) ⟨Jh15, _, rfl, by omega, by omega⟩
  · refine hq_p rfl rfl (ty_ge (n := 1) nk_i1 (fun z16 ez16 => ?_))
    exact ty_rB rfl rfl (by omega) (by omega) ⟨Jh2, _, rfl, by omega, by omega⟩
theorem ct_26 {X : pm_X} {d : Nat} {h : pm_H} {x1 : Int32} (hd : 102 ≤ d) (hX : ty_SX X) (ax1 : 0 ≤ x1.toInt) (bx1 : x1.toInt ≤ 11) : ty_M X ty_Wr d 26 [.ref 62, .int x1] h (ty_pi 0 1) := by
  intro J H hJ
  obtain ⟨d, rfl⟩ : ∃ e, d = e + 1 := ⟨d - 1, by omega⟩
  have I := H.1 h hJ
  refine hq_M.enter (q := (⟨"TrainBearers$Reader", "lawClause", "(I)Z"⟩, _, 3, some .boolean, 3, 2, pm_c26)) rfl rfl ?_
  show hq_W X d 3 false (some .boolean) pm_c26 (0, [some (.ref 62), some (.int x1), none], [], h) (fun h' v => J h' ∧ (ty_pi 0 1) h' v)
  refine hq_p rfl rfl ?_
  refine hq_p rfl rfl ?_
  refine ty_callp 0 I rfl (fun _ => rfl) rfl rfl rfl (hq_pre_o I.1 (x := 62) (ci := 3) rfl (by decide) rfl rfl rfl rfl) (ct_41 (k1 := 0) (by omega) hX (by decide)) (fun _ P1 => ?_)
  obtain ⟨z2, rfl, az2, bz2⟩ := P1
  refine hq_p (ls' := [some (.ref 62), some (.int x1), some (.int z2)]) rfl rfl ?_
  refine hq_p rfl rfl ?_
  refine hq_p rfl rfl (ty_ge (n := -1) nk_im1 (fun z3 ez3 => ?_))
  refine ty_ine rfl (fun c4 => ?_) (fun c4 => ?_)
  · replace c4 : 0 ≤ z2.toInt ∧ z2.toInt ≤ 100 := by omega
    refine hq_p rfl rfl ?_
    refine hq_gR I.1 rfl rfl (by decide) (by decide) rfl ?_
    refine hq_p rfl rfl ?_
    refine ty_callj 0 (W := ty_Wr) H hJ rfl (fun _ => rfl) rfl rfl rfl (hq_pre_o I.1 (x := 64) (ci := 7) rfl (by decide) rfl rfl rfl rfl) (fun _ _ w => w) (fun _ w => w) (ct_66 (x1 := z2) (by omega)) (fun h6 _ Jh6 P5 => ?_)
    have Ih6 := H.1 h6 Jh6
    subst P5
    refine hq_p rfl rfl ?_
    refine ty_callj 0 (W := ty_Wr) H Jh6 rfl (fun _ => rfl) rfl rfl rfl (hq_pre_o Ih6.1 (x := 62) (ci := 3) rfl (by decide) rfl rfl rfl rfl) (fun _ _ w => w) (fun _ w => w) (ct_38 (by omega)) (fun h8 _ Jh8 P7 => ?_)
    have Ih8 := H.1 h8 Jh8
    subst P7
    refine hq_p rfl rfl ?_
    refine hq_p rfl rfl (ty_ge (n := 3) nk_i3 (fun z9 ez9 => ?_))
    refine ty_ieq rfl (fun c10 => ?_) (fun c10 => ?_)
    · refine hq_p rfl rfl (ty_ge (n := 1) nk_i1 (fun z11 ez11 => ?_))
      refine hq_p rfl rfl ?_
      exact ty_rB rfl rfl (by omega) (by omega) ⟨Jh8, _, rfl, by omega, by omega⟩
    · clear c10
      refine hq_p rfl rfl ?_
      refine hq_p rfl rfl ?_
      refine ty_callj 0 (W := ty_Wr) H Jh8 rfl (fun _ => rfl) rfl rfl rfl (hq_pre_o Ih8.1 (x := 62) (ci := 3) rfl (by decide) rfl rfl rfl rfl) (fun _ _ w => w) (fun _ w => w) (ct_28 (x1 := x1) (by omega) hX (by omega) (by omega)) (fun h13 _ Jh13 P12 => ?_)
      have Ih13 := H.1 h13 Jh13
      obtain ⟨z14, rfl, az14, bz14⟩ := P12
      refine ty_zeq rfl (fun c15 => ?_) (fun c15 => ?_)
      · refine hq_p rfl rfl (ty_ge (n := 0) nk_i0 (fun z16 ez16 => ?_))
        exact ty_rB rfl rfl (by omega) (by omega) ⟨Jh13, _, rfl, by omega, by omega⟩
      · replace c15 : 1 ≤ z14.toInt ∧ z14.toInt ≤ 1 := by omega
        refine hq_p rfl rfl (ty_ge (n := 1) nk_i1 (fun z17 ez17 => ?_))
        refine hq_p rfl rfl ?_
        exact ty_rB rfl rfl (by omega) (by omega) ⟨Jh13, _, rfl, by omega, by omega⟩
  · refine hq_p rfl rfl (ty_ge (n := 0) nk_i0 (fun z18 ez18 => ?_))
    exact ty_rB rfl rfl (by omega) (by omega) ⟨hJ, _, rfl, by omega, by omega⟩
theorem ct_27 {X : pm_X} {d : Nat} {h : pm_H} {x1 : Int32} (hd : 102 ≤ d) (hX : ty_SX X) (ax1 : 0 ≤ x1.toInt) (bx1 : x1.toInt ≤ 11) : ty_M X ty_Wr d 27 [.ref 62, .int x1] h (ty_pi 0 1) := by
  intro J H hJ
  obtain ⟨d, rfl⟩ : ∃ e, d = e + 1 := ⟨d - 1, by omega⟩
  have I := H.1 h hJ
  refine hq_M.enter (q := (⟨"TrainBearers$Reader", "orderClause", "(I)Z"⟩, _, 3, some .boolean, 3, 2, pm_c27)) rfl rfl ?_
  show hq_W X d 3 false (some .boolean) pm_c27 (0, [some (.ref 62), some (.int x1), none], [], h) (fun h' v => J h' ∧ (ty_pi 0 1) h' v)
  refine hq_p rfl rfl ?_
  refine hq_p rfl rfl ?_
  refine ty_callp 0 I rfl (fun _ => rfl) rfl rfl rfl (hq_pre_o I.1 (x := 62) (ci := 3) rfl (by decide) rfl rfl rfl rfl) (ct_41 (k1 := 18) (by omega) hX (by decide)) (fun _ P1 => ?_)
  obtain ⟨z2, rfl, az2, bz2⟩ := P1
  refine hq_p (ls' := [some (.ref 62), some (.int x1), some (.int z2)]) rfl rfl ?_
  refine hq_p rfl rfl ?_
  refine hq_p rfl rfl (ty_ge (n := -1) nk_im1 (fun z3 ez3 => ?_))
  refine ty_ine rfl (fun c4 => ?_) (fun c4 => ?_)
  · replace c4 : 0 ≤ z2.toInt ∧ z2.toInt ≤ 100 := by omega
    refine hq_p rfl rfl ?_
    refine hq_gR I.1 rfl rfl (by decide) (by decide) rfl ?_
    refine hq_p rfl rfl ?_
    refine ty_callj 0 (W := ty_Wr) H hJ rfl (fun _ => rfl) rfl rfl rfl (hq_pre_o I.1 (x := 64) (ci := 7) rfl (by decide) rfl rfl rfl rfl) (fun _ _ w => w) (fun _ w => w) (ct_66 (x1 := z2) (by omega)) (fun h6 _ Jh6 P5 => ?_)
    have Ih6 := H.1 h6 Jh6
    subst P5
    refine hq_p rfl rfl ?_
    refine ty_callj 0 (W := ty_Wr) H Jh6 rfl (fun _ => rfl) rfl rfl rfl (hq_pre_o Ih6.1 (x := 62) (ci := 3) rfl (by decide) rfl rfl rfl rfl) (fun _ _ w => w) (fun _ w => w) (ct_38 (by omega)) (fun h8 _ Jh8 P7 => ?_)
    have Ih8 := H.1 h8 Jh8
    subst P7
    refine hq_p rfl rfl ?_
    refine hq_p rfl rfl (ty_ge (n := 3) nk_i3 (fun z9 ez9 => ?_))
    refine ty_ieq rfl (fun c10 => ?_) (fun c10 => ?_)
    · refine hq_p rfl rfl ?_
      refine ty_zne rfl (fun c11 => ?_) (fun c11 => ?_)
      · clear c11
        refine hq_p rfl rfl ?_
        refine hq_p rfl rfl ?_
        refine ty_callj 0 (W := ty_Wr) H Jh8 rfl (fun _ => rfl) rfl rfl rfl (hq_pre_o Ih8.1 (x := 62) (ci := 3) rfl (by decide) rfl rfl rfl rfl) (fun _ _ w => w) (fun _ w => w) (ct_30 (x1 := x1) (by omega) hX (by omega) (by omega)) (fun h13 _ Jh13 P12 => ?_)
        have Ih13 := H.1 h13 Jh13
        obtain ⟨z14, rfl, az14, bz14⟩ := P12
        refine ty_zeq rfl (fun c15 => ?_) (fun c15 => ?_)
        · refine hq_p rfl rfl (ty_ge (n := 0) nk_i0 (fun z16 ez16 => ?_))
          exact ty_rB rfl rfl (by omega) (by omega) ⟨Jh13, _, rfl, by omega, by omega⟩
        · replace c15 : 1 ≤ z14.toInt ∧ z14.toInt ≤ 1 := by omega
          refine hq_p rfl rfl (ty_ge (n := 1) nk_i1 (fun z17 ez17 => ?_))
          refine hq_p rfl rfl ?_
          exact ty_rB rfl rfl (by omega) (by omega) ⟨Jh13, _, rfl, by omega, by omega⟩
      · exfalso; omega
    · clear c10
      refine hq_p rfl rfl ?_
      refine hq_p rfl rfl ?_
      refine ty_callj 0 (W := ty_Wr) H Jh8 rfl (fun _ => rfl) rfl rfl rfl (hq_pre_o Ih8.1 (x := 62) (ci := 3) rfl (by decide) rfl rfl rfl rfl) (fun _ _ w => w) (fun _ w => w) (ct_28 (x1 := x1) (by omega) hX (by omega) (by omega)) (fun h19 _ Jh19 P18 => ?_)
      have Ih19 := H.1 h19 Jh19
      obtain ⟨z20, rfl, az20, bz20⟩ := P18
      refine ty_zne rfl (fun c21 => ?_) (fun c21 => ?_)
      · replace c21 : 1 ≤ z20.toInt ∧ z20.toInt ≤ 1 := by omega
        refine hq_p rfl rfl ?_
        refine ty_zne rfl (fun c22 => ?_) (fun c22 => ?_)
        · replace c22 : 1 ≤ z2.toInt ∧ z2.toInt ≤ 100 := by omega
          refine hq_p rfl rfl ?_
          refine hq_p rfl rfl ?_
          refine ty_callj 0 (W := ty_Wr) H Jh19 rfl (fun _ => rfl) rfl rfl rfl (hq_pre_o Ih19.1 (x := 62) (ci := 3) rfl (by decide) rfl rfl rfl rfl) (fun _ _ w => w) (fun _ w => w) (ct_30 (x1 := x1) (by omega) hX (by omega) (by omega)) (fun h24 _ Jh24 P23 => ?_)
          have Ih24 := H.1 h24 Jh24
          obtain ⟨z25, rfl, az25, bz25⟩ := P23
          refine ty_zeq rfl (fun c26 => ?_) (fun c26 => ?_)
          · refine hq_p rfl rfl (ty_ge (n := 0) nk_i0 (fun z27 ez27 => ?_))
            exact ty_rB rfl rfl (by omega) (by omega) ⟨Jh24, _, rfl, by omega, by omega⟩
          · replace c26 : 1 ≤ z25.toInt ∧ z25.toInt ≤ 1 := by omega
            refine hq_p rfl rfl (ty_ge (n := 1) nk_i1 (fun z28 ez28 => ?_))
            refine hq_p rfl rfl ?_
            exact ty_rB rfl rfl (by omega) (by omega) ⟨Jh24, _, rfl, by omega, by omega⟩
        · refine hq_p rfl rfl ?_
          refine hq_p rfl rfl ?_
          refine ty_callj 0 (W := ty_Wr) H Jh19 rfl (fun _ => rfl) rfl rfl rfl (hq_pre_o Ih19.1 (x := 62) (ci := 3) rfl (by decide) rfl rfl rfl rfl) (fun _ _ w => w) (fun _ w => w) (ct_29 (x1 := x1) (by omega) hX (by omega) (by omega)) (fun h30 _ Jh30 P29 => ?_)
          have Ih30 := H.1 h30 Jh30
          obtain ⟨z31, rfl, az31, bz31⟩ := P29
          refine ty_zeq rfl (fun c32 => ?_) (fun c32 => ?_)
          · refine hq_p rfl rfl (ty_ge (n := 0) nk_i0 (fun z33 ez33 => ?_))
            exact ty_rB rfl rfl (by omega) (by omega) ⟨Jh30, _, rfl, by omega, by omega⟩
          · replace c32 : 1 ≤ z31.toInt ∧ z31.toInt ≤ 1 := by omega
            refine hq_p rfl rfl ?_
            refine hq_p rfl rfl ?_
            refine ty_callj 0 (W := ty_Wr) H Jh30 rfl (fun _ => rfl) rfl rfl rfl (hq_pre_o Ih30.1 (x := 62) (ci := 3) rfl (by decide) rfl rfl rfl rfl) (fun _ _ w => w) (fun _ w => w) (ct_30 (x1 := x1) (by omega) hX (by omega) (by omega)) (fun h35 _ Jh35 P34 => ?_)
            have Ih35 := H.1 h35 Jh35
            obtain ⟨z36, rfl, az36, bz36⟩ := P34
            refine ty_zeq rfl (fun c37 => ?_) (fun c37 => ?_)
            · refine hq_p rfl rfl (ty_ge (n := 0) nk_i0 (fun z38 ez38 => ?_))
              exact ty_rB rfl rfl (by omega) (by omega) ⟨Jh35, _, rfl, by omega, by omega⟩
            · replace c37 : 1 ≤ z36.toInt ∧ z36.toInt ≤ 1 := by omega
              refine hq_p rfl rfl (ty_ge (n := 1) nk_i1 (fun z39 ez39 => ?_))
              refine hq_p rfl rfl ?_
              exact ty_rB rfl rfl (by omega) (by omega) ⟨Jh35, _, rfl, by omega, by omega⟩
      · refine hq_p rfl rfl (ty_ge (n := 0) nk_i0 (fun z40 ez40 => ?_))
        exact ty_rB rfl rfl (by omega) (by omega) ⟨Jh19, _, rfl, by omega, by omega⟩
  · refine hq_p rfl rfl (ty_ge (n := 0) nk_i0 (fun z41 ez41 => ?_))
    exact ty_rB rfl rfl (by omega) (by omega) ⟨hJ, _, rfl, by omega, by omega⟩
theorem ct_62b {X : pm_X} {d : Nat} {h : pm_H}  (hd : 1 ≤ d)  : ty_M X ty_Wr0 d 62 [.ref 64] h ty_pv := by
  intro J H hJ
  obtain ⟨d, rfl⟩ : ∃ e, d = e + 1 := ⟨d - 1, by omega⟩
  have I := H.1 h hJ
  refine hq_M.enter (q := (⟨"TrainBearers$Text", "clear", "()V"⟩, _, 1, none, 7, 1, pm_c62)) rfl rfl ?_
  show hq_W X d 7 false (none) pm_c62 (0, [some (.ref 64)], [], h) (fun h' v => J h' ∧ ty_pv h' v)
  refine hq_p rfl rfl ?_
  refine hq_p rfl rfl (ty_ge (n := 0) nk_i0 (fun z1 ez1 => ?_))
  refine ty_pI (W := ty_Wr0) H hJ rfl rfl (by decide) rfl rfl (by unfold ty_Wr0; omega) rfl (by omega) (by omega) (fun h2 eh2 Jh2 => ?_)
  have wh2 : (hs_fI h2 64 0).toInt = z1.toInt := by rw [eh2]; exact congrArg Int32.toInt (ty_fI_eq I.1 rfl (by decide) rfl)
  have Ih2 := H.1 h2 Jh2
  refine hq_p rfl rfl ?_
  refine hq_p rfl rfl (ty_ge (n := 0) nk_i0 (fun z3 ez3 => ?_))
  refine ty_pI (W := ty_Wr0) H Jh2 rfl rfl (by decide) rfl rfl (by unfold ty_Wr0; omega) rfl (by omega) (by omega) (fun h4 eh4 Jh4 => ?_)
  have wh4 : (hs_fI h4 64 6).toInt = z3.toInt := by rw [eh4]; exact congrArg Int32.toInt (ty_fI_eq Ih2.1 rfl (by decide) rfl)
  have Ih4 := H.1 h4 Jh4
  refine hq_p rfl rfl ?_
  refine hq_p rfl rfl (ty_ge (n := 0) nk_i0 (fun z5 ez5 => ?_))
  refine ty_pI (W := ty_Wr0) H Jh4 rfl rfl (by decide) rfl rfl (by unfold ty_Wr0; omega) rfl (by omega) (by omega) (fun h6 eh6 Jh6 => ?_)
  have wh6 : (hs_fI h6 64 9).toInt = z5.toInt := by rw [eh6]; exact congrArg Int32.toInt (ty_fI_eq Ih4.1 rfl (by decide) rfl)
  have Ih6 := H.1 h6 Jh6
  exact hq_W.ret rfl rfl rfl ⟨Jh6, rfl⟩
set_option maxHeartbeats 20000000 in
theorem ct_25 {X : pm_X} {d : Nat} {h : pm_H} {x1 : Int32} (hd : 103 ≤ d) (hX : ty_SX X) (ax1 : 0 ≤ x1.toInt) (bx1 : x1.toInt ≤ 1) : ty_M X ty_Wr0 d 25 [.ref 62, .int x1] h (ty_pi 0 1) := by
  intro J H hJ
  obtain ⟨d, rfl⟩ : ∃ e, d = e + 1 := ⟨d - 1, by omega⟩
  have I := H.1 h hJ
  refine hq_M.enter (q := (⟨"TrainBearers$Reader", "readText", "(Z)Z"⟩, _, 5, some .boolean, 3, 2, pm_c25)) rfl rfl ?_
  show hq_W X d 3 false (some .boolean) pm_c25 (0, [some (.ref 62), some (.int x1), none, none, none], [], h) (fun h' v => J h' ∧ (ty_pi 0 1) h' v)
  refine hq_p rfl rfl ?_
  refine hq_gR I.1 rfl rfl (by decide) (by decide) rfl ?_
  refine ty_callj 0 (W := ty_Wr0) H hJ rfl (fun _ => rfl) rfl rfl rfl (hq_pre_o I.1 (x := 64) (ci := 7) rfl (by decide) rfl rfl rfl rfl) (fun _ _ w => w) (fun _ w => w) (ct_62b (by omega)) (fun h2 _ Jh2 P1 => ?_)
  have Ih2 := H.1 h2 Jh2
  subst P1
  refine hq_p rfl rfl ?_
  refine hq_p rfl rfl ?_
  refine ty_pB (W := ty_Wr0) H Jh2 rfl rfl (by decide) rfl rfl rfl (by unfold ty_Wr0; omega) rfl (by omega) (by omega) (fun h3 eh3 Jh3 => ?_)
  have wh3 : (hs_fI h3 62 6).toInt = x1.toInt := by rw [eh3]; exact congrArg Int32.toInt (ty_fI_eq Ih2.1 rfl (by decide) rfl)
  have Ih3 := H.1 h3 Jh3
  refine hq_p rfl rfl ?_
  refine hq_p rfl rfl (ty_ge (n := 0) nk_i0 (fun z4 ez4 => ?_))
  refine ty_pI (W := ty_Wr0) H Jh3 rfl rfl (by decide) rfl rfl (by unfold ty_Wr0; omega) rfl (by omega) (by omega) (fun h5 eh5 Jh5 => ?_)
  have wh5 : (hs_fI h5 62 5).toInt = z4.toInt := by rw [eh5]; exact congrArg Int32.toInt (ty_fI_eq Ih3.1 rfl (by decide) rfl)
  have Ih5 := H.1 h5 Jh5
  refine hq_p rfl rfl ?_
  refine hq_p rfl rfl (ty_ge (n := 0) nk_i0 (fun z6 ez6 => ?_))
  refine ty_pI (W := ty_Wr0) H Jh5 rfl rfl (by decide) rfl rfl (by unfold ty_Wr0; omega) rfl (by omega) (by omega) (fun h7 eh7 Jh7 => ?_)
  have wh7 : (hs_fI h7 62 4).toInt = z6.toInt := by rw [eh7]; exact congrArg Int32.toInt (ty_fI_eq Ih5.1 rfl (by decide) rfl)
  have Ih7 := H.1 h7 Jh7
  obtain ⟨J1, eJ⟩ : ∃ J1 : pm_H → Prop, J1 = fun h' => J h' ∧ ty_dg h' (hs_fI h' 62 3).toInt (hs_fI h' 62 4).toInt := ⟨_, rfl⟩
  have H1 : ty_C ty_Wr J1 := by rw [eJ]; exact H.tok
  have hJ1 : J1 h7 := by rw [eJ]; exact ⟨Jh7, fun _ _ i a b => by have f3 := (Ih7.2.1 62 3 (by decide)).1; have f3 : 0 ≤ (hs_fI h7 62 3).toInt := f3; exfalso; omega⟩
  have H := H1
  refine hq_p rfl rfl ?_
  refine ty_callj 0 (W := ty_Wr) H hJ1 rfl (fun _ => rfl) rfl rfl rfl (hq_pre_o Ih7.1 (x := 62) (ci := 3) rfl (by decide) rfl rfl rfl rfl) (fun _ _ w => w) (fun _ w => w) (ct_38 (by omega)) (fun h9 _ Jh9 P8 => ?_)
  have Ih9 := H.1 h9 Jh9
  subst P8
  refine hq_p rfl rfl (ty_ge (n := 1) nk_i1 (fun z10 ez10 => ?_))
  refine hq_p (ls' := [some (.ref 62), some (.int x1), some (.int z10), none, none]) rfl rfl ?_
  refine hq_p rfl rfl (ty_ge (n := 0) nk_i0 (fun z11 ez11 => ?_))
  refine hq_p (ls' := [some (.ref 62), some (.int x1), some (.int z10), some (.int z11), none]) rfl rfl ?_
  refine hq_p rfl rfl (ty_ge (n := 0) nk_i0 (fun z12 ez12 => ?_))
  refine hq_p (ls' := [some (.ref 62), some (.int x1), some (.int z10), some (.int z11), some (.int z12)]) rfl rfl ?_
  have L33_n69 : ∀ n69 : Nat, ∀ (y61 : Int32) (y62 : Int32) (y63 : Int32) (h64 : pm_H), (12 - y63.toInt).toNat = n69 → 0 ≤ y61.toInt → y61.toInt ≤ 1 → 0 ≤ y62.toInt → y62.toInt ≤ 1 → 0 ≤ y63.toInt → y63.toInt ≤ 12 → J1 h64 → hq_W X d 3 false (some .boolean) pm_c25 (33, [some (.ref 62), some (.int x1), some (.int y61), some (.int y62), some (.int y63)], [], h64) (fun h' v => J h' ∧ (ty_pi 0 1) h' v) := by
    intro n69
    induction n69 using Nat.strongRecOn with
    | ind n69 ihn69 =>
      intro y61 y62 y63 h64 mn69 ay61 by61 ay62 by62 ay63 by63 Jh64
      have Ih64 := H.1 h64 Jh64
      refine hq_p rfl rfl ?_
      refine hq_p rfl rfl (ty_ge (n := 12) nk_b12 (fun z70 ez70 => ?_))
      refine ty_ige rfl (fun c71 => ?_) (fun c71 => ?_)
      · refine hq_p rfl rfl ?_
        refine hq_p rfl rfl ?_
        refine ty_zeq rfl (fun c72 => ?_) (fun c72 => ?_)
        · refine hq_p rfl rfl ?_
          refine ty_gI Ih64 rfl rfl (by decide) (by decide) rfl rfl (fun z73 ez73 az73 bz73 => ?_)
          refine ty_pI (W := ty_Wr) H Jh64 rfl rfl (by decide) rfl rfl (by unfold ty_Wr; omega) rfl (by omega) (by omega) (fun h74 eh74 Jh74 => ?_)
          have wh74 : (hs_fI h74 62 2).toInt = z73.toInt := by rw [eh74]; exact congrArg Int32.toInt (ty_fI_eq Ih64.1 rfl (by decide) rfl)
          have Ih74 := H.1 h74 Jh74
          refine hq_p rfl rfl ?_
          exact ty_rB rfl rfl (by omega) (by omega) ⟨(by have q := Jh74; rw [eJ] at q; exact q.1), _, rfl, by omega, by omega⟩
        · replace c72 : 1 ≤ y62.toInt ∧ y62.toInt ≤ 1 := by omega
          refine hq_p rfl rfl (ty_ge (n := -1) nk_im1 (fun z75 ez75 => ?_))
          refine hq_p rfl rfl ?_
          refine ty_pI (W := ty_Wr) H Jh64 rfl rfl (by decide) rfl rfl (by unfold ty_Wr; omega) rfl (by omega) (by omega) (fun h76 eh76 Jh76 => ?_)
          have wh76 : (hs_fI h76 62 2).toInt = z75.toInt := by rw [eh76]; exact congrArg Int32.toInt (ty_fI_eq Ih64.1 rfl (by decide) rfl)
          have Ih76 := H.1 h76 Jh76
          refine hq_p rfl rfl ?_
          exact ty_rB rfl rfl (by omega) (by omega) ⟨(by have q := Jh76; rw [eJ] at q; exact q.1), _, rfl, by omega, by omega⟩
      · refine hq_p rfl rfl ?_
        refine ty_zeq rfl (fun c77 => ?_) (fun c77 => ?_)
        · refine hq_p rfl rfl ?_
          refine hq_p rfl rfl ?_
          refine ty_zeq rfl (fun c78 => ?_) (fun c78 => ?_)
          · refine hq_p rfl rfl ?_
            refine ty_gI Ih64 rfl rfl (by decide) (by decide) rfl rfl (fun z79 ez79 az79 bz79 => ?_)
            refine ty_pI (W := ty_Wr) H Jh64 rfl rfl (by decide) rfl rfl (by unfold ty_Wr; omega) rfl (by omega) (by omega) (fun h80 eh80 Jh80 => ?_)
            have wh80 : (hs_fI h80 62 2).toInt = z79.toInt := by rw [eh80]; exact congrArg Int32.toInt (ty_fI_eq Ih64.1 rfl (by decide) rfl)
            have Ih80 := H.1 h80 Jh80
            refine hq_p rfl rfl ?_
            exact ty_rB rfl rfl (by omega) (by omega) ⟨(by have q := Jh80; rw [eJ] at q; exact q.1), _, rfl, by omega, by omega⟩
          · replace c78 : 1 ≤ y62.toInt ∧ y62.toInt ≤ 1 := by omega
            refine hq_p rfl rfl (ty_ge (n := -1) nk_im1 (fun z81 ez81 => ?_))
            refine hq_p rfl rfl ?_
            refine ty_pI (W := ty_Wr) H Jh64 rfl rfl (by decide) rfl rfl (by unfold ty_Wr; omega) rfl (by omega) (by omega) (fun h82 eh82 Jh82 => ?_)
            have wh82 : (hs_fI h82 62 2).toInt = z81.toInt := by rw [eh82]; exact congrArg Int32.toInt (ty_fI_eq Ih64.1 rfl (by decide) rfl)
            have Ih82 := H.1 h82 Jh82
            refine hq_p rfl rfl ?_
            exact ty_rB rfl rfl (by omega) (by omega) ⟨(by have q := Jh82; rw [eJ] at q; exact q.1), _, rfl, by omega, by omega⟩
        · replace c77 : 1 ≤ y61.toInt ∧ y61.toInt ≤ 1 := by omega
          refine hq_p rfl rfl ?_
          refine ty_zne rfl (fun c83 => ?_) (fun c83 => ?_)
          · replace c83 : 1 ≤ y62.toInt ∧ y62.toInt ≤ 1 := by omega
            refine hq_p rfl rfl ?_
            refine hq_p rfl rfl ?_
            refine ty_zeq rfl (fun c84 => ?_) (fun c84 => ?_)
            · exfalso; omega
            · clear c84
              refine hq_p rfl rfl (ty_ge (n := -1) nk_im1 (fun z85 ez85 => ?_))
              refine hq_p rfl rfl ?_
              refine ty_pI (W := ty_Wr) H Jh64 rfl rfl (by decide) rfl rfl (by unfold ty_Wr; omega) rfl (by omega) (by omega) (fun h86 eh86 Jh86 => ?_)
              have wh86 : (hs_fI h86 62 2).toInt = z85.toInt := by rw [eh86]; exact congrArg Int32.toInt (ty_fI_eq Ih64.1 rfl (by decide) rfl)
              have Ih86 := H.1 h86 Jh86
              refine hq_p rfl rfl ?_
              exact ty_rB rfl rfl (by omega) (by omega) ⟨(by have q := Jh86; rw [eJ] at q; exact q.1), _, rfl, by omega, by omega⟩
          · refine hq_p rfl rfl ?_
            refine ty_gB Ih64 rfl rfl (by decide) (by decide) rfl (fun z87 ez87 az87 bz87 => ?_)
            refine ty_zeq rfl (fun c88 => ?_) (fun c88 => ?_)
            · refine hq_p rfl rfl ?_
              refine hq_p rfl rfl ?_
              refine ty_callj 0 (W := ty_Wr) H Jh64 rfl (fun _ => rfl) rfl rfl rfl (hq_pre_o Ih64.1 (x := 62) (ci := 3) rfl (by decide) rfl rfl rfl rfl) (fun _ _ w => w) (fun _ w => w) (ct_27 (x1 := y63) (by omega) hX (by omega) (by omega)) (fun h90 _ Jh90 P89 => ?_)
              have Ih90 := H.1 h90 Jh90
              obtain ⟨z91, rfl, az91, bz91⟩ := P89
              refine ty_zeq rfl (fun c92 => ?_) (fun c92 => ?_)
              · refine hq_p rfl rfl (ty_ge (n := 0) nk_i0 (fun z93 ez93 => ?_))
                refine hq_p (ls' := [some (.ref 62), some (.int x1), some (.int z93), some (.int y62), some (.int y63)]) rfl rfl ?_
                refine hq_p rfl rfl ?_
                refine ty_zeq rfl (fun c94 => ?_) (fun c94 => ?_)
                · refine hq_p rfl rfl (ty_ge (n := 0) nk_i0 (fun z95 ez95 => ?_))
                  refine hq_p (ls' := [some (.ref 62), some (.int x1), some (.int z93), some (.int z95), some (.int y63)]) rfl rfl ?_
                  refine hq_p rfl rfl ?_
                  refine ty_zeq rfl (fun c96 => ?_) (fun c96 => ?_)
                  · refine hq_p rfl rfl (ty_ge (n := 0) nk_i0 (fun z97 ez97 => ?_))
                    refine hq_p (ls' := [some (.ref 62), some (.int x1), some (.int z97), some (.int z95), some (.int y63)]) rfl rfl ?_
                    refine ty_inc (ls' := fun z98 => [some (.ref 62), some (.int x1), some (.int z97), some (.int z95), some (.int z98)]) rfl rfl (fun _ => rfl) (nm_addc nk_i1 (by omega) (by omega)) (fun z98 ez98 => ?_)
                    refine hq_p rfl rfl ?_
                    exact ihn69 ((12 - z98.toInt).toNat) (by omega) z97 z95 z98 h90 rfl (by omega) (by omega) (by omega) (by omega) (by omega) (by omega) Jh90
                  · exfalso; omega
                · exfalso; omega
              · replace c92 : 1 ≤ z91.toInt ∧ z91.toInt ≤ 1 := by omega
                refine hq_p rfl rfl ?_
                refine hq_p rfl rfl ?_
                refine ty_callj 0 (W := ty_Wr) H Jh90 rfl (fun _ => rfl) rfl rfl rfl (hq_pre_o Ih90.1 (x := 62) (ci := 3) rfl (by decide) rfl rfl rfl rfl) (fun _ _ w => w) (fun _ w => w) (ct_31 (x1 := y63) (by omega) hX (by omega) (by omega)) (fun h100 _ Jh100 P99 => ?_)
                have Ih100 := H.1 h100 Jh100
                obtain ⟨z101, rfl, az101, bz101⟩ := P99
                refine ty_zeq rfl (fun c102 => ?_) (fun c102 => ?_)
                · refine hq_p rfl rfl (ty_ge (n := 0) nk_i0 (fun z103 ez103 => ?_))
                  refine hq_p (ls' := [some (.ref 62), some (.int x1), some (.int z103), some (.int y62), some (.int y63)]) rfl rfl ?_
                  refine hq_p rfl rfl ?_
                  refine ty_zeq rfl (fun c104 => ?_) (fun c104 => ?_)
                  · refine hq_p rfl rfl (ty_ge (n := 0) nk_i0 (fun z105 ez105 => ?_))
                    refine hq_p (ls' := [some (.ref 62), some (.int x1), some (.int z103), some (.int z105), some (.int y63)]) rfl rfl ?_
                    refine hq_p rfl rfl ?_
                    refine ty_zeq rfl (fun c106 => ?_) (fun c106 => ?_)
                    · refine hq_p rfl rfl (ty_ge (n := 0) nk_i0 (fun z107 ez107 => ?_))
                      refine hq_p (ls' := [some (.ref 62), some (.int x1), some (.int z107), some (.int z105), some (.int y63)]) rfl rfl ?_
                      refine ty_inc (ls' := fun z108 => [some (.ref 62), some (.int x1), some (.int z107), some (.int z105), some (.int z108)]) rfl rfl (fun _ => rfl) (nm_addc nk_i1 (by omega) (by omega)) (fun z108 ez108 => ?_)
                      refine hq_p rfl rfl ?_
                      exact ihn69 ((12 - z108.toInt).toNat) (by omega) z107 z105 z108 h100 rfl (by omega) (by omega) (by omega) (by omega) (by omega) (by omega) Jh100
                    · exfalso; omega
                  · exfalso; omega
                · replace c102 : 1 ≤ z101.toInt ∧ z101.toInt ≤ 1 := by omega
                  refine hq_p rfl rfl (ty_ge (n := 1) nk_i1 (fun z109 ez109 => ?_))
                  refine hq_p rfl rfl ?_
                  refine hq_p (ls' := [some (.ref 62), some (.int x1), some (.int z109), some (.int y62), some (.int y63)]) rfl rfl ?_
                  refine hq_p rfl rfl ?_
                  refine ty_zeq rfl (fun c110 => ?_) (fun c110 => ?_)
                  · exfalso; omega
                  · clear c110
                    refine hq_p rfl rfl ?_
                    refine ty_gI Ih100 rfl rfl (by decide) (by decide) rfl rfl (fun z111 ez111 az111 bz111 => ?_)
                    refine hq_p rfl rfl ?_
                    refine ty_gI Ih100 rfl rfl (by decide) (by decide) rfl rfl (fun z112 ez112 az112 bz112 => ?_)
                    refine ty_ilt rfl (fun c113 => ?_) (fun c113 => ?_)
                    · refine hq_p rfl rfl (ty_ge (n := 0) nk_i0 (fun z114 ez114 => ?_))
                      refine hq_p (ls' := [some (.ref 62), some (.int x1), some (.int z109), some (.int z114), some (.int y63)]) rfl rfl ?_
                      refine hq_p rfl rfl ?_
                      refine ty_zeq rfl (fun c115 => ?_) (fun c115 => ?_)
                      · exfalso; omega
                      · clear c115
                        refine hq_p rfl rfl ?_
                        refine ty_zne rfl (fun c116 => ?_) (fun c116 => ?_)
                        · exfalso; omega
                        · refine hq_p rfl rfl ?_
                          refine hq_p rfl rfl ?_
                          refine ty_callj 0 (W := ty_Wr) H Jh100 rfl (fun _ => rfl) rfl rfl rfl (hq_pre_o Ih100.1 (x := 62) (ci := 3) rfl (by decide) rfl rfl rfl rfl) (fun _ _ w => w) (fun _ w => w) (ct_39 (k1 := 22) (by omega) hX (by decide)) (fun h118 _ Jh118 P117 => ?_)
                          have Ih118 := H.1 h118 Jh118
                          obtain ⟨z119, rfl, az119, bz119⟩ := P117
                          refine ty_zeq rfl (fun c120 => ?_) (fun c120 => ?_)
                          · refine hq_p rfl rfl (ty_ge (n := 0) nk_i0 (fun z121 ez121 => ?_))
                            refine hq_p (ls' := [some (.ref 62), some (.int x1), some (.int z121), some (.int z114), some (.int y63)]) rfl rfl ?_
                            refine ty_inc (ls' := fun z122 => [some (.ref 62), some (.int x1), some (.int z121), some (.int z114), some (.int z122)]) rfl rfl (fun _ => rfl) (nm_addc nk_i1 (by omega) (by omega)) (fun z122 ez122 => ?_)
                            refine hq_p rfl rfl ?_
                            exact ihn69 ((12 - z122.toInt).toNat) (by omega) z121 z114 z122 h118 rfl (by omega) (by omega) (by omega) (by omega) (by omega) (by omega) Jh118
                          · replace c120 : 1 ≤ z119.toInt ∧ z119.toInt ≤ 1 := by omega
                            refine hq_p rfl rfl (ty_ge (n := 1) nk_i1 (fun z123 ez123 => ?_))
                            refine hq_p rfl rfl ?_
                            refine hq_p (ls' := [some (.ref 62), some (.int x1), some (.int z123), some (.int z114), some (.int y63)]) rfl rfl ?_
                            refine ty_inc (ls' := fun z124 => [some (.ref 62), some (.int x1), some (.int z123), some (.int z114), some (.int z124)]) rfl rfl (fun _ => rfl) (nm_addc nk_i1 (by omega) (by omega)) (fun z124 ez124 => ?_)
                            refine hq_p rfl rfl ?_
                            exact ihn69 ((12 - z124.toInt).toNat) (by omega) z123 z114 z124 h118 rfl (by omega) (by omega) (by omega) (by omega) (by omega) (by omega) Jh118
                    · refine hq_p rfl rfl (ty_ge (n := 1) nk_i1 (fun z125 ez125 => ?_))
                      refine hq_p rfl rfl ?_
                      refine hq_p (ls' := [some (.ref 62), some (.int x1), some (.int z109), some (.int z125), some (.int y63)]) rfl rfl ?_
                      refine hq_p rfl rfl ?_
                      refine ty_zeq rfl (fun c126 => ?_) (fun c126 => ?_)
                      · exfalso; omega
                      · clear c126
                        refine hq_p rfl rfl ?_
                        refine ty_zne rfl (fun c127 => ?_) (fun c127 => ?_)
                        · clear c127
                          refine hq_p rfl rfl (ty_ge (n := 1) nk_i1 (fun z128 ez128 => ?_))
                          refine hq_p rfl rfl ?_
                          refine hq_p (ls' := [some (.ref 62), some (.int x1), some (.int z128), some (.int z125), some (.int y63)]) rfl rfl ?_
                          refine ty_inc (ls' := fun z129 => [some (.ref 62), some (.int x1), some (.int z128), some (.int z125), some (.int z129)]) rfl rfl (fun _ => rfl) (nm_addc nk_i1 (by omega) (by omega)) (fun z129 ez129 => ?_)
                          refine hq_p rfl rfl ?_
                          exact ihn69 ((12 - z129.toInt).toNat) (by omega) z128 z125 z129 h100 rfl (by omega) (by omega) (by omega) (by omega) (by omega) (by omega) Jh100
                        · exfalso; omega
            · replace c88 : 1 ≤ z87.toInt ∧ z87.toInt ≤ 1 := by omega
              refine hq_p rfl rfl ?_
              refine hq_p rfl rfl ?_
              refine ty_callj 0 (W := ty_Wr) H Jh64 rfl (fun _ => rfl) rfl rfl rfl (hq_pre_o Ih64.1 (x := 62) (ci := 3) rfl (by decide) rfl rfl rfl rfl) (fun _ _ w => w) (fun _ w => w) (ct_26 (x1 := y63) (by omega) hX (by omega) (by omega)) (fun h131 _ Jh131 P130 => ?_)
              have Ih131 := H.1 h131 Jh131
              obtain ⟨z132, rfl, az132, bz132⟩ := P130
              refine ty_zeq rfl (fun c133 => ?_) (fun c133 => ?_)
              · refine hq_p rfl rfl (ty_ge (n := 0) nk_i0 (fun z134 ez134 => ?_))
                refine hq_p (ls' := [some (.ref 62), some (.int x1), some (.int z134), some (.int y62), some (.int y63)]) rfl rfl ?_
                refine hq_p rfl rfl ?_
                refine ty_zeq rfl (fun c135 => ?_) (fun c135 => ?_)
                · refine hq_p rfl rfl (ty_ge (n := 0) nk_i0 (fun z136 ez136 => ?_))
                  refine hq_p (ls' := [some (.ref 62), some (.int x1), some (.int z134), some (.int z136), some (.int y63)]) rfl rfl ?_
                  refine hq_p rfl rfl ?_
                  refine ty_zeq rfl (fun c137 => ?_) (fun c137 => ?_)
                  · refine hq_p rfl rfl (ty_ge (n := 0) nk_i0 (fun z138 ez138 => ?_))
                    refine hq_p (ls' := [some (.ref 62), some (.int x1), some (.int z138), some (.int z136), some (.int y63)]) rfl rfl ?_
                    refine ty_inc (ls' := fun z139 => [some (.ref 62), some (.int x1), some (.int z138), some (.int z136), some (.int z139)]) rfl rfl (fun _ => rfl) (nm_addc nk_i1 (by omega) (by omega)) (fun z139 ez139 => ?_)
                    refine hq_p rfl rfl ?_
                    exact ihn69 ((12 - z139.toInt).toNat) (by omega) z138 z136 z139 h131 rfl (by omega) (by omega) (by omega) (by omega) (by omega) (by omega) Jh131
                  · exfalso; omega
                · exfalso; omega
              · replace c133 : 1 ≤ z132.toInt ∧ z132.toInt ≤ 1 := by omega
                refine hq_p rfl rfl ?_
                refine hq_p rfl rfl ?_
                refine hq_p rfl rfl ?_
                refine ty_callj 0 (W := ty_Wr) H Jh131 rfl (fun _ => rfl) rfl rfl rfl (hq_pre_o Ih131.1 (x := 62) (ci := 3) rfl (by decide) rfl rfl rfl rfl) (fun _ _ w => w) (fun _ w => w) (ct_31 (x1 := y63) (by omega) hX (by omega) (by omega)) (fun h141 _ Jh141 P140 => ?_)
                have Ih141 := H.1 h141 Jh141
                obtain ⟨z142, rfl, az142, bz142⟩ := P140
                refine ty_zeq rfl (fun c143 => ?_) (fun c143 => ?_)
                · refine hq_p rfl rfl (ty_ge (n := 0) nk_i0 (fun z144 ez144 => ?_))
                  refine hq_p (ls' := [some (.ref 62), some (.int x1), some (.int z144), some (.int y62), some (.int y63)]) rfl rfl ?_
                  refine hq_p rfl rfl ?_
                  refine ty_zeq rfl (fun c145 => ?_) (fun c145 => ?_)
                  · refine hq_p rfl rfl (ty_ge (n := 0) nk_i0 (fun z146 ez146 => ?_))
                    refine hq_p (ls' := [some (.ref 62), some (.int x1), some (.int z144), some (.int z146), some (.int y63)]) rfl rfl ?_
                    refine hq_p rfl rfl ?_
                    refine ty_zeq rfl (fun c147 => ?_) (fun c147 => ?_)
                    · refine hq_p rfl rfl (ty_ge (n := 0) nk_i0 (fun z148 ez148 => ?_))
                      refine hq_p (ls' := [some (.ref 62), some (.int x1), some (.int z148), some (.int z146), some (.int y63)]) rfl rfl ?_
                      refine ty_inc (ls' := fun z149 => [some (.ref 62), some (.int x1), some (.int z148), some (.int z146), some (.int z149)]) rfl rfl (fun _ => rfl) (nm_addc nk_i1 (by omega) (by omega)) (fun z149 ez149 => ?_)
                      refine hq_p rfl rfl ?_
                      exact ihn69 ((12 - z149.toInt).toNat) (by omega) z148 z146 z149 h141 rfl (by omega) (by omega) (by omega) (by omega) (by omega) (by omega) Jh141
                    · exfalso; omega
                  · exfalso; omega
                · replace c143 : 1 ≤ z142.toInt ∧ z142.toInt ≤ 1 := by omega
                  refine hq_p rfl rfl (ty_ge (n := 1) nk_i1 (fun z150 ez150 => ?_))
                  refine hq_p rfl rfl ?_
                  refine hq_p (ls' := [some (.ref 62), some (.int x1), some (.int z150), some (.int y62), some (.int y63)]) rfl rfl ?_
                  refine hq_p rfl rfl ?_
                  refine ty_zeq rfl (fun c151 => ?_) (fun c151 => ?_)
                  · exfalso; omega
                  · clear c151
                    refine hq_p rfl rfl ?_
                    refine ty_gI Ih141 rfl rfl (by decide) (by decide) rfl rfl (fun z152 ez152 az152 bz152 => ?_)
                    refine hq_p rfl rfl ?_
                    refine ty_gI Ih141 rfl rfl (by decide) (by decide) rfl rfl (fun z153 ez153 az153 bz153 => ?_)
                    refine ty_ilt rfl (fun c154 => ?_) (fun c154 => ?_)
                    · refine hq_p rfl rfl (ty_ge (n := 0) nk_i0 (fun z155 ez155 => ?_))
                      refine hq_p (ls' := [some (.ref 62), some (.int x1), some (.int z150), some (.int z155), some (.int y63)]) rfl rfl ?_
                      refine hq_p rfl rfl ?_
                      refine ty_zeq rfl (fun c156 => ?_) (fun c156 => ?_)
                      · exfalso; omega
                      · clear c156
                        refine hq_p rfl rfl ?_
                        refine ty_zne rfl (fun c157 => ?_) (fun c157 => ?_)
                        · exfalso; omega
                        · refine hq_p rfl rfl ?_
                          refine hq_p rfl rfl ?_
                          refine ty_callj 0 (W := ty_Wr) H Jh141 rfl (fun _ => rfl) rfl rfl rfl (hq_pre_o Ih141.1 (x := 62) (ci := 3) rfl (by decide) rfl rfl rfl rfl) (fun _ _ w => w) (fun _ w => w) (ct_39 (k1 := 22) (by omega) hX (by decide)) (fun h159 _ Jh159 P158 => ?_)
                          have Ih159 := H.1 h159 Jh159
                          obtain ⟨z160, rfl, az160, bz160⟩ := P158
                          refine ty_zeq rfl (fun c161 => ?_) (fun c161 => ?_)
                          · refine hq_p rfl rfl (ty_ge (n := 0) nk_i0 (fun z162 ez162 => ?_))
                            refine hq_p (ls' := [some (.ref 62), some (.int x1), some (.int z162), some (.int z155), some (.int y63)]) rfl rfl ?_
                            refine ty_inc (ls' := fun z163 => [some (.ref 62), some (.int x1), some (.int z162), some (.int z155), some (.int z163)]) rfl rfl (fun _ => rfl) (nm_addc nk_i1 (by omega) (by omega)) (fun z163 ez163 => ?_)
                            refine hq_p rfl rfl ?_
                            exact ihn69 ((12 - z163.toInt).toNat) (by omega) z162 z155 z163 h159 rfl (by omega) (by omega) (by omega) (by omega) (by omega) (by omega) Jh159
                          · replace c161 : 1 ≤ z160.toInt ∧ z160.toInt ≤ 1 := by omega
                            refine hq_p rfl rfl (ty_ge (n := 1) nk_i1 (fun z164 ez164 => ?_))
                            refine hq_p rfl rfl ?_
                            refine hq_p (ls' := [some (.ref 62), some (.int x1), some (.int z164), some (.int z155), some (.int y63)]) rfl rfl ?_
                            refine ty_inc (ls' := fun z165 => [some (.ref 62), some (.int x1), some (.int z164), some (.int z155), some (.int z165)]) rfl rfl (fun _ => rfl) (nm_addc nk_i1 (by omega) (by omega)) (fun z165 ez165 => ?_)
                            refine hq_p rfl rfl ?_
                            exact ihn69 ((12 - z165.toInt).toNat) (by omega) z164 z155 z165 h159 rfl (by omega) (by omega) (by omega) (by omega) (by omega) (by omega) Jh159
                    · refine hq_p rfl rfl (ty_ge (n := 1) nk_i1 (fun z166 ez166 => ?_))
                      refine hq_p rfl rfl ?_
                      refine hq_p (ls' := [some (.ref 62), some (.int x1), some (.int z150), some (.int z166), some (.int y63)]) rfl rfl ?_
                      refine hq_p rfl rfl ?_
                      refine ty_zeq rfl (fun c167 => ?_) (fun c167 => ?_)
                      · exfalso; omega
                      · clear c167
                        refine hq_p rfl rfl ?_
                        refine ty_zne rfl (fun c168 => ?_) (fun c168 => ?_)
                        · clear c168
                          refine hq_p rfl rfl (ty_ge (n := 1) nk_i1 (fun z169 ez169 => ?_))
                          refine hq_p rfl rfl ?_
                          refine hq_p (ls' := [some (.ref 62), some (.int x1), some (.int z169), some (.int z166), some (.int y63)]) rfl rfl ?_
                          refine ty_inc (ls' := fun z170 => [some (.ref 62), some (.int x1), some (.int z169), some (.int z166), some (.int z170)]) rfl rfl (fun _ => rfl) (nm_addc nk_i1 (by omega) (by omega)) (fun z170 ez170 => ?_)
                          refine hq_p rfl rfl ?_
                          exact ihn69 ((12 - z170.toInt).toNat) (by omega) z169 z166 z170 h141 rfl (by omega) (by omega) (by omega) (by omega) (by omega) (by omega) Jh141
                        · exfalso; omega
  exact L33_n69 _ z10 z11 z12 h9 rfl (by omega) (by omega) (by omega) (by omega) (by omega) (by omega) Jh9
end CT19
