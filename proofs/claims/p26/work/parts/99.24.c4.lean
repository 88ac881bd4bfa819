/-! THE CLASS'S READER: code, signs -/
section XFD
theorem xf_63 {X : pm_X} {N d : Nat} {h : pm_H} {x1 : Int32} {x2 : Int32} {k : pd_K} (S : hs_Shape h) (K : xk h k) (hn : k.1 < 400) : xq_M X N d 63 [.ref 64, .int x1, .int x2] h (fun h1 v => hs_Shape h1 ∧ pg (fun a => a = 64 ∨ a = 70 ∨ a = 71) h h1 ∧ xo 64 (fun k => k = 6) h h1 ∧ (v = none ∧ (xk h1 (pd_e k x1.toInt x2.toInt)))) := by
  have sz := S.1
  have ax1 := nm_lo x1
  have bx1 := nm_hi x1
  have ax2 := nm_lo x2
  have bx2 := nm_hi x2
  obtain ⟨kn, k1, k2⟩ := K
  refine xq_M.enter (q := (⟨"TrainBearers$Text", "emit", "(II)V"⟩, _, 3, none, 7, 3, pm_c63)) rfl (fun d => ?_)
  show xq_W X (pm_rn X N d) 7 false (none) pm_c63 N (0, [some (.ref 64), some (.int x1), some (.int x2)], [], h) (fun h1 v => hs_Shape h1 ∧ pg (fun a => a = 64 ∨ a = 70 ∨ a = 71) h h1 ∧ xo 64 (fun k => k = 6) h h1 ∧ (v = none ∧ (xk h1 (pd_e k x1.toInt x2.toInt))))
  refine xq_p rfl rfl ?_
  refine xq_gI S rfl rfl (by decide) rfl (fun z1 ez1 => ?_)
  have tz1 : z1.toInt = (hs_fI h 64 6).toInt := congrArg Int32.toInt ez1
  have rz1 : 0 ≤ z1.toInt ∧ z1.toInt ≤ 400 := by omega
  refine xq_p rfl rfl ?_
  refine xq_gR S rfl rfl (by decide) rfl ?_
  refine xq_al (hs_iarr S rfl (by decide)) rfl (xq_ge (n := 400) (show (Int32.ofNat 400).toInt = 400 by decide) (fun z2 ez2 => ?_))
  refine xq_ige rfl (fun c3 => ?_) (fun c3 => ?_)
  · refine xq_rv rfl rfl ⟨S, (pg.rfl (L := (fun a => a = 64 ∨ a = 70 ∨ a = 71))), (xo.rfl (L := (fun k => k = 6))), ?_⟩
    exfalso; omega
  · refine xq_p rfl rfl ?_
    refine xq_gR S rfl rfl (by decide) rfl ?_
    refine xq_p rfl rfl ?_
    refine xq_gI S rfl rfl (by decide) rfl (fun z4 ez4 => ?_)
    have tz4 : z4.toInt = (hs_fI h 64 6).toInt := congrArg Int32.toInt ez4
    refine xq_p rfl rfl ?_
    refine xq_aS S rfl rfl (by decide) (fun h5 eh5 Sh5 ah5 bh5 => ?_)
    have f6 : hs_aI h5 70 = (upd (hs_aI h 70) z4.toInt.toNat x1) := by rw [eh5, hs_aI_sA]
    refine xq_p rfl rfl ?_
    refine xq_gR Sh5 rfl rfl (by decide) rfl ?_
    refine xq_p rfl rfl ?_
    have f7 : hs_fI h5 64 6 = (hs_fI h 64 6) := (by rw [eh5]; exact hs_fI_ne (by first | decide | omega))
    refine xq_gI Sh5 rfl rfl (by decide) rfl (fun z8 ez8 => ?_)
    replace ez8 : z8 = (hs_fI h 64 6) := ez8.trans f7
    have tz8 : z8.toInt = (hs_fI h 64 6).toInt := congrArg Int32.toInt ez8
    refine xq_p rfl rfl ?_
    have f10 : hs_aI h5 71 = (hs_aI h 71) := (by rw [eh5]; exact hs_aI_ne (by first | decide | omega))
    refine xq_aS Sh5 rfl rfl (by decide) (fun h9 eh9 Sh9 ah9 bh9 => ?_)
    have f11 : hs_aI h9 71 = (upd (hs_aI h 71) z8.toInt.toNat x2) := by rw [eh9, hs_aI_sA, f10]
    refine xq_p rfl rfl ?_
    refine xq_p rfl rfl ?_
    have f12 : hs_fI h9 64 6 = (hs_fI h 64 6) := Eq.trans (by rw [eh9]; exact hs_fI_ne (by first | decide | omega)) f7
    refine xq_gI Sh9 rfl rfl (by decide) rfl (fun z13 ez13 => ?_)
    replace ez13 : z13 = (hs_fI h 64 6) := ez13.trans f12
    have tz13 : z13.toInt = (hs_fI h 64 6).toInt := congrArg Int32.toInt ez13
    refine xq_p rfl rfl (xq_ge (n := 1) nk_i1 (fun z14 ez14 => ?_))
    refine xq_p rfl rfl (xq_ge (n := z13.toInt + z14.toInt) (nm_add (by omega) (by omega)) (fun z15 ez15 => ?_))
    refine xq_pI Sh9 rfl rfl (by decide) rfl (fun h16 eh16 Sh16 => ?_)
    have f17 : hs_fI h16 64 6 = z15 := xf_fI_eq Sh9 eh16 rfl (by decide) rfl
    have f18 : hs_aI h9 70 = (upd (hs_aI h 70) z4.toInt.toNat x1) := Eq.trans (by rw [eh9]; exact hs_aI_ne (by first | decide | omega)) f6
    have f19 : hs_aI h16 70 = (upd (hs_aI h 70) z4.toInt.toNat x1) := Eq.trans (by rw [eh16]; exact hs_aI_ne (by first | decide | omega)) f18
    have f20 : hs_aI h16 71 = (upd (hs_aI h 71) z8.toInt.toNat x2) := Eq.trans (by rw [eh16]; exact hs_aI_ne (by first | decide | omega)) f11
    have i21 : (hs_fI h16 64 6).toInt = z15.toInt := congrArg Int32.toInt f17
    refine xq_rv rfl rfl ⟨Sh16, (pg.tr (pg.tr (pg.set (L := (fun a => a = 64 ∨ a = 70 ∨ a = 71)) eh5 (Or.inr (Or.inl rfl))) (pg.set (L := (fun a => a = 64 ∨ a = 70 ∨ a = 71)) eh9 (Or.inr (Or.inr (rfl)))) (fun _ q => q) (fun _ q => q)) (pg.set (L := (fun a => a = 64 ∨ a = 70 ∨ a = 71)) eh16 (Or.inl rfl)) (fun _ q => q) (fun _ q => q)), (xo.tr (xo.tr (xo.oth (L := (fun k => k = 6)) eh5 (by first | decide | omega)) (xo.oth (L := (fun k => k = 6)) eh9 (by first | decide | omega)) (fun _ q => q) (fun _ q => q)) (xo.set (L := (fun k => k = 6)) eh16 (rfl)) (fun _ q => q) (fun _ q => q)), ?_⟩
    exact ⟨rfl, by show _ = ((k.1 + 1 : Nat) : Int); omega, by rw [f19]; exact xk_u k1 (by omega) rfl, by rw [f20]; exact xk_u k2 (by omega) rfl⟩

theorem xf_65 {X : pm_X} {N d : Nat} {h : pm_H} {x1 : Int32} {k : pd_K} (S : hs_Shape h) (K : xk h k) (hn : k.1 ≤ 400) : xq_M X N d 65 [.ref 64, .int x1] h (fun h1 v => hs_Shape h1 ∧ pg (fun a => a = 71) h h1 ∧ (v = none ∧ ((x1.toInt = -1 → xk h1 k) ∧ (∀ b : Nat, x1.toInt = b → b < k.1 → xk h1 (k.1, k.2.1, pd_u k.2.2 b k.1))))) := by
  have sz := S.1
  have ax1 := nm_lo x1
  have bx1 := nm_hi x1
  obtain ⟨kn, k1, k2⟩ := K
  refine xq_M.enter (q := (⟨"TrainBearers$Text", "aim", "(I)V"⟩, _, 2, none, 7, 2, pm_c65)) rfl (fun d => ?_)
  show xq_W X (pm_rn X N d) 7 false (none) pm_c65 N (0, [some (.ref 64), some (.int x1)], [], h) (fun h1 v => hs_Shape h1 ∧ pg (fun a => a = 71) h h1 ∧ (v = none ∧ ((x1.toInt = -1 → xk h1 k) ∧ (∀ b : Nat, x1.toInt = b → b < k.1 → xk h1 (k.1, k.2.1, pd_u k.2.2 b k.1)))))
  refine xq_p rfl rfl ?_
  refine xq_zlt rfl (fun c1 => ?_) (fun c1 => ?_)
  · refine xq_rv rfl rfl ⟨S, (pg.rfl (L := (fun a => a = 71))), ?_⟩
    exact ⟨rfl, fun _ => ⟨kn, k1, k2⟩, fun b e1 e2 => by exfalso; omega⟩
  · refine xq_p rfl rfl ?_
    refine xq_p rfl rfl ?_
    refine xq_gI S rfl rfl (by decide) rfl (fun z2 ez2 => ?_)
    have tz2 : z2.toInt = (hs_fI h 64 6).toInt := congrArg Int32.toInt ez2
    have rz2 : 0 ≤ z2.toInt ∧ z2.toInt ≤ 400 := by omega
    refine xq_ige rfl (fun c3 => ?_) (fun c3 => ?_)
    · refine xq_rv rfl rfl ⟨S, (pg.rfl (L := (fun a => a = 71))), ?_⟩
      exact ⟨rfl, fun _ => ⟨kn, k1, k2⟩, fun b e1 e2 => by exfalso; omega⟩
    · refine xq_p rfl rfl ?_
      refine xq_gR S rfl rfl (by decide) rfl ?_
      refine xq_p rfl rfl ?_
      refine xq_p rfl rfl ?_
      refine xq_gI S rfl rfl (by decide) rfl (fun z4 ez4 => ?_)
      have tz4 : z4.toInt = (hs_fI h 64 6).toInt := congrArg Int32.toInt ez4
      refine xq_aS S rfl rfl (by decide) (fun h5 eh5 Sh5 ah5 bh5 => ?_)
      have f6 : hs_aI h5 71 = (upd (hs_aI h 71) x1.toInt.toNat z4) := by rw [eh5, hs_aI_sA]
      have f7 : hs_aI h5 70 = (hs_aI h 70) := (by rw [eh5]; exact hs_aI_ne (by first | decide | omega))
      have f8 : hs_fI h5 64 6 = (hs_fI h 64 6) := (by rw [eh5]; exact hs_fI_ne (by first | decide | omega))
      refine xq_rv rfl rfl ⟨Sh5, (pg.set (L := (fun a => a = 71)) eh5 (rfl)), ?_⟩
      exact ⟨rfl, fun e => by exfalso; omega, fun b e1 e2 => ⟨by rw [f8]; exact kn, by rw [f7]; exact k1, by rw [f6]; exact xk_u k2 (by omega) (by omega)⟩⟩

theorem xf_39 {X : pm_X} {N d : Nat} {h : pm_H} {k0 : Nat} {F : Nat → Int32} {T s lv : Nat} {ord : Bool} {k : pd_K} (hX : ty_SX X) (S : hs_Shape h) (hk0 : k0 < 23) (R : xR F T ord h s lv k) (hk : xs_ok k0 = true) : xq_M X N d 39 [.ref 62, .retAddr k0] h (fun h1 v => hs_Shape h1 ∧ pg (fun a => a = 62) h h1 ∧ xo 62 (fun k => k = 3 ∨ k = 4) h h1 ∧ (∃ z : Int32, v = some (.int z) ∧ ((z.toInt = 1 ∧ (xs_q F T s k0 = true ∧ xR F T ord h1 (xt_N F T s) lv k)) ∨ (z.toInt = 0 ∧ (xs_q F T s k0 = false ∧ xR F T ord h1 s lv k))))) := by
  have sz := S.1
  have snk0 := ty_sn0 hk0
  refine xq_M.enter (q := (⟨"TrainBearers$Reader", "pass", "(Ljava/lang/String;)Z"⟩, _, 2, some .boolean, 3, 2, pm_c39)) rfl (fun d => ?_)
  show xq_W X (pm_rn X N d) 3 false (some .boolean) pm_c39 N (0, [some (.ref 62), some (.retAddr k0)], [], h) (fun h1 v => hs_Shape h1 ∧ pg (fun a => a = 62) h h1 ∧ xo 62 (fun k => k = 3 ∨ k = 4) h h1 ∧ (∃ z : Int32, v = some (.int z) ∧ ((z.toInt = 1 ∧ (xs_q F T s k0 = true ∧ xR F T ord h1 (xt_N F T s) lv k)) ∨ (z.toInt = 0 ∧ (xs_q F T s k0 = false ∧ xR F T ord h1 s lv k)))))
  refine xq_p rfl rfl ?_
  refine xq_p rfl rfl ?_
  refine xq_callp 0 rfl (fun _ => rfl) rfl rfl (xf_40 (k0 := k0) hX S hk0 R.1 hk) (fun v2 P1 => ?_)
  obtain ⟨z3, rfl, ⟨ez3, Pz3⟩ | ⟨ez3, Pz3⟩⟩ := P1
  · refine xq_zne rfl (fun c4 => ?_) (fun c4 => ?_)
    · refine xq_p rfl rfl ?_
      refine xq_calln 0 rfl (fun _ => rfl) rfl rfl (xf_38 (F := F) (T := T) (q := xt_E F T s)  S R.1.1 R.1.2.1 R.1.2.2.2.1 (xt_E_p (F := F) R.1.2.2.2.2.1).2.1 R.1.2.2.2.2.2) (fun h6 v7 _ P5 => ?_)
      obtain ⟨Sh6, ph6, oh6_0, P5⟩ := P5
      obtain ⟨rfl, P3R8, P4R8⟩ := P5
      have R8 := xR.adv S R ph6 oh6_0 P3R8 P4R8
      refine xq_p rfl rfl (xq_ge (n := 1) nk_i1 (fun z9 ez9 => ?_))
      refine xq_r rfl ⟨Sh6, (pg.tr (L1 := fun _ => False) (L := (fun a => a = 62)) pg.rfl ph6 (fun _ q => q.elim) (fun _ q => q)), (xo.tr (L1 := fun _ => False) (L := (fun k => k = 3 ∨ k = 4)) xo.rfl oh6_0 (fun _ q => q.elim) (fun _ q => q)), ?_⟩
      exact ⟨_, rfl, Or.inl ⟨by omega, Pz3, R8⟩⟩
    · exfalso; omega
  · refine xq_zne rfl (fun c10 => ?_) (fun c10 => ?_)
    · exfalso; omega
    · refine xq_p rfl rfl (xq_ge (n := 0) nk_i0 (fun z11 ez11 => ?_))
      refine xq_r rfl ⟨S, (pg.rfl (L := (fun a => a = 62))), (xo.rfl (L := (fun k => k = 3 ∨ k = 4))), ?_⟩
      exact ⟨_, rfl, Or.inr ⟨by omega, Pz3, R⟩⟩

theorem xf_36 {X : pm_X} {N d : Nat} {h : pm_H} {x1 : Int32} {F : Nat → Int32} {T s lv : Nat} {ord : Bool} {k : pd_K} (S : hs_Shape h) (R : xR F T ord h s lv k) : xq_M X N d 36 [.ref 62, .int x1] h (fun h1 v => hs_Shape h1 ∧ pg (fun a => a = 62) h h1 ∧ xo 62 (fun k => k = 3 ∨ k = 4) h h1 ∧ (∃ z : Int32, v = some (.int z) ∧ ((z.toInt = 1 ∧ (x1.toInt < 8 ∧ xR F T ord h1 (xt_N F T s) lv k)) ∨ (z.toInt = 0 ∧ (8 ≤ x1.toInt ∧ xR F T ord h1 s lv k))))) := by
  have sz := S.1
  have ax1 := nm_lo x1
  have bx1 := nm_hi x1
  refine xq_M.enter (q := (⟨"TrainBearers$Reader", "open", "(I)Z"⟩, _, 2, some .boolean, 3, 2, pm_c36)) rfl (fun d => ?_)
  show xq_W X (pm_rn X N d) 3 false (some .boolean) pm_c36 N (0, [some (.ref 62), some (.int x1)], [], h) (fun h1 v => hs_Shape h1 ∧ pg (fun a => a = 62) h h1 ∧ xo 62 (fun k => k = 3 ∨ k = 4) h h1 ∧ (∃ z : Int32, v = some (.int z) ∧ ((z.toInt = 1 ∧ (x1.toInt < 8 ∧ xR F T ord h1 (xt_N F T s) lv k)) ∨ (z.toInt = 0 ∧ (8 ≤ x1.toInt ∧ xR F T ord h1 s lv k)))))
  refine xq_p rfl rfl ?_
  refine xq_p rfl rfl (xq_ge (n := 8) nk_b8 (fun z1 ez1 => ?_))
  refine xq_ilt rfl (fun c2 => ?_) (fun c2 => ?_)
  · refine xq_p rfl rfl ?_
    refine xq_calln 0 rfl (fun _ => rfl) rfl rfl (xf_38 (F := F) (T := T) (q := xt_E F T s)  S R.1.1 R.1.2.1 R.1.2.2.2.1 (xt_E_p (F := F) R.1.2.2.2.2.1).2.1 R.1.2.2.2.2.2) (fun h4 v5 _ P3 => ?_)
    obtain ⟨Sh4, ph4, oh4_0, P3⟩ := P3
    obtain ⟨rfl, P3R6, P4R6⟩ := P3
    have R6 := xR.adv S R ph4 oh4_0 P3R6 P4R6
    refine xq_p rfl rfl (xq_ge (n := 1) nk_i1 (fun z7 ez7 => ?_))
    refine xq_r rfl ⟨Sh4, (pg.tr (L1 := fun _ => False) (L := (fun a => a = 62)) pg.rfl ph4 (fun _ q => q.elim) (fun _ q => q)), (xo.tr (L1 := fun _ => False) (L := (fun k => k = 3 ∨ k = 4)) xo.rfl oh4_0 (fun _ q => q.elim) (fun _ q => q)), ?_⟩
    exact ⟨_, rfl, Or.inl ⟨by omega, by omega, R6⟩⟩
  · refine xq_p rfl rfl (xq_ge (n := 0) nk_i0 (fun z8 ez8 => ?_))
    refine xq_r rfl ⟨S, (pg.rfl (L := (fun a => a = 62))), (xo.rfl (L := (fun k => k = 3 ∨ k = 4))), ?_⟩
    exact ⟨_, rfl, Or.inr ⟨by omega, by omega, R⟩⟩

theorem xf_33_0 {X : pm_X} {N d : Nat} {h : pm_H} {x1 : Int32} {F : Nat → Int32} {T s : Nat} (hX : ty_SX X) (S : hs_Shape h) (ax1 : 0 ≤ x1.toInt) (bx1 : x1.toInt ≤ 0) (R : xr F T h s) : xq_M X N d 33 [.ref 62, .int x1] h (fun h1 v => h1 = h ∧ (∃ z : Int32, v = some (.int z) ∧ (z.toInt = (bif md_W F T s 498 then 5 else -1 : Int)))) := by
  have sz := S.1
  have R0 := R
  obtain ⟨hT, hF, h3, h4, hsT, hT4⟩ := R
  have hE := xt_E_p (F := F) hsT
  refine xq_M.enter (q := (⟨"TrainBearers$Reader", "operatorHere", "(I)I"⟩, _, 2, some .int, 3, 2, pm_c33)) rfl (fun d => ?_)
  show xq_W X (pm_rn X N d) 3 false (some .int) pm_c33 N (0, [some (.ref 62), some (.int x1)], [], h) (fun h1 v => h1 = h ∧ (∃ z : Int32, v = some (.int z) ∧ (z.toInt = (bif md_W F T s 498 then 5 else -1 : Int))))
  refine xq_p rfl rfl ?_
  rcases (show x1.toInt = 0 ∨ (x1.toInt < 0 ∨ 2 < x1.toInt) by omega) with c1 | c1
  · refine xq_ts (n := 0) rfl c1 rfl rfl (by decide) ?_
    refine xq_p rfl rfl ?_
    refine xq_p rfl rfl ?_
    refine xq_callp 0 rfl (fun _ => rfl) rfl rfl (xf_40 (k0 := 11) hX S (by decide) R0 (by decide)) (fun v3 P2 => ?_)
    obtain ⟨z4, rfl, ⟨ez4, Pz4⟩ | ⟨ez4, Pz4⟩⟩ := P2
    · refine xq_zeq rfl (fun c5 => ?_) (fun c5 => ?_)
      · exfalso; omega
      · refine xq_p rfl rfl (xq_ge (n := 5) nk_i5 (fun z6 ez6 => ?_))
        refine xq_p rfl rfl ?_
        refine xq_r rfl ⟨rfl, ?_⟩
        exact ⟨_, rfl, by rw [show md_W F T s 498 = true from Pz4]; dsimp only [cond]; omega⟩
    · refine xq_zeq rfl (fun c7 => ?_) (fun c7 => ?_)
      · refine xq_p rfl rfl (xq_ge (n := -1) nk_im1 (fun z8 ez8 => ?_))
        refine xq_r rfl ⟨rfl, ?_⟩
        exact ⟨_, rfl, by rw [show md_W F T s 498 = false from Pz4]; dsimp only [cond]; omega⟩
      · exfalso; omega
  · exfalso; omega

theorem xf_33_1 {X : pm_X} {N d : Nat} {h : pm_H} {x1 : Int32} {F : Nat → Int32} {T s : Nat} (hX : ty_SX X) (S : hs_Shape h) (ax1 : 1 ≤ x1.toInt) (bx1 : x1.toInt ≤ 1) (R : xr F T h s) : xq_M X N d 33 [.ref 62, .int x1] h (fun h1 v => h1 = h ∧ (∃ z : Int32, v = some (.int z) ∧ (z.toInt = (bif md_W F T s 1476 then 4 else -1 : Int)))) := by
  have sz := S.1
  have R0 := R
  obtain ⟨hT, hF, h3, h4, hsT, hT4⟩ := R
  have hE := xt_E_p (F := F) hsT
  refine xq_M.enter (q := (⟨"TrainBearers$Reader", "operatorHere", "(I)I"⟩, _, 2, some .int, 3, 2, pm_c33)) rfl (fun d => ?_)
  show xq_W X (pm_rn X N d) 3 false (some .int) pm_c33 N (0, [some (.ref 62), some (.int x1)], [], h) (fun h1 v => h1 = h ∧ (∃ z : Int32, v = some (.int z) ∧ (z.toInt = (bif md_W F T s 1476 then 4 else -1 : Int))))
  refine xq_p rfl rfl ?_
  rcases (show x1.toInt = 1 ∨ (x1.toInt < 0 ∨ 2 < x1.toInt) by omega) with c1 | c1
  · refine xq_ts (n := 1) rfl c1 rfl rfl (by decide) ?_
    refine xq_p rfl rfl ?_
    refine xq_p rfl rfl ?_
    refine xq_callp 0 rfl (fun _ => rfl) rfl rfl (xf_40 (k0 := 12) hX S (by decide) R0 (by decide)) (fun v3 P2 => ?_)
    obtain ⟨z4, rfl, ⟨ez4, Pz4⟩ | ⟨ez4, Pz4⟩⟩ := P2
    · refine xq_zeq rfl (fun c5 => ?_) (fun c5 => ?_)
      · exfalso; omega
      · refine xq_p rfl rfl (xq_ge (n := 4) nk_i4 (fun z6 ez6 => ?_))
        refine xq_p rfl rfl ?_
        refine xq_r rfl ⟨rfl, ?_⟩
        exact ⟨_, rfl, by rw [show md_W F T s 1476 = true from Pz4]; dsimp only [cond]; omega⟩
    · refine xq_zeq rfl (fun c7 => ?_) (fun c7 => ?_)
      · refine xq_p rfl rfl (xq_ge (n := -1) nk_im1 (fun z8 ez8 => ?_))
        refine xq_r rfl ⟨rfl, ?_⟩
        exact ⟨_, rfl, by rw [show md_W F T s 1476 = false from Pz4]; dsimp only [cond]; omega⟩
      · exfalso; omega
  · exfalso; omega

theorem xf_33_2 {X : pm_X} {N d : Nat} {h : pm_H} {x1 : Int32} {F : Nat → Int32} {T s : Nat} (hX : ty_SX X) (S : hs_Shape h) (ax1 : 2 ≤ x1.toInt) (bx1 : x1.toInt ≤ 2) (R : xr F T h s) : xq_M X N d 33 [.ref 62, .int x1] h (fun h1 v => h1 = h ∧ (∃ z : Int32, v = some (.int z) ∧ (z.toInt = (bif md_G F T s 43 then 6 else bif md_G F T s 45 then 7 else -1 : Int)))) := by
  have sz := S.1
  have R0 := R
  obtain ⟨hT, hF, h3, h4, hsT, hT4⟩ := R
  have hE := xt_E_p (F := F) hsT
  refine xq_M.enter (q := (⟨"TrainBearers$Reader", "operatorHere", "(I)I"⟩, _, 2, some .int, 3, 2, pm_c33)) rfl (fun d => ?_)
  show xq_W X (pm_rn X N d) 3 false (some .int) pm_c33 N (0, [some (.ref 62), some (.int x1)], [], h) (fun h1 v => h1 = h ∧ (∃ z : Int32, v = some (.int z) ∧ (z.toInt = (bif md_G F T s 43 then 6 else bif md_G F T s 45 then 7 else -1 : Int))))
  refine xq_p rfl rfl ?_
  rcases (show x1.toInt = 2 ∨ (x1.toInt < 0 ∨ 2 < x1.toInt) by omega) with c1 | c1
  · refine xq_ts (n := 2) rfl c1 rfl rfl (by decide) ?_
    refine xq_p rfl rfl ?_
    refine xq_p rfl rfl ?_
    refine xq_callp 0 rfl (fun _ => rfl) rfl rfl (xf_40 (k0 := 13) hX S (by decide) R0 (by decide)) (fun v3 P2 => ?_)
    obtain ⟨z4, rfl, ⟨ez4, Pz4⟩ | ⟨ez4, Pz4⟩⟩ := P2
    · refine xq_zeq rfl (fun c5 => ?_) (fun c5 => ?_)
      · exfalso; omega
      · refine xq_p rfl rfl (xq_ge (n := 6) nk_b6 (fun z6 ez6 => ?_))
        refine xq_p rfl rfl ?_
        refine xq_r rfl ⟨rfl, ?_⟩
        exact ⟨_, rfl, by rw [show md_G F T s 43 = true from Pz4]; dsimp only [cond]; omega⟩
    · refine xq_zeq rfl (fun c7 => ?_) (fun c7 => ?_)
      · refine xq_p rfl rfl ?_
        refine xq_p rfl rfl ?_
        refine xq_callp 0 rfl (fun _ => rfl) rfl rfl (xf_40 (k0 := 14) hX S (by decide) R0 (by decide)) (fun v9 P8 => ?_)
        obtain ⟨z10, rfl, ⟨ez10, Pz10⟩ | ⟨ez10, Pz10⟩⟩ := P8
        · refine xq_zeq rfl (fun c11 => ?_) (fun c11 => ?_)
          · exfalso; omega
          · refine xq_p rfl rfl (xq_ge (n := 7) nk_b7 (fun z12 ez12 => ?_))
            refine xq_p rfl rfl ?_
            refine xq_r rfl ⟨rfl, ?_⟩
            exact ⟨_, rfl, by rw [show md_G F T s 43 = false from Pz4]; dsimp only [cond]; rw [show md_G F T s 45 = true from Pz10]; dsimp only [cond]; omega⟩
        · refine xq_zeq rfl (fun c13 => ?_) (fun c13 => ?_)
          · refine xq_p rfl rfl (xq_ge (n := -1) nk_im1 (fun z14 ez14 => ?_))
            refine xq_r rfl ⟨rfl, ?_⟩
            exact ⟨_, rfl, by rw [show md_G F T s 43 = false from Pz4]; dsimp only [cond]; rw [show md_G F T s 45 = false from Pz10]; dsimp only [cond]; omega⟩
          · exfalso; omega
      · exfalso; omega
  · exfalso; omega

theorem xf_33_3 {X : pm_X} {N d : Nat} {h : pm_H} {x1 : Int32} {F : Nat → Int32} {T s : Nat} (hX : ty_SX X) (S : hs_Shape h) (ax1 : 3 ≤ x1.toInt) (bx1 : x1.toInt ≤ 3) (R : xr F T h s) : xq_M X N d 33 [.ref 62, .int x1] h (fun h1 v => h1 = h ∧ (∃ z : Int32, v = some (.int z) ∧ (z.toInt = (bif md_G F T s 42 then 8 else bif md_G F T s 47 then 9 else bif md_G F T s 37 then 10 else -1 : Int)))) := by
  have sz := S.1
  have R0 := R
  obtain ⟨hT, hF, h3, h4, hsT, hT4⟩ := R
  have hE := xt_E_p (F := F) hsT
  refine xq_M.enter (q := (⟨"TrainBearers$Reader", "operatorHere", "(I)I"⟩, _, 2, some .int, 3, 2, pm_c33)) rfl (fun d => ?_)
  show xq_W X (pm_rn X N d) 3 false (some .int) pm_c33 N (0, [some (.ref 62), some (.int x1)], [], h) (fun h1 v => h1 = h ∧ (∃ z : Int32, v = some (.int z) ∧ (z.toInt = (bif md_G F T s 42 then 8 else bif md_G F T s 47 then 9 else bif md_G F T s 37 then 10 else -1 : Int))))
  refine xq_p rfl rfl ?_
  rcases (show (x1.toInt < 0 ∨ 2 < x1.toInt) by omega) with c1
  · refine xq_td rfl c1 (by decide) ?_
    refine xq_p rfl rfl ?_
    refine xq_p rfl rfl ?_
    refine xq_callp 0 rfl (fun _ => rfl) rfl rfl (xf_40 (k0 := 15) hX S (by decide) R0 (by decide)) (fun v3 P2 => ?_)
    obtain ⟨z4, rfl, ⟨ez4, Pz4⟩ | ⟨ez4, Pz4⟩⟩ := P2
    · refine xq_zeq rfl (fun c5 => ?_) (fun c5 => ?_)
      · exfalso; omega
      · refine xq_p rfl rfl (xq_ge (n := 8) nk_b8 (fun z6 ez6 => ?_))
        refine xq_p rfl rfl ?_
        refine xq_r rfl ⟨rfl, ?_⟩
        exact ⟨_, rfl, by rw [show md_G F T s 42 = true from Pz4]; dsimp only [cond]; omega⟩
    · refine xq_zeq rfl (fun c7 => ?_) (fun c7 => ?_)
      · refine xq_p rfl rfl ?_
        refine xq_p rfl rfl ?_
        refine xq_callp 0 rfl (fun _ => rfl) rfl rfl (xf_40 (k0 := 16) hX S (by decide) R0 (by decide)) (fun v9 P8 => ?_)
        obtain ⟨z10, rfl, ⟨ez10, Pz10⟩ | ⟨ez10, Pz10⟩⟩ := P8
        · refine xq_zeq rfl (fun c11 => ?_) (fun c11 => ?_)
          · exfalso; omega
          · refine xq_p rfl rfl (xq_ge (n := 9) nk_b9 (fun z12 ez12 => ?_))
            refine xq_p rfl rfl ?_
            refine xq_r rfl ⟨rfl, ?_⟩
            exact ⟨_, rfl, by rw [show md_G F T s 42 = false from Pz4]; dsimp only [cond]; rw [show md_G F T s 47 = true from Pz10]; dsimp only [cond]; omega⟩
        · refine xq_zeq rfl (fun c13 => ?_) (fun c13 => ?_)
          · refine xq_p rfl rfl ?_
            refine xq_p rfl rfl ?_
            refine xq_callp 0 rfl (fun _ => rfl) rfl rfl (xf_40 (k0 := 17) hX S (by decide) R0 (by decide)) (fun v15 P14 => ?_)
            obtain ⟨z16, rfl, ⟨ez16, Pz16⟩ | ⟨ez16, Pz16⟩⟩ := P14
            · refine xq_zeq rfl (fun c17 => ?_) (fun c17 => ?_)
              · exfalso; omega
              · refine xq_p rfl rfl (xq_ge (n := 10) nk_b10 (fun z18 ez18 => ?_))
                refine xq_p rfl rfl ?_
                refine xq_r rfl ⟨rfl, ?_⟩
                exact ⟨_, rfl, by rw [show md_G F T s 42 = false from Pz4]; dsimp only [cond]; rw [show md_G F T s 47 = false from Pz10]; dsimp only [cond]; rw [show md_G F T s 37 = true from Pz16]; dsimp only [cond]; omega⟩
            · refine xq_zeq rfl (fun c19 => ?_) (fun c19 => ?_)
              · refine xq_p rfl rfl (xq_ge (n := -1) nk_im1 (fun z20 ez20 => ?_))
                refine xq_r rfl ⟨rfl, ?_⟩
                exact ⟨_, rfl, by rw [show md_G F T s 42 = false from Pz4]; dsimp only [cond]; rw [show md_G F T s 47 = false from Pz10]; dsimp only [cond]; rw [show md_G F T s 37 = false from Pz16]; dsimp only [cond]; omega⟩
              · exfalso; omega
          · exfalso; omega
      · exfalso; omega
end XFD
