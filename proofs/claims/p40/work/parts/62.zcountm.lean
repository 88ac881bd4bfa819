/-! CONTRACTS (printed by wip/pm/cts.py) -/
section CT38
theorem ct_136e {X : pm_X} {d : Nat} {h : pm_H} {x0 : Int64} {x1 : Int64} {x2 : Int64} (hd : 1 ≤ d)  : ty_M X ty_W0 d 136 [.long x0, .long x1, .long x2] h (fun _ v => ∃ z : Int32, v = some (.int z) ∧ 0 ≤ z.toInt ∧ z.toInt ≤ 1 ∧ (z.toInt = 1 → x1.toInt ≤ x0.toInt ∧ x0.toInt ≤ x2.toInt) ∧ (z.toInt = 0 → x0.toInt < x1.toInt ∨ x2.toInt < x0.toInt)) := by
  intro J H hJ
  obtain ⟨d, rfl⟩ : ∃ e, d = e + 1 := ⟨d - 1, by omega⟩
  have I := H.1 h hJ
  have ax0 := nm_llo x0
  have bx0 := nm_lhi x0
  have ax1 := nm_llo x1
  have bx1 := nm_lhi x1
  have ax2 := nm_llo x2
  have bx2 := nm_lhi x2
  refine hq_M.enter (q := (⟨"TrainBearersModel", "in", "(JJJ)Z"⟩, _, 6, some .boolean, 11, 3, pm_c136)) rfl rfl ?_
  show hq_W X d 11 false (some .boolean) pm_c136 (0, [some (.long x0), none, some (.long x1), none, some (.long x2), none], [], h) (fun h' v => J h' ∧ (fun _ v => ∃ z : Int32, v = some (.int z) ∧ 0 ≤ z.toInt ∧ z.toInt ≤ 1 ∧ (z.toInt = 1 → x1.toInt ≤ x0.toInt ∧ x0.toInt ≤ x2.toInt) ∧ (z.toInt = 0 → x0.toInt < x1.toInt ∨ x2.toInt < x0.toInt)) h' v)
  refine hq_p rfl rfl ?_
  refine hq_p rfl rfl ?_
  refine hq_p rfl rfl (ty_gc (fun z1 ez1 => ?_))
  refine ty_zlt rfl (fun c2 => ?_) (fun c2 => ?_)
  · replace ez1 : x0.toInt < x1.toInt := by omega
    clear c2
    refine hq_p rfl rfl (ty_ge (n := 0) nk_i0 (fun z3 ez3 => ?_))
    exact ty_rB rfl rfl (by omega) (by omega) ⟨hJ, _, rfl, by omega, by omega, by omega, by omega⟩
  · replace ez1 : x0.toInt ≥ x1.toInt := by omega
    clear c2
    refine hq_p rfl rfl ?_
    refine hq_p rfl rfl ?_
    refine hq_p rfl rfl (ty_gc (fun z4 ez4 => ?_))
    refine ty_zgt rfl (fun c5 => ?_) (fun c5 => ?_)
    · replace ez4 : x0.toInt > x2.toInt := by omega
      clear c5
      refine hq_p rfl rfl (ty_ge (n := 0) nk_i0 (fun z6 ez6 => ?_))
      exact ty_rB rfl rfl (by omega) (by omega) ⟨hJ, _, rfl, by omega, by omega, by omega, by omega⟩
    · replace ez4 : x0.toInt ≤ x2.toInt := by omega
      clear c5
      refine hq_p rfl rfl (ty_ge (n := 1) nk_i1 (fun z7 ez7 => ?_))
      refine hq_p rfl rfl ?_
      exact ty_rB rfl rfl (by omega) (by omega) ⟨hJ, _, rfl, by omega, by omega, by omega, by omega⟩
theorem ct_154 {X : pm_X} {d : Nat} {h : pm_H} {x1 : Int32} (hd : 3 ≤ d)  : ty_M X (ty_Wxr 0) d 154 [.ref 97, .int x1] h (fun h1 v => ∃ z : Int32, v = some (.int z) ∧ cn_ad 1 20 x1.toInt (hs_aI h 99 0).toInt z.toInt (hs_aI h1 99 0).toInt) := by
  intro J H hJ
  obtain ⟨d, rfl⟩ : ∃ e, d = e + 1 := ⟨d - 1, by omega⟩
  have I := H.1 h hJ
  have ax1 := nm_lo x1
  have bx1 := nm_hi x1
  obtain ⟨q0, eq0⟩ : ∃ q : Int32, q.toInt = (hs_aI h 99 0).toInt := ⟨_, rfl⟩
  have gq00 : 0 ≤ (hs_aI h 99 0).toInt := (I.2.2.2.1 99 0 (by decide) (by decide)).1
  have gq01 : (hs_aI h 99 0).toInt ≤ 8 := (I.2.2.2.1 99 0 (by decide) (by decide)).2
  refine hq_M.enter (q := (⟨"TrainBearersModel", "yard", "(I)I"⟩, _, 3, some .int, 11, 2, pm_c154)) rfl rfl ?_
  show hq_W X d 11 false (some .int) pm_c154 (0, [some (.ref 97), some (.int x1), none], [], h) (fun h' v => J h' ∧ (fun h1 v => ∃ z : Int32, v = some (.int z) ∧ cn_ad 1 20 x1.toInt (hs_aI h 99 0).toInt z.toInt (hs_aI h1 99 0).toInt) h' v)
  refine hq_p rfl rfl ?_
  refine hq_p rfl rfl (ty_ge (n := 0) nk_i0 (fun z1 ez1 => ?_))
  refine ty_pI (W := (ty_Wxr 0)) H hJ rfl rfl (by decide) rfl rfl (by unfold ty_Wxr; omega) rfl (by omega) (by omega) (fun h2 eh2 Jh2 => ?_)
  have wh2 : (hs_fI h2 97 0).toInt = z1.toInt := by rw [eh2]; exact congrArg Int32.toInt (ty_fI_eq I.1 rfl (by decide) rfl)
  have Ih2 := H.1 h2 Jh2
  refine hq_p rfl rfl ?_
  refine hq_p rfl rfl (ty_gle (n := x1.toInt) (nm_i2l _) (fun z3 ez3 => ?_))
  refine hq_p rfl rfl (ty_gle (n := 1) (by decide) (fun z4 ez4 => ?_))
  refine hq_p rfl rfl (ty_gle (n := 20) (by decide) (fun z5 ez5 => ?_))
  refine ty_callp 1 Ih2 rfl (fun _ => rfl) rfl rfl rfl rfl (ct_136e (x0 := z3) (x1 := z4) (x2 := z5) (by omega)) (fun _ P6 => ?_)
  obtain ⟨z7, rfl, az7, bz7, iz7, jz7⟩ := P6
  refine ty_zne rfl (fun c8 => ?_) (fun c8 => ?_)
  · replace c8 : 1 ≤ z7.toInt ∧ z7.toInt ≤ 1 := by omega
    have yz7 := iz7 (by omega)
    clear iz7 jz7
    refine hq_p rfl rfl ?_
    refine hq_gR Ih2.1 rfl rfl (by decide) (by decide) rfl ?_
    refine hq_p rfl rfl (ty_ge (n := 0) nk_i0 (fun z9 ez9 => ?_))
    have r11 : (hs_aI h2 99 0).toInt = (hs_aI h 99 0).toInt := by rw [eh2]; exact congrArg Int32.toInt (ty_aI_ne (by omega))
    refine ty_aL Ih2 rfl rfl (by decide) (by omega) (by omega) (fun i e => ty_le (ty_w0 (by omega) (by omega))) (fun z10 ez10 az10 bz10 => ?_)
    rw [show z9.toInt.toNat = 0 by omega] at ez10
    refine hq_p (ls' := [some (.ref 97), some (.int x1), some (.int z10)]) rfl rfl ?_
    refine hq_p rfl rfl ?_
    refine hq_p rfl rfl (ty_ge (n := 8) nk_b8 (fun z12 ez12 => ?_))
    refine ty_ine rfl (fun c13 => ?_) (fun c13 => ?_)
    · replace c13 : 0 ≤ z10.toInt ∧ z10.toInt ≤ 7 := by omega
      refine hq_p rfl rfl ?_
      refine hq_gR Ih2.1 rfl rfl (by decide) (by decide) rfl ?_
      refine hq_p rfl rfl (ty_ge (n := 34) nk_b34 (fun z14 ez14 => ?_))
      refine hq_p rfl rfl ?_
      refine hq_p rfl rfl (ty_ge (n := z14.toInt + z10.toInt) (nm_add (by omega) (by omega)) (fun z15 ez15 => ?_))
      refine hq_p rfl rfl ?_
      refine ty_aS (W := (ty_Wxr 0)) H Jh2 rfl rfl (by decide) (by omega) (by omega) (fun i e => by unfold ty_Wxr; omega) (fun i e => ty_eg (ty_w34 (by omega) (by omega))) (by omega) (by omega) (fun e1 e2 w => by omega) (fun h16 eh16 Jh16 => ?_)
      have Ih16 := H.1 h16 Jh16
      refine hq_p rfl rfl ?_
      refine hq_gR Ih16.1 rfl rfl (by decide) (by decide) rfl ?_
      refine hq_p rfl rfl (ty_ge (n := 10) nk_b10 (fun z17 ez17 => ?_))
      refine hq_p rfl rfl ?_
      refine hq_p rfl rfl (ty_ge (n := z17.toInt + z10.toInt) (nm_add (by omega) (by omega)) (fun z18 ez18 => ?_))
      refine hq_p rfl rfl (ty_ge (n := 0) nk_i0 (fun z19 ez19 => ?_))
      refine ty_aS (W := (ty_Wxr 0)) H Jh16 rfl rfl (by decide) (by omega) (by omega) (fun i e => by unfold ty_Wxr; omega) (fun i e => ty_eg (ty_w10 (by omega) (by omega))) (by omega) (by omega) (fun e1 e2 w => by omega) (fun h20 eh20 Jh20 => ?_)
      have Ih20 := H.1 h20 Jh20
      refine hq_p rfl rfl ?_
      refine hq_gR Ih20.1 rfl rfl (by decide) (by decide) rfl ?_
      refine hq_p rfl rfl (ty_ge (n := 0) nk_i0 (fun z21 ez21 => ?_))
      refine hq_p rfl rfl ?_
      have r23 : (hs_aI h16 99 0).toInt = (hs_aI h2 99 0).toInt := by rw [eh16]; exact congrArg Int32.toInt (ty_aI_sA (by omega))
      have r24 : (hs_aI h20 99 0).toInt = (hs_aI h16 99 0).toInt := by rw [eh20]; exact congrArg Int32.toInt (ty_aI_sA (by omega))
      refine ty_aL Ih20 rfl rfl (by decide) (by omega) (by omega) (fun i e => ty_le (ty_w0 (by omega) (by omega))) (fun z22 ez22 az22 bz22 => ?_)
      rw [show z21.toInt.toNat = 0 by omega] at ez22
      refine hq_p rfl rfl (ty_ge (n := 1) nk_i1 (fun z25 ez25 => ?_))
      refine hq_p rfl rfl (ty_ge (n := z22.toInt + z25.toInt) (nm_add (by omega) (by omega)) (fun z26 ez26 => ?_))
      refine ty_aS (W := (ty_Wxr 0)) H Jh20 rfl rfl (by decide) (by omega) (by omega) (fun i e => by unfold ty_Wxr; omega) (fun i e => ty_eg (ty_w0 (by omega) (by omega))) (by omega) (by omega) (fun e1 e2 w => by omega) (fun h27 eh27 Jh27 => ?_)
      have wh27 : (hs_aI h27 99 0).toInt = z26.toInt := by rw [eh27]; exact congrArg Int32.toInt (ty_aI_eq (by omega))
      have Ih27 := H.1 h27 Jh27
      refine hq_p rfl rfl ?_
      refine hq_p rfl rfl ?_
      refine ty_callm 0 [(1, 99, 0)] (W := (ty_Wxr 0)) H Jh27 rfl (fun _ => rfl) rfl rfl rfl (hq_pre_o Ih27.1 (x := 97) (ci := 11) rfl (by decide) rfl rfl rfl rfl) (fun a k w => by unfold ty_Wx at w; unfold ty_Wxr; omega) (by unfold ty_Wx ty_Wxr; omega) (ct_142 (x1 := z10) (by omega) (by omega) (by omega)) ⟨⟨rfl, show ¬ ty_Wx 99 0 by unfold ty_Wx; omega⟩, trivial⟩ (fun h29 _ Jh29 gh29 P28 => ?_)
      obtain ⟨gh29_0, _⟩ := gh29
      have gh29_0 : (hs_aI h29 99 0).toInt = (hs_aI h27 99 0).toInt := gh29_0
      have Ih29 := H.1 h29 Jh29
      obtain ⟨z30, rfl, fz30⟩ := P28
      exact hq_W.ret rfl rfl rfl ⟨Jh29, _, rfl, by unfold cn_ad; omega⟩
    · refine hq_p rfl rfl ?_
      refine hq_p rfl rfl (ty_ge (n := -5) nk_bm5 (fun z31 ez31 => ?_))
      refine ty_callm 0 [(1, 99, 0)] (W := (ty_Wxr 0)) H Jh2 rfl (fun _ => rfl) rfl rfl rfl (hq_pre_o Ih2.1 (x := 97) (ci := 11) rfl (by decide) rfl rfl rfl rfl) (fun a k w => by unfold ty_Wt at w; unfold ty_Wxr; omega) (by unfold ty_Wt ty_Wxr; omega) (ct_140 (x1 := z31) (by omega) (by omega) (by omega)) ⟨⟨rfl, show ¬ ty_Wt 99 0 by unfold ty_Wt; omega⟩, trivial⟩ (fun h33 _ Jh33 gh33 P32 => ?_)
      obtain ⟨gh33_0, _⟩ := gh33
      have gh33_0 : (hs_aI h33 99 0).toInt = (hs_aI h2 99 0).toInt := gh33_0
      have Ih33 := H.1 h33 Jh33
      obtain ⟨z34, rfl, fz34⟩ := P32
      exact hq_W.ret rfl rfl rfl ⟨Jh33, _, rfl, by unfold cn_ad; omega⟩
  · have yz7 := jz7 (by omega)
    clear iz7 jz7
    refine hq_p rfl rfl ?_
    refine hq_p rfl rfl (ty_ge (n := -1) nk_im1 (fun z35 ez35 => ?_))
    have r38 : (hs_aI h2 99 0).toInt = (hs_aI h 99 0).toInt := by rw [eh2]; exact congrArg Int32.toInt (ty_aI_ne (by omega))
    refine ty_callm 0 [(1, 99, 0)] (W := (ty_Wxr 0)) H Jh2 rfl (fun _ => rfl) rfl rfl rfl (hq_pre_o Ih2.1 (x := 97) (ci := 11) rfl (by decide) rfl rfl rfl rfl) (fun a k w => by unfold ty_Wt at w; unfold ty_Wxr; omega) (by unfold ty_Wt ty_Wxr; omega) (ct_140 (x1 := z35) (by omega) (by omega) (by omega)) ⟨⟨rfl, show ¬ ty_Wt 99 0 by unfold ty_Wt; omega⟩, trivial⟩ (fun h37 _ Jh37 gh37 P36 => ?_)
    obtain ⟨gh37_0, _⟩ := gh37
    have gh37_0 : (hs_aI h37 99 0).toInt = (hs_aI h2 99 0).toInt := gh37_0
    have Ih37 := H.1 h37 Jh37
    obtain ⟨z39, rfl, fz39⟩ := P36
    exact hq_W.ret rfl rfl rfl ⟨Jh37, _, rfl, by unfold cn_ad; omega⟩
theorem ct_156 {X : pm_X} {d : Nat} {h : pm_H} {x1 : Int32} (hd : 3 ≤ d)  : ty_M X (ty_Wxr 1) d 156 [.ref 97, .int x1] h (fun h1 v => ∃ z : Int32, v = some (.int z) ∧ cn_ad 0 9 x1.toInt (hs_aI h 99 1).toInt z.toInt (hs_aI h1 99 1).toInt) := by
  intro J H hJ
  obtain ⟨d, rfl⟩ : ∃ e, d = e + 1 := ⟨d - 1, by omega⟩
  have I := H.1 h hJ
  have ax1 := nm_lo x1
  have bx1 := nm_hi x1
  obtain ⟨q1, eq1⟩ : ∃ q : Int32, q.toInt = (hs_aI h 99 1).toInt := ⟨_, rfl⟩
  have gq10 : 0 ≤ (hs_aI h 99 1).toInt := (I.2.2.2.1 99 1 (by decide) (by decide)).1
  have gq11 : (hs_aI h 99 1).toInt ≤ 8 := (I.2.2.2.1 99 1 (by decide) (by decide)).2
  refine hq_M.enter (q := (⟨"TrainBearersModel", "girl", "(I)I"⟩, _, 3, some .int, 11, 2, pm_c156)) rfl rfl ?_
  show hq_W X d 11 false (some .int) pm_c156 (0, [some (.ref 97), some (.int x1), none], [], h) (fun h' v => J h' ∧ (fun h1 v => ∃ z : Int32, v = some (.int z) ∧ cn_ad 0 9 x1.toInt (hs_aI h 99 1).toInt z.toInt (hs_aI h1 99 1).toInt) h' v)
  refine hq_p rfl rfl ?_
  refine hq_p rfl rfl (ty_ge (n := 0) nk_i0 (fun z1 ez1 => ?_))
  refine ty_pI (W := (ty_Wxr 1)) H hJ rfl rfl (by decide) rfl rfl (by unfold ty_Wxr; omega) rfl (by omega) (by omega) (fun h2 eh2 Jh2 => ?_)
  have wh2 : (hs_fI h2 97 0).toInt = z1.toInt := by rw [eh2]; exact congrArg Int32.toInt (ty_fI_eq I.1 rfl (by decide) rfl)
  have Ih2 := H.1 h2 Jh2
  refine hq_p rfl rfl ?_
  refine hq_p rfl rfl (ty_gle (n := x1.toInt) (nm_i2l _) (fun z3 ez3 => ?_))
  refine hq_p rfl rfl (ty_gle (n := 0) (by decide) (fun z4 ez4 => ?_))
  refine hq_p rfl rfl (ty_gle (n := 9) (by decide) (fun z5 ez5 => ?_))
  refine ty_callp 1 Ih2 rfl (fun _ => rfl) rfl rfl rfl rfl (ct_136e (x0 := z3) (x1 := z4) (x2 := z5) (by omega)) (fun _ P6 => ?_)
  obtain ⟨z7, rfl, az7, bz7, iz7, jz7⟩ := P6
  refine ty_zne rfl (fun c8 => ?_) (fun c8 => ?_)
  · replace c8 : 1 ≤ z7.toInt ∧ z7.toInt ≤ 1 := by omega
    have yz7 := iz7 (by omega)
    clear iz7 jz7
    refine hq_p rfl rfl ?_
    refine hq_gR Ih2.1 rfl rfl (by decide) (by decide) rfl ?_
    refine hq_p rfl rfl (ty_ge (n := 1) nk_i1 (fun z9 ez9 => ?_))
    have r11 : (hs_aI h2 99 1).toInt = (hs_aI h 99 1).toInt := by rw [eh2]; exact congrArg Int32.toInt (ty_aI_ne (by omega))
    refine ty_aL Ih2 rfl rfl (by decide) (by omega) (by omega) (fun i e => ty_le (ty_w0 (by omega) (by omega))) (fun z10 ez10 az10 bz10 => ?_)
    rw [show z9.toInt.toNat = 1 by omega] at ez10
    refine hq_p (ls' := [some (.ref 97), some (.int x1), some (.int z10)]) rfl rfl ?_
    refine hq_p rfl rfl ?_
    refine hq_p rfl rfl (ty_ge (n := 8) nk_b8 (fun z12 ez12 => ?_))
    refine ty_ine rfl (fun c13 => ?_) (fun c13 => ?_)
    · replace c13 : 0 ≤ z10.toInt ∧ z10.toInt ≤ 7 := by omega
      refine hq_p rfl rfl ?_
      refine hq_gR Ih2.1 rfl rfl (by decide) (by decide) rfl ?_
      refine hq_p rfl rfl (ty_ge (n := 42) nk_b42 (fun z14 ez14 => ?_))
      refine hq_p rfl rfl ?_
      refine hq_p rfl rfl (ty_ge (n := z14.toInt + z10.toInt) (nm_add (by omega) (by omega)) (fun z15 ez15 => ?_))
      refine hq_p rfl rfl ?_
      refine ty_aS (W := (ty_Wxr 1)) H Jh2 rfl rfl (by decide) (by omega) (by omega) (fun i e => by unfold ty_Wxr; omega) (fun i e => ty_eg (ty_w42 (by omega) (by omega))) (by omega) (by omega) (fun e1 e2 w => by omega) (fun h16 eh16 Jh16 => ?_)
      have Ih16 := H.1 h16 Jh16
      refine hq_p rfl rfl ?_
      refine hq_gR Ih16.1 rfl rfl (by decide) (by decide) rfl ?_
      refine hq_p rfl rfl (ty_ge (n := 18) nk_b18 (fun z17 ez17 => ?_))
      refine hq_p rfl rfl ?_
      refine hq_p rfl rfl (ty_ge (n := z17.toInt + z10.toInt) (nm_add (by omega) (by omega)) (fun z18 ez18 => ?_))
      refine hq_p rfl rfl (ty_ge (n := 0) nk_i0 (fun z19 ez19 => ?_))
      refine ty_aS (W := (ty_Wxr 1)) H Jh16 rfl rfl (by decide) (by omega) (by omega) (fun i e => by unfold ty_Wxr; omega) (fun i e => ty_eg (ty_w18 (by omega) (by omega))) (by omega) (by omega) (fun e1 e2 w => by omega) (fun h20 eh20 Jh20 => ?_)
      have Ih20 := H.1 h20 Jh20
      refine hq_p rfl rfl ?_
      refine hq_gR Ih20.1 rfl rfl (by decide) (by decide) rfl ?_
      refine hq_p rfl rfl (ty_ge (n := 26) nk_b26 (fun z21 ez21 => ?_))
      refine hq_p rfl rfl ?_
      refine hq_p rfl rfl (ty_ge (n := z21.toInt + z10.toInt) (nm_add (by omega) (by omega)) (fun z22 ez22 => ?_))
      refine hq_p rfl rfl (ty_ge (n := -1) nk_im1 (fun z23 ez23 => ?_))
      refine ty_aS (W := (ty_Wxr 1)) H Jh20 rfl rfl (by decide) (by omega) (by omega) (fun i e => by unfold ty_Wxr; omega) (fun i e => ty_eg (ty_w26 (by omega) (by omega))) (by omega) (by omega) (fun e1 e2 w => by omega) (fun h24 eh24 Jh24 => ?_)
      have Ih24 := H.1 h24 Jh24
      refine hq_p rfl rfl ?_
      refine hq_gR Ih24.1 rfl rfl (by decide) (by decide) rfl ?_
      refine hq_p rfl rfl (ty_ge (n := 1) nk_i1 (fun z25 ez25 => ?_))
      refine hq_p rfl rfl ?_
      have r27 : (hs_aI h16 99 1).toInt = (hs_aI h2 99 1).toInt := by rw [eh16]; exact congrArg Int32.toInt (ty_aI_sA (by omega))
      have r28 : (hs_aI h20 99 1).toInt = (hs_aI h16 99 1).toInt := by rw [eh20]; exact congrArg Int32.toInt (ty_aI_sA (by omega))
      have r29 : (hs_aI h24 99 1).toInt = (hs_aI h20 99 1).toInt := by rw [eh24]; exact congrArg Int32.toInt (ty_aI_sA (by omega))
      refine ty_aL Ih24 rfl rfl (by decide) (by omega) (by omega) (fun i e => ty_le (ty_w0 (by omega) (by omega))) (fun z26 ez26 az26 bz26 => ?_)
      rw [show z25.toInt.toNat = 1 by omega] at ez26
      refine hq_p rfl rfl (ty_ge (n := 1) nk_i1 (fun z30 ez30 => ?_))
      refine hq_p rfl rfl (ty_ge (n := z26.toInt + z30.toInt) (nm_add (by omega) (by omega)) (fun z31 ez31 => ?_))
      refine ty_aS (W := (ty_Wxr 1)) H Jh24 rfl rfl (by decide) (by omega) (by omega) (fun i e => by unfold ty_Wxr; omega) (fun i e => ty_eg (ty_w0 (by omega) (by omega))) (by omega) (by omega) (fun e1 e2 w => by omega) (fun h32 eh32 Jh32 => ?_)
      have wh32 : (hs_aI h32 99 1).toInt = z31.toInt := by rw [eh32]; exact congrArg Int32.toInt (ty_aI_eq (by omega))
      have Ih32 := H.1 h32 Jh32
      refine hq_p rfl rfl ?_
      refine hq_p rfl rfl ?_
      refine ty_callm 0 [(1, 99, 1)] (W := (ty_Wxr 1)) H Jh32 rfl (fun _ => rfl) rfl rfl rfl (hq_pre_o Ih32.1 (x := 97) (ci := 11) rfl (by decide) rfl rfl rfl rfl) (fun a k w => by unfold ty_Wx at w; unfold ty_Wxr; omega) (by unfold ty_Wx ty_Wxr; omega) (ct_142 (x1 := z10) (by omega) (by omega) (by omega)) ⟨⟨rfl, show ¬ ty_Wx 99 1 by unfold ty_Wx; omega⟩, trivial⟩ (fun h34 _ Jh34 gh34 P33 => ?_)
      obtain ⟨gh34_0, _⟩ := gh34
      have gh34_0 : (hs_aI h34 99 1).toInt = (hs_aI h32 99 1).toInt := gh34_0
      have Ih34 := H.1 h34 Jh34
      obtain ⟨z35, rfl, fz35⟩ := P33
      exact hq_W.ret rfl rfl rfl ⟨Jh34, _, rfl, by unfold cn_ad; omega⟩
    · refine hq_p rfl rfl ?_
      refine hq_p rfl rfl (ty_ge (n := -5) nk_bm5 (fun z36 ez36 => ?_))
      refine ty_callm 0 [(1, 99, 1)] (W := (ty_Wxr 1)) H Jh2 rfl (fun _ => rfl) rfl rfl rfl (hq_pre_o Ih2.1 (x := 97) (ci := 11) rfl (by decide) rfl rfl rfl rfl) (fun a k w => by unfold ty_Wt at w; unfold ty_Wxr; omega) (by unfold ty_Wt ty_Wxr; omega) (ct_140 (x1 := z36) (by omega) (by omega) (by omega)) ⟨⟨rfl, show ¬ ty_Wt 99 1 by unfold ty_Wt; omega⟩, trivial⟩ (fun h38 _ Jh38 gh38 P37 => ?_)
      obtain ⟨gh38_0, _⟩ := gh38
      have gh38_0 : (hs_aI h38 99 1).toInt = (hs_aI h2 99 1).toInt := gh38_0
      have Ih38 := H.1 h38 Jh38
      obtain ⟨z39, rfl, fz39⟩ := P37
      exact hq_W.ret rfl rfl rfl ⟨Jh38, _, rfl, by unfold cn_ad; omega⟩
  · have yz7 := jz7 (by omega)
    clear iz7 jz7
    refine hq_p rfl rfl ?_
    refine hq_p rfl rfl (ty_ge (n := -1) nk_im1 (fun z40 ez40 => ?_))
    have r43 : (hs_aI h2 99 1).toInt = (hs_aI h 99 1).toInt := by rw [eh2]; exact congrArg Int32.toInt (ty_aI_ne (by omega))
    refine ty_callm 0 [(1, 99, 1)] (W := (ty_Wxr 1)) H Jh2 rfl (fun _ => rfl) rfl rfl rfl (hq_pre_o Ih2.1 (x := 97) (ci := 11) rfl (by decide) rfl rfl rfl rfl) (fun a k w => by unfold ty_Wt at w; unfold ty_Wxr; omega) (by unfold ty_Wt ty_Wxr; omega) (ct_140 (x1 := z40) (by omega) (by omega) (by omega)) ⟨⟨rfl, show ¬ ty_Wt 99 1 by unfold ty_Wt; omega⟩, trivial⟩ (fun h42 _ Jh42 gh42 P41 => ?_)
    obtain ⟨gh42_0, _⟩ := gh42
    have gh42_0 : (hs_aI h42 99 1).toInt = (hs_aI h2 99 1).toInt := gh42_0
    have Ih42 := H.1 h42 Jh42
    obtain ⟨z44, rfl, fz44⟩ := P41
    exact hq_W.ret rfl rfl rfl ⟨Jh42, _, rfl, by unfold cn_ad; omega⟩
theorem ct_149e {X : pm_X} {d : Nat} {h : pm_H} {x1 : Int32} (hd : 2 ≤ d)  : ty_M X ty_W0 d 149 [.ref 97, .int x1] h (fun _ v => ∃ z : Int32, v = some (.int z) ∧ 0 ≤ z.toInt ∧ z.toInt ≤ 1 ∧ (z.toInt = 1 → 0 ≤ x1.toInt ∧ x1.toInt < (hs_aI h 99 0).toInt) ∧ (z.toInt = 0 → x1.toInt < 0 ∨ (hs_aI h 99 0).toInt ≤ x1.toInt)) := by
  intro J H hJ
  obtain ⟨d, rfl⟩ : ∃ e, d = e + 1 := ⟨d - 1, by omega⟩
  have I := H.1 h hJ
  have ax1 := nm_lo x1
  have bx1 := nm_hi x1
  obtain ⟨q0, eq0⟩ : ∃ q : Int32, q.toInt = (hs_aI h 99 0).toInt := ⟨_, rfl⟩
  have gq00 : 0 ≤ (hs_aI h 99 0).toInt := (I.2.2.2.1 99 0 (by decide) (by decide)).1
  have gq01 : (hs_aI h 99 0).toInt ≤ 8 := (I.2.2.2.1 99 0 (by decide) (by decide)).2
  refine hq_M.enter (q := (⟨"TrainBearersModel", "isYard", "(I)Z"⟩, _, 2, some .boolean, 11, 2, pm_c149)) rfl rfl ?_
  show hq_W X d 11 false (some .boolean) pm_c149 (0, [some (.ref 97), some (.int x1)], [], h) (fun h' v => J h' ∧ (fun _ v => ∃ z : Int32, v = some (.int z) ∧ 0 ≤ z.toInt ∧ z.toInt ≤ 1 ∧ (z.toInt = 1 → 0 ≤ x1.toInt ∧ x1.toInt < (hs_aI h 99 0).toInt) ∧ (z.toInt = 0 → x1.toInt < 0 ∨ (hs_aI h 99 0).toInt ≤ x1.toInt)) h' v)
  refine hq_p rfl rfl ?_
  refine hq_p rfl rfl (ty_gle (n := x1.toInt) (nm_i2l _) (fun z1 ez1 => ?_))
  refine hq_p rfl rfl (ty_gle (n := 0) (by decide) (fun z2 ez2 => ?_))
  refine hq_p rfl rfl ?_
  refine hq_gR I.1 rfl rfl (by decide) (by decide) rfl ?_
  refine hq_p rfl rfl (ty_ge (n := 0) nk_i0 (fun z3 ez3 => ?_))
  refine ty_aL I rfl rfl (by decide) (by omega) (by omega) (fun i e => ty_le (ty_w0 (by omega) (by omega))) (fun z4 ez4 az4 bz4 => ?_)
  rw [show z3.toInt.toNat = 0 by omega] at ez4
  refine hq_p rfl rfl (ty_gle (n := z4.toInt) (nm_i2l _) (fun z5 ez5 => ?_))
  refine hq_p rfl rfl (ty_gle (n := 1) (by decide) (fun z6 ez6 => ?_))
  refine hq_p rfl rfl (ty_gle (n := z5.toInt - z6.toInt) (nm_lsub (by omega) (by omega)) (fun z7 ez7 => ?_))
  refine ty_callp 1 I rfl (fun _ => rfl) rfl rfl rfl rfl (ct_136e (x0 := z1) (x1 := z2) (x2 := z7) (by omega)) (fun _ P8 => ?_)
  obtain ⟨z9, rfl, az9, bz9, iz9, jz9⟩ := P8
  exact ty_rB rfl rfl (by omega) (by omega) ⟨hJ, _, rfl, by omega, by omega, by omega, by omega⟩
theorem ct_228 {X : pm_X} {d : Nat} {h : pm_H} {x1 : Int32} {x2 : Int32} (hd : 3 ≤ d)  : ty_M X (ty_Wxr 2) d 228 [.ref 97, .int x1, .int x2] h (fun h1 v => ∃ z : Int32, v = some (.int z) ∧ cn_se x1.toInt x2.toInt (hs_aI h 99 0).toInt (hs_aI h 99 2).toInt z.toInt (hs_aI h1 99 2).toInt) := by
  intro J H hJ
  obtain ⟨d, rfl⟩ : ∃ e, d = e + 1 := ⟨d - 1, by omega⟩
  have I := H.1 h hJ
  have ax1 := nm_lo x1
  have bx1 := nm_hi x1
  have ax2 := nm_lo x2
  have bx2 := nm_hi x2
  obtain ⟨q0, eq0⟩ : ∃ q : Int32, q.toInt = (hs_aI h 99 0).toInt := ⟨_, rfl⟩
  have gq00 : 0 ≤ (hs_aI h 99 0).toInt := (I.2.2.2.1 99 0 (by decide) (by decide)).1
  have gq01 : (hs_aI h 99 0).toInt ≤ 8 := (I.2.2.2.1 99 0 (by decide) (by decide)).2
  obtain ⟨q2, eq2⟩ : ∃ q : Int32, q.toInt = (hs_aI h 99 2).toInt := ⟨_, rfl⟩
  have gq20 : 0 ≤ (hs_aI h 99 2).toInt := (I.2.2.2.1 99 2 (by decide) (by decide)).1
  have gq21 : (hs_aI h 99 2).toInt ≤ 6 := (I.2.2.2.1 99 2 (by decide) (by decide)).2
  refine hq_M.enter (q := (⟨"TrainBearersModel", "seen", "(II)I"⟩, _, 4, some .int, 11, 3, pm_c228)) rfl rfl ?_
  show hq_W X d 11 false (some .int) pm_c228 (0, [some (.ref 97), some (.int x1), some (.int x2), none], [], h) (fun h' v => J h' ∧ (fun h1 v => ∃ z : Int32, v = some (.int z) ∧ cn_se x1.toInt x2.toInt (hs_aI h 99 0).toInt (hs_aI h 99 2).toInt z.toInt (hs_aI h1 99 2).toInt) h' v)
  refine hq_p rfl rfl ?_
  refine hq_p rfl rfl (ty_ge (n := 0) nk_i0 (fun z1 ez1 => ?_))
  refine ty_pI (W := (ty_Wxr 2)) H hJ rfl rfl (by decide) rfl rfl (by unfold ty_Wxr; omega) rfl (by omega) (by omega) (fun h2 eh2 Jh2 => ?_)
  have wh2 : (hs_fI h2 97 0).toInt = z1.toInt := by rw [eh2]; exact congrArg Int32.toInt (ty_fI_eq I.1 rfl (by decide) rfl)
  have Ih2 := H.1 h2 Jh2
  refine hq_p rfl rfl ?_
  refine hq_p rfl rfl (ty_gle (n := x2.toInt) (nm_i2l _) (fun z3 ez3 => ?_))
  refine hq_p rfl rfl (ty_gle (n := 0) (by decide) (fun z4 ez4 => ?_))
  refine hq_p rfl rfl (ty_gle (n := 40) (by decide) (fun z5 ez5 => ?_))
  refine ty_callp 1 Ih2 rfl (fun _ => rfl) rfl rfl rfl rfl (ct_136e (x0 := z3) (x1 := z4) (x2 := z5) (by omega)) (fun _ P6 => ?_)
  obtain ⟨z7, rfl, az7, bz7, iz7, jz7⟩ := P6
  refine ty_zne rfl (fun c8 => ?_) (fun c8 => ?_)
  · replace c8 : 1 ≤ z7.toInt ∧ z7.toInt ≤ 1 := by omega
    have yz7 := iz7 (by omega)
    clear iz7 jz7
    refine hq_p rfl rfl ?_
    refine hq_p rfl rfl ?_
    have r9 : (hs_aI h2 99 0).toInt = (hs_aI h 99 0).toInt := by rw [eh2]; exact congrArg Int32.toInt (ty_aI_ne (by omega))
    refine ty_callp 0 Ih2 rfl (fun _ => rfl) rfl rfl rfl (hq_pre_o Ih2.1 (x := 97) (ci := 11) rfl (by decide) rfl rfl rfl rfl) (ct_149e (x1 := x1) (by omega)) (fun _ P10 => ?_)
    obtain ⟨z11, rfl, az11, bz11, iz11, jz11⟩ := P10
    refine ty_zne rfl (fun c12 => ?_) (fun c12 => ?_)
    · replace c12 : 1 ≤ z11.toInt ∧ z11.toInt ≤ 1 := by omega
      have yz11 := iz11 (by omega)
      clear iz11 jz11
      refine hq_p rfl rfl ?_
      refine hq_gR Ih2.1 rfl rfl (by decide) (by decide) rfl ?_
      refine hq_p rfl rfl (ty_ge (n := 2) nk_i2 (fun z13 ez13 => ?_))
      have r15 : (hs_aI h2 99 2).toInt = (hs_aI h 99 2).toInt := by rw [eh2]; exact congrArg Int32.toInt (ty_aI_ne (by omega))
      refine ty_aL Ih2 rfl rfl (by decide) (by omega) (by omega) (fun i e => ty_le (ty_w2 (by omega) (by omega))) (fun z14 ez14 az14 bz14 => ?_)
      rw [show z13.toInt.toNat = 2 by omega] at ez14
      refine hq_p (ls' := [some (.ref 97), some (.int x1), some (.int x2), some (.int z14)]) rfl rfl ?_
      refine hq_p rfl rfl ?_
      refine hq_p rfl rfl (ty_ge (n := 6) nk_b6 (fun z16 ez16 => ?_))
      refine ty_ine rfl (fun c17 => ?_) (fun c17 => ?_)
      · replace c17 : 0 ≤ z14.toInt ∧ z14.toInt ≤ 5 := by omega
        refine hq_p rfl rfl ?_
        refine hq_gR Ih2.1 rfl rfl (by decide) (by decide) rfl ?_
        refine hq_p rfl rfl (ty_ge (n := 86) nk_b86 (fun z18 ez18 => ?_))
        refine hq_p rfl rfl (ty_ge (n := 2) nk_i2 (fun z19 ez19 => ?_))
        refine hq_p rfl rfl ?_
        refine hq_p rfl rfl (ty_ge (n := 2 * z14.toInt) (nm_cmul ez19 (by omega) (by omega)) (fun z20 ez20 => ?_))
        refine hq_p rfl rfl (ty_ge (n := z18.toInt + z20.toInt) (nm_add (by omega) (by omega)) (fun z21 ez21 => ?_))
        refine hq_p rfl rfl ?_
        refine ty_aS (W := (ty_Wxr 2)) H Jh2 rfl rfl (by decide) (by omega) (by omega) (fun i e => by unfold ty_Wxr; omega) (fun i e => ty_eg (ty_w86 (by omega) (by omega) (by omega))) (by omega) (by omega) (fun e1 e2 w => by omega) (fun h22 eh22 Jh22 => ?_)
        have Ih22 := H.1 h22 Jh22
        refine hq_p rfl rfl ?_
        refine hq_gR Ih22.1 rfl rfl (by decide) (by decide) rfl ?_
        refine hq_p rfl rfl (ty_ge (n := 86) nk_b86 (fun z23 ez23 => ?_))
        refine hq_p rfl rfl (ty_ge (n := 2) nk_i2 (fun z24 ez24 => ?_))
        refine hq_p rfl rfl ?_
        refine hq_p rfl rfl (ty_ge (n := 2 * z14.toInt) (nm_cmul ez24 (by omega) (by omega)) (fun z25 ez25 => ?_))
        refine hq_p rfl rfl (ty_ge (n := z23.toInt + z25.toInt) (nm_add (by omega) (by omega)) (fun z26 ez26 => ?_))
        refine hq_p rfl rfl (ty_ge (n := 1) nk_i1 (fun z27 ez27 => ?_))
        refine hq_p rfl rfl (ty_ge (n := z26.toInt + z27.toInt) (nm_add (by omega) (by omega)) (fun z28 ez28 => ?_))
        refine hq_p rfl rfl ?_
        refine ty_aS (W := (ty_Wxr 2)) H Jh22 rfl rfl (by decide) (by omega) (by omega) (fun i e => by unfold ty_Wxr; omega) (fun i e => ty_eg (ty_w87 (by omega) (by omega) (by omega))) (by omega) (by omega) (fun e1 e2 w => by omega) (fun h29 eh29 Jh29 => ?_)
        have Ih29 := H.1 h29 Jh29
        refine hq_p rfl rfl ?_
        refine hq_gR Ih29.1 rfl rfl (by decide) (by decide) rfl ?_
        refine hq_p rfl rfl (ty_ge (n := 2) nk_i2 (fun z30 ez30 => ?_))
        refine hq_p rfl rfl ?_
        have r32 : (hs_aI h22 99 2).toInt = (hs_aI h2 99 2).toInt := by rw [eh22]; exact congrArg Int32.toInt (ty_aI_sA (by omega))
        have r33 : (hs_aI h29 99 2).toInt = (hs_aI h22 99 2).toInt := by rw [eh29]; exact congrArg Int32.toInt (ty_aI_sA (by omega))
        refine ty_aL Ih29 rfl rfl (by decide) (by omega) (by omega) (fun i e => ty_le (ty_w2 (by omega) (by omega))) (fun z31 ez31 az31 bz31 => ?_)
        rw [show z30.toInt.toNat = 2 by omega] at ez31
        refine hq_p rfl rfl (ty_ge (n := 1) nk_i1 (fun z34 ez34 => ?_))
        refine hq_p rfl rfl (ty_ge (n := z31.toInt + z34.toInt) (nm_add (by omega) (by omega)) (fun z35 ez35 => ?_))
        refine ty_aS (W := (ty_Wxr 2)) H Jh29 rfl rfl (by decide) (by omega) (by omega) (fun i e => by unfold ty_Wxr; omega) (fun i e => ty_eg (ty_w2 (by omega) (by omega))) (by omega) (by omega) (fun e1 e2 w => by omega) (fun h36 eh36 Jh36 => ?_)
        have wh36 : (hs_aI h36 99 2).toInt = z35.toInt := by rw [eh36]; exact congrArg Int32.toInt (ty_aI_eq (by omega))
        have Ih36 := H.1 h36 Jh36
        refine hq_p rfl rfl ?_
        refine hq_p rfl rfl ?_
        refine hq_p rfl rfl (ty_ge (n := 1) nk_i1 (fun z37 ez37 => ?_))
        refine hq_p rfl rfl (ty_ge (n := z14.toInt + z37.toInt) (nm_add (by omega) (by omega)) (fun z38 ez38 => ?_))
        have r41 : (hs_aI h22 99 0).toInt = (hs_aI h2 99 0).toInt := by rw [eh22]; exact congrArg Int32.toInt (ty_aI_sA (by omega))
        have r42 : (hs_aI h29 99 0).toInt = (hs_aI h22 99 0).toInt := by rw [eh29]; exact congrArg Int32.toInt (ty_aI_sA (by omega))
        have r43 : (hs_aI h36 99 0).toInt = (hs_aI h29 99 0).toInt := by rw [eh36]; exact congrArg Int32.toInt (ty_aI_sA (by omega))
        refine ty_callm 0 [(1, 99, 0), (1, 99, 2)] (W := (ty_Wxr 2)) H Jh36 rfl (fun _ => rfl) rfl rfl rfl (hq_pre_o Ih36.1 (x := 97) (ci := 11) rfl (by decide) rfl rfl rfl rfl) (fun a k w => by unfold ty_Wt at w; unfold ty_Wxr; omega) (by unfold ty_Wt ty_Wxr; omega) (ct_140 (x1 := z38) (by omega) (by omega) (by omega)) ⟨⟨rfl, show ¬ ty_Wt 99 0 by unfold ty_Wt; omega⟩, ⟨rfl, show ¬ ty_Wt 99 2 by unfold ty_Wt; omega⟩, trivial⟩ (fun h40 _ Jh40 gh40 P39 => ?_)
        obtain ⟨gh40_0, gh40_1, _⟩ := gh40
        have gh40_0 : (hs_aI h40 99 0).toInt = (hs_aI h36 99 0).toInt := gh40_0
        have gh40_1 : (hs_aI h40 99 2).toInt = (hs_aI h36 99 2).toInt := gh40_1
        have Ih40 := H.1 h40 Jh40
        obtain ⟨z44, rfl, fz44⟩ := P39
        exact hq_W.ret rfl rfl rfl ⟨Jh40, _, rfl, by unfold cn_se; omega⟩
      · refine hq_p rfl rfl ?_
        refine hq_p rfl rfl (ty_ge (n := -5) nk_bm5 (fun z45 ez45 => ?_))
        refine ty_callm 0 [(1, 99, 0), (1, 99, 2)] (W := (ty_Wxr 2)) H Jh2 rfl (fun _ => rfl) rfl rfl rfl (hq_pre_o Ih2.1 (x := 97) (ci := 11) rfl (by decide) rfl rfl rfl rfl) (fun a k w => by unfold ty_Wt at w; unfold ty_Wxr; omega) (by unfold ty_Wt ty_Wxr; omega) (ct_140 (x1 := z45) (by omega) (by omega) (by omega)) ⟨⟨rfl, show ¬ ty_Wt 99 0 by unfold ty_Wt; omega⟩, ⟨rfl, show ¬ ty_Wt 99 2 by unfold ty_Wt; omega⟩, trivial⟩ (fun h47 _ Jh47 gh47 P46 => ?_)
        obtain ⟨gh47_0, gh47_1, _⟩ := gh47
        have gh47_0 : (hs_aI h47 99 0).toInt = (hs_aI h2 99 0).toInt := gh47_0
        have gh47_1 : (hs_aI h47 99 2).toInt = (hs_aI h2 99 2).toInt := gh47_1
        have Ih47 := H.1 h47 Jh47
        obtain ⟨z48, rfl, fz48⟩ := P46
        exact hq_W.ret rfl rfl rfl ⟨Jh47, _, rfl, by unfold cn_se; omega⟩
    · have yz11 := jz11 (by omega)
      clear iz11 jz11
      refine hq_p rfl rfl ?_
      refine hq_p rfl rfl (ty_ge (n := -2) nk_bm2 (fun z49 ez49 => ?_))
      have r52 : (hs_aI h2 99 2).toInt = (hs_aI h 99 2).toInt := by rw [eh2]; exact congrArg Int32.toInt (ty_aI_ne (by omega))
      refine ty_callm 0 [(1, 99, 0), (1, 99, 2)] (W := (ty_Wxr 2)) H Jh2 rfl (fun _ => rfl) rfl rfl rfl (hq_pre_o Ih2.1 (x := 97) (ci := 11) rfl (by decide) rfl rfl rfl rfl) (fun a k w => by unfold ty_Wt at w; unfold ty_Wxr; omega) (by unfold ty_Wt ty_Wxr; omega) (ct_140 (x1 := z49) (by omega) (by omega) (by omega)) ⟨⟨rfl, show ¬ ty_Wt 99 0 by unfold ty_Wt; omega⟩, ⟨rfl, show ¬ ty_Wt 99 2 by unfold ty_Wt; omega⟩, trivial⟩ (fun h51 _ Jh51 gh51 P50 => ?_)
      obtain ⟨gh51_0, gh51_1, _⟩ := gh51
      have gh51_0 : (hs_aI h51 99 0).toInt = (hs_aI h2 99 0).toInt := gh51_0
      have gh51_1 : (hs_aI h51 99 2).toInt = (hs_aI h2 99 2).toInt := gh51_1
      have Ih51 := H.1 h51 Jh51
      obtain ⟨z53, rfl, fz53⟩ := P50
      exact hq_W.ret rfl rfl rfl ⟨Jh51, _, rfl, by unfold cn_se; omega⟩
  · have yz7 := jz7 (by omega)
    clear iz7 jz7
    refine hq_p rfl rfl ?_
    refine hq_p rfl rfl (ty_ge (n := -1) nk_im1 (fun z54 ez54 => ?_))
    have r57 : (hs_aI h2 99 0).toInt = (hs_aI h 99 0).toInt := by rw [eh2]; exact congrArg Int32.toInt (ty_aI_ne (by omega))
    have r58 : (hs_aI h2 99 2).toInt = (hs_aI h 99 2).toInt := by rw [eh2]; exact congrArg Int32.toInt (ty_aI_ne (by omega))
    refine ty_callm 0 [(1, 99, 0), (1, 99, 2)] (W := (ty_Wxr 2)) H Jh2 rfl (fun _ => rfl) rfl rfl rfl (hq_pre_o Ih2.1 (x := 97) (ci := 11) rfl (by decide) rfl rfl rfl rfl) (fun a k w => by unfold ty_Wt at w; unfold ty_Wxr; omega) (by unfold ty_Wt ty_Wxr; omega) (ct_140 (x1 := z54) (by omega) (by omega) (by omega)) ⟨⟨rfl, show ¬ ty_Wt 99 0 by unfold ty_Wt; omega⟩, ⟨rfl, show ¬ ty_Wt 99 2 by unfold ty_Wt; omega⟩, trivial⟩ (fun h56 _ Jh56 gh56 P55 => ?_)
    obtain ⟨gh56_0, gh56_1, _⟩ := gh56
    have gh56_0 : (hs_aI h56 99 0).toInt = (hs_aI h2 99 0).toInt := gh56_0
    have gh56_1 : (hs_aI h56 99 2).toInt = (hs_aI h2 99 2).toInt := gh56_1
    have Ih56 := H.1 h56 Jh56
    obtain ⟨z59, rfl, fz59⟩ := P55
    exact hq_W.ret rfl rfl rfl ⟨Jh56, _, rfl, by unfold cn_se; omega⟩
theorem ct_229 {X : pm_X} {d : Nat} {h : pm_H}  (hd : 1 ≤ d)  : ty_M X (ty_Wxr 2) d 229 [.ref 97] h (fun h1 v => ∃ z : Int32, v = some (.int z) ∧ z.toInt = (hs_aI h 99 2).toInt ∧ (hs_aI h1 99 2).toInt = 0) := by
  intro J H hJ
  obtain ⟨d, rfl⟩ : ∃ e, d = e + 1 := ⟨d - 1, by omega⟩
  have I := H.1 h hJ
  obtain ⟨q2, eq2⟩ : ∃ q : Int32, q.toInt = (hs_aI h 99 2).toInt := ⟨_, rfl⟩
  have gq20 : 0 ≤ (hs_aI h 99 2).toInt := (I.2.2.2.1 99 2 (by decide) (by decide)).1
  have gq21 : (hs_aI h 99 2).toInt ≤ 6 := (I.2.2.2.1 99 2 (by decide) (by decide)).2
  refine hq_M.enter (q := (⟨"TrainBearersModel", "forget", "()I"⟩, _, 2, some .int, 11, 1, pm_c229)) rfl rfl ?_
  show hq_W X d 11 false (some .int) pm_c229 (0, [some (.ref 97), none], [], h) (fun h' v => J h' ∧ (fun h1 v => ∃ z : Int32, v = some (.int z) ∧ z.toInt = (hs_aI h 99 2).toInt ∧ (hs_aI h1 99 2).toInt = 0) h' v)
  refine hq_p rfl rfl ?_
  refine hq_p rfl rfl (ty_ge (n := 0) nk_i0 (fun z1 ez1 => ?_))
  refine ty_pI (W := (ty_Wxr 2)) H hJ rfl rfl (by decide) rfl rfl (by unfold ty_Wxr; omega) rfl (by omega) (by omega) (fun h2 eh2 Jh2 => ?_)
  have wh2 : (hs_fI h2 97 0).toInt = z1.toInt := by rw [eh2]; exact congrArg Int32.toInt (ty_fI_eq I.1 rfl (by decide) rfl)
  have Ih2 := H.1 h2 Jh2
  refine hq_p rfl rfl ?_
  refine hq_gR Ih2.1 rfl rfl (by decide) (by decide) rfl ?_
  refine hq_p rfl rfl (ty_ge (n := 2) nk_i2 (fun z3 ez3 => ?_))
  have r5 : (hs_aI h2 99 2).toInt = (hs_aI h 99 2).toInt := by rw [eh2]; exact congrArg Int32.toInt (ty_aI_ne (by omega))
  refine ty_aL Ih2 rfl rfl (by decide) (by omega) (by omega) (fun i e => ty_le (ty_w2 (by omega) (by omega))) (fun z4 ez4 az4 bz4 => ?_)
  rw [show z3.toInt.toNat = 2 by omega] at ez4
  refine hq_p (ls' := [some (.ref 97), some (.int z4)]) rfl rfl ?_
  refine hq_p rfl rfl ?_
  refine hq_gR Ih2.1 rfl rfl (by decide) (by decide) rfl ?_
  refine hq_p rfl rfl (ty_ge (n := 2) nk_i2 (fun z6 ez6 => ?_))
  refine hq_p rfl rfl (ty_ge (n := 0) nk_i0 (fun z7 ez7 => ?_))
  refine ty_aS (W := (ty_Wxr 2)) H Jh2 rfl rfl (by decide) (by omega) (by omega) (fun i e => by unfold ty_Wxr; omega) (fun i e => ty_eg (ty_w2 (by omega) (by omega))) (by omega) (by omega) (fun e1 e2 w => by omega) (fun h8 eh8 Jh8 => ?_)
  have wh8 : (hs_aI h8 99 2).toInt = z7.toInt := by rw [eh8]; exact congrArg Int32.toInt (ty_aI_eq (by omega))
  have Ih8 := H.1 h8 Jh8
  refine hq_p rfl rfl ?_
  exact hq_W.ret rfl rfl rfl ⟨Jh8, _, rfl, by omega, by omega⟩
end CT38
