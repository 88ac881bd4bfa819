/-! CONTRACTS (printed by wip/pm/cts.py) -/
section CT1
theorem ct_136 {X : pm_X} {d : Nat} {h : pm_H} {x0 : Int64} {x1 : Int64} {x2 : Int64} (hd : 1 ≤ d)  : ty_M X ty_W0 d 136 [.long x0, .long x1, .long x2] h (ty_pb (x1.toInt ≤ x0.toInt ∧ x0.toInt ≤ x2.toInt)) := by
  intro J H hJ
  obtain ⟨d, rfl⟩ : ∃ e, d = e + 1 := ⟨d - 1, by omega⟩
  have I := H.1 h hJ
  have ax0 := nm_llo x0
  have bx0 := nm_lhi x0
  have ax1 := nm_llo x1
  have bx1 := nm_lhi x1
  have ax2 := nm_llo x2
  have bx2 := nm_lhi x2
  refine hq_M.enter (q := (⟨"TrainBearersModel", "in", "(JJJ)Z"⟩, _, 6, some .boolean, 11, 3, pm_c136)) rfl rfl ?_
  show hq_W X d 11 false (some .boolean) pm_c136 (0, [some (.long x0), none, some (.long x1), none, some (.long x2), none], [], h) (fun h' v => J h' ∧ (ty_pb (x1.toInt ≤ x0.toInt ∧ x0.toInt ≤ x2.toInt)) h' v)
  refine hq_p rfl rfl ?_
  refine hq_p rfl rfl ?_
  refine hq_p rfl rfl (ty_gc (fun z1 ez1 => ?_))
  refine ty_zlt rfl (fun c2 => ?_) (fun c2 => ?_)
  · replace ez1 : x0.toInt < x1.toInt := by omega
    clear c2
    refine hq_p rfl rfl (ty_ge (n := 0) nk_i0 (fun z3 ez3 => ?_))
    exact ty_rB rfl rfl (by omega) (by omega) ⟨hJ, _, rfl, by omega, by omega, fun q => by omega⟩
  · replace ez1 : x0.toInt ≥ x1.toInt := by omega
    clear c2
    refine hq_p rfl rfl ?_
    refine hq_p rfl rfl ?_
    refine hq_p rfl rfl (ty_gc (fun z4 ez4 => ?_))
    refine ty_zgt rfl (fun c5 => ?_) (fun c5 => ?_)
    · replace ez4 : x0.toInt > x2.toInt := by omega
      clear c5
      refine hq_p rfl rfl (ty_ge (n := 0) nk_i0 (fun z6 ez6 => ?_))
      exact ty_rB rfl rfl (by omega) (by omega) ⟨hJ, _, rfl, by omega, by omega, fun q => by omega⟩
    · replace ez4 : x0.toInt ≤ x2.toInt := by omega
      clear c5
      refine hq_p rfl rfl (ty_ge (n := 1) nk_i1 (fun z7 ez7 => ?_))
      refine hq_p rfl rfl ?_
      exact ty_rB rfl rfl (by omega) (by omega) ⟨hJ, _, rfl, by omega, by omega, fun q => by omega⟩
theorem ct_137 {X : pm_X} {d : Nat} {h : pm_H} {x0 : Int32} {x1 : Int32} (hd : 1 ≤ d)  : ty_M X ty_W0 d 137 [.int x0, .int x1] h (ty_pi 0 1) := by
  intro J H hJ
  obtain ⟨d, rfl⟩ : ∃ e, d = e + 1 := ⟨d - 1, by omega⟩
  have I := H.1 h hJ
  have ax0 := nm_lo x0
  have bx0 := nm_hi x0
  have ax1 := nm_lo x1
  have bx1 := nm_hi x1
  refine hq_M.enter (q := (⟨"TrainBearersModel", "is", "(II)Z"⟩, _, 2, some .boolean, 11, 2, pm_c137)) rfl rfl ?_
  show hq_W X d 11 false (some .boolean) pm_c137 (0, [some (.int x0), some (.int x1)], [], h) (fun h' v => J h' ∧ (ty_pi 0 1) h' v)
  refine hq_p rfl rfl ?_
  refine hq_p rfl rfl ?_
  refine hq_p rfl rfl (ty_ga (fun z1 az1 bz1 => ?_))
  refine hq_p rfl rfl (ty_ge (n := 1) nk_i1 (fun z2 ez2 => ?_))
  refine hq_p rfl rfl (ty_gb (c := z1 &&& z2) (lo := 0) (hi := 1) (by have q := nm_and_r (x := z1) (y := z2) (by omega); omega) (fun z3 az3 bz3 => ?_))
  refine hq_p rfl rfl (ty_ge (n := 1) nk_i1 (fun z4 ez4 => ?_))
  refine ty_ine rfl (fun c5 => ?_) (fun c5 => ?_)
  · replace c5 : 0 ≤ z3.toInt ∧ z3.toInt ≤ 0 := by omega
    refine hq_p rfl rfl (ty_ge (n := 0) nk_i0 (fun z6 ez6 => ?_))
    exact ty_rB rfl rfl (by omega) (by omega) ⟨hJ, _, rfl, by omega, by omega⟩
  · refine hq_p rfl rfl (ty_ge (n := 1) nk_i1 (fun z7 ez7 => ?_))
    refine hq_p rfl rfl ?_
    exact ty_rB rfl rfl (by omega) (by omega) ⟨hJ, _, rfl, by omega, by omega⟩
theorem ct_138 {X : pm_X} {d : Nat} {h : pm_H} {x0 : Int32} (hd : 1 ≤ d)  : ty_M X ty_W0 d 138 [.int x0] h (ty_pi (-2147483648) 2147483647) := by
  intro J H hJ
  obtain ⟨d, rfl⟩ : ∃ e, d = e + 1 := ⟨d - 1, by omega⟩
  have I := H.1 h hJ
  have ax0 := nm_lo x0
  have bx0 := nm_hi x0
  refine hq_M.enter (q := (⟨"TrainBearersModel", "ones", "(I)I"⟩, _, 3, some .int, 11, 1, pm_c138)) rfl rfl ?_
  show hq_W X d 11 false (some .int) pm_c138 (0, [some (.int x0), none, none], [], h) (fun h' v => J h' ∧ (ty_pi (-2147483648) 2147483647) h' v)
  refine hq_p rfl rfl (ty_ge (n := 0) nk_i0 (fun z1 ez1 => ?_))
  refine hq_p (ls' := [some (.int x0), some (.int z1), none]) rfl rfl ?_
  refine hq_p rfl rfl (ty_ge (n := 0) nk_i0 (fun z2 ez2 => ?_))
  refine hq_p (ls' := [some (.int x0), some (.int z1), some (.int z2)]) rfl rfl ?_
  have L4_n107 : ∀ n107 : Nat, ∀ (y103 : Int32) (y104 : Int32), (8 - y104.toInt).toNat = n107 → -2147483648 ≤ y103.toInt → y103.toInt ≤ 2147483647 → 0 ≤ y104.toInt → y104.toInt ≤ 8 → hq_W X d 11 false (some .int) pm_c138 (4, [some (.int x0), some (.int y103), some (.int y104)], [], h) (fun h' v => J h' ∧ (ty_pi (-2147483648) 2147483647) h' v) := by
    intro n107
    induction n107 using Nat.strongRecOn with
    | ind n107 ihn107 =>
      intro y103 y104 mn107 ay103 by103 ay104 by104
      refine hq_p rfl rfl ?_
      refine hq_p rfl rfl (ty_ge (n := 8) nk_b8 (fun z108 ez108 => ?_))
      refine ty_ige rfl (fun c109 => ?_) (fun c109 => ?_)
      · refine hq_p rfl rfl ?_
        exact hq_W.ret rfl rfl rfl ⟨hJ, _, rfl, by omega, by omega⟩
      · refine hq_p rfl rfl ?_
        refine hq_p rfl rfl ?_
        refine hq_p rfl rfl ?_
        refine hq_p rfl rfl (ty_ga (fun z110 az110 bz110 => ?_))
        refine hq_p rfl rfl (ty_ge (n := 1) nk_i1 (fun z111 ez111 => ?_))
        refine hq_p rfl rfl (ty_gb (c := z110 &&& z111) (lo := 0) (hi := 1) (by have q := nm_and_r (x := z110) (y := z111) (by omega); omega) (fun z112 az112 bz112 => ?_))
        refine hq_p rfl rfl (ty_ga (fun z113 az113 bz113 => ?_))
        refine hq_p (ls' := [some (.int x0), some (.int z113), some (.int y104)]) rfl rfl ?_
        refine ty_inc (ls' := fun z114 => [some (.int x0), some (.int z113), some (.int z114)]) rfl rfl (fun _ => rfl) (nm_addc nk_i1 (by omega) (by omega)) (fun z114 ez114 => ?_)
        refine hq_p rfl rfl ?_
        exact ihn107 ((8 - z114.toInt).toNat) (by omega) z113 z114 rfl (by omega) (by omega) (by omega) (by omega)
  exact L4_n107 _ z1 z2 rfl (by omega) (by omega) (by omega) (by omega)
theorem ct_139 {X : pm_X} {d : Nat} {h : pm_H} {x0 : Int64} {x1 : Int32} {x2 : Int32} (hd : 1 ≤ d) (ax1 : 0 ≤ x1.toInt) (bx1 : x1.toInt ≤ 0) (ax2 : 0 ≤ x2.toInt) (bx2 : x2.toInt ≤ 10000) : ty_M X ty_W0 d 139 [.long x0, .int x1, .int x2] h (fun _ v => ∃ z : Int32, v = some (.int z) ∧ (0 ≤ z.toInt ∧ z.toInt ≤ x2.toInt)) := by
  intro J H hJ
  obtain ⟨d, rfl⟩ : ∃ e, d = e + 1 := ⟨d - 1, by omega⟩
  have I := H.1 h hJ
  have ax0 := nm_llo x0
  have bx0 := nm_lhi x0
  refine hq_M.enter (q := (⟨"TrainBearersModel", "within", "(JII)I"⟩, _, 4, some .int, 11, 3, pm_c139)) rfl rfl ?_
  show hq_W X d 11 false (some .int) pm_c139 (0, [some (.long x0), none, some (.int x1), some (.int x2)], [], h) (fun h' v => J h' ∧ (fun _ v => ∃ z : Int32, v = some (.int z) ∧ (0 ≤ z.toInt ∧ z.toInt ≤ x2.toInt)) h' v)
  refine hq_p rfl rfl ?_
  refine hq_p rfl rfl ?_
  refine hq_p rfl rfl (ty_gle (n := x1.toInt) (nm_i2l _) (fun z1 ez1 => ?_))
  refine hq_p rfl rfl (ty_gc (fun z2 ez2 => ?_))
  refine ty_zge rfl (fun c3 => ?_) (fun c3 => ?_)
  · replace ez2 : x0.toInt ≥ z1.toInt := by omega
    clear c3
    refine hq_p rfl rfl ?_
    refine hq_p rfl rfl ?_
    refine hq_p rfl rfl (ty_gle (n := x2.toInt) (nm_i2l _) (fun z4 ez4 => ?_))
    refine hq_p rfl rfl (ty_gc (fun z5 ez5 => ?_))
    refine ty_zle rfl (fun c6 => ?_) (fun c6 => ?_)
    · replace ez5 : x0.toInt ≤ z4.toInt := by omega
      clear c6
      refine hq_p rfl rfl ?_
      refine hq_p rfl rfl (ty_ge (n := x0.toInt) (nm_l2i (by omega) (by omega)) (fun z7 ez7 => ?_))
      exact hq_W.ret rfl rfl rfl ⟨hJ, _, rfl, by omega⟩
    · replace ez5 : x0.toInt > z4.toInt := by omega
      clear c6
      refine hq_p rfl rfl ?_
      refine hq_p rfl rfl ?_
      exact hq_W.ret rfl rfl rfl ⟨hJ, _, rfl, by omega⟩
  · replace ez2 : x0.toInt < z1.toInt := by omega
    clear c3
    refine hq_p rfl rfl ?_
    refine hq_p rfl rfl ?_
    exact hq_W.ret rfl rfl rfl ⟨hJ, _, rfl, by omega⟩
theorem ct_140 {X : pm_X} {d : Nat} {h : pm_H} {x1 : Int32} (hd : 1 ≤ d) (ax1 : (-6) ≤ x1.toInt) (bx1 : x1.toInt ≤ 2147483647) : ty_M X ty_Wt d 140 [.ref 97, .int x1] h (fun _ v => ∃ z : Int32, v = some (.int z) ∧ (z.toInt = x1.toInt)) := by
  intro J H hJ
  obtain ⟨d, rfl⟩ : ∃ e, d = e + 1 := ⟨d - 1, by omega⟩
  have I := H.1 h hJ
  refine hq_M.enter (q := (⟨"TrainBearersModel", "tell", "(I)I"⟩, _, 2, some .int, 11, 2, pm_c140)) rfl rfl ?_
  show hq_W X d 11 false (some .int) pm_c140 (0, [some (.ref 97), some (.int x1)], [], h) (fun h' v => J h' ∧ (fun _ v => ∃ z : Int32, v = some (.int z) ∧ (z.toInt = x1.toInt)) h' v)
  refine hq_p rfl rfl ?_
  refine hq_p rfl rfl ?_
  refine ty_zge rfl (fun c1 => ?_) (fun c1 => ?_)
  · refine hq_p rfl rfl (ty_ge (n := 0) nk_i0 (fun z2 ez2 => ?_))
    refine ty_pI (W := ty_Wt) H hJ rfl rfl (by decide) rfl rfl (by unfold ty_Wt; omega) rfl (by omega) (by omega) (fun h3 eh3 Jh3 => ?_)
    have wh3 : (hs_fI h3 97 1).toInt = z2.toInt := by rw [eh3]; exact congrArg Int32.toInt (ty_fI_eq I.1 rfl (by decide) rfl)
    have Ih3 := H.1 h3 Jh3
    refine hq_p rfl rfl ?_
    refine ty_zge rfl (fun c4 => ?_) (fun c4 => ?_)
    · refine hq_p rfl rfl ?_
      exact hq_W.ret rfl rfl rfl ⟨Jh3, _, rfl, by omega⟩
    · exfalso; omega
  · refine hq_p rfl rfl ?_
    refine hq_p rfl rfl ?_
    refine ty_pI (W := ty_Wt) H hJ rfl rfl (by decide) rfl rfl (by unfold ty_Wt; omega) rfl (by omega) (by omega) (fun h5 eh5 Jh5 => ?_)
    have wh5 : (hs_fI h5 97 1).toInt = x1.toInt := by rw [eh5]; exact congrArg Int32.toInt (ty_fI_eq I.1 rfl (by decide) rfl)
    have Ih5 := H.1 h5 Jh5
    refine hq_p rfl rfl ?_
    refine ty_zge rfl (fun c6 => ?_) (fun c6 => ?_)
    · exfalso; omega
    · refine hq_p rfl rfl ?_
      refine hq_gR Ih5.1 rfl rfl (by decide) (by decide) rfl ?_
      refine hq_p rfl rfl ?_
      refine hq_p rfl rfl (ty_ge (n := -x1.toInt) (nm_neg (by omega)) (fun z7 ez7 => ?_))
      refine hq_p rfl rfl ?_
      refine ty_aL Ih5 rfl rfl (by decide) (by omega) (by omega) (fun _ _ => ty_le rfl) (fun z8 ez8 az8 bz8 => ?_)
      refine hq_p rfl rfl (ty_ge (n := 1) nk_i1 (fun z9 ez9 => ?_))
      refine hq_p rfl rfl (ty_ga (fun z10 az10 bz10 => ?_))
      refine ty_aS (W := ty_Wt) H Jh5 rfl rfl (by decide) (by omega) (by omega) (fun i e => by unfold ty_Wt; omega) (fun _ _ => ty_eg rfl) (by omega) (by omega) (fun e1 e2 w => by omega) (fun h11 eh11 Jh11 => ?_)
      have Ih11 := H.1 h11 Jh11
      refine hq_p rfl rfl ?_
      exact hq_W.ret rfl rfl rfl ⟨Jh11, _, rfl, by omega⟩
theorem ct_141a {X : pm_X} {d : Nat} {h : pm_H} {x1 : Int32} {x2 : Int32} (hd : 1 ≤ d) (ax1 : 4 ≤ x1.toInt) (bx1 : x1.toInt ≤ 4) (ax2 : (-1) ≤ x2.toInt) (bx2 : x2.toInt ≤ 5) : ty_M X ty_Wx d 141 [.ref 97, .int x1, .int x2] h (ty_pi (-1) 5) := by
  intro J H hJ
  obtain ⟨d, rfl⟩ : ∃ e, d = e + 1 := ⟨d - 1, by omega⟩
  have I := H.1 h hJ
  refine hq_M.enter (q := (⟨"TrainBearersModel", "change", "(II)I"⟩, _, 4, some .int, 11, 3, pm_c141)) rfl rfl ?_
  show hq_W X d 11 false (some .int) pm_c141 (0, [some (.ref 97), some (.int x1), some (.int x2), none], [], h) (fun h' v => J h' ∧ (ty_pi (-1) 5) h' v)
  refine hq_p rfl rfl ?_
  refine hq_gR I.1 rfl rfl (by decide) (by decide) rfl ?_
  refine hq_p rfl rfl ?_
  refine ty_aL I rfl rfl (by decide) (by omega) (by omega) (fun i e => ty_le (ty_w4 (by omega) (by omega))) (fun z1 ez1 az1 bz1 => ?_)
  rw [show x1.toInt.toNat = 4 by omega] at ez1
  refine hq_p (ls' := [some (.ref 97), some (.int x1), some (.int x2), some (.int z1)]) rfl rfl ?_
  refine hq_p rfl rfl ?_
  refine hq_gR I.1 rfl rfl (by decide) (by decide) rfl ?_
  refine hq_p rfl rfl ?_
  refine hq_p rfl rfl ?_
  refine ty_aS (W := ty_Wx) H hJ rfl rfl (by decide) (by omega) (by omega) (fun i e => by unfold ty_Wx; omega) (fun i e => ty_eg (ty_w4 (by omega) (by omega))) (by omega) (by omega) (fun e1 e2 w => by omega) (fun h2 eh2 Jh2 => ?_)
  have Ih2 := H.1 h2 Jh2
  refine hq_p rfl rfl ?_
  refine hq_p rfl rfl (ty_ge (n := 0) nk_i0 (fun z3 ez3 => ?_))
  refine ty_pI (W := ty_Wx) H Jh2 rfl rfl (by decide) rfl rfl (by unfold ty_Wx; omega) rfl (by omega) (by omega) (fun h4 eh4 Jh4 => ?_)
  have wh4 : (hs_fI h4 97 1).toInt = z3.toInt := by rw [eh4]; exact congrArg Int32.toInt (ty_fI_eq Ih2.1 rfl (by decide) rfl)
  have Ih4 := H.1 h4 Jh4
  refine hq_p rfl rfl ?_
  exact hq_W.ret rfl rfl rfl ⟨Jh4, _, rfl, by omega, by omega⟩
theorem ct_141b {X : pm_X} {d : Nat} {h : pm_H} {x1 : Int32} {x2 : Int32} (hd : 1 ≤ d) (ax1 : 6 ≤ x1.toInt) (bx1 : x1.toInt ≤ 7) : ty_M X ty_Wx d 141 [.ref 97, .int x1, .int x2] h (ty_pi (-2147483648) 2147483647) := by
  intro J H hJ
  obtain ⟨d, rfl⟩ : ∃ e, d = e + 1 := ⟨d - 1, by omega⟩
  have I := H.1 h hJ
  have ax2 := nm_lo x2
  have bx2 := nm_hi x2
  refine hq_M.enter (q := (⟨"TrainBearersModel", "change", "(II)I"⟩, _, 4, some .int, 11, 3, pm_c141)) rfl rfl ?_
  show hq_W X d 11 false (some .int) pm_c141 (0, [some (.ref 97), some (.int x1), some (.int x2), none], [], h) (fun h' v => J h' ∧ (ty_pi (-2147483648) 2147483647) h' v)
  refine hq_p rfl rfl ?_
  refine hq_gR I.1 rfl rfl (by decide) (by decide) rfl ?_
  refine hq_p rfl rfl ?_
  refine ty_aL I rfl rfl (by decide) (by omega) (by omega) (fun i e => ty_le (ty_w6 (by omega) (by omega))) (fun z1 ez1 az1 bz1 => ?_)
  refine hq_p (ls' := [some (.ref 97), some (.int x1), some (.int x2), some (.int z1)]) rfl rfl ?_
  refine hq_p rfl rfl ?_
  refine hq_gR I.1 rfl rfl (by decide) (by decide) rfl ?_
  refine hq_p rfl rfl ?_
  refine hq_p rfl rfl ?_
  refine ty_aS (W := ty_Wx) H hJ rfl rfl (by decide) (by omega) (by omega) (fun i e => by unfold ty_Wx; omega) (fun i e => ty_eg (ty_w6 (by omega) (by omega))) (by omega) (by omega) (fun e1 e2 w => by omega) (fun h2 eh2 Jh2 => ?_)
  have Ih2 := H.1 h2 Jh2
  refine hq_p rfl rfl ?_
  refine hq_p rfl rfl (ty_ge (n := 0) nk_i0 (fun z3 ez3 => ?_))
  refine ty_pI (W := ty_Wx) H Jh2 rfl rfl (by decide) rfl rfl (by unfold ty_Wx; omega) rfl (by omega) (by omega) (fun h4 eh4 Jh4 => ?_)
  have wh4 : (hs_fI h4 97 1).toInt = z3.toInt := by rw [eh4]; exact congrArg Int32.toInt (ty_fI_eq Ih2.1 rfl (by decide) rfl)
  have Ih4 := H.1 h4 Jh4
  refine hq_p rfl rfl ?_
  exact hq_W.ret rfl rfl rfl ⟨Jh4, _, rfl, by omega, by omega⟩
theorem ct_141c {X : pm_X} {d : Nat} {h : pm_H} {x1 : Int32} {x2 : Int32} (hd : 1 ≤ d) (ax1 : 5 ≤ x1.toInt) (bx1 : x1.toInt ≤ 5) (ax2 : 0 ≤ x2.toInt) (bx2 : x2.toInt ≤ 999) : ty_M X ty_Wz d 141 [.ref 97, .int x1, .int x2] h (ty_pi 0 1020) := by
  intro J H hJ
  obtain ⟨d, rfl⟩ : ∃ e, d = e + 1 := ⟨d - 1, by omega⟩
  have I := H.1 h hJ
  refine hq_M.enter (q := (⟨"TrainBearersModel", "change", "(II)I"⟩, _, 4, some .int, 11, 3, pm_c141)) rfl rfl ?_
  show hq_W X d 11 false (some .int) pm_c141 (0, [some (.ref 97), some (.int x1), some (.int x2), none], [], h) (fun h' v => J h' ∧ (ty_pi 0 1020) h' v)
  refine hq_p rfl rfl ?_
  refine hq_gR I.1 rfl rfl (by decide) (by decide) rfl ?_
  refine hq_p rfl rfl ?_
  refine ty_aL I rfl rfl (by decide) (by omega) (by omega) (fun i e => ty_le (ty_w5 (by omega) (by omega))) (fun z1 ez1 az1 bz1 => ?_)
  rw [show x1.toInt.toNat = 5 by omega] at ez1
  refine hq_p (ls' := [some (.ref 97), some (.int x1), some (.int x2), some (.int z1)]) rfl rfl ?_
  refine hq_p rfl rfl ?_
  refine hq_gR I.1 rfl rfl (by decide) (by decide) rfl ?_
  refine hq_p rfl rfl ?_
  refine hq_p rfl rfl ?_
  refine ty_aS (W := ty_Wz) H hJ rfl rfl (by decide) (by omega) (by omega) (fun i e => by unfold ty_Wz; omega) (fun i e => ty_eg (ty_w5 (by omega) (by omega))) (by omega) (by omega) (fun e1 e2 w => by omega) (fun h2 eh2 Jh2 => ?_)
  have Ih2 := H.1 h2 Jh2
  refine hq_p rfl rfl ?_
  refine hq_p rfl rfl (ty_ge (n := 0) nk_i0 (fun z3 ez3 => ?_))
  refine ty_pI (W := ty_Wz) H Jh2 rfl rfl (by decide) rfl rfl (by unfold ty_Wz; omega) rfl (by omega) (by omega) (fun h4 eh4 Jh4 => ?_)
  have wh4 : (hs_fI h4 97 1).toInt = z3.toInt := by rw [eh4]; exact congrArg Int32.toInt (ty_fI_eq Ih2.1 rfl (by decide) rfl)
  have Ih4 := H.1 h4 Jh4
  refine hq_p rfl rfl ?_
  exact hq_W.ret rfl rfl rfl ⟨Jh4, _, rfl, by omega, by omega⟩
theorem ct_142 {X : pm_X} {d : Nat} {h : pm_H} {x1 : Int32} (hd : 2 ≤ d) (ax1 : (-6) ≤ x1.toInt) (bx1 : x1.toInt ≤ 2147483647) : ty_M X ty_Wx d 142 [.ref 97, .int x1] h (fun _ v => ∃ z : Int32, v = some (.int z) ∧ (z.toInt = x1.toInt)) := by
  intro J H hJ
  obtain ⟨d, rfl⟩ : ∃ e, d = e + 1 := ⟨d - 1, by omega⟩
  have I := H.1 h hJ
  refine hq_M.enter (q := (⟨"TrainBearersModel", "settled", "(I)I"⟩, _, 2, some .int, 11, 2, pm_c142)) rfl rfl ?_
  show hq_W X d 11 false (some .int) pm_c142 (0, [some (.ref 97), some (.int x1)], [], h) (fun h' v => J h' ∧ (fun _ v => ∃ z : Int32, v = some (.int z) ∧ (z.toInt = x1.toInt)) h' v)
  refine hq_p rfl rfl ?_
  refine hq_p rfl rfl ?_
  refine ty_zge rfl (fun c1 => ?_) (fun c1 => ?_)
  · refine hq_p rfl rfl (ty_ge (n := 0) nk_i0 (fun z2 ez2 => ?_))
    refine ty_pI (W := ty_Wx) H hJ rfl rfl (by decide) rfl rfl (by unfold ty_Wx; omega) rfl (by omega) (by omega) (fun h3 eh3 Jh3 => ?_)
    have wh3 : (hs_fI h3 97 8).toInt = z2.toInt := by rw [eh3]; exact congrArg Int32.toInt (ty_fI_eq I.1 rfl (by decide) rfl)
    have Ih3 := H.1 h3 Jh3
    refine hq_p rfl rfl ?_
    refine hq_p rfl rfl ?_
    refine ty_callj 0 (W := ty_Wx) H Jh3 rfl (fun _ => rfl) rfl rfl rfl (hq_pre_o Ih3.1 (x := 97) (ci := 11) rfl (by decide) rfl rfl rfl rfl) (fun a k w => by unfold ty_Wt at w; unfold ty_Wx; omega) (by unfold ty_Wt ty_Wx; omega) (ct_140 (x1 := x1) (by omega) (by omega) (by omega)) (fun h5 _ Jh5 P4 => ?_)
    have Ih5 := H.1 h5 Jh5
    obtain ⟨z6, rfl, fz6⟩ := P4
    exact hq_W.ret rfl rfl rfl ⟨Jh5, _, rfl, by omega⟩
  · refine hq_p rfl rfl ?_
    refine ty_gI I rfl rfl (by decide) (by decide) rfl rfl (fun z7 ez7 az7 bz7 => ?_)
    refine hq_p rfl rfl ?_
    refine ty_pI (W := ty_Wx) H hJ rfl rfl (by decide) rfl rfl (by unfold ty_Wx; omega) rfl (by omega) (by omega) (fun h8 eh8 Jh8 => ?_)
    have wh8 : (hs_fI h8 97 8).toInt = z7.toInt := by rw [eh8]; exact congrArg Int32.toInt (ty_fI_eq I.1 rfl (by decide) rfl)
    have Ih8 := H.1 h8 Jh8
    refine hq_p rfl rfl ?_
    refine hq_p rfl rfl ?_
    refine ty_callj 0 (W := ty_Wx) H Jh8 rfl (fun _ => rfl) rfl rfl rfl (hq_pre_o Ih8.1 (x := 97) (ci := 11) rfl (by decide) rfl rfl rfl rfl) (fun a k w => by unfold ty_Wt at w; unfold ty_Wx; omega) (by unfold ty_Wt ty_Wx; omega) (ct_140 (x1 := x1) (by omega) (by omega) (by omega)) (fun h10 _ Jh10 P9 => ?_)
    have Ih10 := H.1 h10 Jh10
    obtain ⟨z11, rfl, fz11⟩ := P9
    exact hq_W.ret rfl rfl rfl ⟨Jh10, _, rfl, by omega⟩
theorem ct_149 {X : pm_X} {d : Nat} {h : pm_H} {x1 : Int32} (hd : 2 ≤ d)  : ty_M X ty_W0 d 149 [.ref 97, .int x1] h (ty_pb (0 ≤ x1.toInt ∧ x1.toInt ≤ 7)) := by
  intro J H hJ
  obtain ⟨d, rfl⟩ : ∃ e, d = e + 1 := ⟨d - 1, by omega⟩
  have I := H.1 h hJ
  have ax1 := nm_lo x1
  have bx1 := nm_hi x1
  refine hq_M.enter (q := (⟨"TrainBearersModel", "isYard", "(I)Z"⟩, _, 2, some .boolean, 11, 2, pm_c149)) rfl rfl ?_
  show hq_W X d 11 false (some .boolean) pm_c149 (0, [some (.ref 97), some (.int x1)], [], h) (fun h' v => J h' ∧ (ty_pb (0 ≤ x1.toInt ∧ x1.toInt ≤ 7)) h' v)
  refine hq_p rfl rfl ?_
  refine hq_p rfl rfl (ty_gle (n := x1.toInt) (nm_i2l _) (fun z1 ez1 => ?_))
  refine hq_p rfl rfl (ty_gle (n := 0) (by decide) (fun z2 ez2 => ?_))
  refine hq_p rfl rfl ?_
  refine hq_gR I.1 rfl rfl (by decide) (by decide) rfl ?_
  refine hq_p rfl rfl (ty_ge (n := 0) nk_i0 (fun z3 ez3 => ?_))
  refine ty_aL I rfl rfl (by decide) (by omega) (by omega) (fun i e => ty_le (ty_w0 (by omega) (by omega))) (fun z4 ez4 az4 bz4 => ?_)
  rw [show z3.toInt.toNat = 0 by omega] at ez4
  refine hq_p rfl rfl (ty_gle (n := z4.toInt) (nm_i2l _) (fun z5 ez5 => ?_))
  refine hq_p rfl rfl (ty_gle (n := 1) (by decide) (fun z6 ez6 => ?_))
  refine hq_p rfl rfl (ty_gle (n := z5.toInt - z6.toInt) (nm_lsub (by omega) (by omega)) (fun z7 ez7 => ?_))
  refine ty_callp 1 I rfl (fun _ => rfl) rfl rfl rfl rfl (ct_136 (x0 := z1) (x1 := z2) (x2 := z7) (by omega)) (fun _ P8 => ?_)
  obtain ⟨z9, rfl, az9, bz9, iz9⟩ := P8
  exact ty_rB rfl rfl (by omega) (by omega) ⟨hJ, _, rfl, by omega, by omega, fun q => by omega⟩
theorem ct_150 {X : pm_X} {d : Nat} {h : pm_H} {x1 : Int32} (hd : 2 ≤ d)  : ty_M X ty_W0 d 150 [.ref 97, .int x1] h (ty_pb (0 ≤ x1.toInt ∧ x1.toInt ≤ 7)) := by
  intro J H hJ
  obtain ⟨d, rfl⟩ : ∃ e, d = e + 1 := ⟨d - 1, by omega⟩
  have I := H.1 h hJ
  have ax1 := nm_lo x1
  have bx1 := nm_hi x1
  refine hq_M.enter (q := (⟨"TrainBearersModel", "isGirl", "(I)Z"⟩, _, 2, some .boolean, 11, 2, pm_c150)) rfl rfl ?_
  show hq_W X d 11 false (some .boolean) pm_c150 (0, [some (.ref 97), some (.int x1)], [], h) (fun h' v => J h' ∧ (ty_pb (0 ≤ x1.toInt ∧ x1.toInt ≤ 7)) h' v)
  refine hq_p rfl rfl ?_
  refine hq_p rfl rfl (ty_gle (n := x1.toInt) (nm_i2l _) (fun z1 ez1 => ?_))
  refine hq_p rfl rfl (ty_gle (n := 0) (by decide) (fun z2 ez2 => ?_))
  refine hq_p rfl rfl ?_
  refine hq_gR I.1 rfl rfl (by decide) (by decide) rfl ?_
  refine hq_p rfl rfl (ty_ge (n := 1) nk_i1 (fun z3 ez3 => ?_))
  refine ty_aL I rfl rfl (by decide) (by omega) (by omega) (fun i e => ty_le (ty_w0 (by omega) (by omega))) (fun z4 ez4 az4 bz4 => ?_)
  rw [show z3.toInt.toNat = 1 by omega] at ez4
  refine hq_p rfl rfl (ty_gle (n := z4.toInt) (nm_i2l _) (fun z5 ez5 => ?_))
  refine hq_p rfl rfl (ty_gle (n := 1) (by decide) (fun z6 ez6 => ?_))
  refine hq_p rfl rfl (ty_gle (n := z5.toInt - z6.toInt) (nm_lsub (by omega) (by omega)) (fun z7 ez7 => ?_))
  refine ty_callp 1 I rfl (fun _ => rfl) rfl rfl rfl rfl (ct_136 (x0 := z1) (x1 := z2) (x2 := z7) (by omega)) (fun _ P8 => ?_)
  obtain ⟨z9, rfl, az9, bz9, iz9⟩ := P8
  exact ty_rB rfl rfl (by omega) (by omega) ⟨hJ, _, rfl, by omega, by omega, fun q => by omega⟩
theorem ct_151 {X : pm_X} {d : Nat} {h : pm_H} {x0 : Int32} (hd : 2 ≤ d)  : ty_M X ty_W0 d 151 [.int x0] h (ty_pb (0 ≤ x0.toInt ∧ x0.toInt ≤ 5)) := by
  intro J H hJ
  obtain ⟨d, rfl⟩ : ∃ e, d = e + 1 := ⟨d - 1, by omega⟩
  have I := H.1 h hJ
  have ax0 := nm_lo x0
  have bx0 := nm_hi x0
  refine hq_M.enter (q := (⟨"TrainBearersModel", "isPlace", "(I)Z"⟩, _, 1, some .boolean, 11, 1, pm_c151)) rfl rfl ?_
  show hq_W X d 11 false (some .boolean) pm_c151 (0, [some (.int x0)], [], h) (fun h' v => J h' ∧ (ty_pb (0 ≤ x0.toInt ∧ x0.toInt ≤ 5)) h' v)
  refine hq_p rfl rfl ?_
  refine hq_p rfl rfl (ty_gle (n := x0.toInt) (nm_i2l _) (fun z1 ez1 => ?_))
  refine hq_p rfl rfl (ty_gle (n := 0) (by decide) (fun z2 ez2 => ?_))
  refine hq_p rfl rfl (ty_gle (n := 5) (by decide) (fun z3 ez3 => ?_))
  refine ty_callp 1 I rfl (fun _ => rfl) rfl rfl rfl rfl (ct_136 (x0 := z1) (x1 := z2) (x2 := z3) (by omega)) (fun _ P4 => ?_)
  obtain ⟨z5, rfl, az5, bz5, iz5⟩ := P4
  exact ty_rB rfl rfl (by omega) (by omega) ⟨hJ, _, rfl, by omega, by omega, fun q => by omega⟩
theorem ct_197 {X : pm_X} {d : Nat} {h : pm_H} {x1 : Int32} (hd : 2 ≤ d)  : ty_M X ty_W0 d 197 [.ref 97, .int x1] h (ty_pb (-1 ≤ x1.toInt ∧ x1.toInt ≤ 5)) := by
  intro J H hJ
  obtain ⟨d, rfl⟩ : ∃ e, d = e + 1 := ⟨d - 1, by omega⟩
  have I := H.1 h hJ
  have ax1 := nm_lo x1
  have bx1 := nm_hi x1
  refine hq_M.enter (q := (⟨"TrainBearersModel", "isLaw", "(I)Z"⟩, _, 2, some .boolean, 11, 2, pm_c197)) rfl rfl ?_
  show hq_W X d 11 false (some .boolean) pm_c197 (0, [some (.ref 97), some (.int x1)], [], h) (fun h' v => J h' ∧ (ty_pb (-1 ≤ x1.toInt ∧ x1.toInt ≤ 5)) h' v)
  refine hq_p rfl rfl ?_
  refine hq_p rfl rfl (ty_ge (n := -1) nk_im1 (fun z1 ez1 => ?_))
  refine ty_ieq rfl (fun c2 => ?_) (fun c2 => ?_)
  · refine hq_p rfl rfl (ty_ge (n := 1) nk_i1 (fun z3 ez3 => ?_))
    refine hq_p rfl rfl ?_
    exact ty_rB rfl rfl (by omega) (by omega) ⟨hJ, _, rfl, by omega, by omega, fun q => by omega⟩
  · clear c2
    refine hq_p rfl rfl ?_
    refine hq_p rfl rfl (ty_gle (n := x1.toInt) (nm_i2l _) (fun z4 ez4 => ?_))
    refine hq_p rfl rfl (ty_gle (n := 0) (by decide) (fun z5 ez5 => ?_))
    refine hq_p rfl rfl ?_
    refine hq_gR I.1 rfl rfl (by decide) (by decide) rfl ?_
    refine hq_p rfl rfl (ty_ge (n := 3) nk_i3 (fun z6 ez6 => ?_))
    refine ty_aL I rfl rfl (by decide) (by omega) (by omega) (fun i e => ty_le (ty_w2 (by omega) (by omega))) (fun z7 ez7 az7 bz7 => ?_)
    rw [show z6.toInt.toNat = 3 by omega] at ez7
    refine hq_p rfl rfl (ty_gle (n := z7.toInt) (nm_i2l _) (fun z8 ez8 => ?_))
    refine hq_p rfl rfl (ty_gle (n := 1) (by decide) (fun z9 ez9 => ?_))
    refine hq_p rfl rfl (ty_gle (n := z8.toInt - z9.toInt) (nm_lsub (by omega) (by omega)) (fun z10 ez10 => ?_))
    refine ty_callp 1 I rfl (fun _ => rfl) rfl rfl rfl rfl (ct_136 (x0 := z4) (x1 := z5) (x2 := z10) (by omega)) (fun _ P11 => ?_)
    obtain ⟨z12, rfl, az12, bz12, iz12⟩ := P11
    refine ty_zeq rfl (fun c13 => ?_) (fun c13 => ?_)
    · clear iz12
      refine hq_p rfl rfl (ty_ge (n := 0) nk_i0 (fun z14 ez14 => ?_))
      exact ty_rB rfl rfl (by omega) (by omega) ⟨hJ, _, rfl, by omega, by omega, fun q => by omega⟩
    · replace c13 : 1 ≤ z12.toInt ∧ z12.toInt ≤ 1 := by omega
      have f15 := iz12 (by omega)
      clear iz12
      refine hq_p rfl rfl (ty_ge (n := 1) nk_i1 (fun z16 ez16 => ?_))
      refine hq_p rfl rfl ?_
      exact ty_rB rfl rfl (by omega) (by omega) ⟨hJ, _, rfl, by omega, by omega, fun q => by omega⟩
theorem ct_152 {X : pm_X} {d : Nat} {h : pm_H} {x1 : Int32} (hd : 1 ≤ d)  : ty_M X ty_W0 d 152 [.ref 97, .int x1] h (ty_pi (-2147483648) 2147483647) := by
  intro J H hJ
  obtain ⟨d, rfl⟩ : ∃ e, d = e + 1 := ⟨d - 1, by omega⟩
  have I := H.1 h hJ
  have ax1 := nm_lo x1
  have bx1 := nm_hi x1
  refine hq_M.enter (q := (⟨"TrainBearersModel", "holders", "(I)I"⟩, _, 4, some .int, 11, 2, pm_c152)) rfl rfl ?_
  show hq_W X d 11 false (some .int) pm_c152 (0, [some (.ref 97), some (.int x1), none, none], [], h) (fun h' v => J h' ∧ (ty_pi (-2147483648) 2147483647) h' v)
  refine hq_p rfl rfl (ty_ge (n := 0) nk_i0 (fun z1 ez1 => ?_))
  refine hq_p (ls' := [some (.ref 97), some (.int x1), some (.int z1), none]) rfl rfl ?_
  refine hq_p rfl rfl (ty_ge (n := 0) nk_i0 (fun z2 ez2 => ?_))
  refine hq_p (ls' := [some (.ref 97), some (.int x1), some (.int z1), some (.int z2)]) rfl rfl ?_
  have L4_n25 : ∀ n25 : Nat, ∀ (y21 : Int32) (y22 : Int32), (8 - y22.toInt).toNat = n25 → -2147483648 ≤ y21.toInt → y21.toInt ≤ 2147483647 → 0 ≤ y22.toInt → y22.toInt ≤ 8 → hq_W X d 11 false (some .int) pm_c152 (4, [some (.ref 97), some (.int x1), some (.int y21), some (.int y22)], [], h) (fun h' v => J h' ∧ (ty_pi (-2147483648) 2147483647) h' v) := by
    intro n25
    induction n25 using Nat.strongRecOn with
    | ind n25 ihn25 =>
      intro y21 y22 mn25 ay21 by21 ay22 by22
      refine hq_p rfl rfl ?_
      refine hq_p rfl rfl ?_
      refine hq_gR I.1 rfl rfl (by decide) (by decide) rfl ?_
      refine hq_p rfl rfl (ty_ge (n := 1) nk_i1 (fun z26 ez26 => ?_))
      refine ty_aL I rfl rfl (by decide) (by omega) (by omega) (fun i e => ty_le (ty_w0 (by omega) (by omega))) (fun z27 ez27 az27 bz27 => ?_)
      rw [show z26.toInt.toNat = 1 by omega] at ez27
      refine ty_ige rfl (fun c28 => ?_) (fun c28 => ?_)
      · refine hq_p rfl rfl ?_
        exact hq_W.ret rfl rfl rfl ⟨hJ, _, rfl, by omega, by omega⟩
      · refine hq_p rfl rfl ?_
        refine hq_p rfl rfl ?_
        refine hq_gR I.1 rfl rfl (by decide) (by decide) rfl ?_
        refine hq_p rfl rfl (ty_ge (n := 26) nk_b26 (fun z29 ez29 => ?_))
        refine hq_p rfl rfl ?_
        refine hq_p rfl rfl (ty_ge (n := z29.toInt + y22.toInt) (nm_add (by omega) (by omega)) (fun z30 ez30 => ?_))
        refine ty_aL I rfl rfl (by decide) (by omega) (by omega) (fun i e => ty_le (ty_w26 (by omega) (by omega))) (fun z31 ez31 az31 bz31 => ?_)
        refine hq_p rfl rfl ?_
        refine ty_ine rfl (fun c32 => ?_) (fun c32 => ?_)
        · clear c32
          refine hq_p rfl rfl (ty_ge (n := 0) nk_i0 (fun z33 ez33 => ?_))
          refine hq_p rfl rfl (ty_ga (fun z34 az34 bz34 => ?_))
          refine hq_p (ls' := [some (.ref 97), some (.int x1), some (.int z34), some (.int y22)]) rfl rfl ?_
          refine ty_inc (ls' := fun z35 => [some (.ref 97), some (.int x1), some (.int z34), some (.int z35)]) rfl rfl (fun _ => rfl) (nm_addc nk_i1 (by omega) (by omega)) (fun z35 ez35 => ?_)
          refine hq_p rfl rfl ?_
          exact ihn25 ((8 - z35.toInt).toNat) (by omega) z34 z35 rfl (by omega) (by omega) (by omega) (by omega)
        · refine hq_p rfl rfl (ty_ge (n := 1) nk_i1 (fun z36 ez36 => ?_))
          refine hq_p rfl rfl ?_
          refine hq_p rfl rfl (ty_gb (c := z36 <<< (y22 &&& 31)) (lo := 1) (hi := 256) (by have q := nm_shl1 (x := z36) (y := y22) (by omega) (by omega) (by omega); omega) (fun z37 az37 bz37 => ?_))
          refine hq_p rfl rfl ?_
          refine hq_p rfl rfl (ty_ga (fun z38 az38 bz38 => ?_))
          refine hq_p (ls' := [some (.ref 97), some (.int x1), some (.int z38), some (.int y22)]) rfl rfl ?_
          refine ty_inc (ls' := fun z39 => [some (.ref 97), some (.int x1), some (.int z38), some (.int z39)]) rfl rfl (fun _ => rfl) (nm_addc nk_i1 (by omega) (by omega)) (fun z39 ez39 => ?_)
          refine hq_p rfl rfl ?_
          exact ihn25 ((8 - z39.toInt).toNat) (by omega) z38 z39 rfl (by omega) (by omega) (by omega) (by omega)
  exact L4_n25 _ z1 z2 rfl (by omega) (by omega) (by omega) (by omega)
theorem ct_153 {X : pm_X} {d : Nat} {h : pm_H}  (hd : 1 ≤ d)  : ty_M X ty_W0 d 153 [.ref 97] h (ty_pi (-2147483648) 2147483647) := by
  intro J H hJ
  obtain ⟨d, rfl⟩ : ∃ e, d = e + 1 := ⟨d - 1, by omega⟩
  have I := H.1 h hJ
  refine hq_M.enter (q := (⟨"TrainBearersModel", "holding", "()I"⟩, _, 3, some .int, 11, 1, pm_c153)) rfl rfl ?_
  show hq_W X d 11 false (some .int) pm_c153 (0, [some (.ref 97), none, none], [], h) (fun h' v => J h' ∧ (ty_pi (-2147483648) 2147483647) h' v)
  refine hq_p rfl rfl (ty_ge (n := 0) nk_i0 (fun z1 ez1 => ?_))
  refine hq_p (ls' := [some (.ref 97), some (.int z1), none]) rfl rfl ?_
  refine hq_p rfl rfl (ty_ge (n := 0) nk_i0 (fun z2 ez2 => ?_))
  refine hq_p (ls' := [some (.ref 97), some (.int z1), some (.int z2)]) rfl rfl ?_
  have L4_n107 : ∀ n107 : Nat, ∀ (y103 : Int32) (y104 : Int32), (8 - y104.toInt).toNat = n107 → -2147483648 ≤ y103.toInt → y103.toInt ≤ 2147483647 → 0 ≤ y104.toInt → y104.toInt ≤ 8 → hq_W X d 11 false (some .int) pm_c153 (4, [some (.ref 97), some (.int y103), some (.int y104)], [], h) (fun h' v => J h' ∧ (ty_pi (-2147483648) 2147483647) h' v) := by
    intro n107
    induction n107 using Nat.strongRecOn with
    | ind n107 ihn107 =>
      intro y103 y104 mn107 ay103 by103 ay104 by104
      refine hq_p rfl rfl ?_
      refine hq_p rfl rfl ?_
      refine hq_gR I.1 rfl rfl (by decide) (by decide) rfl ?_
      refine hq_p rfl rfl (ty_ge (n := 1) nk_i1 (fun z108 ez108 => ?_))
      refine ty_aL I rfl rfl (by decide) (by omega) (by omega) (fun i e => ty_le (ty_w0 (by omega) (by omega))) (fun z109 ez109 az109 bz109 => ?_)
      rw [show z108.toInt.toNat = 1 by omega] at ez109
      refine ty_ige rfl (fun c110 => ?_) (fun c110 => ?_)
      · refine hq_p rfl rfl ?_
        exact hq_W.ret rfl rfl rfl ⟨hJ, _, rfl, by omega, by omega⟩
      · refine hq_p rfl rfl ?_
        refine hq_p rfl rfl ?_
        refine hq_gR I.1 rfl rfl (by decide) (by decide) rfl ?_
        refine hq_p rfl rfl (ty_ge (n := 26) nk_b26 (fun z111 ez111 => ?_))
        refine hq_p rfl rfl ?_
        refine hq_p rfl rfl (ty_ge (n := z111.toInt + y104.toInt) (nm_add (by omega) (by omega)) (fun z112 ez112 => ?_))
        refine ty_aL I rfl rfl (by decide) (by omega) (by omega) (fun i e => ty_le (ty_w26 (by omega) (by omega))) (fun z113 ez113 az113 bz113 => ?_)
        refine hq_p rfl rfl (ty_ge (n := -1) nk_im1 (fun z114 ez114 => ?_))
        refine ty_ine rfl (fun c115 => ?_) (fun c115 => ?_)
        · replace c115 : 0 ≤ z113.toInt ∧ z113.toInt ≤ 7 := by omega
          refine hq_p rfl rfl (ty_ge (n := 1) nk_i1 (fun z116 ez116 => ?_))
          refine hq_p rfl rfl (ty_ga (fun z117 az117 bz117 => ?_))
          refine hq_p (ls' := [some (.ref 97), some (.int z117), some (.int y104)]) rfl rfl ?_
          refine ty_inc (ls' := fun z118 => [some (.ref 97), some (.int z117), some (.int z118)]) rfl rfl (fun _ => rfl) (nm_addc nk_i1 (by omega) (by omega)) (fun z118 ez118 => ?_)
          refine hq_p rfl rfl ?_
          exact ihn107 ((8 - z118.toInt).toNat) (by omega) z117 z118 rfl (by omega) (by omega) (by omega) (by omega)
        · refine hq_p rfl rfl (ty_ge (n := 0) nk_i0 (fun z119 ez119 => ?_))
          refine hq_p rfl rfl ?_
          refine hq_p rfl rfl (ty_ge (n := y103.toInt + z119.toInt) (nm_add (by omega) (by omega)) (fun z120 ez120 => ?_))
          refine hq_p (ls' := [some (.ref 97), some (.int z120), some (.int y104)]) rfl rfl ?_
          refine ty_inc (ls' := fun z121 => [some (.ref 97), some (.int z120), some (.int z121)]) rfl rfl (fun _ => rfl) (nm_addc nk_i1 (by omega) (by omega)) (fun z121 ez121 => ?_)
          refine hq_p rfl rfl ?_
          exact ihn107 ((8 - z121.toInt).toNat) (by omega) z120 z121 rfl (by omega) (by omega) (by omega) (by omega)
  exact L4_n107 _ z1 z2 rfl (by omega) (by omega) (by omega) (by omega)
theorem ct_159 {X : pm_X} {d : Nat} {h : pm_H} {x0 : Int32} {x1 : Int32} {x2 : Int32} (hd : 3 ≤ d)  : ty_M X ty_W0 d 159 [.int x0, .int x1, .int x2] h (ty_pb (0 ≤ x0.toInt ∧ x0.toInt ≤ 5 ∧ 0 ≤ x1.toInt ∧ x1.toInt ≤ 5 ∧ -1 ≤ x2.toInt ∧ x2.toInt ≤ 9)) := by
  intro J H hJ
  obtain ⟨d, rfl⟩ : ∃ e, d = e + 1 := ⟨d - 1, by omega⟩
  have I := H.1 h hJ
  have ax0 := nm_lo x0
  have bx0 := nm_hi x0
  have ax1 := nm_lo x1
  have bx1 := nm_hi x1
  have ax2 := nm_lo x2
  have bx2 := nm_hi x2
  refine hq_M.enter (q := (⟨"TrainBearersModel", "isLane", "(III)Z"⟩, _, 3, some .boolean, 11, 3, pm_c159)) rfl rfl ?_
  show hq_W X d 11 false (some .boolean) pm_c159 (0, [some (.int x0), some (.int x1), some (.int x2)], [], h) (fun h' v => J h' ∧ (ty_pb (0 ≤ x0.toInt ∧ x0.toInt ≤ 5 ∧ 0 ≤ x1.toInt ∧ x1.toInt ≤ 5 ∧ -1 ≤ x2.toInt ∧ x2.toInt ≤ 9)) h' v)
  refine hq_p rfl rfl ?_
  refine ty_callp 1 I rfl (fun _ => rfl) rfl rfl rfl rfl (ct_151 (x0 := x0) (by omega)) (fun _ P1 => ?_)
  obtain ⟨z2, rfl, az2, bz2, iz2⟩ := P1
  refine ty_zeq rfl (fun c3 => ?_) (fun c3 => ?_)
  · clear iz2
    refine hq_p rfl rfl (ty_ge (n := 0) nk_i0 (fun z4 ez4 => ?_))
    exact ty_rB rfl rfl (by omega) (by omega) ⟨hJ, _, rfl, by omega, by omega, fun q => by omega⟩
  · replace c3 : 1 ≤ z2.toInt ∧ z2.toInt ≤ 1 := by omega
    have f5 := iz2 (by omega)
    clear iz2
    refine hq_p rfl rfl ?_
    refine ty_callp 1 I rfl (fun _ => rfl) rfl rfl rfl rfl (ct_151 (x0 := x1) (by omega)) (fun _ P6 => ?_)
    obtain ⟨z7, rfl, az7, bz7, iz7⟩ := P6
    refine ty_zeq rfl (fun c8 => ?_) (fun c8 => ?_)
    · clear iz7
      refine hq_p rfl rfl (ty_ge (n := 0) nk_i0 (fun z9 ez9 => ?_))
      exact ty_rB rfl rfl (by omega) (by omega) ⟨hJ, _, rfl, by omega, by omega, fun q => by omega⟩
    · replace c8 : 1 ≤ z7.toInt ∧ z7.toInt ≤ 1 := by omega
      have f10 := iz7 (by omega)
      clear iz7
      refine hq_p rfl rfl ?_
      refine hq_p rfl rfl ?_
      refine ty_ieq rfl (fun c11 => ?_) (fun c11 => ?_)
      · refine hq_p rfl rfl (ty_ge (n := 0) nk_i0 (fun z12 ez12 => ?_))
        exact ty_rB rfl rfl (by omega) (by omega) ⟨hJ, _, rfl, by omega, by omega, fun q => by omega⟩
      · clear c11
        refine hq_p rfl rfl ?_
        refine hq_p rfl rfl (ty_gle (n := x2.toInt) (nm_i2l _) (fun z13 ez13 => ?_))
        refine hq_p rfl rfl (ty_gle (n := -1) (by decide) (fun z14 ez14 => ?_))
        refine hq_p rfl rfl (ty_gle (n := 9) (by decide) (fun z15 ez15 => ?_))
        refine ty_callp 1 I rfl (fun _ => rfl) rfl rfl rfl rfl (ct_136 (x0 := z13) (x1 := z14) (x2 := z15) (by omega)) (fun _ P16 => ?_)
        obtain ⟨z17, rfl, az17, bz17, iz17⟩ := P16
        refine ty_zeq rfl (fun c18 => ?_) (fun c18 => ?_)
        · clear iz17
          refine hq_p rfl rfl (ty_ge (n := 0) nk_i0 (fun z19 ez19 => ?_))
          exact ty_rB rfl rfl (by omega) (by omega) ⟨hJ, _, rfl, by omega, by omega, fun q => by omega⟩
        · replace c18 : 1 ≤ z17.toInt ∧ z17.toInt ≤ 1 := by omega
          have f20 := iz17 (by omega)
          clear iz17
          refine hq_p rfl rfl (ty_ge (n := 1) nk_i1 (fun z21 ez21 => ?_))
          refine hq_p rfl rfl ?_
          exact ty_rB rfl rfl (by omega) (by omega) ⟨hJ, _, rfl, by omega, by omega, fun q => by omega⟩
theorem ct_160 {X : pm_X} {d : Nat} {h : pm_H} {x1 : Int32} {x2 : Int32} {x3 : Int32} (hd : 1 ≤ d) (ax1 : 0 ≤ x1.toInt) (bx1 : x1.toInt ≤ 5) (ax2 : 0 ≤ x2.toInt) (bx2 : x2.toInt ≤ 5) (ax3 : (-1) ≤ x3.toInt) (bx3 : x3.toInt ≤ 9) : ty_M X ty_Wx d 160 [.ref 97, .int x1, .int x2, .int x3] h ty_pv := by
  intro J H hJ
  obtain ⟨d, rfl⟩ : ∃ e, d = e + 1 := ⟨d - 1, by omega⟩
  have I := H.1 h hJ
  refine hq_M.enter (q := (⟨"TrainBearersModel", "setLane", "(III)V"⟩, _, 4, none, 11, 4, pm_c160)) rfl rfl ?_
  show hq_W X d 11 false (none) pm_c160 (0, [some (.ref 97), some (.int x1), some (.int x2), some (.int x3)], [], h) (fun h' v => J h' ∧ ty_pv h' v)
  refine hq_p rfl rfl ?_
  refine hq_gR I.1 rfl rfl (by decide) (by decide) rfl ?_
  refine hq_p rfl rfl (ty_ge (n := 50) nk_b50 (fun z1 ez1 => ?_))
  refine hq_p rfl rfl (ty_ge (n := 6) nk_b6 (fun z2 ez2 => ?_))
  refine hq_p rfl rfl ?_
  refine hq_p rfl rfl (ty_ge (n := 6 * x1.toInt) (nm_cmul ez2 (by omega) (by omega)) (fun z3 ez3 => ?_))
  refine hq_p rfl rfl (ty_ge (n := z1.toInt + z3.toInt) (nm_add (by omega) (by omega)) (fun z4 ez4 => ?_))
  refine hq_p rfl rfl ?_
  refine hq_p rfl rfl (ty_ge (n := z4.toInt + x2.toInt) (nm_add (by omega) (by omega)) (fun z5 ez5 => ?_))
  refine hq_p rfl rfl ?_
  refine ty_aS (W := ty_Wx) H hJ rfl rfl (by decide) (by omega) (by omega) (fun i e => by unfold ty_Wx; omega) (fun i e => ty_eg (ty_w50 (by omega) (by omega))) (by omega) (by omega) (fun e1 e2 w => by omega) (fun h6 eh6 Jh6 => ?_)
  have Ih6 := H.1 h6 Jh6
  refine hq_p rfl rfl ?_
  refine hq_gR Ih6.1 rfl rfl (by decide) (by decide) rfl ?_
  refine hq_p rfl rfl (ty_ge (n := 50) nk_b50 (fun z7 ez7 => ?_))
  refine hq_p rfl rfl (ty_ge (n := 6) nk_b6 (fun z8 ez8 => ?_))
  refine hq_p rfl rfl ?_
  refine hq_p rfl rfl (ty_ge (n := 6 * x2.toInt) (nm_cmul ez8 (by omega) (by omega)) (fun z9 ez9 => ?_))
  refine hq_p rfl rfl (ty_ge (n := z7.toInt + z9.toInt) (nm_add (by omega) (by omega)) (fun z10 ez10 => ?_))
  refine hq_p rfl rfl ?_
  refine hq_p rfl rfl (ty_ge (n := z10.toInt + x1.toInt) (nm_add (by omega) (by omega)) (fun z11 ez11 => ?_))
  refine hq_p rfl rfl ?_
  refine ty_aS (W := ty_Wx) H Jh6 rfl rfl (by decide) (by omega) (by omega) (fun i e => by unfold ty_Wx; omega) (fun i e => ty_eg (ty_w50 (by omega) (by omega))) (by omega) (by omega) (fun e1 e2 w => by omega) (fun h12 eh12 Jh12 => ?_)
  have Ih12 := H.1 h12 Jh12
  exact hq_W.ret rfl rfl rfl ⟨Jh12, rfl⟩
theorem ct_154 {X : pm_X} {d : Nat} {h : pm_H} {x1 : Int32} (hd : 3 ≤ d)  : ty_M X ty_Wx d 154 [.ref 97, .int x1] h (ty_pi (-5) 7) := by
  intro J H hJ
  obtain ⟨d, rfl⟩ : ∃ e, d = e + 1 := ⟨d - 1, by omega⟩
  have I := H.1 h hJ
  have ax1 := nm_lo x1
  have bx1 := nm_hi x1
  refine hq_M.enter (q := (⟨"TrainBearersModel", "yard", "(I)I"⟩, _, 3, some .int, 11, 2, pm_c154)) rfl rfl ?_
  show hq_W X d 11 false (some .int) pm_c154 (0, [some (.ref 97), some (.int x1), none], [], h) (fun h' v => J h' ∧ (ty_pi (-5) 7) h' v)
  refine hq_p rfl rfl ?_
  refine hq_p rfl rfl (ty_ge (n := 0) nk_i0 (fun z1 ez1 => ?_))
  refine ty_pI (W := ty_Wx) H hJ rfl rfl (by decide) rfl rfl (by unfold ty_Wx; omega) rfl (by omega) (by omega) (fun h2 eh2 Jh2 => ?_)
  have wh2 : (hs_fI h2 97 0).toInt = z1.toInt := by rw [eh2]; exact congrArg Int32.toInt (ty_fI_eq I.1 rfl (by decide) rfl)
  have Ih2 := H.1 h2 Jh2
  refine hq_p rfl rfl ?_
  refine hq_p rfl rfl (ty_gle (n := x1.toInt) (nm_i2l _) (fun z3 ez3 => ?_))
  refine hq_p rfl rfl (ty_gle (n := 1) (by decide) (fun z4 ez4 => ?_))
  refine hq_p rfl rfl (ty_gle (n := 20) (by decide) (fun z5 ez5 => ?_))
  refine ty_callp 1 Ih2 rfl (fun _ => rfl) rfl rfl rfl rfl (ct_136 (x0 := z3) (x1 := z4) (x2 := z5) (by omega)) (fun _ P6 => ?_)
  obtain ⟨z7, rfl, az7, bz7, iz7⟩ := P6
  refine ty_zne rfl (fun c8 => ?_) (fun c8 => ?_)
  · replace c8 : 1 ≤ z7.toInt ∧ z7.toInt ≤ 1 := by omega
    have f9 := iz7 (by omega)
    clear iz7
    refine hq_p rfl rfl ?_
    refine hq_gR Ih2.1 rfl rfl (by decide) (by decide) rfl ?_
    refine hq_p rfl rfl (ty_ge (n := 0) nk_i0 (fun z10 ez10 => ?_))
    refine ty_aL Ih2 rfl rfl (by decide) (by omega) (by omega) (fun i e => ty_le (ty_w0 (by omega) (by omega))) (fun z11 ez11 az11 bz11 => ?_)
    rw [show z10.toInt.toNat = 0 by omega] at ez11
    refine hq_p (ls' := [some (.ref 97), some (.int x1), some (.int z11)]) rfl rfl ?_
    refine hq_p rfl rfl ?_
    refine hq_p rfl rfl (ty_ge (n := 8) nk_b8 (fun z12 ez12 => ?_))
    refine ty_ine rfl (fun c13 => ?_) (fun c13 => ?_)
    · replace c13 : 0 ≤ z11.toInt ∧ z11.toInt ≤ 7 := by omega
      refine hq_p rfl rfl ?_
      refine hq_gR Ih2.1 rfl rfl (by decide) (by decide) rfl ?_
      refine hq_p rfl rfl (ty_ge (n := 34) nk_b34 (fun z14 ez14 => ?_))
      refine hq_p rfl rfl ?_
      refine hq_p rfl rfl (ty_ge (n := z14.toInt + z11.toInt) (nm_add (by omega) (by omega)) (fun z15 ez15 => ?_))
      refine hq_p rfl rfl ?_
      refine ty_aS (W := ty_Wx) H Jh2 rfl rfl (by decide) (by omega) (by omega) (fun i e => by unfold ty_Wx; omega) (fun i e => ty_eg (ty_w34 (by omega) (by omega))) (by omega) (by omega) (fun e1 e2 w => by omega) (fun h16 eh16 Jh16 => ?_)
      have Ih16 := H.1 h16 Jh16
      refine hq_p rfl rfl ?_
      refine hq_gR Ih16.1 rfl rfl (by decide) (by decide) rfl ?_
      refine hq_p rfl rfl (ty_ge (n := 10) nk_b10 (fun z17 ez17 => ?_))
      refine hq_p rfl rfl ?_
      refine hq_p rfl rfl (ty_ge (n := z17.toInt + z11.toInt) (nm_add (by omega) (by omega)) (fun z18 ez18 => ?_))
      refine hq_p rfl rfl (ty_ge (n := 0) nk_i0 (fun z19 ez19 => ?_))
      refine ty_aS (W := ty_Wx) H Jh16 rfl rfl (by decide) (by omega) (by omega) (fun i e => by unfold ty_Wx; omega) (fun i e => ty_eg (ty_w10 (by omega) (by omega))) (by omega) (by omega) (fun e1 e2 w => by omega) (fun h20 eh20 Jh20 => ?_)
      have Ih20 := H.1 h20 Jh20
      refine hq_p rfl rfl ?_
      refine hq_gR Ih20.1 rfl rfl (by decide) (by decide) rfl ?_
      refine hq_p rfl rfl (ty_ge (n := 0) nk_i0 (fun z21 ez21 => ?_))
      refine hq_p rfl rfl ?_
      have r23 : (hs_aI h2 99 0).toInt = (hs_aI h 99 0).toInt := by rw [eh2]; exact congrArg Int32.toInt (ty_aI_ne (by omega))
      have r24 : (hs_aI h16 99 0).toInt = (hs_aI h2 99 0).toInt := by rw [eh16]; exact congrArg Int32.toInt (ty_aI_sA (by omega))
      have r25 : (hs_aI h20 99 0).toInt = (hs_aI h16 99 0).toInt := by rw [eh20]; exact congrArg Int32.toInt (ty_aI_sA (by omega))
      refine ty_aL Ih20 rfl rfl (by decide) (by omega) (by omega) (fun i e => ty_le (ty_w0 (by omega) (by omega))) (fun z22 ez22 az22 bz22 => ?_)
      rw [show z21.toInt.toNat = 0 by omega] at ez22
      refine hq_p rfl rfl (ty_ge (n := 1) nk_i1 (fun z26 ez26 => ?_))
      refine hq_p rfl rfl (ty_ge (n := z22.toInt + z26.toInt) (nm_add (by omega) (by omega)) (fun z27 ez27 => ?_))
      refine ty_aS (W := ty_Wx) H Jh20 rfl rfl (by decide) (by omega) (by omega) (fun i e => by unfold ty_Wx; omega) (fun i e => ty_eg (ty_w0 (by omega) (by omega))) (by omega) (by omega) (fun e1 e2 w => by omega) (fun h28 eh28 Jh28 => ?_)
      have Ih28 := H.1 h28 Jh28
      refine hq_p rfl rfl ?_
      refine hq_p rfl rfl ?_
      refine ty_callj 0 (W := ty_Wx) H Jh28 rfl (fun _ => rfl) rfl rfl rfl (hq_pre_o Ih28.1 (x := 97) (ci := 11) rfl (by decide) rfl rfl rfl rfl) (fun _ _ w => w) (fun _ w => w) (ct_142 (x1 := z11) (by omega) (by omega) (by omega)) (fun h30 _ Jh30 P29 => ?_)
      have Ih30 := H.1 h30 Jh30
      obtain ⟨z31, rfl, fz31⟩ := P29
      exact hq_W.ret rfl rfl rfl ⟨Jh30, _, rfl, by omega, by omega⟩
    · refine hq_p rfl rfl ?_
      refine hq_p rfl rfl (ty_ge (n := -5) nk_bm5 (fun z32 ez32 => ?_))
      refine ty_callj 0 (W := ty_Wx) H Jh2 rfl (fun _ => rfl) rfl rfl rfl (hq_pre_o Ih2.1 (x := 97) (ci := 11) rfl (by decide) rfl rfl rfl rfl) (fun a k w => by unfold ty_Wt at w; unfold ty_Wx; omega) (by unfold ty_Wt ty_Wx; omega) (ct_140 (x1 := z32) (by omega) (by omega) (by omega)) (fun h34 _ Jh34 P33 => ?_)
      have Ih34 := H.1 h34 Jh34
      obtain ⟨z35, rfl, fz35⟩ := P33
      exact hq_W.ret rfl rfl rfl ⟨Jh34, _, rfl, by omega, by omega⟩
  · clear iz7
    refine hq_p rfl rfl ?_
    refine hq_p rfl rfl (ty_ge (n := -1) nk_im1 (fun z36 ez36 => ?_))
    refine ty_callj 0 (W := ty_Wx) H Jh2 rfl (fun _ => rfl) rfl rfl rfl (hq_pre_o Ih2.1 (x := 97) (ci := 11) rfl (by decide) rfl rfl rfl rfl) (fun a k w => by unfold ty_Wt at w; unfold ty_Wx; omega) (by unfold ty_Wt ty_Wx; omega) (ct_140 (x1 := z36) (by omega) (by omega) (by omega)) (fun h38 _ Jh38 P37 => ?_)
    have Ih38 := H.1 h38 Jh38
    obtain ⟨z39, rfl, fz39⟩ := P37
    exact hq_W.ret rfl rfl rfl ⟨Jh38, _, rfl, by omega, by omega⟩
theorem ct_156 {X : pm_X} {d : Nat} {h : pm_H} {x1 : Int32} (hd : 3 ≤ d)  : ty_M X ty_Wx d 156 [.ref 97, .int x1] h (ty_pi (-5) 7) := by
  intro J H hJ
  obtain ⟨d, rfl⟩ : ∃ e, d = e + 1 := ⟨d - 1, by omega⟩
  have I := H.1 h hJ
  have ax1 := nm_lo x1
  have bx1 := nm_hi x1
  refine hq_M.enter (q := (⟨"TrainBearersModel", "girl", "(I)I"⟩, _, 3, some .int, 11, 2, pm_c156)) rfl rfl ?_
  show hq_W X d 11 false (some .int) pm_c156 (0, [some (.ref 97), some (.int x1), none], [], h) (fun h' v => J h' ∧ (ty_pi (-5) 7) h' v)
  refine hq_p rfl rfl ?_
  refine hq_p rfl rfl (ty_ge (n := 0) nk_i0 (fun z1 ez1 => ?_))
  refine ty_pI (W := ty_Wx) H hJ rfl rfl (by decide) rfl rfl (by unfold ty_Wx; omega) rfl (by omega) (by omega) (fun h2 eh2 Jh2 => ?_)
  have wh2 : (hs_fI h2 97 0).toInt = z1.toInt := by rw [eh2]; exact congrArg Int32.toInt (ty_fI_eq I.1 rfl (by decide) rfl)
  have Ih2 := H.1 h2 Jh2
  refine hq_p rfl rfl ?_
  refine hq_p rfl rfl (ty_gle (n := x1.toInt) (nm_i2l _) (fun z3 ez3 => ?_))
  refine hq_p rfl rfl (ty_gle (n := 0) (by decide) (fun z4 ez4 => ?_))
  refine hq_p rfl rfl (ty_gle (n := 9) (by decide) (fun z5 ez5 => ?_))
  refine ty_callp 1 Ih2 rfl (fun _ => rfl) rfl rfl rfl rfl (ct_136 (x0 := z3) (x1 := z4) (x2 := z5) (by omega)) (fun _ P6 => ?_)
  obtain ⟨z7, rfl, az7, bz7, iz7⟩ := P6
  refine ty_zne rfl (fun c8 => ?_) (fun c8 => ?_)
  · replace c8 : 1 ≤ z7.toInt ∧ z7.toInt ≤ 1 := by omega
    have f9 := iz7 (by omega)
    clear iz7
    refine hq_p rfl rfl ?_
    refine hq_gR Ih2.1 rfl rfl (by decide) (by decide) rfl ?_
    refine hq_p rfl rfl (ty_ge (n := 1) nk_i1 (fun z10 ez10 => ?_))
    refine ty_aL Ih2 rfl rfl (by decide) (by omega) (by omega) (fun i e => ty_le (ty_w0 (by omega) (by omega))) (fun z11 ez11 az11 bz11 => ?_)
    rw [show z10.toInt.toNat = 1 by omega] at ez11
    refine hq_p (ls' := [some (.ref 97), some (.int x1), some (.int z11)]) rfl rfl ?_
    refine hq_p rfl rfl ?_
    refine hq_p rfl rfl (ty_ge (n := 8) nk_b8 (fun z12 ez12 => ?_))
    refine ty_ine rfl (fun c13 => ?_) (fun c13 => ?_)
    · replace c13 : 0 ≤ z11.toInt ∧ z11.toInt ≤ 7 := by omega
      refine hq_p rfl rfl ?_
      refine hq_gR Ih2.1 rfl rfl (by decide) (by decide) rfl ?_
      refine hq_p rfl rfl (ty_ge (n := 42) nk_b42 (fun z14 ez14 => ?_))
      refine hq_p rfl rfl ?_
      refine hq_p rfl rfl (ty_ge (n := z14.toInt + z11.toInt) (nm_add (by omega) (by omega)) (fun z15 ez15 => ?_))
      refine hq_p rfl rfl ?_
      refine ty_aS (W := ty_Wx) H Jh2 rfl rfl (by decide) (by omega) (by omega) (fun i e => by unfold ty_Wx; omega) (fun i e => ty_eg (ty_w42 (by omega) (by omega))) (by omega) (by omega) (fun e1 e2 w => by omega) (fun h16 eh16 Jh16 => ?_)
      have Ih16 := H.1 h16 Jh16
      refine hq_p rfl rfl ?_
      refine hq_gR Ih16.1 rfl rfl (by decide) (by decide) rfl ?_
      refine hq_p rfl rfl (ty_ge (n := 18) nk_b18 (fun z17 ez17 => ?_))
      refine hq_p rfl rfl ?_
      refine hq_p rfl rfl (ty_ge (n := z17.toInt + z11.toInt) (nm_add (by omega) (by omega)) (fun z18 ez18 => ?_))
      refine hq_p rfl rfl (ty_ge (n := 0) nk_i0 (fun z19 ez19 => ?_))
      refine ty_aS (W := ty_Wx) H Jh16 rfl rfl (by decide) (by omega) (by omega) (fun i e => by unfold ty_Wx; omega) (fun i e => ty_eg (ty_w18 (by omega) (by omega))) (by omega) (by omega) (fun e1 e2 w => by omega) (fun h20 eh20 Jh20 => ?_)
      have Ih20 := H.1 h20 Jh20
      refine hq_p rfl rfl ?_
      refine hq_gR Ih20.1 rfl rfl (by decide) (by decide) rfl ?_
      refine hq_p rfl rfl (ty_ge (n := 26) nk_b26 (fun z21 ez21 => ?_))
      refine hq_p rfl rfl ?_
      refine hq_p rfl rfl (ty_ge (n := z21.toInt + z11.toInt) (nm_add (by omega) (by omega)) (fun z22 ez22 => ?_))
      refine hq_p rfl rfl (ty_ge (n := -1) nk_im1 (fun z23 ez23 => ?_))
      refine ty_aS (W := ty_Wx) H Jh20 rfl rfl (by decide) (by omega) (by omega) (fun i e => by unfold ty_Wx; omega) (fun i e => ty_eg (ty_w26 (by omega) (by omega))) (by omega) (by omega) (fun e1 e2 w => by omega) (fun h24 eh24 Jh24 => ?_)
      have Ih24 := H.1 h24 Jh24
      refine hq_p rfl rfl ?_
      refine hq_gR Ih24.1 rfl rfl (by decide) (by decide) rfl ?_
      refine hq_p rfl rfl (ty_ge (n := 1) nk_i1 (fun z25 ez25 => ?_))
      refine hq_p rfl rfl ?_
      have r27 : (hs_aI h2 99 1).toInt = (hs_aI h 99 1).toInt := by rw [eh2]; exact congrArg Int32.toInt (ty_aI_ne (by omega))
      have r28 : (hs_aI h16 99 1).toInt = (hs_aI h2 99 1).toInt := by rw [eh16]; exact congrArg Int32.toInt (ty_aI_sA (by omega))
      have r29 : (hs_aI h20 99 1).toInt = (hs_aI h16 99 1).toInt := by rw [eh20]; exact congrArg Int32.toInt (ty_aI_sA (by omega))
      have r30 : (hs_aI h24 99 1).toInt = (hs_aI h20 99 1).toInt := by rw [eh24]; exact congrArg Int32.toInt (ty_aI_sA (by omega))
      refine ty_aL Ih24 rfl rfl (by decide) (by omega) (by omega) (fun i e => ty_le (ty_w0 (by omega) (by omega))) (fun z26 ez26 az26 bz26 => ?_)
      rw [show z25.toInt.toNat = 1 by omega] at ez26
      refine hq_p rfl rfl (ty_ge (n := 1) nk_i1 (fun z31 ez31 => ?_))
      refine hq_p rfl rfl (ty_ge (n := z26.toInt + z31.toInt) (nm_add (by omega) (by omega)) (fun z32 ez32 => ?_))
      refine ty_aS (W := ty_Wx) H Jh24 rfl rfl (by decide) (by omega) (by omega) (fun i e => by unfold ty_Wx; omega) (fun i e => ty_eg (ty_w0 (by omega) (by omega))) (by omega) (by omega) (fun e1 e2 w => by omega) (fun h33 eh33 Jh33 => ?_)
      have Ih33 := H.1 h33 Jh33
      refine hq_p rfl rfl ?_
      refine hq_p rfl rfl ?_
      refine ty_callj 0 (W := ty_Wx) H Jh33 rfl (fun _ => rfl) rfl rfl rfl (hq_pre_o Ih33.1 (x := 97) (ci := 11) rfl (by decide) rfl rfl rfl rfl) (fun _ _ w => w) (fun _ w => w) (ct_142 (x1 := z11) (by omega) (by omega) (by omega)) (fun h35 _ Jh35 P34 => ?_)
      have Ih35 := H.1 h35 Jh35
      obtain ⟨z36, rfl, fz36⟩ := P34
      exact hq_W.ret rfl rfl rfl ⟨Jh35, _, rfl, by omega, by omega⟩
    · refine hq_p rfl rfl ?_
      refine hq_p rfl rfl (ty_ge (n := -5) nk_bm5 (fun z37 ez37 => ?_))
      refine ty_callj 0 (W := ty_Wx) H Jh2 rfl (fun _ => rfl) rfl rfl rfl (hq_pre_o Ih2.1 (x := 97) (ci := 11) rfl (by decide) rfl rfl rfl rfl) (fun a k w => by unfold ty_Wt at w; unfold ty_Wx; omega) (by unfold ty_Wt ty_Wx; omega) (ct_140 (x1 := z37) (by omega) (by omega) (by omega)) (fun h39 _ Jh39 P38 => ?_)
      have Ih39 := H.1 h39 Jh39
      obtain ⟨z40, rfl, fz40⟩ := P38
      exact hq_W.ret rfl rfl rfl ⟨Jh39, _, rfl, by omega, by omega⟩
  · clear iz7
    refine hq_p rfl rfl ?_
    refine hq_p rfl rfl (ty_ge (n := -1) nk_im1 (fun z41 ez41 => ?_))
    refine ty_callj 0 (W := ty_Wx) H Jh2 rfl (fun _ => rfl) rfl rfl rfl (hq_pre_o Ih2.1 (x := 97) (ci := 11) rfl (by decide) rfl rfl rfl rfl) (fun a k w => by unfold ty_Wt at w; unfold ty_Wx; omega) (by unfold ty_Wt ty_Wx; omega) (ct_140 (x1 := z41) (by omega) (by omega) (by omega)) (fun h43 _ Jh43 P42 => ?_)
    have Ih43 := H.1 h43 Jh43
    obtain ⟨z44, rfl, fz44⟩ := P42
    exact hq_W.ret rfl rfl rfl ⟨Jh43, _, rfl, by omega, by omega⟩
theorem ct_157 {X : pm_X} {d : Nat} {h : pm_H} {x1 : Int32} {x2 : Int32} (hd : 3 ≤ d)  : ty_M X ty_Wt d 157 [.ref 97, .int x1, .int x2] h (ty_pi (-2147483648) 2147483647) := by
  intro J H hJ
  obtain ⟨d, rfl⟩ : ∃ e, d = e + 1 := ⟨d - 1, by omega⟩
  have I := H.1 h hJ
  have ax1 := nm_lo x1
  have bx1 := nm_hi x1
  have ax2 := nm_lo x2
  have bx2 := nm_hi x2
  refine hq_M.enter (q := (⟨"TrainBearersModel", "of", "(II)I"⟩, _, 3, some .int, 11, 3, pm_c157)) rfl rfl ?_
  show hq_W X d 11 false (some .int) pm_c157 (0, [some (.ref 97), some (.int x1), some (.int x2)], [], h) (fun h' v => J h' ∧ (ty_pi (-2147483648) 2147483647) h' v)
  refine hq_p rfl rfl ?_
  refine hq_p rfl rfl (ty_ge (n := 0) nk_i0 (fun z1 ez1 => ?_))
  refine ty_pI (W := ty_Wt) H hJ rfl rfl (by decide) rfl rfl (by unfold ty_Wt; omega) rfl (by omega) (by omega) (fun h2 eh2 Jh2 => ?_)
  have wh2 : (hs_fI h2 97 0).toInt = z1.toInt := by rw [eh2]; exact congrArg Int32.toInt (ty_fI_eq I.1 rfl (by decide) rfl)
  have Ih2 := H.1 h2 Jh2
  refine hq_p rfl rfl ?_
  refine hq_p rfl rfl ?_
  refine ty_callp 0 Ih2 rfl (fun _ => rfl) rfl rfl rfl (hq_pre_o Ih2.1 (x := 97) (ci := 11) rfl (by decide) rfl rfl rfl rfl) (ct_150 (x1 := x1) (by omega)) (fun _ P3 => ?_)
  obtain ⟨z4, rfl, az4, bz4, iz4⟩ := P3
  refine ty_zne rfl (fun c5 => ?_) (fun c5 => ?_)
  · replace c5 : 1 ≤ z4.toInt ∧ z4.toInt ≤ 1 := by omega
    have f6 := iz4 (by omega)
    clear iz4
    refine hq_p rfl rfl ?_
    rcases (show x2.toInt = 0 ∨ x2.toInt = 1 ∨ x2.toInt = 2 ∨ (x2.toInt < 0 ∨ 2 < x2.toInt) by omega) with c7 | c7 | c7 | c7
    · refine ty_ts (n := 0) rfl c7 rfl rfl (by decide) ?_
      refine hq_p rfl rfl ?_
      refine hq_gR Ih2.1 rfl rfl (by decide) (by decide) rfl ?_
      refine hq_p rfl rfl (ty_ge (n := 42) nk_b42 (fun z8 ez8 => ?_))
      refine hq_p rfl rfl ?_
      refine hq_p rfl rfl (ty_ge (n := z8.toInt + x1.toInt) (nm_add (by omega) (by omega)) (fun z9 ez9 => ?_))
      refine ty_aL Ih2 rfl rfl (by decide) (by omega) (by omega) (fun i e => ty_le (ty_w42 (by omega) (by omega))) (fun z10 ez10 az10 bz10 => ?_)
      exact hq_W.ret rfl rfl rfl ⟨Jh2, _, rfl, by omega, by omega⟩
    · refine ty_ts (n := 1) rfl c7 rfl rfl (by decide) ?_
      refine hq_p rfl rfl ?_
      refine hq_gR Ih2.1 rfl rfl (by decide) (by decide) rfl ?_
      refine hq_p rfl rfl (ty_ge (n := 18) nk_b18 (fun z11 ez11 => ?_))
      refine hq_p rfl rfl ?_
      refine hq_p rfl rfl (ty_ge (n := z11.toInt + x1.toInt) (nm_add (by omega) (by omega)) (fun z12 ez12 => ?_))
      refine ty_aL Ih2 rfl rfl (by decide) (by omega) (by omega) (fun i e => ty_le (ty_w18 (by omega) (by omega))) (fun z13 ez13 az13 bz13 => ?_)
      exact hq_W.ret rfl rfl rfl ⟨Jh2, _, rfl, by omega, by omega⟩
    · refine ty_ts (n := 2) rfl c7 rfl rfl (by decide) ?_
      refine hq_p rfl rfl ?_
      refine hq_gR Ih2.1 rfl rfl (by decide) (by decide) rfl ?_
      refine hq_p rfl rfl (ty_ge (n := 26) nk_b26 (fun z14 ez14 => ?_))
      refine hq_p rfl rfl ?_
      refine hq_p rfl rfl (ty_ge (n := z14.toInt + x1.toInt) (nm_add (by omega) (by omega)) (fun z15 ez15 => ?_))
      refine ty_aL Ih2 rfl rfl (by decide) (by omega) (by omega) (fun i e => ty_le (ty_w26 (by omega) (by omega))) (fun z16 ez16 az16 bz16 => ?_)
      exact hq_W.ret rfl rfl rfl ⟨Jh2, _, rfl, by omega, by omega⟩
    · refine ty_td rfl c7 (by decide) ?_
      refine hq_p rfl rfl (ty_ge (n := -1) nk_im1 (fun z17 ez17 => ?_))
      exact hq_W.ret rfl rfl rfl ⟨Jh2, _, rfl, by omega, by omega⟩
  · clear iz4
    refine hq_p rfl rfl (ty_ge (n := -1) nk_im1 (fun z18 ez18 => ?_))
    exact hq_W.ret rfl rfl rfl ⟨Jh2, _, rfl, by omega, by omega⟩
theorem ct_161 {X : pm_X} {d : Nat} {h : pm_H} {x1 : Int32} {x2 : Int32} {x3 : Int32} (hd : 4 ≤ d)  : ty_M X ty_Wx d 161 [.ref 97, .int x1, .int x2, .int x3] h (ty_pi (-1) 9) := by
  intro J H hJ
  obtain ⟨d, rfl⟩ : ∃ e, d = e + 1 := ⟨d - 1, by omega⟩
  have I := H.1 h hJ
  have ax1 := nm_lo x1
  have bx1 := nm_hi x1
  have ax2 := nm_lo x2
  have bx2 := nm_hi x2
  have ax3 := nm_lo x3
  have bx3 := nm_hi x3
  refine hq_M.enter (q := (⟨"TrainBearersModel", "lane", "(III)I"⟩, _, 5, some .int, 11, 4, pm_c161)) rfl rfl ?_
  show hq_W X d 11 false (some .int) pm_c161 (0, [some (.ref 97), some (.int x1), some (.int x2), some (.int x3), none], [], h) (fun h' v => J h' ∧ (ty_pi (-1) 9) h' v)
  refine hq_p rfl rfl ?_
  refine hq_p rfl rfl (ty_ge (n := 0) nk_i0 (fun z1 ez1 => ?_))
  refine ty_pI (W := ty_Wx) H hJ rfl rfl (by decide) rfl rfl (by unfold ty_Wx; omega) rfl (by omega) (by omega) (fun h2 eh2 Jh2 => ?_)
  have wh2 : (hs_fI h2 97 0).toInt = z1.toInt := by rw [eh2]; exact congrArg Int32.toInt (ty_fI_eq I.1 rfl (by decide) rfl)
  have Ih2 := H.1 h2 Jh2
  refine hq_p rfl rfl ?_
  refine hq_p rfl rfl ?_
  refine hq_p rfl rfl ?_
  refine ty_callp 1 Ih2 rfl (fun _ => rfl) rfl rfl rfl rfl (ct_159 (x0 := x1) (x1 := x2) (x2 := x3) (by omega)) (fun _ P3 => ?_)
  obtain ⟨z4, rfl, az4, bz4, iz4⟩ := P3
  refine ty_zne rfl (fun c5 => ?_) (fun c5 => ?_)
  · replace c5 : 1 ≤ z4.toInt ∧ z4.toInt ≤ 1 := by omega
    have f6 := iz4 (by omega)
    clear iz4
    refine hq_p rfl rfl ?_
    refine hq_gR Ih2.1 rfl rfl (by decide) (by decide) rfl ?_
    refine hq_p rfl rfl (ty_ge (n := 50) nk_b50 (fun z7 ez7 => ?_))
    refine hq_p rfl rfl (ty_ge (n := 6) nk_b6 (fun z8 ez8 => ?_))
    refine hq_p rfl rfl ?_
    refine hq_p rfl rfl (ty_ge (n := 6 * x1.toInt) (nm_cmul ez8 (by omega) (by omega)) (fun z9 ez9 => ?_))
    refine hq_p rfl rfl (ty_ge (n := z7.toInt + z9.toInt) (nm_add (by omega) (by omega)) (fun z10 ez10 => ?_))
    refine hq_p rfl rfl ?_
    refine hq_p rfl rfl (ty_ge (n := z10.toInt + x2.toInt) (nm_add (by omega) (by omega)) (fun z11 ez11 => ?_))
    refine ty_aL Ih2 rfl rfl (by decide) (by omega) (by omega) (fun i e => ty_le (ty_w50 (by omega) (by omega))) (fun z12 ez12 az12 bz12 => ?_)
    refine hq_p (ls' := [some (.ref 97), some (.int x1), some (.int x2), some (.int x3), some (.int z12)]) rfl rfl ?_
    refine hq_p rfl rfl ?_
    refine hq_p rfl rfl ?_
    refine hq_p rfl rfl ?_
    refine hq_p rfl rfl ?_
    refine ty_callj 0 (W := ty_Wx) H Jh2 rfl (fun _ => rfl) rfl rfl rfl (hq_pre_o Ih2.1 (x := 97) (ci := 11) rfl (by decide) rfl rfl rfl rfl) (fun _ _ w => w) (fun _ w => w) (ct_160 (x1 := x1) (x2 := x2) (x3 := x3) (by omega) (by omega) (by omega) (by omega) (by omega) (by omega) (by omega)) (fun h14 _ Jh14 P13 => ?_)
    have Ih14 := H.1 h14 Jh14
    subst P13
    refine hq_p rfl rfl ?_
    refine hq_p rfl rfl (ty_ge (n := 0) nk_i0 (fun z15 ez15 => ?_))
    refine ty_pI (W := ty_Wx) H Jh14 rfl rfl (by decide) rfl rfl (by unfold ty_Wx; omega) rfl (by omega) (by omega) (fun h16 eh16 Jh16 => ?_)
    have wh16 : (hs_fI h16 97 1).toInt = z15.toInt := by rw [eh16]; exact congrArg Int32.toInt (ty_fI_eq Ih14.1 rfl (by decide) rfl)
    have Ih16 := H.1 h16 Jh16
    refine hq_p rfl rfl ?_
    exact hq_W.ret rfl rfl rfl ⟨Jh16, _, rfl, by omega, by omega⟩
  · clear iz4
    refine hq_p rfl rfl ?_
    refine hq_p rfl rfl (ty_ge (n := -1) nk_im1 (fun z17 ez17 => ?_))
    refine ty_callj 0 (W := ty_Wx) H Jh2 rfl (fun _ => rfl) rfl rfl rfl (hq_pre_o Ih2.1 (x := 97) (ci := 11) rfl (by decide) rfl rfl rfl rfl) (fun a k w => by unfold ty_Wt at w; unfold ty_Wx; omega) (by unfold ty_Wt ty_Wx; omega) (ct_140 (x1 := z17) (by omega) (by omega) (by omega)) (fun h19 _ Jh19 P18 => ?_)
    have Ih19 := H.1 h19 Jh19
    obtain ⟨z20, rfl, fz20⟩ := P18
    exact hq_W.ret rfl rfl rfl ⟨Jh19, _, rfl, by omega, by omega⟩
theorem ct_162 {X : pm_X} {d : Nat} {h : pm_H} {x1 : Int32} {x2 : Int32} (hd : 3 ≤ d)  : ty_M X ty_Wt d 162 [.ref 97, .int x1, .int x2] h (ty_pi (-1) 9) := by
  intro J H hJ
  obtain ⟨d, rfl⟩ : ∃ e, d = e + 1 := ⟨d - 1, by omega⟩
  have I := H.1 h hJ
  have ax1 := nm_lo x1
  have bx1 := nm_hi x1
  have ax2 := nm_lo x2
  have bx2 := nm_hi x2
  refine hq_M.enter (q := (⟨"TrainBearersModel", "stiles", "(II)I"⟩, _, 3, some .int, 11, 3, pm_c162)) rfl rfl ?_
  show hq_W X d 11 false (some .int) pm_c162 (0, [some (.ref 97), some (.int x1), some (.int x2)], [], h) (fun h' v => J h' ∧ (ty_pi (-1) 9) h' v)
  refine hq_p rfl rfl ?_
  refine hq_p rfl rfl (ty_ge (n := 0) nk_i0 (fun z1 ez1 => ?_))
  refine ty_pI (W := ty_Wt) H hJ rfl rfl (by decide) rfl rfl (by unfold ty_Wt; omega) rfl (by omega) (by omega) (fun h2 eh2 Jh2 => ?_)
  have wh2 : (hs_fI h2 97 0).toInt = z1.toInt := by rw [eh2]; exact congrArg Int32.toInt (ty_fI_eq I.1 rfl (by decide) rfl)
  have Ih2 := H.1 h2 Jh2
  refine hq_p rfl rfl ?_
  refine ty_callp 1 Ih2 rfl (fun _ => rfl) rfl rfl rfl rfl (ct_151 (x0 := x1) (by omega)) (fun _ P3 => ?_)
  obtain ⟨z4, rfl, az4, bz4, iz4⟩ := P3
  refine ty_zeq rfl (fun c5 => ?_) (fun c5 => ?_)
  · clear iz4
    refine hq_p rfl rfl (ty_ge (n := -1) nk_im1 (fun z6 ez6 => ?_))
    exact hq_W.ret rfl rfl rfl ⟨Jh2, _, rfl, by omega, by omega⟩
  · replace c5 : 1 ≤ z4.toInt ∧ z4.toInt ≤ 1 := by omega
    have f7 := iz4 (by omega)
    clear iz4
    refine hq_p rfl rfl ?_
    refine ty_callp 1 Ih2 rfl (fun _ => rfl) rfl rfl rfl rfl (ct_151 (x0 := x2) (by omega)) (fun _ P8 => ?_)
    obtain ⟨z9, rfl, az9, bz9, iz9⟩ := P8
    refine ty_zeq rfl (fun c10 => ?_) (fun c10 => ?_)
    · clear iz9
      refine hq_p rfl rfl (ty_ge (n := -1) nk_im1 (fun z11 ez11 => ?_))
      exact hq_W.ret rfl rfl rfl ⟨Jh2, _, rfl, by omega, by omega⟩
    · replace c10 : 1 ≤ z9.toInt ∧ z9.toInt ≤ 1 := by omega
      have f12 := iz9 (by omega)
      clear iz9
      refine hq_p rfl rfl ?_
      refine hq_gR Ih2.1 rfl rfl (by decide) (by decide) rfl ?_
      refine hq_p rfl rfl (ty_ge (n := 50) nk_b50 (fun z13 ez13 => ?_))
      refine hq_p rfl rfl (ty_ge (n := 6) nk_b6 (fun z14 ez14 => ?_))
      refine hq_p rfl rfl ?_
      refine hq_p rfl rfl (ty_ge (n := 6 * x1.toInt) (nm_cmul ez14 (by omega) (by omega)) (fun z15 ez15 => ?_))
      refine hq_p rfl rfl (ty_ge (n := z13.toInt + z15.toInt) (nm_add (by omega) (by omega)) (fun z16 ez16 => ?_))
      refine hq_p rfl rfl ?_
      refine hq_p rfl rfl (ty_ge (n := z16.toInt + x2.toInt) (nm_add (by omega) (by omega)) (fun z17 ez17 => ?_))
      refine ty_aL Ih2 rfl rfl (by decide) (by omega) (by omega) (fun i e => ty_le (ty_w50 (by omega) (by omega))) (fun z18 ez18 az18 bz18 => ?_)
      refine hq_p rfl rfl ?_
      exact hq_W.ret rfl rfl rfl ⟨Jh2, _, rfl, by omega, by omega⟩
theorem ct_163 {X : pm_X} {d : Nat} {h : pm_H} {x1 : Int32} {x2 : Int32} (hd : 2 ≤ d)  : ty_M X ty_Wz d 163 [.ref 97, .int x1, .int x2] h (ty_pi (-2147483648) 2147483647) := by
  intro J H hJ
  obtain ⟨d, rfl⟩ : ∃ e, d = e + 1 := ⟨d - 1, by omega⟩
  have I := H.1 h hJ
  have ax1 := nm_lo x1
  have bx1 := nm_hi x1
  have ax2 := nm_lo x2
  have bx2 := nm_hi x2
  refine hq_M.enter (q := (⟨"TrainBearersModel", "terms", "(II)I"⟩, _, 4, some .int, 11, 3, pm_c163)) rfl rfl ?_
  show hq_W X d 11 false (some .int) pm_c163 (0, [some (.ref 97), some (.int x1), some (.int x2), none], [], h) (fun h' v => J h' ∧ (ty_pi (-2147483648) 2147483647) h' v)
  refine hq_p rfl rfl ?_
  refine hq_p rfl rfl (ty_ge (n := 0) nk_i0 (fun z1 ez1 => ?_))
  refine ty_pI (W := ty_Wz) H hJ rfl rfl (by decide) rfl rfl (by unfold ty_Wz; omega) rfl (by omega) (by omega) (fun h2 eh2 Jh2 => ?_)
  have wh2 : (hs_fI h2 97 0).toInt = z1.toInt := by rw [eh2]; exact congrArg Int32.toInt (ty_fI_eq I.1 rfl (by decide) rfl)
  have Ih2 := H.1 h2 Jh2
  refine hq_p rfl rfl ?_
  refine ty_zne rfl (fun c3 => ?_) (fun c3 => ?_)
  · clear c3
    refine hq_p rfl rfl ?_
    refine hq_p rfl rfl (ty_ge (n := 1) nk_i1 (fun z4 ez4 => ?_))
    refine ty_ine rfl (fun c5 => ?_) (fun c5 => ?_)
    · clear c5
      refine hq_p rfl rfl ?_
      refine hq_p rfl rfl (ty_ge (n := 2) nk_i2 (fun z6 ez6 => ?_))
      refine ty_ine rfl (fun c7 => ?_) (fun c7 => ?_)
      · clear c7
        refine hq_p rfl rfl (ty_ge (n := 0) nk_i0 (fun z8 ez8 => ?_))
        refine hq_p (ls' := [some (.ref 97), some (.int x1), some (.int x2), some (.int z8)]) rfl rfl ?_
        refine hq_p rfl rfl ?_
        refine ty_zne rfl (fun c9 => ?_) (fun c9 => ?_)
        · exfalso; omega
        · refine hq_p rfl rfl ?_
          refine hq_p rfl rfl (ty_ge (n := -1) nk_im1 (fun z10 ez10 => ?_))
          refine ty_callj 0 (W := ty_Wz) H Jh2 rfl (fun _ => rfl) rfl rfl rfl (hq_pre_o Ih2.1 (x := 97) (ci := 11) rfl (by decide) rfl rfl rfl rfl) (fun a k w => by unfold ty_Wt at w; unfold ty_Wz; omega) (by unfold ty_Wt ty_Wz; omega) (ct_140 (x1 := z10) (by omega) (by omega) (by omega)) (fun h12 _ Jh12 P11 => ?_)
          have Ih12 := H.1 h12 Jh12
          obtain ⟨z13, rfl, fz13⟩ := P11
          exact hq_W.ret rfl rfl rfl ⟨Jh12, _, rfl, by omega, by omega⟩
      · refine hq_p rfl rfl ?_
        refine hq_p rfl rfl (ty_gle (n := x2.toInt) (nm_i2l _) (fun z14 ez14 => ?_))
        refine hq_p rfl rfl (ty_gle (n := 0) (by decide) (fun z15 ez15 => ?_))
        refine hq_p rfl rfl (ty_gle (n := 9) (by decide) (fun z16 ez16 => ?_))
        refine ty_callp 1 Ih2 rfl (fun _ => rfl) rfl rfl rfl rfl (ct_136 (x0 := z14) (x1 := z15) (x2 := z16) (by omega)) (fun _ P17 => ?_)
        obtain ⟨z18, rfl, az18, bz18, iz18⟩ := P17
        refine ty_zeq rfl (fun c19 => ?_) (fun c19 => ?_)
        · clear iz18
          refine hq_p rfl rfl (ty_ge (n := 0) nk_i0 (fun z20 ez20 => ?_))
          refine hq_p (ls' := [some (.ref 97), some (.int x1), some (.int x2), some (.int z20)]) rfl rfl ?_
          refine hq_p rfl rfl ?_
          refine ty_zne rfl (fun c21 => ?_) (fun c21 => ?_)
          · exfalso; omega
          · refine hq_p rfl rfl ?_
            refine hq_p rfl rfl (ty_ge (n := -1) nk_im1 (fun z22 ez22 => ?_))
            refine ty_callj 0 (W := ty_Wz) H Jh2 rfl (fun _ => rfl) rfl rfl rfl (hq_pre_o Ih2.1 (x := 97) (ci := 11) rfl (by decide) rfl rfl rfl rfl) (fun a k w => by unfold ty_Wt at w; unfold ty_Wz; omega) (by unfold ty_Wt ty_Wz; omega) (ct_140 (x1 := z22) (by omega) (by omega) (by omega)) (fun h24 _ Jh24 P23 => ?_)
            have Ih24 := H.1 h24 Jh24
            obtain ⟨z25, rfl, fz25⟩ := P23
            exact hq_W.ret rfl rfl rfl ⟨Jh24, _, rfl, by omega, by omega⟩
        · replace c19 : 1 ≤ z18.toInt ∧ z18.toInt ≤ 1 := by omega
          have f26 := iz18 (by omega)
          clear iz18
          refine hq_p rfl rfl (ty_ge (n := 1) nk_i1 (fun z27 ez27 => ?_))
          refine hq_p rfl rfl ?_
          refine hq_p (ls' := [some (.ref 97), some (.int x1), some (.int x2), some (.int z27)]) rfl rfl ?_
          refine hq_p rfl rfl ?_
          refine ty_zne rfl (fun c28 => ?_) (fun c28 => ?_)
          · clear c28
            refine hq_p rfl rfl ?_
            refine hq_p rfl rfl (ty_ge (n := 0) nk_i0 (fun z29 ez29 => ?_))
            refine ty_pI (W := ty_Wz) H Jh2 rfl rfl (by decide) rfl rfl (by unfold ty_Wz; omega) rfl (by omega) (by omega) (fun h30 eh30 Jh30 => ?_)
            have wh30 : (hs_fI h30 97 8).toInt = z29.toInt := by rw [eh30]; exact congrArg Int32.toInt (ty_fI_eq Ih2.1 rfl (by decide) rfl)
            have Ih30 := H.1 h30 Jh30
            refine hq_p rfl rfl ?_
            refine hq_p rfl rfl (ty_ge (n := 5) nk_i5 (fun z31 ez31 => ?_))
            refine hq_p rfl rfl ?_
            refine hq_p rfl rfl (ty_ge (n := z31.toInt + x1.toInt) (nm_add (by omega) (by omega)) (fun z32 ez32 => ?_))
            refine hq_p rfl rfl ?_
            refine ty_callj 0 (W := ty_Wz) H Jh30 rfl (fun _ => rfl) rfl rfl rfl (hq_pre_o Ih30.1 (x := 97) (ci := 11) rfl (by decide) rfl rfl rfl rfl) (fun a k w => by unfold ty_Wx at w; unfold ty_Wz; omega) (by unfold ty_Wx ty_Wz; omega) (ct_141b (x1 := z32) (x2 := x2) (by omega) (by omega) (by omega)) (fun h34 _ Jh34 P33 => ?_)
            have Ih34 := H.1 h34 Jh34
            obtain ⟨z35, rfl, az35, bz35⟩ := P33
            exact hq_W.ret rfl rfl rfl ⟨Jh34, _, rfl, by omega, by omega⟩
          · exfalso; omega
    · refine hq_p rfl rfl ?_
      refine hq_p rfl rfl (ty_gle (n := x2.toInt) (nm_i2l _) (fun z36 ez36 => ?_))
      refine hq_p rfl rfl (ty_gle (n := 0) (by decide) (fun z37 ez37 => ?_))
      refine hq_p rfl rfl (ty_gle (n := 10) (by decide) (fun z38 ez38 => ?_))
      refine ty_callp 1 Ih2 rfl (fun _ => rfl) rfl rfl rfl rfl (ct_136 (x0 := z36) (x1 := z37) (x2 := z38) (by omega)) (fun _ P39 => ?_)
      obtain ⟨z40, rfl, az40, bz40, iz40⟩ := P39
      refine hq_p rfl rfl ?_
      refine hq_p (ls' := [some (.ref 97), some (.int x1), some (.int x2), some (.int z40)]) rfl rfl ?_
      refine hq_p rfl rfl ?_
      refine ty_zne rfl (fun c41 => ?_) (fun c41 => ?_)
      · replace c41 : 1 ≤ z40.toInt ∧ z40.toInt ≤ 1 := by omega
        have f42 := iz40 (by omega)
        clear iz40
        refine hq_p rfl rfl ?_
        refine hq_p rfl rfl (ty_ge (n := 0) nk_i0 (fun z43 ez43 => ?_))
        refine ty_pI (W := ty_Wz) H Jh2 rfl rfl (by decide) rfl rfl (by unfold ty_Wz; omega) rfl (by omega) (by omega) (fun h44 eh44 Jh44 => ?_)
        have wh44 : (hs_fI h44 97 8).toInt = z43.toInt := by rw [eh44]; exact congrArg Int32.toInt (ty_fI_eq Ih2.1 rfl (by decide) rfl)
        have Ih44 := H.1 h44 Jh44
        refine hq_p rfl rfl ?_
        refine hq_p rfl rfl (ty_ge (n := 5) nk_i5 (fun z45 ez45 => ?_))
        refine hq_p rfl rfl ?_
        refine hq_p rfl rfl (ty_ge (n := z45.toInt + x1.toInt) (nm_add (by omega) (by omega)) (fun z46 ez46 => ?_))
        refine hq_p rfl rfl ?_
        refine ty_callj 0 (W := ty_Wz) H Jh44 rfl (fun _ => rfl) rfl rfl rfl (hq_pre_o Ih44.1 (x := 97) (ci := 11) rfl (by decide) rfl rfl rfl rfl) (fun a k w => by unfold ty_Wx at w; unfold ty_Wz; omega) (by unfold ty_Wx ty_Wz; omega) (ct_141b (x1 := z46) (x2 := x2) (by omega) (by omega) (by omega)) (fun h48 _ Jh48 P47 => ?_)
        have Ih48 := H.1 h48 Jh48
        obtain ⟨z49, rfl, az49, bz49⟩ := P47
        exact hq_W.ret rfl rfl rfl ⟨Jh48, _, rfl, by omega, by omega⟩
      · clear iz40
        refine hq_p rfl rfl ?_
        refine hq_p rfl rfl (ty_ge (n := -1) nk_im1 (fun z50 ez50 => ?_))
        refine ty_callj 0 (W := ty_Wz) H Jh2 rfl (fun _ => rfl) rfl rfl rfl (hq_pre_o Ih2.1 (x := 97) (ci := 11) rfl (by decide) rfl rfl rfl rfl) (fun a k w => by unfold ty_Wt at w; unfold ty_Wz; omega) (by unfold ty_Wt ty_Wz; omega) (ct_140 (x1 := z50) (by omega) (by omega) (by omega)) (fun h52 _ Jh52 P51 => ?_)
        have Ih52 := H.1 h52 Jh52
        obtain ⟨z53, rfl, fz53⟩ := P51
        exact hq_W.ret rfl rfl rfl ⟨Jh52, _, rfl, by omega, by omega⟩
  · refine hq_p rfl rfl ?_
    refine hq_p rfl rfl (ty_gle (n := x2.toInt) (nm_i2l _) (fun z54 ez54 => ?_))
    refine hq_p rfl rfl (ty_gle (n := 0) (by decide) (fun z55 ez55 => ?_))
    refine hq_p rfl rfl (ty_gle (n := 999) (by decide) (fun z56 ez56 => ?_))
    refine ty_callp 1 Ih2 rfl (fun _ => rfl) rfl rfl rfl rfl (ct_136 (x0 := z54) (x1 := z55) (x2 := z56) (by omega)) (fun _ P57 => ?_)
    obtain ⟨z58, rfl, az58, bz58, iz58⟩ := P57
    refine hq_p rfl rfl ?_
    refine hq_p (ls' := [some (.ref 97), some (.int x1), some (.int x2), some (.int z58)]) rfl rfl ?_
    refine hq_p rfl rfl ?_
    refine ty_zne rfl (fun c59 => ?_) (fun c59 => ?_)
    · replace c59 : 1 ≤ z58.toInt ∧ z58.toInt ≤ 1 := by omega
      have f60 := iz58 (by omega)
      clear iz58
      refine hq_p rfl rfl ?_
      refine hq_p rfl rfl (ty_ge (n := 0) nk_i0 (fun z61 ez61 => ?_))
      refine ty_pI (W := ty_Wz) H Jh2 rfl rfl (by decide) rfl rfl (by unfold ty_Wz; omega) rfl (by omega) (by omega) (fun h62 eh62 Jh62 => ?_)
      have wh62 : (hs_fI h62 97 8).toInt = z61.toInt := by rw [eh62]; exact congrArg Int32.toInt (ty_fI_eq Ih2.1 rfl (by decide) rfl)
      have Ih62 := H.1 h62 Jh62
      refine hq_p rfl rfl ?_
      refine hq_p rfl rfl (ty_ge (n := 5) nk_i5 (fun z63 ez63 => ?_))
      refine hq_p rfl rfl ?_
      refine hq_p rfl rfl (ty_ge (n := z63.toInt + x1.toInt) (nm_add (by omega) (by omega)) (fun z64 ez64 => ?_))
      refine hq_p rfl rfl ?_
      refine ty_callj 0 (W := ty_Wz) H Jh62 rfl (fun _ => rfl) rfl rfl rfl (hq_pre_o Ih62.1 (x := 97) (ci := 11) rfl (by decide) rfl rfl rfl rfl) (fun _ _ w => w) (fun _ w => w) (ct_141c (x1 := z64) (x2 := x2) (by omega) (by omega) (by omega) (by omega) (by omega)) (fun h66 _ Jh66 P65 => ?_)
      have Ih66 := H.1 h66 Jh66
      obtain ⟨z67, rfl, az67, bz67⟩ := P65
      exact hq_W.ret rfl rfl rfl ⟨Jh66, _, rfl, by omega, by omega⟩
    · clear iz58
      refine hq_p rfl rfl ?_
      refine hq_p rfl rfl (ty_ge (n := -1) nk_im1 (fun z68 ez68 => ?_))
      refine ty_callj 0 (W := ty_Wz) H Jh2 rfl (fun _ => rfl) rfl rfl rfl (hq_pre_o Ih2.1 (x := 97) (ci := 11) rfl (by decide) rfl rfl rfl rfl) (fun a k w => by unfold ty_Wt at w; unfold ty_Wz; omega) (by unfold ty_Wt ty_Wz; omega) (ct_140 (x1 := z68) (by omega) (by omega) (by omega)) (fun h70 _ Jh70 P69 => ?_)
      have Ih70 := H.1 h70 Jh70
      obtain ⟨z71, rfl, fz71⟩ := P69
      exact hq_W.ret rfl rfl rfl ⟨Jh70, _, rfl, by omega, by omega⟩
theorem ct_165 {X : pm_X} {d : Nat} {h : pm_H}  (hd : 1 ≤ d)  : ty_M X ty_Wt d 165 [.ref 97] h (ty_pi (-2147483648) 2147483647) := by
  intro J H hJ
  obtain ⟨d, rfl⟩ : ∃ e, d = e + 1 := ⟨d - 1, by omega⟩
  have I := H.1 h hJ
  refine hq_M.enter (q := (⟨"TrainBearersModel", "puddles", "()I"⟩, _, 1, some .int, 11, 1, pm_c165)) rfl rfl ?_
  show hq_W X d 11 false (some .int) pm_c165 (0, [some (.ref 97)], [], h) (fun h' v => J h' ∧ (ty_pi (-2147483648) 2147483647) h' v)
  refine hq_p rfl rfl ?_
  refine hq_p rfl rfl (ty_ge (n := 0) nk_i0 (fun z1 ez1 => ?_))
  refine ty_pI (W := ty_Wt) H hJ rfl rfl (by decide) rfl rfl (by unfold ty_Wt; omega) rfl (by omega) (by omega) (fun h2 eh2 Jh2 => ?_)
  have wh2 : (hs_fI h2 97 0).toInt = z1.toInt := by rw [eh2]; exact congrArg Int32.toInt (ty_fI_eq I.1 rfl (by decide) rfl)
  have Ih2 := H.1 h2 Jh2
  refine hq_p rfl rfl ?_
  refine ty_gI Ih2 rfl rfl (by decide) (by decide) rfl rfl (fun z3 ez3 az3 bz3 => ?_)
  exact hq_W.ret rfl rfl rfl ⟨Jh2, _, rfl, by omega, by omega⟩
theorem ct_177 {X : pm_X} {d : Nat} {h : pm_H}  (hd : 1 ≤ d)  : ty_M X ty_Wt d 177 [.ref 97] h (ty_pi (-2147483648) 2147483647) := by
  intro J H hJ
  obtain ⟨d, rfl⟩ : ∃ e, d = e + 1 := ⟨d - 1, by omega⟩
  have I := H.1 h hJ
  refine hq_M.enter (q := (⟨"TrainBearersModel", "fault", "()I"⟩, _, 1, some .int, 11, 1, pm_c177)) rfl rfl ?_
  show hq_W X d 11 false (some .int) pm_c177 (0, [some (.ref 97)], [], h) (fun h' v => J h' ∧ (ty_pi (-2147483648) 2147483647) h' v)
  refine hq_p rfl rfl ?_
  refine hq_p rfl rfl (ty_ge (n := 0) nk_i0 (fun z1 ez1 => ?_))
  refine ty_pI (W := ty_Wt) H hJ rfl rfl (by decide) rfl rfl (by unfold ty_Wt; omega) rfl (by omega) (by omega) (fun h2 eh2 Jh2 => ?_)
  have wh2 : (hs_fI h2 97 0).toInt = z1.toInt := by rw [eh2]; exact congrArg Int32.toInt (ty_fI_eq I.1 rfl (by decide) rfl)
  have Ih2 := H.1 h2 Jh2
  refine hq_p rfl rfl ?_
  refine ty_gI Ih2 rfl rfl (by decide) (by decide) rfl rfl (fun z3 ez3 az3 bz3 => ?_)
  exact hq_W.ret rfl rfl rfl ⟨Jh2, _, rfl, by omega, by omega⟩
theorem ct_198 {X : pm_X} {d : Nat} {h : pm_H} {x1 : Int32} (hd : 3 ≤ d)  : ty_M X ty_Wx d 198 [.ref 97, .int x1] h (ty_pi (-2) 5) := by
  intro J H hJ
  obtain ⟨d, rfl⟩ : ∃ e, d = e + 1 := ⟨d - 1, by omega⟩
  have I := H.1 h hJ
  have ax1 := nm_lo x1
  have bx1 := nm_hi x1
  refine hq_M.enter (q := (⟨"TrainBearersModel", "force", "(I)I"⟩, _, 2, some .int, 11, 2, pm_c198)) rfl rfl ?_
  show hq_W X d 11 false (some .int) pm_c198 (0, [some (.ref 97), some (.int x1)], [], h) (fun h' v => J h' ∧ (ty_pi (-2) 5) h' v)
  refine hq_p rfl rfl ?_
  refine hq_p rfl rfl (ty_ge (n := 0) nk_i0 (fun z1 ez1 => ?_))
  refine ty_pI (W := ty_Wx) H hJ rfl rfl (by decide) rfl rfl (by unfold ty_Wx; omega) rfl (by omega) (by omega) (fun h2 eh2 Jh2 => ?_)
  have wh2 : (hs_fI h2 97 0).toInt = z1.toInt := by rw [eh2]; exact congrArg Int32.toInt (ty_fI_eq I.1 rfl (by decide) rfl)
  have Ih2 := H.1 h2 Jh2
  refine hq_p rfl rfl ?_
  refine hq_p rfl rfl ?_
  refine ty_callp 0 Ih2 rfl (fun _ => rfl) rfl rfl rfl (hq_pre_o Ih2.1 (x := 97) (ci := 11) rfl (by decide) rfl rfl rfl rfl) (ct_197 (x1 := x1) (by omega)) (fun _ P3 => ?_)
  obtain ⟨z4, rfl, az4, bz4, iz4⟩ := P3
  refine ty_zeq rfl (fun c5 => ?_) (fun c5 => ?_)
  · clear iz4
    refine hq_p rfl rfl ?_
    refine hq_p rfl rfl (ty_ge (n := -2) nk_bm2 (fun z6 ez6 => ?_))
    refine ty_callj 0 (W := ty_Wx) H Jh2 rfl (fun _ => rfl) rfl rfl rfl (hq_pre_o Ih2.1 (x := 97) (ci := 11) rfl (by decide) rfl rfl rfl rfl) (fun a k w => by unfold ty_Wt at w; unfold ty_Wx; omega) (by unfold ty_Wt ty_Wx; omega) (ct_140 (x1 := z6) (by omega) (by omega) (by omega)) (fun h8 _ Jh8 P7 => ?_)
    have Ih8 := H.1 h8 Jh8
    obtain ⟨z9, rfl, fz9⟩ := P7
    exact hq_W.ret rfl rfl rfl ⟨Jh8, _, rfl, by omega, by omega⟩
  · replace c5 : 1 ≤ z4.toInt ∧ z4.toInt ≤ 1 := by omega
    have f10 := iz4 (by omega)
    clear iz4
    refine hq_p rfl rfl ?_
    refine hq_p rfl rfl (ty_ge (n := 4) nk_i4 (fun z11 ez11 => ?_))
    refine hq_p rfl rfl ?_
    refine ty_callj 0 (W := ty_Wx) H Jh2 rfl (fun _ => rfl) rfl rfl rfl (hq_pre_o Ih2.1 (x := 97) (ci := 11) rfl (by decide) rfl rfl rfl rfl) (fun _ _ w => w) (fun _ w => w) (ct_141a (x1 := z11) (x2 := x1) (by omega) (by omega) (by omega) (by omega) (by omega)) (fun h13 _ Jh13 P12 => ?_)
    have Ih13 := H.1 h13 Jh13
    obtain ⟨z14, rfl, az14, bz14⟩ := P12
    refine hq_p rfl rfl ?_
    exact hq_W.ret rfl rfl rfl ⟨Jh13, _, rfl, by omega, by omega⟩
theorem ct_228 {X : pm_X} {d : Nat} {h : pm_H} {x1 : Int32} {x2 : Int32} (hd : 3 ≤ d)  : ty_M X ty_Wx d 228 [.ref 97, .int x1, .int x2] h (ty_pi (-5) 6) := by
  intro J H hJ
  obtain ⟨d, rfl⟩ : ∃ e, d = e + 1 := ⟨d - 1, by omega⟩
  have I := H.1 h hJ
  have ax1 := nm_lo x1
  have bx1 := nm_hi x1
  have ax2 := nm_lo x2
  have bx2 := nm_hi x2
  refine hq_M.enter (q := (⟨"TrainBearersModel", "seen", "(II)I"⟩, _, 4, some .int, 11, 3, pm_c228)) rfl rfl ?_
  show hq_W X d 11 false (some .int) pm_c228 (0, [some (.ref 97), some (.int x1), some (.int x2), none], [], h) (fun h' v => J h' ∧ (ty_pi (-5) 6) h' v)
  refine hq_p rfl rfl ?_
  refine hq_p rfl rfl (ty_ge (n := 0) nk_i0 (fun z1 ez1 => ?_))
  refine ty_pI (W := ty_Wx) H hJ rfl rfl (by decide) rfl rfl (by unfold ty_Wx; omega) rfl (by omega) (by omega) (fun h2 eh2 Jh2 => ?_)
  have wh2 : (hs_fI h2 97 0).toInt = z1.toInt := by rw [eh2]; exact congrArg Int32.toInt (ty_fI_eq I.1 rfl (by decide) rfl)
  have Ih2 := H.1 h2 Jh2
  refine hq_p rfl rfl ?_
  refine hq_p rfl rfl (ty_gle (n := x2.toInt) (nm_i2l _) (fun z3 ez3 => ?_))
  refine hq_p rfl rfl (ty_gle (n := 0) (by decide) (fun z4 ez4 => ?_))
  refine hq_p rfl rfl (ty_gle (n := 40) (by decide) (fun z5 ez5 => ?_))
  refine ty_callp 1 Ih2 rfl (fun _ => rfl) rfl rfl rfl rfl (ct_136 (x0 := z3) (x1 := z4) (x2 := z5) (by omega)) (fun _ P6 => ?_)
  obtain ⟨z7, rfl, az7, bz7, iz7⟩ := P6
  refine ty_zne rfl (fun c8 => ?_) (fun c8 => ?_)
  · replace c8 : 1 ≤ z7.toInt ∧ z7.toInt ≤ 1 := by omega
    have f9 := iz7 (by omega)
    clear iz7
    refine hq_p rfl rfl ?_
    refine hq_p rfl rfl ?_
    refine ty_callp 0 Ih2 rfl (fun _ => rfl) rfl rfl rfl (hq_pre_o Ih2.1 (x := 97) (ci := 11) rfl (by decide) rfl rfl rfl rfl) (ct_149 (x1 := x1) (by omega)) (fun _ P10 => ?_)
    obtain ⟨z11, rfl, az11, bz11, iz11⟩ := P10
    refine ty_zne rfl (fun c12 => ?_) (fun c12 => ?_)
    · replace c12 : 1 ≤ z11.toInt ∧ z11.toInt ≤ 1 := by omega
      have f13 := iz11 (by omega)
      clear iz11
      refine hq_p rfl rfl ?_
      refine hq_gR Ih2.1 rfl rfl (by decide) (by decide) rfl ?_
      refine hq_p rfl rfl (ty_ge (n := 2) nk_i2 (fun z14 ez14 => ?_))
      refine ty_aL Ih2 rfl rfl (by decide) (by omega) (by omega) (fun i e => ty_le (ty_w2 (by omega) (by omega))) (fun z15 ez15 az15 bz15 => ?_)
      rw [show z14.toInt.toNat = 2 by omega] at ez15
      refine hq_p (ls' := [some (.ref 97), some (.int x1), some (.int x2), some (.int z15)]) rfl rfl ?_
      refine hq_p rfl rfl ?_
      refine hq_p rfl rfl (ty_ge (n := 6) nk_b6 (fun z16 ez16 => ?_))
      refine ty_ine rfl (fun c17 => ?_) (fun c17 => ?_)
      · replace c17 : 0 ≤ z15.toInt ∧ z15.toInt ≤ 5 := by omega
        refine hq_p rfl rfl ?_
        refine hq_gR Ih2.1 rfl rfl (by decide) (by decide) rfl ?_
        refine hq_p rfl rfl (ty_ge (n := 86) nk_b86 (fun z18 ez18 => ?_))
        refine hq_p rfl rfl (ty_ge (n := 2) nk_i2 (fun z19 ez19 => ?_))
        refine hq_p rfl rfl ?_
        refine hq_p rfl rfl (ty_ge (n := 2 * z15.toInt) (nm_cmul ez19 (by omega) (by omega)) (fun z20 ez20 => ?_))
        refine hq_p rfl rfl (ty_ge (n := z18.toInt + z20.toInt) (nm_add (by omega) (by omega)) (fun z21 ez21 => ?_))
        refine hq_p rfl rfl ?_
        refine ty_aS (W := ty_Wx) H Jh2 rfl rfl (by decide) (by omega) (by omega) (fun i e => by unfold ty_Wx; omega) (fun i e => ty_eg (ty_w86 (by omega) (by omega) (by omega))) (by omega) (by omega) (fun e1 e2 w => by omega) (fun h22 eh22 Jh22 => ?_)
        have Ih22 := H.1 h22 Jh22
        refine hq_p rfl rfl ?_
        refine hq_gR Ih22.1 rfl rfl (by decide) (by decide) rfl ?_
        refine hq_p rfl rfl (ty_ge (n := 86) nk_b86 (fun z23 ez23 => ?_))
        refine hq_p rfl rfl (ty_ge (n := 2) nk_i2 (fun z24 ez24 => ?_))
        refine hq_p rfl rfl ?_
        refine hq_p rfl rfl (ty_ge (n := 2 * z15.toInt) (nm_cmul ez24 (by omega) (by omega)) (fun z25 ez25 => ?_))
        refine hq_p rfl rfl (ty_ge (n := z23.toInt + z25.toInt) (nm_add (by omega) (by omega)) (fun z26 ez26 => ?_))
        refine hq_p rfl rfl (ty_ge (n := 1) nk_i1 (fun z27 ez27 => ?_))
        refine hq_p rfl rfl (ty_ge (n := z26.toInt + z27.toInt) (nm_add (by omega) (by omega)) (fun z28 ez28 => ?_))
        refine hq_p rfl rfl ?_
        refine ty_aS (W := ty_Wx) H Jh22 rfl rfl (by decide) (by omega) (by omega) (fun i e => by unfold ty_Wx; omega) (fun i e => ty_eg (ty_w87 (by omega) (by omega) (by omega))) (by omega) (by omega) (fun e1 e2 w => by omega) (fun h29 eh29 Jh29 => ?_)
        have Ih29 := H.1 h29 Jh29
        refine hq_p rfl rfl ?_
        refine hq_gR Ih29.1 rfl rfl (by decide) (by decide) rfl ?_
        refine hq_p rfl rfl (ty_ge (n := 2) nk_i2 (fun z30 ez30 => ?_))
        refine hq_p rfl rfl ?_
        have r32 : (hs_aI h2 99 2).toInt = (hs_aI h 99 2).toInt := by rw [eh2]; exact congrArg Int32.toInt (ty_aI_ne (by omega))
        have r33 : (hs_aI h22 99 2).toInt = (hs_aI h2 99 2).toInt := by rw [eh22]; exact congrArg Int32.toInt (ty_aI_sA (by omega))
        have r34 : (hs_aI h29 99 2).toInt = (hs_aI h22 99 2).toInt := by rw [eh29]; exact congrArg Int32.toInt (ty_aI_sA (by omega))
        refine ty_aL Ih29 rfl rfl (by decide) (by omega) (by omega) (fun i e => ty_le (ty_w2 (by omega) (by omega))) (fun z31 ez31 az31 bz31 => ?_)
        rw [show z30.toInt.toNat = 2 by omega] at ez31
        refine hq_p rfl rfl (ty_ge (n := 1) nk_i1 (fun z35 ez35 => ?_))
        refine hq_p rfl rfl (ty_ge (n := z31.toInt + z35.toInt) (nm_add (by omega) (by omega)) (fun z36 ez36 => ?_))
        refine ty_aS (W := ty_Wx) H Jh29 rfl rfl (by decide) (by omega) (by omega) (fun i e => by unfold ty_Wx; omega) (fun i e => ty_eg (ty_w2 (by omega) (by omega))) (by omega) (by omega) (fun e1 e2 w => by omega) (fun h37 eh37 Jh37 => ?_)
        have Ih37 := H.1 h37 Jh37
        refine hq_p rfl rfl ?_
        refine hq_p rfl rfl ?_
        refine hq_p rfl rfl (ty_ge (n := 1) nk_i1 (fun z38 ez38 => ?_))
        refine hq_p rfl rfl (ty_ge (n := z15.toInt + z38.toInt) (nm_add (by omega) (by omega)) (fun z39 ez39 => ?_))
        refine ty_callj 0 (W := ty_Wx) H Jh37 rfl (fun _ => rfl) rfl rfl rfl (hq_pre_o Ih37.1 (x := 97) (ci := 11) rfl (by decide) rfl rfl rfl rfl) (fun a k w => by unfold ty_Wt at w; unfold ty_Wx; omega) (by unfold ty_Wt ty_Wx; omega) (ct_140 (x1 := z39) (by omega) (by omega) (by omega)) (fun h41 _ Jh41 P40 => ?_)
        have Ih41 := H.1 h41 Jh41
        obtain ⟨z42, rfl, fz42⟩ := P40
        exact hq_W.ret rfl rfl rfl ⟨Jh41, _, rfl, by omega, by omega⟩
      · refine hq_p rfl rfl ?_
        refine hq_p rfl rfl (ty_ge (n := -5) nk_bm5 (fun z43 ez43 => ?_))
        refine ty_callj 0 (W := ty_Wx) H Jh2 rfl (fun _ => rfl) rfl rfl rfl (hq_pre_o Ih2.1 (x := 97) (ci := 11) rfl (by decide) rfl rfl rfl rfl) (fun a k w => by unfold ty_Wt at w; unfold ty_Wx; omega) (by unfold ty_Wt ty_Wx; omega) (ct_140 (x1 := z43) (by omega) (by omega) (by omega)) (fun h45 _ Jh45 P44 => ?_)
        have Ih45 := H.1 h45 Jh45
        obtain ⟨z46, rfl, fz46⟩ := P44
        exact hq_W.ret rfl rfl rfl ⟨Jh45, _, rfl, by omega, by omega⟩
    · clear iz11
      refine hq_p rfl rfl ?_
      refine hq_p rfl rfl (ty_ge (n := -2) nk_bm2 (fun z47 ez47 => ?_))
      refine ty_callj 0 (W := ty_Wx) H Jh2 rfl (fun _ => rfl) rfl rfl rfl (hq_pre_o Ih2.1 (x := 97) (ci := 11) rfl (by decide) rfl rfl rfl rfl) (fun a k w => by unfold ty_Wt at w; unfold ty_Wx; omega) (by unfold ty_Wt ty_Wx; omega) (ct_140 (x1 := z47) (by omega) (by omega) (by omega)) (fun h49 _ Jh49 P48 => ?_)
      have Ih49 := H.1 h49 Jh49
      obtain ⟨z50, rfl, fz50⟩ := P48
      exact hq_W.ret rfl rfl rfl ⟨Jh49, _, rfl, by omega, by omega⟩
  · clear iz7
    refine hq_p rfl rfl ?_
    refine hq_p rfl rfl (ty_ge (n := -1) nk_im1 (fun z51 ez51 => ?_))
    refine ty_callj 0 (W := ty_Wx) H Jh2 rfl (fun _ => rfl) rfl rfl rfl (hq_pre_o Ih2.1 (x := 97) (ci := 11) rfl (by decide) rfl rfl rfl rfl) (fun a k w => by unfold ty_Wt at w; unfold ty_Wx; omega) (by unfold ty_Wt ty_Wx; omega) (ct_140 (x1 := z51) (by omega) (by omega) (by omega)) (fun h53 _ Jh53 P52 => ?_)
    have Ih53 := H.1 h53 Jh53
    obtain ⟨z54, rfl, fz54⟩ := P52
    exact hq_W.ret rfl rfl rfl ⟨Jh53, _, rfl, by omega, by omega⟩
theorem ct_229 {X : pm_X} {d : Nat} {h : pm_H}  (hd : 1 ≤ d)  : ty_M X ty_Wx d 229 [.ref 97] h (ty_pi 0 6) := by
  intro J H hJ
  obtain ⟨d, rfl⟩ : ∃ e, d = e + 1 := ⟨d - 1, by omega⟩
  have I := H.1 h hJ
  refine hq_M.enter (q := (⟨"TrainBearersModel", "forget", "()I"⟩, _, 2, some .int, 11, 1, pm_c229)) rfl rfl ?_
  show hq_W X d 11 false (some .int) pm_c229 (0, [some (.ref 97), none], [], h) (fun h' v => J h' ∧ (ty_pi 0 6) h' v)
  refine hq_p rfl rfl ?_
  refine hq_p rfl rfl (ty_ge (n := 0) nk_i0 (fun z1 ez1 => ?_))
  refine ty_pI (W := ty_Wx) H hJ rfl rfl (by decide) rfl rfl (by unfold ty_Wx; omega) rfl (by omega) (by omega) (fun h2 eh2 Jh2 => ?_)
  have wh2 : (hs_fI h2 97 0).toInt = z1.toInt := by rw [eh2]; exact congrArg Int32.toInt (ty_fI_eq I.1 rfl (by decide) rfl)
  have Ih2 := H.1 h2 Jh2
  refine hq_p rfl rfl ?_
  refine hq_gR Ih2.1 rfl rfl (by decide) (by decide) rfl ?_
  refine hq_p rfl rfl (ty_ge (n := 2) nk_i2 (fun z3 ez3 => ?_))
  refine ty_aL Ih2 rfl rfl (by decide) (by omega) (by omega) (fun i e => ty_le (ty_w2 (by omega) (by omega))) (fun z4 ez4 az4 bz4 => ?_)
  rw [show z3.toInt.toNat = 2 by omega] at ez4
  refine hq_p (ls' := [some (.ref 97), some (.int z4)]) rfl rfl ?_
  refine hq_p rfl rfl ?_
  refine hq_gR Ih2.1 rfl rfl (by decide) (by decide) rfl ?_
  refine hq_p rfl rfl (ty_ge (n := 2) nk_i2 (fun z5 ez5 => ?_))
  refine hq_p rfl rfl (ty_ge (n := 0) nk_i0 (fun z6 ez6 => ?_))
  refine ty_aS (W := ty_Wx) H Jh2 rfl rfl (by decide) (by omega) (by omega) (fun i e => by unfold ty_Wx; omega) (fun i e => ty_eg (ty_w2 (by omega) (by omega))) (by omega) (by omega) (fun e1 e2 w => by omega) (fun h7 eh7 Jh7 => ?_)
  have Ih7 := H.1 h7 Jh7
  refine hq_p rfl rfl ?_
  exact hq_W.ret rfl rfl rfl ⟨Jh7, _, rfl, by omega, by omega⟩
theorem ct_251 {X : pm_X} {d : Nat} {h : pm_H}  (hd : 1 ≤ d)  : ty_M X ty_Wt d 251 [.ref 97] h (ty_pi (-2147483648) 2147483647) := by
  intro J H hJ
  obtain ⟨d, rfl⟩ : ∃ e, d = e + 1 := ⟨d - 1, by omega⟩
  have I := H.1 h hJ
  refine hq_M.enter (q := (⟨"TrainBearersModel", "stopped", "()I"⟩, _, 1, some .int, 11, 1, pm_c251)) rfl rfl ?_
  show hq_W X d 11 false (some .int) pm_c251 (0, [some (.ref 97)], [], h) (fun h' v => J h' ∧ (ty_pi (-2147483648) 2147483647) h' v)
  refine hq_p rfl rfl ?_
  refine hq_p rfl rfl (ty_ge (n := 0) nk_i0 (fun z1 ez1 => ?_))
  refine ty_pI (W := ty_Wt) H hJ rfl rfl (by decide) rfl rfl (by unfold ty_Wt; omega) rfl (by omega) (by omega) (fun h2 eh2 Jh2 => ?_)
  have wh2 : (hs_fI h2 97 0).toInt = z1.toInt := by rw [eh2]; exact congrArg Int32.toInt (ty_fI_eq I.1 rfl (by decide) rfl)
  have Ih2 := H.1 h2 Jh2
  refine hq_p rfl rfl ?_
  refine ty_gI Ih2 rfl rfl (by decide) (by decide) rfl rfl (fun z3 ez3 az3 bz3 => ?_)
  exact hq_W.ret rfl rfl rfl ⟨Jh2, _, rfl, by omega, by omega⟩
theorem ct_256 {X : pm_X} {d : Nat} {h : pm_H}  (hd : 1 ≤ d)  : ty_M X ty_Wt d 256 [.ref 97] h (ty_pi (-2147483648) 2147483647) := by
  intro J H hJ
  obtain ⟨d, rfl⟩ : ∃ e, d = e + 1 := ⟨d - 1, by omega⟩
  have I := H.1 h hJ
  refine hq_M.enter (q := (⟨"TrainBearersModel", "status", "()I"⟩, _, 1, some .int, 11, 1, pm_c256)) rfl rfl ?_
  show hq_W X d 11 false (some .int) pm_c256 (0, [some (.ref 97)], [], h) (fun h' v => J h' ∧ (ty_pi (-2147483648) 2147483647) h' v)
  refine hq_p rfl rfl ?_
  refine hq_p rfl rfl (ty_ge (n := 0) nk_i0 (fun z1 ez1 => ?_))
  refine ty_pI (W := ty_Wt) H hJ rfl rfl (by decide) rfl rfl (by unfold ty_Wt; omega) rfl (by omega) (by omega) (fun h2 eh2 Jh2 => ?_)
  have wh2 : (hs_fI h2 97 0).toInt = z1.toInt := by rw [eh2]; exact congrArg Int32.toInt (ty_fI_eq I.1 rfl (by decide) rfl)
  have Ih2 := H.1 h2 Jh2
  refine hq_p rfl rfl ?_
  refine ty_gI Ih2 rfl rfl (by decide) (by decide) rfl rfl (fun z3 ez3 az3 bz3 => ?_)
  exact hq_W.ret rfl rfl rfl ⟨Jh2, _, rfl, by omega, by omega⟩
theorem ct_254 {X : pm_X} {d : Nat} {h : pm_H} {x1 : Int32} {x2 : Int32} (hd : 2 ≤ d)  : ty_M X ty_Wt d 254 [.ref 97, .int x1, .int x2] h (ty_pi (-2147483648) 2147483647) := by
  intro J H hJ
  obtain ⟨d, rfl⟩ : ∃ e, d = e + 1 := ⟨d - 1, by omega⟩
  have I := H.1 h hJ
  have ax1 := nm_lo x1
  have bx1 := nm_hi x1
  have ax2 := nm_lo x2
  have bx2 := nm_hi x2
  refine hq_M.enter (q := (⟨"TrainBearersModel", "drawn", "(II)I"⟩, _, 3, some .int, 11, 3, pm_c254)) rfl rfl ?_
  show hq_W X d 11 false (some .int) pm_c254 (0, [some (.ref 97), some (.int x1), some (.int x2)], [], h) (fun h' v => J h' ∧ (ty_pi (-2147483648) 2147483647) h' v)
  refine hq_p rfl rfl ?_
  refine hq_p rfl rfl (ty_ge (n := 0) nk_i0 (fun z1 ez1 => ?_))
  refine ty_pI (W := ty_Wt) H hJ rfl rfl (by decide) rfl rfl (by unfold ty_Wt; omega) rfl (by omega) (by omega) (fun h2 eh2 Jh2 => ?_)
  have wh2 : (hs_fI h2 97 0).toInt = z1.toInt := by rw [eh2]; exact congrArg Int32.toInt (ty_fI_eq I.1 rfl (by decide) rfl)
  have Ih2 := H.1 h2 Jh2
  refine hq_p rfl rfl ?_
  refine hq_p rfl rfl (ty_gle (n := x2.toInt) (nm_i2l _) (fun z3 ez3 => ?_))
  refine hq_p rfl rfl (ty_gle (n := 0) (by decide) (fun z4 ez4 => ?_))
  refine hq_p rfl rfl (ty_gle (n := 2) (by decide) (fun z5 ez5 => ?_))
  refine ty_callp 1 Ih2 rfl (fun _ => rfl) rfl rfl rfl rfl (ct_136 (x0 := z3) (x1 := z4) (x2 := z5) (by omega)) (fun _ P6 => ?_)
  obtain ⟨z7, rfl, az7, bz7, iz7⟩ := P6
  refine ty_zeq rfl (fun c8 => ?_) (fun c8 => ?_)
  · clear iz7
    refine hq_p rfl rfl (ty_ge (n := -1) nk_im1 (fun z9 ez9 => ?_))
    exact hq_W.ret rfl rfl rfl ⟨Jh2, _, rfl, by omega, by omega⟩
  · replace c8 : 1 ≤ z7.toInt ∧ z7.toInt ≤ 1 := by omega
    have f10 := iz7 (by omega)
    clear iz7
    refine hq_p rfl rfl ?_
    refine hq_p rfl rfl (ty_gle (n := x1.toInt) (nm_i2l _) (fun z11 ez11 => ?_))
    refine hq_p rfl rfl (ty_gle (n := 0) (by decide) (fun z12 ez12 => ?_))
    refine hq_p rfl rfl ?_
    refine hq_p rfl rfl (ty_ge (n := 2) nk_i2 (fun z13 ez13 => ?_))
    refine ty_ige rfl (fun c14 => ?_) (fun c14 => ?_)
    · refine hq_p rfl rfl ?_
      refine ty_gI Ih2 rfl rfl (by decide) (by decide) rfl rfl (fun z15 ez15 az15 bz15 => ?_)
      refine hq_p rfl rfl (ty_gle (n := z15.toInt) (nm_i2l _) (fun z16 ez16 => ?_))
      refine hq_p rfl rfl (ty_gle (n := 1) (by decide) (fun z17 ez17 => ?_))
      refine hq_p rfl rfl (ty_gle (n := z16.toInt - z17.toInt) (nm_lsub (by omega) (by omega)) (fun z18 ez18 => ?_))
      refine ty_callp 1 Ih2 rfl (fun _ => rfl) rfl rfl rfl rfl (ct_136 (x0 := z11) (x1 := z12) (x2 := z18) (by omega)) (fun _ P19 => ?_)
      obtain ⟨z20, rfl, az20, bz20, iz20⟩ := P19
      refine ty_zne rfl (fun c21 => ?_) (fun c21 => ?_)
      · replace c21 : 1 ≤ z20.toInt ∧ z20.toInt ≤ 1 := by omega
        have f22 := iz20 (by omega)
        clear iz20
        refine hq_p rfl rfl ?_
        refine hq_gR Ih2.1 rfl rfl (by decide) (by decide) rfl ?_
        refine hq_p rfl rfl ?_
        refine ty_zne rfl (fun c23 => ?_) (fun c23 => ?_)
        · clear c23
          refine hq_p rfl rfl ?_
          refine hq_p rfl rfl (ty_ge (n := 1) nk_i1 (fun z24 ez24 => ?_))
          refine ty_ine rfl (fun c25 => ?_) (fun c25 => ?_)
          · clear c25
            refine hq_p rfl rfl (ty_ge (n := 10) nk_b10 (fun z26 ez26 => ?_))
            refine hq_p rfl rfl (ty_ge (n := 5) nk_i5 (fun z27 ez27 => ?_))
            refine hq_p rfl rfl (ty_ge (n := z26.toInt - z27.toInt) (nm_sub (by omega) (by omega)) (fun z28 ez28 => ?_))
            refine hq_p rfl rfl ?_
            refine hq_p rfl rfl (ty_ge (n := z28.toInt + x1.toInt) (nm_add (by omega) (by omega)) (fun z29 ez29 => ?_))
            refine ty_aL Ih2 rfl rfl (by decide) (by omega) (by omega) (fun _ _ => ty_le rfl) (fun z30 ez30 az30 bz30 => ?_)
            exact hq_W.ret rfl rfl rfl ⟨Jh2, _, rfl, by omega, by omega⟩
          · exfalso; omega
        · exfalso; omega
      · clear iz20
        refine hq_p rfl rfl (ty_ge (n := -1) nk_im1 (fun z31 ez31 => ?_))
        exact hq_W.ret rfl rfl rfl ⟨Jh2, _, rfl, by omega, by omega⟩
    · refine hq_p rfl rfl ?_
      refine ty_gI Ih2 rfl rfl (by decide) (by decide) rfl rfl (fun z32 ez32 az32 bz32 => ?_)
      refine hq_p rfl rfl ?_
      refine hq_p rfl rfl (ty_gle (n := z32.toInt) (nm_i2l _) (fun z33 ez33 => ?_))
      refine hq_p rfl rfl (ty_gle (n := 1) (by decide) (fun z34 ez34 => ?_))
      refine hq_p rfl rfl (ty_gle (n := z33.toInt - z34.toInt) (nm_lsub (by omega) (by omega)) (fun z35 ez35 => ?_))
      refine ty_callp 1 Ih2 rfl (fun _ => rfl) rfl rfl rfl rfl (ct_136 (x0 := z11) (x1 := z12) (x2 := z35) (by omega)) (fun _ P36 => ?_)
      obtain ⟨z37, rfl, az37, bz37, iz37⟩ := P36
      refine ty_zne rfl (fun c38 => ?_) (fun c38 => ?_)
      · replace c38 : 1 ≤ z37.toInt ∧ z37.toInt ≤ 1 := by omega
        have f39 := iz37 (by omega)
        clear iz37
        refine hq_p rfl rfl ?_
        refine hq_gR Ih2.1 rfl rfl (by decide) (by decide) rfl ?_
        refine hq_p rfl rfl ?_
        refine ty_zne rfl (fun c40 => ?_) (fun c40 => ?_)
        · replace c40 : 1 ≤ x2.toInt ∧ x2.toInt ≤ 1 := by omega
          refine hq_p rfl rfl ?_
          refine hq_p rfl rfl (ty_ge (n := 1) nk_i1 (fun z41 ez41 => ?_))
          refine ty_ine rfl (fun c42 => ?_) (fun c42 => ?_)
          · exfalso; omega
          · refine hq_p rfl rfl (ty_ge (n := 26) nk_b26 (fun z43 ez43 => ?_))
            refine hq_p rfl rfl ?_
            refine hq_p rfl rfl (ty_ge (n := 5) nk_i5 (fun z44 ez44 => ?_))
            refine hq_p rfl rfl (ty_ge (n := z43.toInt - z44.toInt) (nm_sub (by omega) (by omega)) (fun z45 ez45 => ?_))
            refine hq_p rfl rfl ?_
            refine hq_p rfl rfl (ty_ge (n := z45.toInt + x1.toInt) (nm_add (by omega) (by omega)) (fun z46 ez46 => ?_))
            refine ty_aL Ih2 rfl rfl (by decide) (by omega) (by omega) (fun _ _ => ty_le rfl) (fun z47 ez47 az47 bz47 => ?_)
            exact hq_W.ret rfl rfl rfl ⟨Jh2, _, rfl, by omega, by omega⟩
        · refine hq_p rfl rfl (ty_ge (n := 18) nk_b18 (fun z48 ez48 => ?_))
          refine hq_p rfl rfl ?_
          refine hq_p rfl rfl (ty_ge (n := 5) nk_i5 (fun z49 ez49 => ?_))
          refine hq_p rfl rfl (ty_ge (n := z48.toInt - z49.toInt) (nm_sub (by omega) (by omega)) (fun z50 ez50 => ?_))
          refine hq_p rfl rfl ?_
          refine hq_p rfl rfl (ty_ge (n := z50.toInt + x1.toInt) (nm_add (by omega) (by omega)) (fun z51 ez51 => ?_))
          refine ty_aL Ih2 rfl rfl (by decide) (by omega) (by omega) (fun _ _ => ty_le rfl) (fun z52 ez52 az52 bz52 => ?_)
          exact hq_W.ret rfl rfl rfl ⟨Jh2, _, rfl, by omega, by omega⟩
      · clear iz37
        refine hq_p rfl rfl (ty_ge (n := -1) nk_im1 (fun z53 ez53 => ?_))
        exact hq_W.ret rfl rfl rfl ⟨Jh2, _, rfl, by omega, by omega⟩
theorem ct_255 {X : pm_X} {d : Nat} {h : pm_H} {x1 : Int32} (hd : 2 ≤ d)  : ty_M X ty_Wt d 255 [.ref 97, .int x1] h (ty_pi (-2147483648) 2147483647) := by
  intro J H hJ
  obtain ⟨d, rfl⟩ : ∃ e, d = e + 1 := ⟨d - 1, by omega⟩
  have I := H.1 h hJ
  have ax1 := nm_lo x1
  have bx1 := nm_hi x1
  refine hq_M.enter (q := (⟨"TrainBearersModel", "count", "(I)I"⟩, _, 2, some .int, 11, 2, pm_c255)) rfl rfl ?_
  show hq_W X d 11 false (some .int) pm_c255 (0, [some (.ref 97), some (.int x1)], [], h) (fun h' v => J h' ∧ (ty_pi (-2147483648) 2147483647) h' v)
  refine hq_p rfl rfl ?_
  refine hq_p rfl rfl (ty_ge (n := 0) nk_i0 (fun z1 ez1 => ?_))
  refine ty_pI (W := ty_Wt) H hJ rfl rfl (by decide) rfl rfl (by unfold ty_Wt; omega) rfl (by omega) (by omega) (fun h2 eh2 Jh2 => ?_)
  have wh2 : (hs_fI h2 97 0).toInt = z1.toInt := by rw [eh2]; exact congrArg Int32.toInt (ty_fI_eq I.1 rfl (by decide) rfl)
  have Ih2 := H.1 h2 Jh2
  refine hq_p rfl rfl ?_
  rcases (show x1.toInt = 0 ∨ x1.toInt = 1 ∨ x1.toInt = 2 ∨ x1.toInt = 3 ∨ x1.toInt = 4 ∨ x1.toInt = 5 ∨ x1.toInt = 6 ∨ x1.toInt = 7 ∨ x1.toInt = 8 ∨ x1.toInt = 9 ∨ x1.toInt = 10 ∨ x1.toInt = 11 ∨ x1.toInt = 12 ∨ x1.toInt = 13 ∨ x1.toInt = 14 ∨ (x1.toInt < 0 ∨ 14 < x1.toInt) by omega) with c3 | c3 | c3 | c3 | c3 | c3 | c3 | c3 | c3 | c3 | c3 | c3 | c3 | c3 | c3 | c3
  · refine ty_ts (n := 0) rfl c3 rfl rfl (by decide) ?_
    refine hq_p rfl rfl ?_
    refine hq_gR Ih2.1 rfl rfl (by decide) (by decide) rfl ?_
    refine hq_p rfl rfl (ty_ge (n := 0) nk_i0 (fun z4 ez4 => ?_))
    refine ty_aL Ih2 rfl rfl (by decide) (by omega) (by omega) (fun i e => ty_le (ty_w0 (by omega) (by omega))) (fun z5 ez5 az5 bz5 => ?_)
    rw [show z4.toInt.toNat = 0 by omega] at ez5
    exact hq_W.ret rfl rfl rfl ⟨Jh2, _, rfl, by omega, by omega⟩
  · refine ty_ts (n := 1) rfl c3 rfl rfl (by decide) ?_
    refine hq_p rfl rfl ?_
    refine hq_gR Ih2.1 rfl rfl (by decide) (by decide) rfl ?_
    refine hq_p rfl rfl (ty_ge (n := 1) nk_i1 (fun z6 ez6 => ?_))
    refine ty_aL Ih2 rfl rfl (by decide) (by omega) (by omega) (fun i e => ty_le (ty_w0 (by omega) (by omega))) (fun z7 ez7 az7 bz7 => ?_)
    rw [show z6.toInt.toNat = 1 by omega] at ez7
    exact hq_W.ret rfl rfl rfl ⟨Jh2, _, rfl, by omega, by omega⟩
  · refine ty_ts (n := 2) rfl c3 rfl rfl (by decide) ?_
    refine hq_p rfl rfl ?_
    refine ty_callp 0 Ih2 rfl (fun _ => rfl) rfl rfl rfl (hq_pre_o Ih2.1 (x := 97) (ci := 11) rfl (by decide) rfl rfl rfl rfl) (ct_153 (by omega)) (fun _ P8 => ?_)
    obtain ⟨z9, rfl, az9, bz9⟩ := P8
    exact hq_W.ret rfl rfl rfl ⟨Jh2, _, rfl, by omega, by omega⟩
  · refine ty_ts (n := 3) rfl c3 rfl rfl (by decide) ?_
    refine hq_p rfl rfl ?_
    refine hq_gR Ih2.1 rfl rfl (by decide) (by decide) rfl ?_
    refine hq_p rfl rfl (ty_ge (n := 9) nk_b9 (fun z10 ez10 => ?_))
    refine ty_aL Ih2 rfl rfl (by decide) (by omega) (by omega) (fun i e => ty_le (ty_w9 (by omega) (by omega))) (fun z11 ez11 az11 bz11 => ?_)
    rw [show z10.toInt.toNat = 9 by omega] at ez11
    exact hq_W.ret rfl rfl rfl ⟨Jh2, _, rfl, by omega, by omega⟩
  · refine ty_ts (n := 4) rfl c3 rfl rfl (by decide) ?_
    refine hq_p rfl rfl ?_
    refine hq_gR Ih2.1 rfl rfl (by decide) (by decide) rfl ?_
    refine hq_p rfl rfl (ty_ge (n := 8) nk_b8 (fun z12 ez12 => ?_))
    refine ty_aL Ih2 rfl rfl (by decide) (by omega) (by omega) (fun i e => ty_le (ty_w8 (by omega) (by omega))) (fun z13 ez13 az13 bz13 => ?_)
    rw [show z12.toInt.toNat = 8 by omega] at ez13
    exact hq_W.ret rfl rfl rfl ⟨Jh2, _, rfl, by omega, by omega⟩
  · refine ty_ts (n := 5) rfl c3 rfl rfl (by decide) ?_
    refine hq_p rfl rfl ?_
    refine hq_gR Ih2.1 rfl rfl (by decide) (by decide) rfl ?_
    refine hq_p rfl rfl (ty_ge (n := 2) nk_i2 (fun z14 ez14 => ?_))
    refine ty_aL Ih2 rfl rfl (by decide) (by omega) (by omega) (fun i e => ty_le (ty_w2 (by omega) (by omega))) (fun z15 ez15 az15 bz15 => ?_)
    rw [show z14.toInt.toNat = 2 by omega] at ez15
    exact hq_W.ret rfl rfl rfl ⟨Jh2, _, rfl, by omega, by omega⟩
  · refine ty_ts (n := 6) rfl c3 rfl rfl (by decide) ?_
    refine hq_p rfl rfl ?_
    refine hq_gR Ih2.1 rfl rfl (by decide) (by decide) rfl ?_
    refine hq_p rfl rfl (ty_ge (n := 3) nk_i3 (fun z16 ez16 => ?_))
    refine ty_aL Ih2 rfl rfl (by decide) (by omega) (by omega) (fun i e => ty_le (ty_w2 (by omega) (by omega))) (fun z17 ez17 az17 bz17 => ?_)
    rw [show z16.toInt.toNat = 3 by omega] at ez17
    exact hq_W.ret rfl rfl rfl ⟨Jh2, _, rfl, by omega, by omega⟩
  · refine ty_ts (n := 7) rfl c3 rfl rfl (by decide) ?_
    refine hq_p rfl rfl ?_
    refine ty_gI Ih2 rfl rfl (by decide) (by decide) rfl rfl (fun z18 ez18 az18 bz18 => ?_)
    exact hq_W.ret rfl rfl rfl ⟨Jh2, _, rfl, by omega, by omega⟩
  · refine ty_ts (n := 8) rfl c3 rfl rfl (by decide) ?_
    refine hq_p rfl rfl ?_
    refine ty_gI Ih2 rfl rfl (by decide) (by decide) rfl rfl (fun z19 ez19 az19 bz19 => ?_)
    exact hq_W.ret rfl rfl rfl ⟨Jh2, _, rfl, by omega, by omega⟩
  · refine ty_ts (n := 9) rfl c3 rfl rfl (by decide) ?_
    refine hq_p rfl rfl ?_
    refine hq_gR Ih2.1 rfl rfl (by decide) (by decide) rfl ?_
    refine hq_p rfl rfl (ty_ge (n := 1) nk_i1 (fun z20 ez20 => ?_))
    refine ty_aL Ih2 rfl rfl (by decide) (by omega) (by omega) (fun _ _ => ty_le rfl) (fun z21 ez21 az21 bz21 => ?_)
    rw [show z20.toInt.toNat = 1 by omega] at ez21
    exact hq_W.ret rfl rfl rfl ⟨Jh2, _, rfl, by omega, by omega⟩
  · refine ty_ts (n := 10) rfl c3 rfl rfl (by decide) ?_
    refine hq_p rfl rfl ?_
    refine hq_gR Ih2.1 rfl rfl (by decide) (by decide) rfl ?_
    refine hq_p rfl rfl (ty_ge (n := 2) nk_i2 (fun z22 ez22 => ?_))
    refine ty_aL Ih2 rfl rfl (by decide) (by omega) (by omega) (fun _ _ => ty_le rfl) (fun z23 ez23 az23 bz23 => ?_)
    rw [show z22.toInt.toNat = 2 by omega] at ez23
    exact hq_W.ret rfl rfl rfl ⟨Jh2, _, rfl, by omega, by omega⟩
  · refine ty_ts (n := 11) rfl c3 rfl rfl (by decide) ?_
    refine hq_p rfl rfl ?_
    refine hq_gR Ih2.1 rfl rfl (by decide) (by decide) rfl ?_
    refine hq_p rfl rfl (ty_ge (n := 3) nk_i3 (fun z24 ez24 => ?_))
    refine ty_aL Ih2 rfl rfl (by decide) (by omega) (by omega) (fun _ _ => ty_le rfl) (fun z25 ez25 az25 bz25 => ?_)
    rw [show z24.toInt.toNat = 3 by omega] at ez25
    exact hq_W.ret rfl rfl rfl ⟨Jh2, _, rfl, by omega, by omega⟩
  · refine ty_ts (n := 12) rfl c3 rfl rfl (by decide) ?_
    refine hq_p rfl rfl ?_
    refine hq_gR Ih2.1 rfl rfl (by decide) (by decide) rfl ?_
    refine hq_p rfl rfl (ty_ge (n := 5) nk_i5 (fun z26 ez26 => ?_))
    refine ty_aL Ih2 rfl rfl (by decide) (by omega) (by omega) (fun _ _ => ty_le rfl) (fun z27 ez27 az27 bz27 => ?_)
    rw [show z26.toInt.toNat = 5 by omega] at ez27
    exact hq_W.ret rfl rfl rfl ⟨Jh2, _, rfl, by omega, by omega⟩
  · refine ty_ts (n := 13) rfl c3 rfl rfl (by decide) ?_
    refine hq_p rfl rfl ?_
    refine hq_gR Ih2.1 rfl rfl (by decide) (by decide) rfl ?_
    refine hq_p rfl rfl (ty_ge (n := 6) nk_b6 (fun z28 ez28 => ?_))
    refine ty_aL Ih2 rfl rfl (by decide) (by omega) (by omega) (fun _ _ => ty_le rfl) (fun z29 ez29 az29 bz29 => ?_)
    rw [show z28.toInt.toNat = 6 by omega] at ez29
    exact hq_W.ret rfl rfl rfl ⟨Jh2, _, rfl, by omega, by omega⟩
  · refine ty_ts (n := 14) rfl c3 rfl rfl (by decide) ?_
    refine hq_p rfl rfl ?_
    refine hq_gR Ih2.1 rfl rfl (by decide) (by decide) rfl ?_
    refine hq_p rfl rfl (ty_ge (n := 4) nk_i4 (fun z30 ez30 => ?_))
    refine ty_aL Ih2 rfl rfl (by decide) (by omega) (by omega) (fun i e => ty_le (ty_w4 (by omega) (by omega))) (fun z31 ez31 az31 bz31 => ?_)
    rw [show z30.toInt.toNat = 4 by omega] at ez31
    exact hq_W.ret rfl rfl rfl ⟨Jh2, _, rfl, by omega, by omega⟩
  · refine ty_td rfl c3 (by decide) ?_
    refine hq_p rfl rfl ?_
    refine hq_p rfl rfl (ty_gle (n := x1.toInt) (nm_i2l _) (fun z32 ez32 => ?_))
    refine hq_p rfl rfl (ty_gle (n := 15) (by decide) (fun z33 ez33 => ?_))
    refine hq_p rfl rfl (ty_gle (n := 17) (by decide) (fun z34 ez34 => ?_))
    refine ty_callp 1 Ih2 rfl (fun _ => rfl) rfl rfl rfl rfl (ct_136 (x0 := z32) (x1 := z33) (x2 := z34) (by omega)) (fun _ P35 => ?_)
    obtain ⟨z36, rfl, az36, bz36, iz36⟩ := P35
    refine ty_zeq rfl (fun c37 => ?_) (fun c37 => ?_)
    · clear iz36
      refine hq_p rfl rfl (ty_ge (n := -1) nk_im1 (fun z38 ez38 => ?_))
      exact hq_W.ret rfl rfl rfl ⟨Jh2, _, rfl, by omega, by omega⟩
    · replace c37 : 1 ≤ z36.toInt ∧ z36.toInt ≤ 1 := by omega
      have f39 := iz36 (by omega)
      clear iz36
      refine hq_p rfl rfl ?_
      refine hq_gR Ih2.1 rfl rfl (by decide) (by decide) rfl ?_
      refine hq_p rfl rfl (ty_ge (n := 5) nk_i5 (fun z40 ez40 => ?_))
      refine hq_p rfl rfl ?_
      refine hq_p rfl rfl (ty_ge (n := z40.toInt + x1.toInt) (nm_add (by omega) (by omega)) (fun z41 ez41 => ?_))
      refine hq_p rfl rfl (ty_ge (n := 15) nk_b15 (fun z42 ez42 => ?_))
      refine hq_p rfl rfl (ty_ge (n := z41.toInt - z42.toInt) (nm_sub (by omega) (by omega)) (fun z43 ez43 => ?_))
      refine ty_aL Ih2 rfl rfl (by decide) (by omega) (by omega) (fun i _ => ty_rbF i) (fun z44 ez44 az44 bz44 => ?_)
      refine hq_p rfl rfl ?_
      exact hq_W.ret rfl rfl rfl ⟨Jh2, _, rfl, by omega, by omega⟩
theorem ct_239 {X : pm_X} {d : Nat} {h : pm_H} {x1 : Int32} {x2 : Int32} (hd : 3 ≤ d)  : ty_M X ty_Wt d 239 [.ref 97, .int x1, .int x2] h (ty_pi (-2147483648) 2147483647) := by
  intro J H hJ
  obtain ⟨d, rfl⟩ : ∃ e, d = e + 1 := ⟨d - 1, by omega⟩
  have I := H.1 h hJ
  have ax1 := nm_lo x1
  have bx1 := nm_hi x1
  have ax2 := nm_lo x2
  have bx2 := nm_hi x2
  refine hq_M.enter (q := (⟨"TrainBearersModel", "folds", "(II)I"⟩, _, 9, some .int, 11, 3, pm_c239)) rfl rfl ?_
  show hq_W X d 11 false (some .int) pm_c239 (0, [some (.ref 97), some (.int x1), some (.int x2), none, none, none, none, none, none], [], h) (fun h' v => J h' ∧ (ty_pi (-2147483648) 2147483647) h' v)
  refine hq_p rfl rfl ?_
  refine hq_p rfl rfl (ty_ge (n := 0) nk_i0 (fun z1 ez1 => ?_))
  refine ty_pI (W := ty_Wt) H hJ rfl rfl (by decide) rfl rfl (by unfold ty_Wt; omega) rfl (by omega) (by omega) (fun h2 eh2 Jh2 => ?_)
  have wh2 : (hs_fI h2 97 0).toInt = z1.toInt := by rw [eh2]; exact congrArg Int32.toInt (ty_fI_eq I.1 rfl (by decide) rfl)
  have Ih2 := H.1 h2 Jh2
  refine hq_p rfl rfl ?_
  refine hq_p rfl rfl (ty_gle (n := x1.toInt) (nm_i2l _) (fun z3 ez3 => ?_))
  refine hq_p rfl rfl (ty_gle (n := 1) (by decide) (fun z4 ez4 => ?_))
  refine hq_p rfl rfl (ty_gle (n := 60) (by decide) (fun z5 ez5 => ?_))
  refine ty_callp 1 Ih2 rfl (fun _ => rfl) rfl rfl rfl rfl (ct_136 (x0 := z3) (x1 := z4) (x2 := z5) (by omega)) (fun _ P6 => ?_)
  obtain ⟨z7, rfl, az7, bz7, iz7⟩ := P6
  refine ty_zeq rfl (fun c8 => ?_) (fun c8 => ?_)
  · clear iz7
    refine hq_p rfl rfl (ty_ge (n := -1) nk_im1 (fun z9 ez9 => ?_))
    exact hq_W.ret rfl rfl rfl ⟨Jh2, _, rfl, by omega, by omega⟩
  · replace c8 : 1 ≤ z7.toInt ∧ z7.toInt ≤ 1 := by omega
    have f10 := iz7 (by omega)
    clear iz7
    refine hq_p rfl rfl ?_
    refine hq_p rfl rfl (ty_ge (n := -1) nk_im1 (fun z11 ez11 => ?_))
    refine ty_ieq rfl (fun c12 => ?_) (fun c12 => ?_)
    · refine hq_p rfl rfl (ty_ge (n := -1) nk_im1 (fun z13 ez13 => ?_))
      refine hq_p (ls' := [some (.ref 97), some (.int x1), some (.int x2), some (.int z13), none, none, none, none, none]) rfl rfl ?_
      refine hq_p rfl rfl (ty_ge (n := 0) nk_i0 (fun z14 ez14 => ?_))
      refine hq_p (ls' := [some (.ref 97), some (.int x1), some (.int x2), some (.int z13), some (.int z14), none, none, none, none]) rfl rfl ?_
      refine hq_p rfl rfl (ty_ge (n := -1) nk_im1 (fun z15 ez15 => ?_))
      refine hq_p (ls' := [some (.ref 97), some (.int x1), some (.int x2), some (.int z13), some (.int z14), some (.int z15), none, none, none]) rfl rfl ?_
      refine hq_p rfl rfl (ty_ge (n := 1) nk_i1 (fun z16 ez16 => ?_))
      refine hq_p (ls' := [some (.ref 97), some (.int x1), some (.int x2), some (.int z13), some (.int z14), some (.int z15), some (.int z16), none, none]) rfl rfl ?_
      refine hq_p rfl rfl (ty_ge (n := 0) nk_i0 (fun z17 ez17 => ?_))
      refine hq_p (ls' := [some (.ref 97), some (.int x1), some (.int x2), some (.int z13), some (.int z14), some (.int z15), some (.int z16), some (.int z17), none]) rfl rfl ?_
      have L46_n336 : ∀ n336 : Nat, ∀ (y324 : Int32) (y325 : Int32) (y326 : Int32) (y327 : Int32) (y328 : Int32) (w329 : Option Value), (8 - y328.toInt).toNat = n336 → -2147483648 ≤ y324.toInt → y324.toInt ≤ 2147483647 → -100 ≤ y325.toInt → y325.toInt ≤ 60 → -1 ≤ y326.toInt → y326.toInt ≤ -1 → 0 ≤ y327.toInt → y327.toInt ≤ 1 → 0 ≤ y328.toInt → y328.toInt ≤ 8 → pm_two w329 = false → hq_W X d 11 false (some .int) pm_c239 (46, [some (.ref 97), some (.int x1), some (.int x2), some (.int y324), some (.int y325), some (.int y326), some (.int y327), some (.int y328), w329], [], h2) (fun h' v => J h' ∧ (ty_pi (-2147483648) 2147483647) h' v) := by
        intro n336
        induction n336 using Nat.strongRecOn with
        | ind n336 ihn336 =>
          intro y324 y325 y326 y327 y328 w329 mn336 ay324 by324 ay325 by325 ay326 by326 ay327 by327 ay328 by328 kw329
          refine hq_p rfl rfl ?_
          refine hq_p rfl rfl ?_
          refine hq_gR Ih2.1 rfl rfl (by decide) (by decide) rfl ?_
          refine hq_p rfl rfl (ty_ge (n := 0) nk_i0 (fun z337 ez337 => ?_))
          refine ty_aL Ih2 rfl rfl (by decide) (by omega) (by omega) (fun i e => ty_le (ty_w0 (by omega) (by omega))) (fun z338 ez338 az338 bz338 => ?_)
          rw [show z337.toInt.toNat = 0 by omega] at ez338
          refine ty_ige rfl (fun c339 => ?_) (fun c339 => ?_)
          · refine hq_p rfl rfl ?_
            refine ty_zne rfl (fun c340 => ?_) (fun c340 => ?_)
            · replace c340 : 1 ≤ y327.toInt ∧ y327.toInt ≤ 1 := by omega
              refine hq_p rfl rfl ?_
              refine hq_p rfl rfl (ty_ge (n := -1) nk_im1 (fun z341 ez341 => ?_))
              refine ty_ine rfl (fun c342 => ?_) (fun c342 => ?_)
              · exfalso; omega
              · refine hq_p rfl rfl ?_
                refine hq_p rfl rfl (ty_ge (n := 1) nk_i1 (fun z343 ez343 => ?_))
                refine hq_p rfl rfl (ty_ga (fun z344 az344 bz344 => ?_))
                refine hq_p rfl rfl ?_
                exact hq_W.ret rfl rfl rfl ⟨Jh2, _, rfl, by omega, by omega⟩
            · refine hq_p rfl rfl (ty_ge (n := -1) nk_im1 (fun z345 ez345 => ?_))
              refine hq_p rfl rfl ?_
              exact hq_W.ret rfl rfl rfl ⟨Jh2, _, rfl, by omega, by omega⟩
          · refine hq_p rfl rfl ?_
            refine hq_gR Ih2.1 rfl rfl (by decide) (by decide) rfl ?_
            refine hq_p rfl rfl (ty_ge (n := 34) nk_b34 (fun z346 ez346 => ?_))
            refine hq_p rfl rfl ?_
            refine hq_p rfl rfl (ty_ge (n := z346.toInt + y328.toInt) (nm_add (by omega) (by omega)) (fun z347 ez347 => ?_))
            refine ty_aL Ih2 rfl rfl (by decide) (by omega) (by omega) (fun i e => ty_le (ty_w34 (by omega) (by omega))) (fun z348 ez348 az348 bz348 => ?_)
            refine hq_p rfl rfl ?_
            refine hq_gR Ih2.1 rfl rfl (by decide) (by decide) rfl ?_
            refine hq_p rfl rfl (ty_ge (n := 10) nk_b10 (fun z349 ez349 => ?_))
            refine hq_p rfl rfl ?_
            refine hq_p rfl rfl (ty_ge (n := z349.toInt + y328.toInt) (nm_add (by omega) (by omega)) (fun z350 ez350 => ?_))
            refine ty_aL Ih2 rfl rfl (by decide) (by omega) (by omega) (fun i e => ty_le (ty_w10 (by omega) (by omega))) (fun z351 ez351 az351 bz351 => ?_)
            refine hq_p rfl rfl (ty_ge (n := z348.toInt + z351.toInt) (nm_add (by omega) (by omega)) (fun z352 ez352 => ?_))
            refine hq_p (ls' := [some (.ref 97), some (.int x1), some (.int x2), some (.int y324), some (.int y325), some (.int y326), some (.int y327), some (.int y328), some (.int z352)]) rfl rfl ?_
            refine hq_p rfl rfl ?_
            have K354 : ∀ (y353 : Int32), 0 ≤ y353.toInt → y353.toInt ≤ 1 → hq_W X d 11 false (some .int) pm_c239 (96, [some (.ref 97), some (.int x1), some (.int x2), some (.int y324), some (.int y325), some (.int y326), some (.int y327), some (.int y328), some (.int z352)], [.int y353], h2) (fun h' v => J h' ∧ (ty_pi (-2147483648) 2147483647) h' v) := by
              intro y353 ay353 by353
              refine hq_p (ls' := [some (.ref 97), some (.int x1), some (.int x2), some (.int y324), some (.int y325), some (.int y326), some (.int y353), some (.int y328), some (.int z352)]) rfl rfl ?_
              refine hq_p rfl rfl ?_
              refine hq_p rfl rfl (ty_ge (n := -1) nk_im1 (fun z355 ez355 => ?_))
              have K358 : ∀ (y356 : Int32) (y357 : Int32), -2147483648 ≤ y356.toInt → y356.toInt ≤ 2147483647 → 0 ≤ y357.toInt → y357.toInt ≤ 60 → hq_W X d 11 false (some .int) pm_c239 (116, [some (.ref 97), some (.int x1), some (.int x2), some (.int y356), some (.int y357), some (.int y326), some (.int y353), some (.int y328), some (.int z352)], [], h2) (fun h' v => J h' ∧ (ty_pi (-2147483648) 2147483647) h' v) := by
                intro y356 y357 ay356 by356 ay357 by357
                refine hq_p rfl rfl ?_
                refine hq_p rfl rfl ?_
                refine hq_p rfl rfl (ty_ge (n := y357.toInt - z352.toInt) (nm_sub (by omega) (by omega)) (fun z359 ez359 => ?_))
                refine hq_p (ls' := [some (.ref 97), some (.int x1), some (.int x2), some (.int y356), some (.int z359), some (.int y326), some (.int y353), some (.int y328), some (.int z352)]) rfl rfl ?_
                refine hq_p rfl rfl ?_
                refine hq_p rfl rfl ?_
                refine ty_ine rfl (fun c360 => ?_) (fun c360 => ?_)
                · clear c360
                  refine hq_p rfl rfl ?_
                  refine hq_p (ls' := [some (.ref 97), some (.int x1), some (.int x2), some (.int y356), some (.int z359), some (.int y326), some (.int y353), some (.int y328), some (.int z352)]) rfl rfl ?_
                  refine ty_inc (ls' := fun z361 => [some (.ref 97), some (.int x1), some (.int x2), some (.int y356), some (.int z359), some (.int y326), some (.int y353), some (.int z361), some (.int z352)]) rfl rfl (fun _ => rfl) (nm_addc nk_i1 (by omega) (by omega)) (fun z361 ez361 => ?_)
                  refine hq_p rfl rfl ?_
                  exact ihn336 ((8 - z361.toInt).toNat) (by omega) y356 z359 y326 y353 z361 (some (.int z352)) rfl (by omega) (by omega) (by omega) (by omega) (by omega) (by omega) (by omega) (by omega) (by omega) (by omega) rfl
                · exfalso; omega
              refine ty_ieq rfl (fun c362 => ?_) (fun c362 => ?_)
              · refine ty_inc (ls' := fun z363 => [some (.ref 97), some (.int x1), some (.int x2), some (.int z363), some (.int y325), some (.int y326), some (.int y353), some (.int y328), some (.int z352)]) rfl rfl (fun _ => rfl) (nm_addc nk_i1 (by omega) (by omega)) (fun z363 ez363 => ?_)
                refine hq_p rfl rfl ?_
                refine hq_p (ls' := [some (.ref 97), some (.int x1), some (.int x2), some (.int z363), some (.int x1), some (.int y326), some (.int y353), some (.int y328), some (.int z352)]) rfl rfl ?_
                exact K358 z363 x1 (by omega) (by omega) (by omega) (by omega)
              · clear c362
                refine hq_p rfl rfl ?_
                refine hq_p rfl rfl ?_
                refine ty_ile rfl (fun c364 => ?_) (fun c364 => ?_)
                · exact K358 y324 y325 (by omega) (by omega) (by omega) (by omega)
                · refine ty_inca (ls' := fun z365 => [some (.ref 97), some (.int x1), some (.int x2), some (.int z365), some (.int y325), some (.int y326), some (.int y353), some (.int y328), some (.int z352)]) rfl rfl (fun _ => rfl) (fun z365 az365 bz365 => ?_)
                  refine hq_p rfl rfl ?_
                  refine hq_p (ls' := [some (.ref 97), some (.int x1), some (.int x2), some (.int z365), some (.int x1), some (.int y326), some (.int y353), some (.int y328), some (.int z352)]) rfl rfl ?_
                  exact K358 z365 x1 (by omega) (by omega) (by omega) (by omega)
            refine ty_zeq rfl (fun c366 => ?_) (fun c366 => ?_)
            · refine hq_p rfl rfl (ty_ge (n := 0) nk_i0 (fun z367 ez367 => ?_))
              exact K354 z367 (by omega) (by omega)
            · replace c366 : 1 ≤ y327.toInt ∧ y327.toInt ≤ 1 := by omega
              refine hq_p rfl rfl ?_
              refine hq_p rfl rfl ?_
              refine ty_igt rfl (fun c368 => ?_) (fun c368 => ?_)
              · refine hq_p rfl rfl (ty_ge (n := 0) nk_i0 (fun z369 ez369 => ?_))
                exact K354 z369 (by omega) (by omega)
              · refine hq_p rfl rfl (ty_ge (n := 1) nk_i1 (fun z370 ez370 => ?_))
                refine hq_p rfl rfl ?_
                exact K354 z370 (by omega) (by omega)
      exact L46_n336 _ z13 z14 z15 z16 z17 none rfl (by omega) (by omega) (by omega) (by omega) (by omega) (by omega) (by omega) (by omega) (by omega) (by omega) rfl
    · clear c12
      refine hq_p rfl rfl ?_
      refine hq_p rfl rfl ?_
      refine ty_callp 0 Ih2 rfl (fun _ => rfl) rfl rfl rfl (hq_pre_o Ih2.1 (x := 97) (ci := 11) rfl (by decide) rfl rfl rfl rfl) (ct_149 (x1 := x2) (by omega)) (fun _ P371 => ?_)
      obtain ⟨z372, rfl, az372, bz372, iz372⟩ := P371
      refine ty_zne rfl (fun c373 => ?_) (fun c373 => ?_)
      · replace c373 : 1 ≤ z372.toInt ∧ z372.toInt ≤ 1 := by omega
        have f374 := iz372 (by omega)
        clear iz372
        refine hq_p rfl rfl (ty_ge (n := -1) nk_im1 (fun z375 ez375 => ?_))
        refine hq_p (ls' := [some (.ref 97), some (.int x1), some (.int x2), some (.int z375), none, none, none, none, none]) rfl rfl ?_
        refine hq_p rfl rfl (ty_ge (n := 0) nk_i0 (fun z376 ez376 => ?_))
        refine hq_p (ls' := [some (.ref 97), some (.int x1), some (.int x2), some (.int z375), some (.int z376), none, none, none, none]) rfl rfl ?_
        refine hq_p rfl rfl (ty_ge (n := -1) nk_im1 (fun z377 ez377 => ?_))
        refine hq_p (ls' := [some (.ref 97), some (.int x1), some (.int x2), some (.int z375), some (.int z376), some (.int z377), none, none, none]) rfl rfl ?_
        refine hq_p rfl rfl (ty_ge (n := 1) nk_i1 (fun z378 ez378 => ?_))
        refine hq_p (ls' := [some (.ref 97), some (.int x1), some (.int x2), some (.int z375), some (.int z376), some (.int z377), some (.int z378), none, none]) rfl rfl ?_
        refine hq_p rfl rfl (ty_ge (n := 0) nk_i0 (fun z379 ez379 => ?_))
        refine hq_p (ls' := [some (.ref 97), some (.int x1), some (.int x2), some (.int z375), some (.int z376), some (.int z377), some (.int z378), some (.int z379), none]) rfl rfl ?_
        have L46_n698 : ∀ n698 : Nat, ∀ (y686 : Int32) (y687 : Int32) (y688 : Int32) (y689 : Int32) (y690 : Int32) (w691 : Option Value), (8 - y690.toInt).toNat = n698 → -2147483648 ≤ y686.toInt → y686.toInt ≤ 2147483647 → -100 ≤ y687.toInt → y687.toInt ≤ 60 → -2147483648 ≤ y688.toInt → y688.toInt ≤ 2147483647 → 0 ≤ y689.toInt → y689.toInt ≤ 1 → 0 ≤ y690.toInt → y690.toInt ≤ 8 → pm_two w691 = false → hq_W X d 11 false (some .int) pm_c239 (46, [some (.ref 97), some (.int x1), some (.int x2), some (.int y686), some (.int y687), some (.int y688), some (.int y689), some (.int y690), w691], [], h2) (fun h' v => J h' ∧ (ty_pi (-2147483648) 2147483647) h' v) := by
          intro n698
          induction n698 using Nat.strongRecOn with
          | ind n698 ihn698 =>
            intro y686 y687 y688 y689 y690 w691 mn698 ay686 by686 ay687 by687 ay688 by688 ay689 by689 ay690 by690 kw691
            refine hq_p rfl rfl ?_
            refine hq_p rfl rfl ?_
            refine hq_gR Ih2.1 rfl rfl (by decide) (by decide) rfl ?_
            refine hq_p rfl rfl (ty_ge (n := 0) nk_i0 (fun z699 ez699 => ?_))
            refine ty_aL Ih2 rfl rfl (by decide) (by omega) (by omega) (fun i e => ty_le (ty_w0 (by omega) (by omega))) (fun z700 ez700 az700 bz700 => ?_)
            rw [show z699.toInt.toNat = 0 by omega] at ez700
            refine ty_ige rfl (fun c701 => ?_) (fun c701 => ?_)
            · refine hq_p rfl rfl ?_
              refine ty_zne rfl (fun c702 => ?_) (fun c702 => ?_)
              · replace c702 : 1 ≤ y689.toInt ∧ y689.toInt ≤ 1 := by omega
                refine hq_p rfl rfl ?_
                refine hq_p rfl rfl (ty_ge (n := -1) nk_im1 (fun z703 ez703 => ?_))
                refine ty_ine rfl (fun c704 => ?_) (fun c704 => ?_)
                · clear c704
                  refine hq_p rfl rfl ?_
                  exact hq_W.ret rfl rfl rfl ⟨Jh2, _, rfl, by omega, by omega⟩
                · exfalso; omega
              · refine hq_p rfl rfl (ty_ge (n := -1) nk_im1 (fun z705 ez705 => ?_))
                refine hq_p rfl rfl ?_
                exact hq_W.ret rfl rfl rfl ⟨Jh2, _, rfl, by omega, by omega⟩
            · refine hq_p rfl rfl ?_
              refine hq_gR Ih2.1 rfl rfl (by decide) (by decide) rfl ?_
              refine hq_p rfl rfl (ty_ge (n := 34) nk_b34 (fun z706 ez706 => ?_))
              refine hq_p rfl rfl ?_
              refine hq_p rfl rfl (ty_ge (n := z706.toInt + y690.toInt) (nm_add (by omega) (by omega)) (fun z707 ez707 => ?_))
              refine ty_aL Ih2 rfl rfl (by decide) (by omega) (by omega) (fun i e => ty_le (ty_w34 (by omega) (by omega))) (fun z708 ez708 az708 bz708 => ?_)
              refine hq_p rfl rfl ?_
              refine hq_gR Ih2.1 rfl rfl (by decide) (by decide) rfl ?_
              refine hq_p rfl rfl (ty_ge (n := 10) nk_b10 (fun z709 ez709 => ?_))
              refine hq_p rfl rfl ?_
              refine hq_p rfl rfl (ty_ge (n := z709.toInt + y690.toInt) (nm_add (by omega) (by omega)) (fun z710 ez710 => ?_))
              refine ty_aL Ih2 rfl rfl (by decide) (by omega) (by omega) (fun i e => ty_le (ty_w10 (by omega) (by omega))) (fun z711 ez711 az711 bz711 => ?_)
              refine hq_p rfl rfl (ty_ge (n := z708.toInt + z711.toInt) (nm_add (by omega) (by omega)) (fun z712 ez712 => ?_))
              refine hq_p (ls' := [some (.ref 97), some (.int x1), some (.int x2), some (.int y686), some (.int y687), some (.int y688), some (.int y689), some (.int y690), some (.int z712)]) rfl rfl ?_
              refine hq_p rfl rfl ?_
              have K714 : ∀ (y713 : Int32), 0 ≤ y713.toInt → y713.toInt ≤ 1 → hq_W X d 11 false (some .int) pm_c239 (96, [some (.ref 97), some (.int x1), some (.int x2), some (.int y686), some (.int y687), some (.int y688), some (.int y689), some (.int y690), some (.int z712)], [.int y713], h2) (fun h' v => J h' ∧ (ty_pi (-2147483648) 2147483647) h' v) := by
                intro y713 ay713 by713
                refine hq_p (ls' := [some (.ref 97), some (.int x1), some (.int x2), some (.int y686), some (.int y687), some (.int y688), some (.int y713), some (.int y690), some (.int z712)]) rfl rfl ?_
                refine hq_p rfl rfl ?_
                refine hq_p rfl rfl (ty_ge (n := -1) nk_im1 (fun z715 ez715 => ?_))
                have K718 : ∀ (y716 : Int32) (y717 : Int32), -2147483648 ≤ y716.toInt → y716.toInt ≤ 2147483647 → 0 ≤ y717.toInt → y717.toInt ≤ 60 → hq_W X d 11 false (some .int) pm_c239 (116, [some (.ref 97), some (.int x1), some (.int x2), some (.int y716), some (.int y717), some (.int y688), some (.int y713), some (.int y690), some (.int z712)], [], h2) (fun h' v => J h' ∧ (ty_pi (-2147483648) 2147483647) h' v) := by
                  intro y716 y717 ay716 by716 ay717 by717
                  refine hq_p rfl rfl ?_
                  refine hq_p rfl rfl ?_
                  refine hq_p rfl rfl (ty_ge (n := y717.toInt - z712.toInt) (nm_sub (by omega) (by omega)) (fun z719 ez719 => ?_))
                  refine hq_p (ls' := [some (.ref 97), some (.int x1), some (.int x2), some (.int y716), some (.int z719), some (.int y688), some (.int y713), some (.int y690), some (.int z712)]) rfl rfl ?_
                  refine hq_p rfl rfl ?_
                  refine hq_p rfl rfl ?_
                  refine ty_ine rfl (fun c720 => ?_) (fun c720 => ?_)
                  · clear c720
                    refine hq_p rfl rfl ?_
                    refine hq_p (ls' := [some (.ref 97), some (.int x1), some (.int x2), some (.int y716), some (.int z719), some (.int y688), some (.int y713), some (.int y690), some (.int z712)]) rfl rfl ?_
                    refine ty_inc (ls' := fun z721 => [some (.ref 97), some (.int x1), some (.int x2), some (.int y716), some (.int z719), some (.int y688), some (.int y713), some (.int z721), some (.int z712)]) rfl rfl (fun _ => rfl) (nm_addc nk_i1 (by omega) (by omega)) (fun z721 ez721 => ?_)
                    refine hq_p rfl rfl ?_
                    exact ihn698 ((8 - z721.toInt).toNat) (by omega) y716 z719 y688 y713 z721 (some (.int z712)) rfl (by omega) (by omega) (by omega) (by omega) (by omega) (by omega) (by omega) (by omega) (by omega) (by omega) rfl
                  · refine hq_p rfl rfl ?_
                    refine hq_p rfl rfl ?_
                    refine hq_p (ls' := [some (.ref 97), some (.int x1), some (.int x2), some (.int y716), some (.int z719), some (.int y716), some (.int y713), some (.int y690), some (.int z712)]) rfl rfl ?_
                    refine ty_inc (ls' := fun z722 => [some (.ref 97), some (.int x1), some (.int x2), some (.int y716), some (.int z719), some (.int y716), some (.int y713), some (.int z722), some (.int z712)]) rfl rfl (fun _ => rfl) (nm_addc nk_i1 (by omega) (by omega)) (fun z722 ez722 => ?_)
                    refine hq_p rfl rfl ?_
                    exact ihn698 ((8 - z722.toInt).toNat) (by omega) y716 z719 y716 y713 z722 (some (.int z712)) rfl (by omega) (by omega) (by omega) (by omega) (by omega) (by omega) (by omega) (by omega) (by omega) (by omega) rfl
                refine ty_ieq rfl (fun c723 => ?_) (fun c723 => ?_)
                · refine ty_inc (ls' := fun z724 => [some (.ref 97), some (.int x1), some (.int x2), some (.int z724), some (.int y687), some (.int y688), some (.int y713), some (.int y690), some (.int z712)]) rfl rfl (fun _ => rfl) (nm_addc nk_i1 (by omega) (by omega)) (fun z724 ez724 => ?_)
                  refine hq_p rfl rfl ?_
                  refine hq_p (ls' := [some (.ref 97), some (.int x1), some (.int x2), some (.int z724), some (.int x1), some (.int y688), some (.int y713), some (.int y690), some (.int z712)]) rfl rfl ?_
                  exact K718 z724 x1 (by omega) (by omega) (by omega) (by omega)
                · clear c723
                  refine hq_p rfl rfl ?_
                  refine hq_p rfl rfl ?_
                  refine ty_ile rfl (fun c725 => ?_) (fun c725 => ?_)
                  · exact K718 y686 y687 (by omega) (by omega) (by omega) (by omega)
                  · refine ty_inca (ls' := fun z726 => [some (.ref 97), some (.int x1), some (.int x2), some (.int z726), some (.int y687), some (.int y688), some (.int y713), some (.int y690), some (.int z712)]) rfl rfl (fun _ => rfl) (fun z726 az726 bz726 => ?_)
                    refine hq_p rfl rfl ?_
                    refine hq_p (ls' := [some (.ref 97), some (.int x1), some (.int x2), some (.int z726), some (.int x1), some (.int y688), some (.int y713), some (.int y690), some (.int z712)]) rfl rfl ?_
                    exact K718 z726 x1 (by omega) (by omega) (by omega) (by omega)
              refine ty_zeq rfl (fun c727 => ?_) (fun c727 => ?_)
              · refine hq_p rfl rfl (ty_ge (n := 0) nk_i0 (fun z728 ez728 => ?_))
                exact K714 z728 (by omega) (by omega)
              · replace c727 : 1 ≤ y689.toInt ∧ y689.toInt ≤ 1 := by omega
                refine hq_p rfl rfl ?_
                refine hq_p rfl rfl ?_
                refine ty_igt rfl (fun c729 => ?_) (fun c729 => ?_)
                · refine hq_p rfl rfl (ty_ge (n := 0) nk_i0 (fun z730 ez730 => ?_))
                  exact K714 z730 (by omega) (by omega)
                · refine hq_p rfl rfl (ty_ge (n := 1) nk_i1 (fun z731 ez731 => ?_))
                  refine hq_p rfl rfl ?_
                  exact K714 z731 (by omega) (by omega)
        exact L46_n698 _ z375 z376 z377 z378 z379 none rfl (by omega) (by omega) (by omega) (by omega) (by omega) (by omega) (by omega) (by omega) (by omega) (by omega) rfl
      · clear iz372
        refine hq_p rfl rfl (ty_ge (n := -1) nk_im1 (fun z732 ez732 => ?_))
        exact hq_W.ret rfl rfl rfl ⟨Jh2, _, rfl, by omega, by omega⟩
theorem ct_242 {X : pm_X} {d : Nat} {h : pm_H}  (hd : 1 ≤ d)  : ty_M X ty_Wt d 242 [.ref 97] h ty_pl := by
  intro J H hJ
  obtain ⟨d, rfl⟩ : ∃ e, d = e + 1 := ⟨d - 1, by omega⟩
  have I := H.1 h hJ
  refine hq_M.enter (q := (⟨"TrainBearersModel", "steady", "()J"⟩, _, 4, some .long, 11, 1, pm_c242)) rfl rfl ?_
  show hq_W X d 11 false (some .long) pm_c242 (0, [some (.ref 97), none, none, none], [], h) (fun h' v => J h' ∧ ty_pl h' v)
  refine hq_p rfl rfl ?_
  refine hq_p rfl rfl (ty_ge (n := 0) nk_i0 (fun z1 ez1 => ?_))
  refine ty_pI (W := ty_Wt) H hJ rfl rfl (by decide) rfl rfl (by unfold ty_Wt; omega) rfl (by omega) (by omega) (fun h2 eh2 Jh2 => ?_)
  have wh2 : (hs_fI h2 97 0).toInt = z1.toInt := by rw [eh2]; exact congrArg Int32.toInt (ty_fI_eq I.1 rfl (by decide) rfl)
  have Ih2 := H.1 h2 Jh2
  refine hq_p rfl rfl (ty_gle (n := 1000000000000) (by decide) (fun z3 ez3 => ?_))
  refine hq_p (ls' := [some (.ref 97), some (.long z3), none, none]) rfl rfl ?_
  refine hq_p rfl rfl (ty_ge (n := 0) nk_i0 (fun z4 ez4 => ?_))
  refine hq_p (ls' := [some (.ref 97), some (.long z3), none, some (.int z4)]) rfl rfl ?_
  have L11_n27 : ∀ n27 : Nat, ∀ (y23 : Int64) (y24 : Int32), (8 - y24.toInt).toNat = n27 → -9223372036854775808 ≤ y23.toInt → y23.toInt ≤ 9223372036854775807 → 0 ≤ y24.toInt → y24.toInt ≤ 8 → hq_W X d 11 false (some .long) pm_c242 (11, [some (.ref 97), some (.long y23), none, some (.int y24)], [], h2) (fun h' v => J h' ∧ ty_pl h' v) := by
    intro n27
    induction n27 using Nat.strongRecOn with
    | ind n27 ihn27 =>
      intro y23 y24 mn27 ay23 by23 ay24 by24
      refine hq_p rfl rfl ?_
      refine hq_p rfl rfl ?_
      refine hq_gR Ih2.1 rfl rfl (by decide) (by decide) rfl ?_
      refine hq_p rfl rfl (ty_ge (n := 1) nk_i1 (fun z28 ez28 => ?_))
      refine ty_aL Ih2 rfl rfl (by decide) (by omega) (by omega) (fun i e => ty_le (ty_w0 (by omega) (by omega))) (fun z29 ez29 az29 bz29 => ?_)
      rw [show z28.toInt.toNat = 1 by omega] at ez29
      refine ty_ige rfl (fun c30 => ?_) (fun c30 => ?_)
      · refine hq_p rfl rfl ?_
        exact hq_W.ret rfl rfl rfl ⟨Jh2, _, rfl⟩
      · refine hq_p rfl rfl ?_
        refine hq_gR Ih2.1 rfl rfl (by decide) (by decide) rfl ?_
        refine hq_p rfl rfl (ty_ge (n := 26) nk_b26 (fun z31 ez31 => ?_))
        refine hq_p rfl rfl ?_
        refine hq_p rfl rfl (ty_ge (n := z31.toInt + y24.toInt) (nm_add (by omega) (by omega)) (fun z32 ez32 => ?_))
        refine ty_aL Ih2 rfl rfl (by decide) (by omega) (by omega) (fun i e => ty_le (ty_w26 (by omega) (by omega))) (fun z33 ez33 az33 bz33 => ?_)
        refine hq_p rfl rfl (ty_ge (n := -1) nk_im1 (fun z34 ez34 => ?_))
        refine ty_ieq rfl (fun c35 => ?_) (fun c35 => ?_)
        · refine ty_inc (ls' := fun z36 => [some (.ref 97), some (.long y23), none, some (.int z36)]) rfl rfl (fun _ => rfl) (nm_addc nk_i1 (by omega) (by omega)) (fun z36 ez36 => ?_)
          refine hq_p rfl rfl ?_
          exact ihn27 ((8 - z36.toInt).toNat) (by omega) y23 z36 rfl (by omega) (by omega) (by omega) (by omega)
        · replace c35 : 0 ≤ z33.toInt ∧ z33.toInt ≤ 7 := by omega
          refine hq_p rfl rfl ?_
          refine hq_p rfl rfl (ty_ge (n := 10) nk_b10 (fun z37 ez37 => ?_))
          refine hq_p rfl rfl ?_
          refine hq_gR Ih2.1 rfl rfl (by decide) (by decide) rfl ?_
          refine hq_p rfl rfl (ty_ge (n := 6) nk_b6 (fun z38 ez38 => ?_))
          refine ty_aL Ih2 rfl rfl (by decide) (by omega) (by omega) (fun i e => ty_le (ty_w6 (by omega) (by omega))) (fun z39 ez39 az39 bz39 => ?_)
          rw [show z38.toInt.toNat = 6 by omega] at ez39
          refine hq_p rfl rfl ?_
          refine hq_gR Ih2.1 rfl rfl (by decide) (by decide) rfl ?_
          refine hq_p rfl rfl (ty_ge (n := 18) nk_b18 (fun z40 ez40 => ?_))
          refine hq_p rfl rfl ?_
          refine hq_p rfl rfl (ty_ge (n := z40.toInt + y24.toInt) (nm_add (by omega) (by omega)) (fun z41 ez41 => ?_))
          refine ty_aL Ih2 rfl rfl (by decide) (by omega) (by omega) (fun i e => ty_le (ty_w18 (by omega) (by omega))) (fun z42 ez42 az42 bz42 => ?_)
          refine hq_p rfl rfl (ty_ga (fun z43 az43 bz43 => ?_))
          refine hq_p rfl rfl (ty_ge (n := 9) nk_b9 (fun z44 ez44 => ?_))
          refine hq_idiv rfl (nm_nz (by omega)) (ty_ga (fun z45 az45 bz45 => ?_))
          refine hq_p rfl rfl (ty_ga (fun z46 az46 bz46 => ?_))
          refine hq_p rfl rfl (ty_gle (n := z46.toInt) (nm_i2l _) (fun z47 ez47 => ?_))
          refine hq_p rfl rfl (ty_gla (fun z48 az48 bz48 => ?_))
          refine hq_p rfl rfl (ty_gle (n := 10) (by decide) (fun z49 ez49 => ?_))
          refine hq_ldiv rfl (nm_lnz (by omega)) (ty_gla (fun z50 az50 bz50 => ?_))
          refine hq_p (ls' := [some (.ref 97), some (.long z50), none, some (.int y24)]) rfl rfl ?_
          refine ty_inc (ls' := fun z51 => [some (.ref 97), some (.long z50), none, some (.int z51)]) rfl rfl (fun _ => rfl) (nm_addc nk_i1 (by omega) (by omega)) (fun z51 ez51 => ?_)
          refine hq_p rfl rfl ?_
          exact ihn27 ((8 - z51.toInt).toNat) (by omega) z50 z51 rfl (by omega) (by omega) (by omega) (by omega)
  exact L11_n27 _ z3 z4 rfl (by omega) (by omega) (by omega) (by omega)
theorem ct_215 {X : pm_X} {d : Nat} {h : pm_H} {x1 : Int32} (hd : 1 ≤ d) (ax1 : 0 ≤ x1.toInt) (bx1 : x1.toInt ≤ 5) : ty_M X ty_W0 d 215 [.ref 97, .int x1] h (ty_pi 0 1) := by
  intro J H hJ
  obtain ⟨d, rfl⟩ : ∃ e, d = e + 1 := ⟨d - 1, by omega⟩
  have I := H.1 h hJ
  refine hq_M.enter (q := (⟨"TrainBearersModel", "canWalk", "(I)Z"⟩, _, 2, some .boolean, 11, 2, pm_c215)) rfl rfl ?_
  show hq_W X d 11 false (some .boolean) pm_c215 (0, [some (.ref 97), some (.int x1)], [], h) (fun h' v => J h' ∧ (ty_pi 0 1) h' v)
  refine hq_p rfl rfl ?_
  refine hq_gR I.1 rfl rfl (by decide) (by decide) rfl ?_
  refine hq_p rfl rfl (ty_ge (n := 50) nk_b50 (fun z1 ez1 => ?_))
  refine hq_p rfl rfl (ty_ge (n := 6) nk_b6 (fun z2 ez2 => ?_))
  refine hq_p rfl rfl ?_
  refine hq_gR I.1 rfl rfl (by decide) (by decide) rfl ?_
  refine hq_p rfl rfl (ty_ge (n := 8) nk_b8 (fun z3 ez3 => ?_))
  refine ty_aL I rfl rfl (by decide) (by omega) (by omega) (fun i e => ty_le (ty_w8 (by omega) (by omega))) (fun z4 ez4 az4 bz4 => ?_)
  rw [show z3.toInt.toNat = 8 by omega] at ez4
  refine hq_p rfl rfl (ty_ge (n := 6 * z4.toInt) (nm_cmul ez2 (by omega) (by omega)) (fun z5 ez5 => ?_))
  refine hq_p rfl rfl (ty_ge (n := z1.toInt + z5.toInt) (nm_add (by omega) (by omega)) (fun z6 ez6 => ?_))
  refine hq_p rfl rfl ?_
  refine hq_p rfl rfl (ty_ge (n := z6.toInt + x1.toInt) (nm_add (by omega) (by omega)) (fun z7 ez7 => ?_))
  refine ty_aL I rfl rfl (by decide) (by omega) (by omega) (fun i e => ty_le (ty_w50 (by omega) (by omega))) (fun z8 ez8 az8 bz8 => ?_)
  refine hq_p rfl rfl (ty_ge (n := -1) nk_im1 (fun z9 ez9 => ?_))
  refine ty_ieq rfl (fun c10 => ?_) (fun c10 => ?_)
  · refine hq_p rfl rfl (ty_ge (n := 0) nk_i0 (fun z11 ez11 => ?_))
    exact ty_rB rfl rfl (by omega) (by omega) ⟨hJ, _, rfl, by omega, by omega⟩
  · replace c10 : 0 ≤ z8.toInt ∧ z8.toInt ≤ 9 := by omega
    refine hq_p rfl rfl (ty_ge (n := 1) nk_i1 (fun z12 ez12 => ?_))
    refine hq_p rfl rfl ?_
    exact ty_rB rfl rfl (by omega) (by omega) ⟨hJ, _, rfl, by omega, by omega⟩
theorem ct_219a {X : pm_X} {d : Nat} {h : pm_H}  (hd : 1 ≤ d) (gq50 : 0 ≤ (hs_aI h 99 5).toInt) (gq51 : (hs_aI h 99 5).toInt ≤ 998) : ty_M X ty_Wz d 219 [.ref 97] h ty_pv := by
  intro J H hJ
  obtain ⟨d, rfl⟩ : ∃ e, d = e + 1 := ⟨d - 1, by omega⟩
  have I := H.1 h hJ
  obtain ⟨q5, eq5⟩ : ∃ q : Int32, q.toInt = (hs_aI h 99 5).toInt := ⟨_, rfl⟩
  refine hq_M.enter (q := (⟨"TrainBearersModel", "restIt", "()V"⟩, _, 2, none, 11, 1, pm_c219)) rfl rfl ?_
  show hq_W X d 11 false (none) pm_c219 (0, [some (.ref 97), none], [], h) (fun h' v => J h' ∧ ty_pv h' v)
  refine hq_p rfl rfl (ty_ge (n := 0) nk_i0 (fun z1 ez1 => ?_))
  refine hq_p (ls' := [some (.ref 97), some (.int z1)]) rfl rfl ?_
  have L2_n24 : ∀ n24 : Nat, ∀ (y20 : Int32) (h21 : pm_H), (8 - y20.toInt).toNat = n24 → 0 ≤ y20.toInt → y20.toInt ≤ 8 → (hs_aI h21 99 5).toInt = (hs_aI h 99 5).toInt → J h21 → hq_W X d 11 false (none) pm_c219 (2, [some (.ref 97), some (.int y20)], [], h21) (fun h' v => J h' ∧ ty_pv h' v) := by
    intro n24
    induction n24 using Nat.strongRecOn with
    | ind n24 ihn24 =>
      intro y20 h21 mn24 ay20 by20 x0n24 Jh21
      have Ih21 := H.1 h21 Jh21
      refine hq_p rfl rfl ?_
      refine hq_p rfl rfl ?_
      refine hq_gR Ih21.1 rfl rfl (by decide) (by decide) rfl ?_
      refine hq_p rfl rfl (ty_ge (n := 1) nk_i1 (fun z25 ez25 => ?_))
      refine ty_aL Ih21 rfl rfl (by decide) (by omega) (by omega) (fun i e => ty_le (ty_w0 (by omega) (by omega))) (fun z26 ez26 az26 bz26 => ?_)
      rw [show z25.toInt.toNat = 1 by omega] at ez26
      refine ty_ige rfl (fun c27 => ?_) (fun c27 => ?_)
      · refine hq_p rfl rfl ?_
        refine hq_gR Ih21.1 rfl rfl (by decide) (by decide) rfl ?_
        refine hq_p rfl rfl (ty_ge (n := 5) nk_i5 (fun z28 ez28 => ?_))
        refine hq_p rfl rfl ?_
        refine ty_aL Ih21 rfl rfl (by decide) (by omega) (by omega) (fun i e => ty_le (ty_w5 (by omega) (by omega))) (fun z29 ez29 az29 bz29 => ?_)
        rw [show z28.toInt.toNat = 5 by omega] at ez29
        refine hq_p rfl rfl (ty_ge (n := 1) nk_i1 (fun z30 ez30 => ?_))
        refine hq_p rfl rfl (ty_ge (n := z29.toInt + z30.toInt) (nm_add (by omega) (by omega)) (fun z31 ez31 => ?_))
        refine ty_aS (W := ty_Wz) H Jh21 rfl rfl (by decide) (by omega) (by omega) (fun i e => by unfold ty_Wz; omega) (fun i e => ty_eg (ty_w5 (by omega) (by omega))) (by omega) (by omega) (fun e1 e2 w => by omega) (fun h32 eh32 Jh32 => ?_)
        have Ih32 := H.1 h32 Jh32
        exact hq_W.ret rfl rfl rfl ⟨Jh32, rfl⟩
      · refine hq_p rfl rfl ?_
        refine hq_gR Ih21.1 rfl rfl (by decide) (by decide) rfl ?_
        refine hq_p rfl rfl (ty_ge (n := 18) nk_b18 (fun z33 ez33 => ?_))
        refine hq_p rfl rfl ?_
        refine hq_p rfl rfl (ty_ge (n := z33.toInt + y20.toInt) (nm_add (by omega) (by omega)) (fun z34 ez34 => ?_))
        refine hq_p rfl rfl ?_
        refine ty_aL Ih21 rfl rfl (by decide) (by omega) (by omega) (fun i e => ty_le (ty_w18 (by omega) (by omega))) (fun z35 ez35 az35 bz35 => ?_)
        refine hq_p rfl rfl ?_
        refine hq_gR Ih21.1 rfl rfl (by decide) (by decide) rfl ?_
        refine hq_p rfl rfl (ty_ge (n := 18) nk_b18 (fun z36 ez36 => ?_))
        refine hq_p rfl rfl ?_
        refine hq_p rfl rfl (ty_ge (n := z36.toInt + y20.toInt) (nm_add (by omega) (by omega)) (fun z37 ez37 => ?_))
        refine ty_aL Ih21 rfl rfl (by decide) (by omega) (by omega) (fun i e => ty_le (ty_w18 (by omega) (by omega))) (fun z38 ez38 az38 bz38 => ?_)
        refine ty_zle rfl (fun c39 => ?_) (fun c39 => ?_)
        · refine hq_p rfl rfl (ty_ge (n := 0) nk_i0 (fun z40 ez40 => ?_))
          refine hq_p rfl rfl (ty_ge (n := z35.toInt - z40.toInt) (nm_sub (by omega) (by omega)) (fun z41 ez41 => ?_))
          refine ty_aS (W := ty_Wz) H Jh21 rfl rfl (by decide) (by omega) (by omega) (fun i e => by unfold ty_Wz; omega) (fun i e => ty_eg (ty_w18 (by omega) (by omega))) (by omega) (by omega) (fun e1 e2 w => by omega) (fun h42 eh42 Jh42 => ?_)
          have Ih42 := H.1 h42 Jh42
          refine ty_inc (ls' := fun z43 => [some (.ref 97), some (.int z43)]) rfl rfl (fun _ => rfl) (nm_addc nk_i1 (by omega) (by omega)) (fun z43 ez43 => ?_)
          refine hq_p rfl rfl ?_
          have r44 : (hs_aI h42 99 5).toInt = (hs_aI h21 99 5).toInt := by rw [eh42]; exact congrArg Int32.toInt (ty_aI_sA (by omega))
          exact ihn24 ((8 - z43.toInt).toNat) (by omega) z43 h42 rfl (by omega) (by omega) (by omega) Jh42
        · refine hq_p rfl rfl (ty_ge (n := 1) nk_i1 (fun z45 ez45 => ?_))
          refine hq_p rfl rfl ?_
          refine hq_p rfl rfl (ty_ga (fun z46 az46 bz46 => ?_))
          refine ty_aS (W := ty_Wz) H Jh21 rfl rfl (by decide) (by omega) (by omega) (fun i e => by unfold ty_Wz; omega) (fun i e => ty_eg (ty_w18 (by omega) (by omega))) (by omega) (by omega) (fun e1 e2 w => by omega) (fun h47 eh47 Jh47 => ?_)
          have Ih47 := H.1 h47 Jh47
          refine ty_inc (ls' := fun z48 => [some (.ref 97), some (.int z48)]) rfl rfl (fun _ => rfl) (nm_addc nk_i1 (by omega) (by omega)) (fun z48 ez48 => ?_)
          refine hq_p rfl rfl ?_
          have r49 : (hs_aI h47 99 5).toInt = (hs_aI h21 99 5).toInt := by rw [eh47]; exact congrArg Int32.toInt (ty_aI_sA (by omega))
          exact ihn24 ((8 - z48.toInt).toNat) (by omega) z48 h47 rfl (by omega) (by omega) (by omega) Jh47
  exact L2_n24 _ z1 h rfl (by omega) (by omega) (by omega) hJ
end CT1
