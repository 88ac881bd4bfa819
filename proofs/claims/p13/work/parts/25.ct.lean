/-! CONTRACTS (printed by wip/pm/cts.py) -/
section CT0
theorem ct_258 {X : pm_X} {d : Nat} {h : pm_H} {x0 : Int32} {x1 : Int32} (hd : 1 ≤ d)  : ty_M X ty_W0 d 258 [.int x0, .int x1] h (fun _ v => ∃ z : Int32, v = some (.int z) ∧ (x0.toInt ≤ z.toInt ∧ x1.toInt ≤ z.toInt ∧ (z.toInt = x0.toInt ∨ z.toInt = x1.toInt))) := by
  intro J H hJ
  obtain ⟨d, rfl⟩ : ∃ e, d = e + 1 := ⟨d - 1, by omega⟩
  have I := H.1 h hJ
  have ax0 := nm_lo x0
  have bx0 := nm_hi x0
  have ax1 := nm_lo x1
  have bx1 := nm_hi x1
  refine hq_M.enter (q := (⟨"java/lang/Math", "max", "(II)I"⟩, _, 2, some .int, 14, 2, pm_c258)) rfl rfl ?_
  show hq_W X d 14 false (some .int) pm_c258 (0, [some (.int x0), some (.int x1)], [], h) (fun h' v => J h' ∧ (fun _ v => ∃ z : Int32, v = some (.int z) ∧ (x0.toInt ≤ z.toInt ∧ x1.toInt ≤ z.toInt ∧ (z.toInt = x0.toInt ∨ z.toInt = x1.toInt))) h' v)
  refine hq_p rfl rfl ?_
  refine hq_p rfl rfl ?_
  refine ty_ilt rfl (fun c1 => ?_) (fun c1 => ?_)
  · refine hq_p rfl rfl ?_
    exact hq_W.ret rfl rfl rfl ⟨hJ, _, rfl, by omega⟩
  · refine hq_p rfl rfl ?_
    refine hq_p rfl rfl ?_
    exact hq_W.ret rfl rfl rfl ⟨hJ, _, rfl, by omega⟩
theorem ct_259 {X : pm_X} {d : Nat} {h : pm_H} {x0 : Int32} {x1 : Int32} (hd : 1 ≤ d)  : ty_M X ty_W0 d 259 [.int x0, .int x1] h (fun _ v => ∃ z : Int32, v = some (.int z) ∧ (z.toInt ≤ x0.toInt ∧ z.toInt ≤ x1.toInt ∧ (z.toInt = x0.toInt ∨ z.toInt = x1.toInt))) := by
  intro J H hJ
  obtain ⟨d, rfl⟩ : ∃ e, d = e + 1 := ⟨d - 1, by omega⟩
  have I := H.1 h hJ
  have ax0 := nm_lo x0
  have bx0 := nm_hi x0
  have ax1 := nm_lo x1
  have bx1 := nm_hi x1
  refine hq_M.enter (q := (⟨"java/lang/Math", "min", "(II)I"⟩, _, 2, some .int, 14, 2, pm_c259)) rfl rfl ?_
  show hq_W X d 14 false (some .int) pm_c259 (0, [some (.int x0), some (.int x1)], [], h) (fun h' v => J h' ∧ (fun _ v => ∃ z : Int32, v = some (.int z) ∧ (z.toInt ≤ x0.toInt ∧ z.toInt ≤ x1.toInt ∧ (z.toInt = x0.toInt ∨ z.toInt = x1.toInt))) h' v)
  refine hq_p rfl rfl ?_
  refine hq_p rfl rfl ?_
  refine ty_igt rfl (fun c1 => ?_) (fun c1 => ?_)
  · refine hq_p rfl rfl ?_
    exact hq_W.ret rfl rfl rfl ⟨hJ, _, rfl, by omega⟩
  · refine hq_p rfl rfl ?_
    refine hq_p rfl rfl ?_
    exact hq_W.ret rfl rfl rfl ⟨hJ, _, rfl, by omega⟩
theorem ct_257 {X : pm_X} {d : Nat} {h : pm_H} {x0 : Int32} (hd : 1 ≤ d)  : ty_M X ty_W0 d 257 [.int x0] h (ty_pi 0 63) := by
  intro J H hJ
  obtain ⟨d, rfl⟩ : ∃ e, d = e + 1 := ⟨d - 1, by omega⟩
  have I := H.1 h hJ
  have ax0 := nm_lo x0
  have bx0 := nm_hi x0
  refine hq_M.enter (q := (⟨"java/lang/Integer", "bitCount", "(I)I"⟩, _, 1, some .int, 13, 1, pm_c257)) rfl rfl ?_
  show hq_W X d 13 false (some .int) pm_c257 (0, [some (.int x0)], [], h) (fun h' v => J h' ∧ (ty_pi 0 63) h' v)
  refine hq_p rfl rfl ?_
  refine hq_p rfl rfl ?_
  refine hq_p rfl rfl (ty_ge (n := 1) nk_i1 (fun z1 ez1 => ?_))
  refine hq_p rfl rfl (ty_ga (fun z2 az2 bz2 => ?_))
  refine hq_p rfl rfl (ty_ge (n := 1431655765) nk_d1431655765 (fun z3 ez3 => ?_))
  refine hq_p rfl rfl (ty_gb (c := z2 &&& z3) (lo := 0) (hi := 1431655765) (by have q := nm_and_r (x := z2) (y := z3) (by omega); omega) (fun z4 az4 bz4 => ?_))
  refine hq_p rfl rfl (ty_ga (fun z5 az5 bz5 => ?_))
  refine hq_p (ls' := [some (.int z5)]) rfl rfl ?_
  refine hq_p rfl rfl ?_
  refine hq_p rfl rfl (ty_ge (n := 858993459) nk_d858993459 (fun z6 ez6 => ?_))
  refine hq_p rfl rfl (ty_gb (c := z5 &&& z6) (lo := 0) (hi := 858993459) (by have q := nm_and_r (x := z5) (y := z6) (by omega); omega) (fun z7 az7 bz7 => ?_))
  refine hq_p rfl rfl ?_
  refine hq_p rfl rfl (ty_ge (n := 2) nk_i2 (fun z8 ez8 => ?_))
  refine hq_p rfl rfl (ty_ga (fun z9 az9 bz9 => ?_))
  refine hq_p rfl rfl (ty_ge (n := 858993459) nk_d858993459 (fun z10 ez10 => ?_))
  refine hq_p rfl rfl (ty_gb (c := z9 &&& z10) (lo := 0) (hi := 858993459) (by have q := nm_and_r (x := z9) (y := z10) (by omega); omega) (fun z11 az11 bz11 => ?_))
  refine hq_p rfl rfl (ty_ge (n := z7.toInt + z11.toInt) (nm_add (by omega) (by omega)) (fun z12 ez12 => ?_))
  refine hq_p (ls' := [some (.int z12)]) rfl rfl ?_
  refine hq_p rfl rfl ?_
  refine hq_p rfl rfl ?_
  refine hq_p rfl rfl (ty_ge (n := 4) nk_i4 (fun z13 ez13 => ?_))
  refine hq_p rfl rfl (ty_ga (fun z14 az14 bz14 => ?_))
  refine hq_p rfl rfl (ty_ga (fun z15 az15 bz15 => ?_))
  refine hq_p rfl rfl (ty_ge (n := 252645135) nk_d252645135 (fun z16 ez16 => ?_))
  refine hq_p rfl rfl (ty_gb (c := z15 &&& z16) (lo := 0) (hi := 252645135) (by have q := nm_and_r (x := z15) (y := z16) (by omega); omega) (fun z17 az17 bz17 => ?_))
  refine hq_p (ls' := [some (.int z17)]) rfl rfl ?_
  refine hq_p rfl rfl ?_
  refine hq_p rfl rfl ?_
  refine hq_p rfl rfl (ty_ge (n := 8) nk_b8 (fun z18 ez18 => ?_))
  refine hq_p rfl rfl (ty_ga (fun z19 az19 bz19 => ?_))
  refine hq_p rfl rfl (ty_ga (fun z20 az20 bz20 => ?_))
  refine hq_p (ls' := [some (.int z20)]) rfl rfl ?_
  refine hq_p rfl rfl ?_
  refine hq_p rfl rfl ?_
  refine hq_p rfl rfl (ty_ge (n := 16) nk_b16 (fun z21 ez21 => ?_))
  refine hq_p rfl rfl (ty_ga (fun z22 az22 bz22 => ?_))
  refine hq_p rfl rfl (ty_ga (fun z23 az23 bz23 => ?_))
  refine hq_p (ls' := [some (.int z23)]) rfl rfl ?_
  refine hq_p rfl rfl ?_
  refine hq_p rfl rfl (ty_ge (n := 63) nk_b63 (fun z24 ez24 => ?_))
  refine hq_p rfl rfl (ty_gb (c := z23 &&& z24) (lo := 0) (hi := 63) (by have q := nm_and_r (x := z23) (y := z24) (by omega); omega) (fun z25 az25 bz25 => ?_))
  exact hq_W.ret rfl rfl rfl ⟨hJ, _, rfl, by omega, by omega⟩
theorem ct_128 {X : pm_X} {d : Nat} {h : pm_H} {x0 : Int32} (hd : 1 ≤ d)  : ty_M X ty_W0 d 128 [.int x0] h (ty_pb (0 ≤ x0.toInt ∧ x0.toInt ≤ 5)) := by
  intro J H hJ
  obtain ⟨d, rfl⟩ : ∃ e, d = e + 1 := ⟨d - 1, by omega⟩
  have I := H.1 h hJ
  have ax0 := nm_lo x0
  have bx0 := nm_hi x0
  refine hq_M.enter (q := (⟨"TrainBearers", "isPlace", "(I)Z"⟩, _, 1, some .boolean, 10, 1, pm_c128)) rfl rfl ?_
  show hq_W X d 10 false (some .boolean) pm_c128 (0, [some (.int x0)], [], h) (fun h' v => J h' ∧ (ty_pb (0 ≤ x0.toInt ∧ x0.toInt ≤ 5)) h' v)
  refine hq_p rfl rfl ?_
  refine ty_zlt rfl (fun c1 => ?_) (fun c1 => ?_)
  · refine hq_p rfl rfl (ty_ge (n := 0) nk_i0 (fun z2 ez2 => ?_))
    exact ty_rB rfl rfl (by omega) (by omega) ⟨hJ, _, rfl, by omega, by omega, fun q => by omega⟩
  · refine hq_p rfl rfl ?_
    refine hq_p rfl rfl (ty_ge (n := 6) nk_b6 (fun z3 ez3 => ?_))
    refine ty_ige rfl (fun c4 => ?_) (fun c4 => ?_)
    · refine hq_p rfl rfl (ty_ge (n := 0) nk_i0 (fun z5 ez5 => ?_))
      exact ty_rB rfl rfl (by omega) (by omega) ⟨hJ, _, rfl, by omega, by omega, fun q => by omega⟩
    · refine hq_p rfl rfl (ty_ge (n := 1) nk_i1 (fun z6 ez6 => ?_))
      refine hq_p rfl rfl ?_
      exact ty_rB rfl rfl (by omega) (by omega) ⟨hJ, _, rfl, by omega, by omega, fun q => by omega⟩
theorem ct_129 {X : pm_X} {d : Nat} {h : pm_H} {x0 : Int32} {x1 : Int32} {x2 : Int32} (hd : 2 ≤ d)  : ty_M X ty_W0 d 129 [.int x0, .int x1, .int x2] h (ty_pb (0 ≤ x0.toInt ∧ x0.toInt ≤ 5 ∧ 0 ≤ x1.toInt ∧ x1.toInt ≤ 5 ∧ -1 ≤ x2.toInt ∧ x2.toInt ≤ 9)) := by
  intro J H hJ
  obtain ⟨d, rfl⟩ : ∃ e, d = e + 1 := ⟨d - 1, by omega⟩
  have I := H.1 h hJ
  have ax0 := nm_lo x0
  have bx0 := nm_hi x0
  have ax1 := nm_lo x1
  have bx1 := nm_hi x1
  have ax2 := nm_lo x2
  have bx2 := nm_hi x2
  refine hq_M.enter (q := (⟨"TrainBearers", "canBeLane", "(III)Z"⟩, _, 3, some .boolean, 10, 3, pm_c129)) rfl rfl ?_
  show hq_W X d 10 false (some .boolean) pm_c129 (0, [some (.int x0), some (.int x1), some (.int x2)], [], h) (fun h' v => J h' ∧ (ty_pb (0 ≤ x0.toInt ∧ x0.toInt ≤ 5 ∧ 0 ≤ x1.toInt ∧ x1.toInt ≤ 5 ∧ -1 ≤ x2.toInt ∧ x2.toInt ≤ 9)) h' v)
  refine hq_p rfl rfl ?_
  refine ty_callp 1 I rfl (fun _ => rfl) rfl rfl rfl rfl (ct_128 (x0 := x0) (by omega)) (fun _ P1 => ?_)
  obtain ⟨z2, rfl, az2, bz2, iz2⟩ := P1
  refine ty_zeq rfl (fun c3 => ?_) (fun c3 => ?_)
  · clear iz2
    refine hq_p rfl rfl (ty_ge (n := 0) nk_i0 (fun z4 ez4 => ?_))
    exact ty_rB rfl rfl (by omega) (by omega) ⟨hJ, _, rfl, by omega, by omega, fun q => by omega⟩
  · replace c3 : 1 ≤ z2.toInt ∧ z2.toInt ≤ 1 := by omega
    have f5 := iz2 (by omega)
    clear iz2
    refine hq_p rfl rfl ?_
    refine ty_callp 1 I rfl (fun _ => rfl) rfl rfl rfl rfl (ct_128 (x0 := x1) (by omega)) (fun _ P6 => ?_)
    obtain ⟨z7, rfl, az7, bz7, iz7⟩ := P6
    refine ty_zeq rfl (fun c8 => ?_) (fun c8 => ?_)
    · clear iz7
      refine hq_p rfl rfl (ty_ge (n := 0) nk_i0 (fun z9 ez9 => ?_))
      exact ty_rB rfl rfl (by omega) (by omega) ⟨hJ, _, rfl, by omega, by omega, fun q => by omega⟩
    · replace c8 : 1 ≤ z7.toInt ∧ z7.toInt ≤ 1 := by omega
      have f10 := iz7 (by omega)
      clear iz7
      refine hq_p rfl rfl ?_
      refine hq_p rfl rfl ?_
      refine ty_ieq rfl (fun c11 => ?_) (fun c11 => ?_)
      · refine hq_p rfl rfl (ty_ge (n := 0) nk_i0 (fun z12 ez12 => ?_))
        exact ty_rB rfl rfl (by omega) (by omega) ⟨hJ, _, rfl, by omega, by omega, fun q => by omega⟩
      · clear c11
        refine hq_p rfl rfl ?_
        refine hq_p rfl rfl (ty_ge (n := -1) nk_im1 (fun z13 ez13 => ?_))
        refine ty_ilt rfl (fun c14 => ?_) (fun c14 => ?_)
        · refine hq_p rfl rfl (ty_ge (n := 0) nk_i0 (fun z15 ez15 => ?_))
          exact ty_rB rfl rfl (by omega) (by omega) ⟨hJ, _, rfl, by omega, by omega, fun q => by omega⟩
        · refine hq_p rfl rfl ?_
          refine hq_p rfl rfl (ty_ge (n := 9) nk_b9 (fun z16 ez16 => ?_))
          refine ty_igt rfl (fun c17 => ?_) (fun c17 => ?_)
          · refine hq_p rfl rfl (ty_ge (n := 0) nk_i0 (fun z18 ez18 => ?_))
            exact ty_rB rfl rfl (by omega) (by omega) ⟨hJ, _, rfl, by omega, by omega, fun q => by omega⟩
          · refine hq_p rfl rfl (ty_ge (n := 1) nk_i1 (fun z19 ez19 => ?_))
            refine hq_p rfl rfl ?_
            exact ty_rB rfl rfl (by omega) (by omega) ⟨hJ, _, rfl, by omega, by omega, fun q => by omega⟩
theorem ct_130 {X : pm_X} {d : Nat} {h : pm_H} {x0 : Int32} {x1 : Int32} (hd : 2 ≤ d) (ax1 : 0 ≤ x1.toInt) (bx1 : x1.toInt ≤ 1000000) : ty_M X ty_W0 d 130 [.int x0, .int x1] h (fun _ v => ∃ z : Int32, v = some (.int z) ∧ (0 ≤ z.toInt ∧ z.toInt ≤ x1.toInt)) := by
  intro J H hJ
  obtain ⟨d, rfl⟩ : ∃ e, d = e + 1 := ⟨d - 1, by omega⟩
  have I := H.1 h hJ
  have ax0 := nm_lo x0
  have bx0 := nm_hi x0
  refine hq_M.enter (q := (⟨"TrainBearers", "within", "(II)I"⟩, _, 2, some .int, 10, 2, pm_c130)) rfl rfl ?_
  show hq_W X d 10 false (some .int) pm_c130 (0, [some (.int x0), some (.int x1)], [], h) (fun h' v => J h' ∧ (fun _ v => ∃ z : Int32, v = some (.int z) ∧ (0 ≤ z.toInt ∧ z.toInt ≤ x1.toInt)) h' v)
  refine hq_p rfl rfl (ty_ge (n := 0) nk_i0 (fun z1 ez1 => ?_))
  refine hq_p rfl rfl ?_
  refine hq_p rfl rfl ?_
  refine ty_callp 1 I rfl (fun _ => rfl) rfl rfl rfl rfl (ct_259 (x0 := x1) (x1 := x0) (by omega)) (fun _ P2 => ?_)
  obtain ⟨z3, rfl, fz3, dz3, oz3⟩ := P2
  have iz3 : -2147483648 ≤ z3.toInt ∧ z3.toInt ≤ 1000000 := by omega
  refine ty_callp 1 I rfl (fun _ => rfl) rfl rfl rfl rfl (ct_258 (x0 := z1) (x1 := z3) (by omega)) (fun _ P4 => ?_)
  obtain ⟨z5, rfl, fz5, dz5, oz5⟩ := P4
  have iz5 : 0 ≤ z5.toInt ∧ z5.toInt ≤ 1000000 := by omega
  exact hq_W.ret rfl rfl rfl ⟨hJ, _, rfl, by omega⟩
theorem ct_69 {X : pm_X} {d : Nat} {h : pm_H} {t0 : Nat} {x1 : Int32} (hd : 1 ≤ d) (ht0 : ty_tr t0) : ty_M X ty_W0 d 69 [.ref t0, .int x1] h (ty_pb (0 ≤ x1.toInt ∧ x1.toInt < (hs_fI h t0 0).toInt ∧ (hs_fI h t0 0).toInt ≤ 8)) := by
  intro J H hJ
  obtain ⟨d, rfl⟩ : ∃ e, d = e + 1 := ⟨d - 1, by omega⟩
  have I := H.1 h hJ
  have lt0 := ty_trl ht0
  have ax1 := nm_lo x1
  have bx1 := nm_hi x1
  refine hq_M.enter (q := (⟨"TrainBearers$Train", "hasYard", "(I)Z"⟩, _, 2, some .boolean, 8, 2, pm_c69)) rfl rfl ?_
  show hq_W X d 8 false (some .boolean) pm_c69 (0, [some (.ref t0), some (.int x1)], [], h) (fun h' v => J h' ∧ (ty_pb (0 ≤ x1.toInt ∧ x1.toInt < (hs_fI h t0 0).toInt ∧ (hs_fI h t0 0).toInt ≤ 8)) h' v)
  refine hq_p rfl rfl ?_
  refine ty_zlt rfl (fun c1 => ?_) (fun c1 => ?_)
  · refine hq_p rfl rfl (ty_ge (n := 0) nk_i0 (fun z2 ez2 => ?_))
    exact ty_rB rfl rfl (by omega) (by omega) ⟨hJ, _, rfl, by omega, by omega, fun q => by omega⟩
  · refine hq_p rfl rfl ?_
    refine hq_p rfl rfl ?_
    refine ty_gI I rfl (ty_trs ht0) (by omega) (by decide) rfl (ty_trf ht0 0) (fun z3 ez3 az3 bz3 => ?_)
    refine ty_ige rfl (fun c4 => ?_) (fun c4 => ?_)
    · refine hq_p rfl rfl (ty_ge (n := 0) nk_i0 (fun z5 ez5 => ?_))
      exact ty_rB rfl rfl (by omega) (by omega) ⟨hJ, _, rfl, by omega, by omega, fun q => by omega⟩
    · refine hq_p rfl rfl (ty_ge (n := 1) nk_i1 (fun z6 ez6 => ?_))
      refine hq_p rfl rfl ?_
      exact ty_rB rfl rfl (by omega) (by omega) ⟨hJ, _, rfl, by omega, by omega, fun q => by omega⟩
theorem ct_70 {X : pm_X} {d : Nat} {h : pm_H} {t0 : Nat} {x1 : Int32} (hd : 1 ≤ d) (ht0 : ty_tr t0) : ty_M X ty_W0 d 70 [.ref t0, .int x1] h (ty_pb (0 ≤ x1.toInt ∧ x1.toInt < (hs_fI h t0 3).toInt ∧ (hs_fI h t0 3).toInt ≤ 8)) := by
  intro J H hJ
  obtain ⟨d, rfl⟩ : ∃ e, d = e + 1 := ⟨d - 1, by omega⟩
  have I := H.1 h hJ
  have lt0 := ty_trl ht0
  have ax1 := nm_lo x1
  have bx1 := nm_hi x1
  refine hq_M.enter (q := (⟨"TrainBearers$Train", "hasGirl", "(I)Z"⟩, _, 2, some .boolean, 8, 2, pm_c70)) rfl rfl ?_
  show hq_W X d 8 false (some .boolean) pm_c70 (0, [some (.ref t0), some (.int x1)], [], h) (fun h' v => J h' ∧ (ty_pb (0 ≤ x1.toInt ∧ x1.toInt < (hs_fI h t0 3).toInt ∧ (hs_fI h t0 3).toInt ≤ 8)) h' v)
  refine hq_p rfl rfl ?_
  refine ty_zlt rfl (fun c1 => ?_) (fun c1 => ?_)
  · refine hq_p rfl rfl (ty_ge (n := 0) nk_i0 (fun z2 ez2 => ?_))
    exact ty_rB rfl rfl (by omega) (by omega) ⟨hJ, _, rfl, by omega, by omega, fun q => by omega⟩
  · refine hq_p rfl rfl ?_
    refine hq_p rfl rfl ?_
    refine ty_gI I rfl (ty_trs ht0) (by omega) (by decide) rfl (ty_trf ht0 3) (fun z3 ez3 az3 bz3 => ?_)
    refine ty_ige rfl (fun c4 => ?_) (fun c4 => ?_)
    · refine hq_p rfl rfl (ty_ge (n := 0) nk_i0 (fun z5 ez5 => ?_))
      exact ty_rB rfl rfl (by omega) (by omega) ⟨hJ, _, rfl, by omega, by omega, fun q => by omega⟩
    · refine hq_p rfl rfl (ty_ge (n := 1) nk_i1 (fun z6 ez6 => ?_))
      refine hq_p rfl rfl ?_
      exact ty_rB rfl rfl (by omega) (by omega) ⟨hJ, _, rfl, by omega, by omega, fun q => by omega⟩
theorem ct_71 {X : pm_X} {d : Nat} {h : pm_H} {t0 : Nat} {x1 : Int32} (hd : 1 ≤ d) (ht0 : ty_tr t0) : ty_M X ty_W0 d 71 [.ref t0, .int x1] h (ty_pb (0 ≤ x1.toInt ∧ x1.toInt < (hs_fI h t0 14).toInt ∧ (hs_fI h t0 14).toInt ≤ 6)) := by
  intro J H hJ
  obtain ⟨d, rfl⟩ : ∃ e, d = e + 1 := ⟨d - 1, by omega⟩
  have I := H.1 h hJ
  have lt0 := ty_trl ht0
  have ax1 := nm_lo x1
  have bx1 := nm_hi x1
  refine hq_M.enter (q := (⟨"TrainBearers$Train", "hasLaw", "(I)Z"⟩, _, 2, some .boolean, 8, 2, pm_c71)) rfl rfl ?_
  show hq_W X d 8 false (some .boolean) pm_c71 (0, [some (.ref t0), some (.int x1)], [], h) (fun h' v => J h' ∧ (ty_pb (0 ≤ x1.toInt ∧ x1.toInt < (hs_fI h t0 14).toInt ∧ (hs_fI h t0 14).toInt ≤ 6)) h' v)
  refine hq_p rfl rfl ?_
  refine ty_zlt rfl (fun c1 => ?_) (fun c1 => ?_)
  · refine hq_p rfl rfl (ty_ge (n := 0) nk_i0 (fun z2 ez2 => ?_))
    exact ty_rB rfl rfl (by omega) (by omega) ⟨hJ, _, rfl, by omega, by omega, fun q => by omega⟩
  · refine hq_p rfl rfl ?_
    refine hq_p rfl rfl ?_
    refine ty_gI I rfl (ty_trs ht0) (by omega) (by decide) rfl (ty_trf ht0 14) (fun z3 ez3 az3 bz3 => ?_)
    refine ty_ige rfl (fun c4 => ?_) (fun c4 => ?_)
    · refine hq_p rfl rfl (ty_ge (n := 0) nk_i0 (fun z5 ez5 => ?_))
      exact ty_rB rfl rfl (by omega) (by omega) ⟨hJ, _, rfl, by omega, by omega, fun q => by omega⟩
    · refine hq_p rfl rfl (ty_ge (n := 1) nk_i1 (fun z6 ez6 => ?_))
      refine hq_p rfl rfl ?_
      exact ty_rB rfl rfl (by omega) (by omega) ⟨hJ, _, rfl, by omega, by omega, fun q => by omega⟩
theorem ct_17 {X : pm_X} {d : Nat} {h : pm_H} {x0 : Int32} (hd : 1 ≤ d)  : ty_M X ty_W0 d 17 [.int x0] h (ty_pi (-2147483648) 2147483647) := by
  intro J H hJ
  obtain ⟨d, rfl⟩ : ∃ e, d = e + 1 := ⟨d - 1, by omega⟩
  have I := H.1 h hJ
  have ax0 := nm_lo x0
  have bx0 := nm_hi x0
  refine hq_M.enter (q := (⟨"TrainBearers$Deeds", "drawAfter", "(I)I"⟩, _, 1, some .int, 1, 1, pm_c17)) rfl rfl ?_
  show hq_W X d 1 false (some .int) pm_c17 (0, [some (.int x0)], [], h) (fun h' v => J h' ∧ (ty_pi (-2147483648) 2147483647) h' v)
  refine hq_p rfl rfl ?_
  refine hq_p rfl rfl (ty_ge (n := 1103) nk_s1103 (fun z1 ez1 => ?_))
  refine hq_p rfl rfl (ty_ga (fun z2 az2 bz2 => ?_))
  refine hq_p rfl rfl (ty_ge (n := 12345) nk_s12345 (fun z3 ez3 => ?_))
  refine hq_p rfl rfl (ty_ga (fun z4 az4 bz4 => ?_))
  refine hq_p rfl rfl (ty_ge (n := 1000003) nk_d1000003 (fun z5 ez5 => ?_))
  refine hq_irem rfl (nm_nz (by omega)) (ty_ga (fun z6 az6 bz6 => ?_))
  exact hq_W.ret rfl rfl rfl ⟨hJ, _, rfl, by omega, by omega⟩
theorem ct_73 {X : pm_X} {d : Nat} {h : pm_H} {t0 : Nat} {x1 : Int32} (hd : 1 ≤ d) (ht0 : ty_tr t0) : ty_M X ty_W0 d 73 [.ref t0, .int x1] h (ty_pi (-2147483648) 2147483647) := by
  intro J H hJ
  obtain ⟨d, rfl⟩ : ∃ e, d = e + 1 := ⟨d - 1, by omega⟩
  have I := H.1 h hJ
  have lt0 := ty_trl ht0
  have ax1 := nm_lo x1
  have bx1 := nm_hi x1
  refine hq_M.enter (q := (⟨"TrainBearers$Train", "holders", "(I)I"⟩, _, 4, some .int, 8, 2, pm_c73)) rfl rfl ?_
  show hq_W X d 8 false (some .int) pm_c73 (0, [some (.ref t0), some (.int x1), none, none], [], h) (fun h' v => J h' ∧ (ty_pi (-2147483648) 2147483647) h' v)
  refine hq_p rfl rfl (ty_ge (n := 0) nk_i0 (fun z1 ez1 => ?_))
  refine hq_p (ls' := [some (.ref t0), some (.int x1), some (.int z1), none]) rfl rfl ?_
  refine hq_p rfl rfl (ty_ge (n := 0) nk_i0 (fun z2 ez2 => ?_))
  refine hq_p (ls' := [some (.ref t0), some (.int x1), some (.int z1), some (.int z2)]) rfl rfl ?_
  have L4_n25 : ∀ n25 : Nat, ∀ (y21 : Int32) (y22 : Int32), (8 - y22.toInt).toNat = n25 → -2147483648 ≤ y21.toInt → y21.toInt ≤ 2147483647 → 0 ≤ y22.toInt → y22.toInt ≤ 8 → hq_W X d 8 false (some .int) pm_c73 (4, [some (.ref t0), some (.int x1), some (.int y21), some (.int y22)], [], h) (fun h' v => J h' ∧ (ty_pi (-2147483648) 2147483647) h' v) := by
    intro n25
    induction n25 using Nat.strongRecOn with
    | ind n25 ihn25 =>
      intro y21 y22 mn25 ay21 by21 ay22 by22
      refine hq_p rfl rfl ?_
      refine hq_p rfl rfl ?_
      refine ty_gI I rfl (ty_trs ht0) (by omega) (by decide) rfl (ty_trf ht0 3) (fun z26 ez26 az26 bz26 => ?_)
      refine ty_ige rfl (fun c27 => ?_) (fun c27 => ?_)
      · refine hq_p rfl rfl ?_
        exact hq_W.ret rfl rfl rfl ⟨hJ, _, rfl, by omega, by omega⟩
      · refine hq_p rfl rfl ?_
        refine hq_gR I.1 rfl (ty_trs ht0) (by omega) (by decide) rfl ?_
        refine hq_p rfl rfl ?_
        refine ty_aL I rfl (ty_trs5 ht0) (by omega) (by omega) (by omega) (fun i _ => ty_le (ty_tra5 ht0 i)) (fun z28 ez28 az28 bz28 => ?_)
        refine hq_p rfl rfl ?_
        refine ty_ine rfl (fun c29 => ?_) (fun c29 => ?_)
        · clear c29
          refine ty_inc (ls' := fun z30 => [some (.ref t0), some (.int x1), some (.int y21), some (.int z30)]) rfl rfl (fun _ => rfl) (nm_addc nk_i1 (by omega) (by omega)) (fun z30 ez30 => ?_)
          refine hq_p rfl rfl ?_
          exact ihn25 ((8 - z30.toInt).toNat) (by omega) y21 z30 rfl (by omega) (by omega) (by omega) (by omega)
        · refine hq_p rfl rfl ?_
          refine hq_p rfl rfl (ty_ge (n := 1) nk_i1 (fun z31 ez31 => ?_))
          refine hq_p rfl rfl ?_
          refine hq_p rfl rfl (ty_gb (c := z31 <<< (y22 &&& 31)) (lo := 1) (hi := 256) (by have q := nm_shl1 (x := z31) (y := y22) (by omega) (by omega) (by omega); omega) (fun z32 az32 bz32 => ?_))
          refine hq_p rfl rfl (ty_ga (fun z33 az33 bz33 => ?_))
          refine hq_p (ls' := [some (.ref t0), some (.int x1), some (.int z33), some (.int y22)]) rfl rfl ?_
          refine ty_inc (ls' := fun z34 => [some (.ref t0), some (.int x1), some (.int z33), some (.int z34)]) rfl rfl (fun _ => rfl) (nm_addc nk_i1 (by omega) (by omega)) (fun z34 ez34 => ?_)
          refine hq_p rfl rfl ?_
          exact ihn25 ((8 - z34.toInt).toNat) (by omega) z33 z34 rfl (by omega) (by omega) (by omega) (by omega)
  exact L4_n25 _ z1 z2 rfl (by omega) (by omega) (by omega) (by omega)
theorem ct_74 {X : pm_X} {d : Nat} {h : pm_H} {t0 : Nat} (hd : 1 ≤ d) (ht0 : ty_tr t0) : ty_M X ty_W0 d 74 [.ref t0] h (ty_pi (-2147483648) 2147483647) := by
  intro J H hJ
  obtain ⟨d, rfl⟩ : ∃ e, d = e + 1 := ⟨d - 1, by omega⟩
  have I := H.1 h hJ
  have lt0 := ty_trl ht0
  refine hq_M.enter (q := (⟨"TrainBearers$Train", "busyGirls", "()I"⟩, _, 3, some .int, 8, 1, pm_c74)) rfl rfl ?_
  show hq_W X d 8 false (some .int) pm_c74 (0, [some (.ref t0), none, none], [], h) (fun h' v => J h' ∧ (ty_pi (-2147483648) 2147483647) h' v)
  refine hq_p rfl rfl (ty_ge (n := 0) nk_i0 (fun z1 ez1 => ?_))
  refine hq_p (ls' := [some (.ref t0), some (.int z1), none]) rfl rfl ?_
  refine hq_p rfl rfl (ty_ge (n := 0) nk_i0 (fun z2 ez2 => ?_))
  refine hq_p (ls' := [some (.ref t0), some (.int z1), some (.int z2)]) rfl rfl ?_
  have L4_n107 : ∀ n107 : Nat, ∀ (y103 : Int32) (y104 : Int32), (8 - y104.toInt).toNat = n107 → -2147483648 ≤ y103.toInt → y103.toInt ≤ 2147483647 → 0 ≤ y104.toInt → y104.toInt ≤ 8 → hq_W X d 8 false (some .int) pm_c74 (4, [some (.ref t0), some (.int y103), some (.int y104)], [], h) (fun h' v => J h' ∧ (ty_pi (-2147483648) 2147483647) h' v) := by
    intro n107
    induction n107 using Nat.strongRecOn with
    | ind n107 ihn107 =>
      intro y103 y104 mn107 ay103 by103 ay104 by104
      refine hq_p rfl rfl ?_
      refine hq_p rfl rfl ?_
      refine ty_gI I rfl (ty_trs ht0) (by omega) (by decide) rfl (ty_trf ht0 3) (fun z108 ez108 az108 bz108 => ?_)
      refine ty_ige rfl (fun c109 => ?_) (fun c109 => ?_)
      · refine hq_p rfl rfl ?_
        exact hq_W.ret rfl rfl rfl ⟨hJ, _, rfl, by omega, by omega⟩
      · refine hq_p rfl rfl ?_
        refine hq_gR I.1 rfl (ty_trs ht0) (by omega) (by decide) rfl ?_
        refine hq_p rfl rfl ?_
        refine ty_aL I rfl (ty_trs5 ht0) (by omega) (by omega) (by omega) (fun i _ => ty_le (ty_tra5 ht0 i)) (fun z110 ez110 az110 bz110 => ?_)
        refine hq_p rfl rfl (ty_ge (n := -1) nk_im1 (fun z111 ez111 => ?_))
        refine ty_ieq rfl (fun c112 => ?_) (fun c112 => ?_)
        · refine ty_inc (ls' := fun z113 => [some (.ref t0), some (.int y103), some (.int z113)]) rfl rfl (fun _ => rfl) (nm_addc nk_i1 (by omega) (by omega)) (fun z113 ez113 => ?_)
          refine hq_p rfl rfl ?_
          exact ihn107 ((8 - z113.toInt).toNat) (by omega) y103 z113 rfl (by omega) (by omega) (by omega) (by omega)
        · clear c112
          refine ty_inca (ls' := fun z114 => [some (.ref t0), some (.int z114), some (.int y104)]) rfl rfl (fun _ => rfl) (fun z114 az114 bz114 => ?_)
          refine ty_inc (ls' := fun z115 => [some (.ref t0), some (.int z114), some (.int z115)]) rfl rfl (fun _ => rfl) (nm_addc nk_i1 (by omega) (by omega)) (fun z115 ez115 => ?_)
          refine hq_p rfl rfl ?_
          exact ihn107 ((8 - z115.toInt).toNat) (by omega) z114 z115 rfl (by omega) (by omega) (by omega) (by omega)
  exact L4_n107 _ z1 z2 rfl (by omega) (by omega) (by omega) (by omega)
theorem ct_75 {X : pm_X} {d : Nat} {h : pm_H} {t0 : Nat} {x1 : Int32} {x2 : Int32} (hd : 2 ≤ d) (ht0 : ty_tr t0) : ty_M X ty_W0 d 75 [.ref t0, .int x1, .int x2] h (ty_pi (-2147483648) 2147483647) := by
  intro J H hJ
  obtain ⟨d, rfl⟩ : ∃ e, d = e + 1 := ⟨d - 1, by omega⟩
  have I := H.1 h hJ
  have lt0 := ty_trl ht0
  have ax1 := nm_lo x1
  have bx1 := nm_hi x1
  have ax2 := nm_lo x2
  have bx2 := nm_hi x2
  refine hq_M.enter (q := (⟨"TrainBearers$Train", "stilesBetween", "(II)I"⟩, _, 3, some .int, 8, 3, pm_c75)) rfl rfl ?_
  show hq_W X d 8 false (some .int) pm_c75 (0, [some (.ref t0), some (.int x1), some (.int x2)], [], h) (fun h' v => J h' ∧ (ty_pi (-2147483648) 2147483647) h' v)
  refine hq_p rfl rfl ?_
  refine ty_callp 1 I rfl (fun _ => rfl) rfl rfl rfl rfl (ct_128 (x0 := x1) (by omega)) (fun _ P1 => ?_)
  obtain ⟨z2, rfl, az2, bz2, iz2⟩ := P1
  refine ty_zeq rfl (fun c3 => ?_) (fun c3 => ?_)
  · clear iz2
    refine hq_p rfl rfl (ty_ge (n := -1) nk_im1 (fun z4 ez4 => ?_))
    exact hq_W.ret rfl rfl rfl ⟨hJ, _, rfl, by omega, by omega⟩
  · replace c3 : 1 ≤ z2.toInt ∧ z2.toInt ≤ 1 := by omega
    have f5 := iz2 (by omega)
    clear iz2
    refine hq_p rfl rfl ?_
    refine ty_callp 1 I rfl (fun _ => rfl) rfl rfl rfl rfl (ct_128 (x0 := x2) (by omega)) (fun _ P6 => ?_)
    obtain ⟨z7, rfl, az7, bz7, iz7⟩ := P6
    refine ty_zeq rfl (fun c8 => ?_) (fun c8 => ?_)
    · clear iz7
      refine hq_p rfl rfl (ty_ge (n := -1) nk_im1 (fun z9 ez9 => ?_))
      exact hq_W.ret rfl rfl rfl ⟨hJ, _, rfl, by omega, by omega⟩
    · replace c8 : 1 ≤ z7.toInt ∧ z7.toInt ≤ 1 := by omega
      have f10 := iz7 (by omega)
      clear iz7
      refine hq_p rfl rfl ?_
      refine hq_gR I.1 rfl (ty_trs ht0) (by omega) (by decide) rfl ?_
      refine hq_p rfl rfl ?_
      refine hq_p rfl rfl (ty_ge (n := 6) nk_b6 (fun z11 ez11 => ?_))
      refine hq_p rfl rfl (ty_ge (n := 6 * x1.toInt) (nm_mulc ez11 (by omega) (by omega)) (fun z12 ez12 => ?_))
      refine hq_p rfl rfl ?_
      refine hq_p rfl rfl (ty_ge (n := z12.toInt + x2.toInt) (nm_add (by omega) (by omega)) (fun z13 ez13 => ?_))
      refine ty_aL I rfl (ty_trs6 ht0) (by omega) (by omega) (by omega) (fun i _ => ty_le (ty_tra6 ht0 i)) (fun z14 ez14 az14 bz14 => ?_)
      refine hq_p rfl rfl ?_
      exact hq_W.ret rfl rfl rfl ⟨hJ, _, rfl, by omega, by omega⟩
theorem ct_126 {X : pm_X} {d : Nat} {h : pm_H} {x1 : Int32} (hd : 1 ≤ d)  : ty_M X ty_Wc d 126 [.ref 0, .int x1] h (fun _ v => ∃ z : Int32, v = some (.int z) ∧ (z.toInt = x1.toInt)) := by
  intro J H hJ
  obtain ⟨d, rfl⟩ : ∃ e, d = e + 1 := ⟨d - 1, by omega⟩
  have I := H.1 h hJ
  have ax1 := nm_lo x1
  have bx1 := nm_hi x1
  refine hq_M.enter (q := (⟨"TrainBearers", "accept", "(I)I"⟩, _, 2, some .int, 10, 2, pm_c126)) rfl rfl ?_
  show hq_W X d 10 false (some .int) pm_c126 (0, [some (.ref 0), some (.int x1)], [], h) (fun h' v => J h' ∧ (fun _ v => ∃ z : Int32, v = some (.int z) ∧ (z.toInt = x1.toInt)) h' v)
  refine hq_p rfl rfl ?_
  refine hq_p rfl rfl (ty_ge (n := 0) nk_i0 (fun z1 ez1 => ?_))
  refine ty_pI (W := ty_Wc) H hJ rfl rfl (by decide) rfl rfl (by unfold ty_Wc; omega) rfl (by omega) (by omega) (fun h2 eh2 Jh2 => ?_)
  have wh2 : (hs_fI h2 0 14).toInt = z1.toInt := by rw [eh2]; exact congrArg Int32.toInt (ty_fI_eq I.1 rfl (by decide) rfl)
  have Ih2 := H.1 h2 Jh2
  refine hq_p rfl rfl ?_
  exact hq_W.ret rfl rfl rfl ⟨Jh2, _, rfl, by omega⟩
theorem ct_125 {X : pm_X} {d : Nat} {h : pm_H} {x1 : Int32} (hd : 1 ≤ d)  : ty_M X ty_Wc d 125 [.ref 0, .int x1] h (fun _ v => ∃ z : Int32, v = some (.int z) ∧ (z.toInt = x1.toInt)) := by
  intro J H hJ
  obtain ⟨d, rfl⟩ : ∃ e, d = e + 1 := ⟨d - 1, by omega⟩
  have I := H.1 h hJ
  have ax1 := nm_lo x1
  have bx1 := nm_hi x1
  refine hq_M.enter (q := (⟨"TrainBearers", "refuse", "(I)I"⟩, _, 2, some .int, 10, 2, pm_c125)) rfl rfl ?_
  show hq_W X d 10 false (some .int) pm_c125 (0, [some (.ref 0), some (.int x1)], [], h) (fun h' v => J h' ∧ (fun _ v => ∃ z : Int32, v = some (.int z) ∧ (z.toInt = x1.toInt)) h' v)
  refine hq_p rfl rfl ?_
  refine hq_p rfl rfl ?_
  refine ty_pI (W := ty_Wc) H hJ rfl rfl (by decide) rfl rfl (by unfold ty_Wc; omega) rfl (by omega) (by omega) (fun h1 eh1 Jh1 => ?_)
  have wh1 : (hs_fI h1 0 14).toInt = x1.toInt := by rw [eh1]; exact congrArg Int32.toInt (ty_fI_eq I.1 rfl (by decide) rfl)
  have Ih1 := H.1 h1 Jh1
  refine hq_p rfl rfl ?_
  refine ty_zge rfl (fun c2 => ?_) (fun c2 => ?_)
  · refine hq_p rfl rfl ?_
    exact hq_W.ret rfl rfl rfl ⟨Jh1, _, rfl, by omega⟩
  · refine hq_p rfl rfl ?_
    refine hq_p rfl rfl ?_
    refine hq_gR Ih1.1 rfl rfl (by decide) (by decide) rfl ?_
    refine hq_alen rfl (hs_iarr Ih1.1 rfl (by decide)) rfl (ty_ge (c := Int32.ofNat 7) (n := 7) (by decide) (fun z3 ez3 => ?_))
    refine hq_p rfl rfl (ty_ge (n := -z3.toInt) (nm_neg (by omega)) (fun z4 ez4 => ?_))
    refine ty_ile rfl (fun c5 => ?_) (fun c5 => ?_)
    · refine hq_p rfl rfl ?_
      exact hq_W.ret rfl rfl rfl ⟨Jh1, _, rfl, by omega⟩
    · refine hq_p rfl rfl ?_
      refine hq_gR Ih1.1 rfl rfl (by decide) (by decide) rfl ?_
      refine hq_p rfl rfl ?_
      refine hq_p rfl rfl (ty_ge (n := -x1.toInt) (nm_neg (by omega)) (fun z6 ez6 => ?_))
      refine hq_p rfl rfl ?_
      refine ty_aL Ih1 rfl rfl (by decide) (by omega) (by omega) (fun _ _ => ty_le rfl) (fun z7 ez7 az7 bz7 => ?_)
      refine hq_p rfl rfl (ty_ge (n := 1) nk_i1 (fun z8 ez8 => ?_))
      refine hq_p rfl rfl (ty_ga (fun z9 az9 bz9 => ?_))
      refine ty_aS (W := ty_Wc) H Jh1 rfl rfl (by decide) (by omega) (by omega) (fun i e => by unfold ty_Wc; omega) (fun _ _ => ty_eg rfl) (by omega) (by omega) (fun e1 e2 w => by omega) (fun h10 eh10 Jh10 => ?_)
      have Ih10 := H.1 h10 Jh10
      refine hq_p rfl rfl ?_
      exact hq_W.ret rfl rfl rfl ⟨Jh10, _, rfl, by omega⟩
theorem ct_127 {X : pm_X} {d : Nat} {h : pm_H} {x1 : Int32} (hd : 2 ≤ d)  : ty_M X ty_Wc d 127 [.ref 0, .int x1] h (fun _ v => ∃ z : Int32, v = some (.int z) ∧ (z.toInt = x1.toInt)) := by
  intro J H hJ
  obtain ⟨d, rfl⟩ : ∃ e, d = e + 1 := ⟨d - 1, by omega⟩
  have I := H.1 h hJ
  have ax1 := nm_lo x1
  have bx1 := nm_hi x1
  refine hq_M.enter (q := (⟨"TrainBearers", "settle", "(I)I"⟩, _, 2, some .int, 10, 2, pm_c127)) rfl rfl ?_
  show hq_W X d 10 false (some .int) pm_c127 (0, [some (.ref 0), some (.int x1)], [], h) (fun h' v => J h' ∧ (fun _ v => ∃ z : Int32, v = some (.int z) ∧ (z.toInt = x1.toInt)) h' v)
  refine hq_p rfl rfl ?_
  refine ty_zge rfl (fun c1 => ?_) (fun c1 => ?_)
  · refine hq_p rfl rfl ?_
    refine hq_p rfl rfl ?_
    refine ty_callj 0 (W := ty_Wc) H hJ rfl (fun _ => rfl) rfl rfl rfl (hq_pre_o I.1 (x := 0) (ci := 10) rfl (by decide) rfl rfl rfl rfl) (fun _ _ w => w) (fun _ w => w) (ct_126 (x1 := x1) (by omega)) (fun h3 _ Jh3 P2 => ?_)
    have Ih3 := H.1 h3 Jh3
    obtain ⟨z4, rfl, fz4⟩ := P2
    exact hq_W.ret rfl rfl rfl ⟨Jh3, _, rfl, by omega⟩
  · refine hq_p rfl rfl ?_
    refine hq_p rfl rfl ?_
    refine ty_callj 0 (W := ty_Wc) H hJ rfl (fun _ => rfl) rfl rfl rfl (hq_pre_o I.1 (x := 0) (ci := 10) rfl (by decide) rfl rfl rfl rfl) (fun _ _ w => w) (fun _ w => w) (ct_125 (x1 := x1) (by omega)) (fun h6 _ Jh6 P5 => ?_)
    have Ih6 := H.1 h6 Jh6
    obtain ⟨z7, rfl, fz7⟩ := P5
    refine hq_p rfl rfl ?_
    exact hq_W.ret rfl rfl rfl ⟨Jh6, _, rfl, by omega⟩
end CT0
