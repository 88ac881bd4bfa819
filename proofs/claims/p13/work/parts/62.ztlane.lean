/-! CONTRACTS (printed by wip/pm/cts.py) -/
section CT38
theorem ct_136e {X : pm_X} {d : Nat} {h : pm_H} {x0 : Int64} {x1 : Int64} {x2 : Int64} (hd : 1 ≤ d)  : ty_M X ty_W0 d 136 [.long x0, .long x1, .long x2] h (fun _ v => ∃ z : Int32, v = some (.int z) ∧ 0 ≤ z.toInt ∧ z.toInt ≤ 1 ∧ (z.toInt = 1 → x1.toInt ≤ x0.toInt ∧ x0.toInt ≤ x2.toInt) ∧ (z.toInt = 0 → x0.toInt < x1.toInt ∨ x2.toInt < x0.toInt)) := by
  intro J H hJ
  obtain ⟨d, rfl⟩ : ∃ e, d = e + 1 := ⟨d - 1, by omega⟩
  have I := H.1 h hJ
  have ax0 := nm_llo x0
  have bx0 := nm_lhi x0
  have ax1 := nm_llo x1
  have bx1 := nm_lhi x1
  have ax2 := nm_llo x2
  have bx2 := nm_lhi x2
  refine hq_M.enter (q := (⟨"TrainBearersModel", "in", "(JJJ)Z"⟩, _, 6, some .boolean, 11, 3, pm_c136)) rfl rfl ?_
  show hq_W X d 11 false (some .boolean) pm_c136 (0, [some (.long x0), none, some (.long x1), none, some (.long x2), none], [], h) (fun h' v => J h' ∧ (fun _ v => ∃ z : Int32, v = some (.int z) ∧ 0 ≤ z.toInt ∧ z.toInt ≤ 1 ∧ (z.toInt = 1 → x1.toInt ≤ x0.toInt ∧ x0.toInt ≤ x2.toInt) ∧ (z.toInt = 0 → x0.toInt < x1.toInt ∨ x2.toInt < x0.toInt)) h' v)
  refine hq_p rfl rfl ?_
  refine hq_p rfl rfl ?_
  refine hq_p rfl rfl (ty_gc (fun z1 ez1 => ?_))
  refine ty_zlt rfl (fun c2 => ?_) (fun c2 => ?_)
  · replace ez1 : x0.toInt < x1.toInt := by omega
    clear c2
    refine hq_p rfl rfl (ty_ge (n := 0) nk_i0 (fun z3 ez3 => ?_))
    exact ty_rB rfl rfl (by omega) (by omega) ⟨hJ, _, rfl, by omega, by omega, by omega, by omega⟩
  · replace ez1 : x0.toInt ≥ x1.toInt := by omega
    clear c2
    refine hq_p rfl rfl ?_
    refine hq_p rfl rfl ?_
    refine hq_p rfl rfl (ty_gc (fun z4 ez4 => ?_))
    refine ty_zgt rfl (fun c5 => ?_) (fun c5 => ?_)
    · replace ez4 : x0.toInt > x2.toInt := by omega
      clear c5
      refine hq_p rfl rfl (ty_ge (n := 0) nk_i0 (fun z6 ez6 => ?_))
      exact ty_rB rfl rfl (by omega) (by omega) ⟨hJ, _, rfl, by omega, by omega, by omega, by omega⟩
    · replace ez4 : x0.toInt ≤ x2.toInt := by omega
      clear c5
      refine hq_p rfl rfl (ty_ge (n := 1) nk_i1 (fun z7 ez7 => ?_))
      refine hq_p rfl rfl ?_
      exact ty_rB rfl rfl (by omega) (by omega) ⟨hJ, _, rfl, by omega, by omega, by omega, by omega⟩
theorem ct_128e {X : pm_X} {d : Nat} {h : pm_H} {x0 : Int32} (hd : 1 ≤ d)  : ty_M X ty_W0 d 128 [.int x0] h (fun _ v => ∃ z : Int32, v = some (.int z) ∧ 0 ≤ z.toInt ∧ z.toInt ≤ 1 ∧ (z.toInt = 1 → 0 ≤ x0.toInt ∧ x0.toInt ≤ 5) ∧ (z.toInt = 0 → x0.toInt < 0 ∨ 5 < x0.toInt)) := by
  intro J H hJ
  obtain ⟨d, rfl⟩ : ∃ e, d = e + 1 := ⟨d - 1, by omega⟩
  have I := H.1 h hJ
  have ax0 := nm_lo x0
  have bx0 := nm_hi x0
  refine hq_M.enter (q := (⟨"TrainBearers", "isPlace", "(I)Z"⟩, _, 1, some .boolean, 10, 1, pm_c128)) rfl rfl ?_
  show hq_W X d 10 false (some .boolean) pm_c128 (0, [some (.int x0)], [], h) (fun h' v => J h' ∧ (fun _ v => ∃ z : Int32, v = some (.int z) ∧ 0 ≤ z.toInt ∧ z.toInt ≤ 1 ∧ (z.toInt = 1 → 0 ≤ x0.toInt ∧ x0.toInt ≤ 5) ∧ (z.toInt = 0 → x0.toInt < 0 ∨ 5 < x0.toInt)) h' v)
  refine hq_p rfl rfl ?_
  refine ty_zlt rfl (fun c1 => ?_) (fun c1 => ?_)
  · refine hq_p rfl rfl (ty_ge (n := 0) nk_i0 (fun z2 ez2 => ?_))
    exact ty_rB rfl rfl (by omega) (by omega) ⟨hJ, _, rfl, by omega, by omega, by omega, by omega⟩
  · refine hq_p rfl rfl ?_
    refine hq_p rfl rfl (ty_ge (n := 6) nk_b6 (fun z3 ez3 => ?_))
    refine ty_ige rfl (fun c4 => ?_) (fun c4 => ?_)
    · refine hq_p rfl rfl (ty_ge (n := 0) nk_i0 (fun z5 ez5 => ?_))
      exact ty_rB rfl rfl (by omega) (by omega) ⟨hJ, _, rfl, by omega, by omega, by omega, by omega⟩
    · refine hq_p rfl rfl (ty_ge (n := 1) nk_i1 (fun z6 ez6 => ?_))
      refine hq_p rfl rfl ?_
      exact ty_rB rfl rfl (by omega) (by omega) ⟨hJ, _, rfl, by omega, by omega, by omega, by omega⟩
theorem ct_151e {X : pm_X} {d : Nat} {h : pm_H} {x0 : Int32} (hd : 2 ≤ d)  : ty_M X ty_W0 d 151 [.int x0] h (fun _ v => ∃ z : Int32, v = some (.int z) ∧ 0 ≤ z.toInt ∧ z.toInt ≤ 1 ∧ (z.toInt = 1 → 0 ≤ x0.toInt ∧ x0.toInt ≤ 5) ∧ (z.toInt = 0 → x0.toInt < 0 ∨ 5 < x0.toInt)) := by
  intro J H hJ
  obtain ⟨d, rfl⟩ : ∃ e, d = e + 1 := ⟨d - 1, by omega⟩
  have I := H.1 h hJ
  have ax0 := nm_lo x0
  have bx0 := nm_hi x0
  refine hq_M.enter (q := (⟨"TrainBearersModel", "isPlace", "(I)Z"⟩, _, 1, some .boolean, 11, 1, pm_c151)) rfl rfl ?_
  show hq_W X d 11 false (some .boolean) pm_c151 (0, [some (.int x0)], [], h) (fun h' v => J h' ∧ (fun _ v => ∃ z : Int32, v = some (.int z) ∧ 0 ≤ z.toInt ∧ z.toInt ≤ 1 ∧ (z.toInt = 1 → 0 ≤ x0.toInt ∧ x0.toInt ≤ 5) ∧ (z.toInt = 0 → x0.toInt < 0 ∨ 5 < x0.toInt)) h' v)
  refine hq_p rfl rfl ?_
  refine hq_p rfl rfl (ty_gle (n := x0.toInt) (nm_i2l _) (fun z1 ez1 => ?_))
  refine hq_p rfl rfl (ty_gle (n := 0) (by decide) (fun z2 ez2 => ?_))
  refine hq_p rfl rfl (ty_gle (n := 5) (by decide) (fun z3 ez3 => ?_))
  refine ty_callp 1 I rfl (fun _ => rfl) rfl rfl rfl rfl (ct_136e (x0 := z1) (x1 := z2) (x2 := z3) (by omega)) (fun _ P4 => ?_)
  obtain ⟨z5, rfl, az5, bz5, iz5, jz5⟩ := P4
  exact ty_rB rfl rfl (by omega) (by omega) ⟨hJ, _, rfl, by omega, by omega, by omega, by omega⟩
theorem ct_129e {X : pm_X} {d : Nat} {h : pm_H} {x0 : Int32} {x1 : Int32} {x2 : Int32} (hd : 2 ≤ d)  : ty_M X ty_W0 d 129 [.int x0, .int x1, .int x2] h (fun _ v => ∃ z : Int32, v = some (.int z) ∧ 0 ≤ z.toInt ∧ z.toInt ≤ 1 ∧ (z.toInt = 1 → 0 ≤ x0.toInt ∧ x0.toInt ≤ 5 ∧ 0 ≤ x1.toInt ∧ x1.toInt ≤ 5 ∧ x0.toInt ≠ x1.toInt ∧ -1 ≤ x2.toInt ∧ x2.toInt ≤ 9) ∧ (z.toInt = 0 → x0.toInt < 0 ∨ 5 < x0.toInt ∨ x1.toInt < 0 ∨ 5 < x1.toInt ∨ x0.toInt = x1.toInt ∨ x2.toInt < -1 ∨ 9 < x2.toInt)) := by
  intro J H hJ
  obtain ⟨d, rfl⟩ : ∃ e, d = e + 1 := ⟨d - 1, by omega⟩
  have I := H.1 h hJ
  have ax0 := nm_lo x0
  have bx0 := nm_hi x0
  have ax1 := nm_lo x1
  have bx1 := nm_hi x1
  have ax2 := nm_lo x2
  have bx2 := nm_hi x2
  refine hq_M.enter (q := (⟨"TrainBearers", "canBeLane", "(III)Z"⟩, _, 3, some .boolean, 10, 3, pm_c129)) rfl rfl ?_
  show hq_W X d 10 false (some .boolean) pm_c129 (0, [some (.int x0), some (.int x1), some (.int x2)], [], h) (fun h' v => J h' ∧ (fun _ v => ∃ z : Int32, v = some (.int z) ∧ 0 ≤ z.toInt ∧ z.toInt ≤ 1 ∧ (z.toInt = 1 → 0 ≤ x0.toInt ∧ x0.toInt ≤ 5 ∧ 0 ≤ x1.toInt ∧ x1.toInt ≤ 5 ∧ x0.toInt ≠ x1.toInt ∧ -1 ≤ x2.toInt ∧ x2.toInt ≤ 9) ∧ (z.toInt = 0 → x0.toInt < 0 ∨ 5 < x0.toInt ∨ x1.toInt < 0 ∨ 5 < x1.toInt ∨ x0.toInt = x1.toInt ∨ x2.toInt < -1 ∨ 9 < x2.toInt)) h' v)
  refine hq_p rfl rfl ?_
  refine ty_callp 1 I rfl (fun _ => rfl) rfl rfl rfl rfl (ct_128e (x0 := x0) (by omega)) (fun _ P1 => ?_)
  obtain ⟨z2, rfl, az2, bz2, iz2, jz2⟩ := P1
  refine ty_zeq rfl (fun c3 => ?_) (fun c3 => ?_)
  · have yz2 := jz2 (by omega)
    clear iz2 jz2
    refine hq_p rfl rfl (ty_ge (n := 0) nk_i0 (fun z4 ez4 => ?_))
    exact ty_rB rfl rfl (by omega) (by omega) ⟨hJ, _, rfl, by omega, by omega, by omega, by omega⟩
  · replace c3 : 1 ≤ z2.toInt ∧ z2.toInt ≤ 1 := by omega
    have yz2 := iz2 (by omega)
    clear iz2 jz2
    refine hq_p rfl rfl ?_
    refine ty_callp 1 I rfl (fun _ => rfl) rfl rfl rfl rfl (ct_128e (x0 := x1) (by omega)) (fun _ P5 => ?_)
    obtain ⟨z6, rfl, az6, bz6, iz6, jz6⟩ := P5
    refine ty_zeq rfl (fun c7 => ?_) (fun c7 => ?_)
    · have yz6 := jz6 (by omega)
      clear iz6 jz6
      refine hq_p rfl rfl (ty_ge (n := 0) nk_i0 (fun z8 ez8 => ?_))
      exact ty_rB rfl rfl (by omega) (by omega) ⟨hJ, _, rfl, by omega, by omega, by omega, by omega⟩
    · replace c7 : 1 ≤ z6.toInt ∧ z6.toInt ≤ 1 := by omega
      have yz6 := iz6 (by omega)
      clear iz6 jz6
      refine hq_p rfl rfl ?_
      refine hq_p rfl rfl ?_
      refine ty_ieq rfl (fun c9 => ?_) (fun c9 => ?_)
      · refine hq_p rfl rfl (ty_ge (n := 0) nk_i0 (fun z10 ez10 => ?_))
        exact ty_rB rfl rfl (by omega) (by omega) ⟨hJ, _, rfl, by omega, by omega, by omega, by omega⟩
      · replace c9 : x0.toInt ≠ x1.toInt := by omega
        refine hq_p rfl rfl ?_
        refine hq_p rfl rfl (ty_ge (n := -1) nk_im1 (fun z11 ez11 => ?_))
        refine ty_ilt rfl (fun c12 => ?_) (fun c12 => ?_)
        · refine hq_p rfl rfl (ty_ge (n := 0) nk_i0 (fun z13 ez13 => ?_))
          exact ty_rB rfl rfl (by omega) (by omega) ⟨hJ, _, rfl, by omega, by omega, by omega, by omega⟩
        · refine hq_p rfl rfl ?_
          refine hq_p rfl rfl (ty_ge (n := 9) nk_b9 (fun z14 ez14 => ?_))
          refine ty_igt rfl (fun c15 => ?_) (fun c15 => ?_)
          · refine hq_p rfl rfl (ty_ge (n := 0) nk_i0 (fun z16 ez16 => ?_))
            exact ty_rB rfl rfl (by omega) (by omega) ⟨hJ, _, rfl, by omega, by omega, by omega, by omega⟩
          · refine hq_p rfl rfl (ty_ge (n := 1) nk_i1 (fun z17 ez17 => ?_))
            refine hq_p rfl rfl ?_
            exact ty_rB rfl rfl (by omega) (by omega) ⟨hJ, _, rfl, by omega, by omega, by omega, by omega⟩
theorem ct_159e {X : pm_X} {d : Nat} {h : pm_H} {x0 : Int32} {x1 : Int32} {x2 : Int32} (hd : 3 ≤ d)  : ty_M X ty_W0 d 159 [.int x0, .int x1, .int x2] h (fun _ v => ∃ z : Int32, v = some (.int z) ∧ 0 ≤ z.toInt ∧ z.toInt ≤ 1 ∧ (z.toInt = 1 → 0 ≤ x0.toInt ∧ x0.toInt ≤ 5 ∧ 0 ≤ x1.toInt ∧ x1.toInt ≤ 5 ∧ x0.toInt ≠ x1.toInt ∧ -1 ≤ x2.toInt ∧ x2.toInt ≤ 9) ∧ (z.toInt = 0 → x0.toInt < 0 ∨ 5 < x0.toInt ∨ x1.toInt < 0 ∨ 5 < x1.toInt ∨ x0.toInt = x1.toInt ∨ x2.toInt < -1 ∨ 9 < x2.toInt)) := by
  intro J H hJ
  obtain ⟨d, rfl⟩ : ∃ e, d = e + 1 := ⟨d - 1, by omega⟩
  have I := H.1 h hJ
  have ax0 := nm_lo x0
  have bx0 := nm_hi x0
  have ax1 := nm_lo x1
  have bx1 := nm_hi x1
  have ax2 := nm_lo x2
  have bx2 := nm_hi x2
  refine hq_M.enter (q := (⟨"TrainBearersModel", "isLane", "(III)Z"⟩, _, 3, some .boolean, 11, 3, pm_c159)) rfl rfl ?_
  show hq_W X d 11 false (some .boolean) pm_c159 (0, [some (.int x0), some (.int x1), some (.int x2)], [], h) (fun h' v => J h' ∧ (fun _ v => ∃ z : Int32, v = some (.int z) ∧ 0 ≤ z.toInt ∧ z.toInt ≤ 1 ∧ (z.toInt = 1 → 0 ≤ x0.toInt ∧ x0.toInt ≤ 5 ∧ 0 ≤ x1.toInt ∧ x1.toInt ≤ 5 ∧ x0.toInt ≠ x1.toInt ∧ -1 ≤ x2.toInt ∧ x2.toInt ≤ 9) ∧ (z.toInt = 0 → x0.toInt < 0 ∨ 5 < x0.toInt ∨ x1.toInt < 0 ∨ 5 < x1.toInt ∨ x0.toInt = x1.toInt ∨ x2.toInt < -1 ∨ 9 < x2.toInt)) h' v)
  refine hq_p rfl rfl ?_
  refine ty_callp 1 I rfl (fun _ => rfl) rfl rfl rfl rfl (ct_151e (x0 := x0) (by omega)) (fun _ P1 => ?_)
  obtain ⟨z2, rfl, az2, bz2, iz2, jz2⟩ := P1
  refine ty_zeq rfl (fun c3 => ?_) (fun c3 => ?_)
  · have yz2 := jz2 (by omega)
    clear iz2 jz2
    refine hq_p rfl rfl (ty_ge (n := 0) nk_i0 (fun z4 ez4 => ?_))
    exact ty_rB rfl rfl (by omega) (by omega) ⟨hJ, _, rfl, by omega, by omega, by omega, by omega⟩
  · replace c3 : 1 ≤ z2.toInt ∧ z2.toInt ≤ 1 := by omega
    have yz2 := iz2 (by omega)
    clear iz2 jz2
    refine hq_p rfl rfl ?_
    refine ty_callp 1 I rfl (fun _ => rfl) rfl rfl rfl rfl (ct_151e (x0 := x1) (by omega)) (fun _ P5 => ?_)
    obtain ⟨z6, rfl, az6, bz6, iz6, jz6⟩ := P5
    refine ty_zeq rfl (fun c7 => ?_) (fun c7 => ?_)
    · have yz6 := jz6 (by omega)
      clear iz6 jz6
      refine hq_p rfl rfl (ty_ge (n := 0) nk_i0 (fun z8 ez8 => ?_))
      exact ty_rB rfl rfl (by omega) (by omega) ⟨hJ, _, rfl, by omega, by omega, by omega, by omega⟩
    · replace c7 : 1 ≤ z6.toInt ∧ z6.toInt ≤ 1 := by omega
      have yz6 := iz6 (by omega)
      clear iz6 jz6
      refine hq_p rfl rfl ?_
      refine hq_p rfl rfl ?_
      refine ty_ieq rfl (fun c9 => ?_) (fun c9 => ?_)
      · refine hq_p rfl rfl (ty_ge (n := 0) nk_i0 (fun z10 ez10 => ?_))
        exact ty_rB rfl rfl (by omega) (by omega) ⟨hJ, _, rfl, by omega, by omega, by omega, by omega⟩
      · replace c9 : x0.toInt ≠ x1.toInt := by omega
        refine hq_p rfl rfl ?_
        refine hq_p rfl rfl (ty_gle (n := x2.toInt) (nm_i2l _) (fun z11 ez11 => ?_))
        refine hq_p rfl rfl (ty_gle (n := -1) (by decide) (fun z12 ez12 => ?_))
        refine hq_p rfl rfl (ty_gle (n := 9) (by decide) (fun z13 ez13 => ?_))
        refine ty_callp 1 I rfl (fun _ => rfl) rfl rfl rfl rfl (ct_136e (x0 := z11) (x1 := z12) (x2 := z13) (by omega)) (fun _ P14 => ?_)
        obtain ⟨z15, rfl, az15, bz15, iz15, jz15⟩ := P14
        refine ty_zeq rfl (fun c16 => ?_) (fun c16 => ?_)
        · have yz15 := jz15 (by omega)
          clear iz15 jz15
          refine hq_p rfl rfl (ty_ge (n := 0) nk_i0 (fun z17 ez17 => ?_))
          exact ty_rB rfl rfl (by omega) (by omega) ⟨hJ, _, rfl, by omega, by omega, by omega, by omega⟩
        · replace c16 : 1 ≤ z15.toInt ∧ z15.toInt ≤ 1 := by omega
          have yz15 := iz15 (by omega)
          clear iz15 jz15
          refine hq_p rfl rfl (ty_ge (n := 1) nk_i1 (fun z18 ez18 => ?_))
          refine hq_p rfl rfl ?_
          exact ty_rB rfl rfl (by omega) (by omega) ⟨hJ, _, rfl, by omega, by omega, by omega, by omega⟩
end CT38
