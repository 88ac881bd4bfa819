/-! CONTRACTS (printed by wip/pm/cts.py) -/
section CT3
theorem ct_203 {X : pm_X} {d : Nat} {h : pm_H} {x1 : Int32} {x2 : Int32} (hd : 5 ≤ d) (ax1 : 0 ≤ x1.toInt) (bx1 : x1.toInt ≤ 7) (ax2 : 0 ≤ x2.toInt) (bx2 : x2.toInt ≤ 7) : ty_M X ty_Wy d 203 [.ref 97, .int x1, .int x2] h (ty_pi 0 20) := by
  intro J H hJ
  obtain ⟨d, rfl⟩ : ∃ e, d = e + 1 := ⟨d - 1, by omega⟩
  have I := H.1 h hJ
  refine hq_M.enter (q := (⟨"TrainBearersModel", "liftsOf", "(II)I"⟩, _, 3, some .int, 11, 3, pm_c203)) rfl rfl ?_
  show hq_W X d 11 false (some .int) pm_c203 (0, [some (.ref 97), some (.int x1), some (.int x2)], [], h) (fun h' v => J h' ∧ (ty_pi 0 20) h' v)
  refine hq_p rfl rfl ?_
  refine hq_p rfl rfl (ty_ge (n := 0) nk_i0 (fun z1 ez1 => ?_))
  refine hq_p rfl rfl ?_
  refine hq_p rfl rfl ?_
  refine hq_p rfl rfl (ty_ge (n := -1) nk_im1 (fun z2 ez2 => ?_))
  refine hq_p rfl rfl (ty_ge (n := -1) nk_im1 (fun z3 ez3 => ?_))
  refine hq_p rfl rfl ?_
  refine hq_gR I.1 rfl rfl (by decide) (by decide) rfl ?_
  refine hq_p rfl rfl (ty_ge (n := 42) nk_b42 (fun z4 ez4 => ?_))
  refine hq_p rfl rfl ?_
  refine hq_p rfl rfl (ty_ge (n := z4.toInt + x1.toInt) (nm_add (by omega) (by omega)) (fun z5 ez5 => ?_))
  refine ty_aL I rfl rfl (by decide) (by omega) (by omega) (fun i e => ty_le (ty_w42 (by omega) (by omega))) (fun z6 ez6 az6 bz6 => ?_)
  refine hq_p rfl rfl ?_
  refine hq_gR I.1 rfl rfl (by decide) (by decide) rfl ?_
  refine hq_p rfl rfl (ty_ge (n := 18) nk_b18 (fun z7 ez7 => ?_))
  refine hq_p rfl rfl ?_
  refine hq_p rfl rfl (ty_ge (n := z7.toInt + x1.toInt) (nm_add (by omega) (by omega)) (fun z8 ez8 => ?_))
  refine ty_aL I rfl rfl (by decide) (by omega) (by omega) (fun i e => ty_le (ty_w18 (by omega) (by omega))) (fun z9 ez9 az9 bz9 => ?_)
  refine hq_p rfl rfl (ty_ga (fun z10 az10 bz10 => ?_))
  refine hq_p rfl rfl (ty_gle (n := z10.toInt) (nm_i2l _) (fun z11 ez11 => ?_))
  refine ty_callj 0 (W := ty_Wy) H hJ rfl (fun _ => rfl) rfl rfl rfl (hq_pre_o I.1 (x := 97) (ci := 11) rfl (by decide) rfl rfl rfl rfl) (fun _ _ w => w) (fun _ w => w) (ct_202 (x1 := z1) (x2 := x1) (x3 := x2) (x4 := z2) (x5 := z3) (x6 := z11) (by omega) (by omega) (by omega) (by omega) (by omega)) (fun h13 _ Jh13 P12 => ?_)
  have Ih13 := H.1 h13 Jh13
  obtain ⟨z14, rfl⟩ := P12
  refine hq_p rfl rfl (ty_ge (n := 0) nk_i0 (fun z15 ez15 => ?_))
  refine hq_p rfl rfl (ty_ge (n := 20) nk_b20 (fun z16 ez16 => ?_))
  refine ty_callp 1 Ih13 rfl (fun _ => rfl) rfl rfl rfl rfl (ct_139 (x0 := z14) (x1 := z15) (x2 := z16) (by omega) (by omega) (by omega) (by omega) (by omega)) (fun _ P17 => ?_)
  obtain ⟨z18, rfl, fz18⟩ := P17
  exact hq_W.ret rfl rfl rfl ⟨Jh13, _, rfl, by omega, by omega⟩
theorem ct_204 {X : pm_X} {d : Nat} {h : pm_H} {x1 : Int32} {x2 : Int32} (hd : 5 ≤ d) (ax1 : 0 ≤ x1.toInt) (bx1 : x1.toInt ≤ 7) (ax2 : 0 ≤ x2.toInt) (bx2 : x2.toInt ≤ 7) : ty_M X ty_Wy d 204 [.ref 97, .int x1, .int x2] h (ty_pi 0 1) := by
  intro J H hJ
  obtain ⟨d, rfl⟩ : ∃ e, d = e + 1 := ⟨d - 1, by omega⟩
  have I := H.1 h hJ
  refine hq_M.enter (q := (⟨"TrainBearersModel", "isBarred", "(II)Z"⟩, _, 3, some .boolean, 11, 3, pm_c204)) rfl rfl ?_
  show hq_W X d 11 false (some .boolean) pm_c204 (0, [some (.ref 97), some (.int x1), some (.int x2)], [], h) (fun h' v => J h' ∧ (ty_pi 0 1) h' v)
  refine hq_p rfl rfl ?_
  refine hq_p rfl rfl (ty_ge (n := 3) nk_i3 (fun z1 ez1 => ?_))
  refine hq_p rfl rfl ?_
  refine hq_p rfl rfl ?_
  refine hq_p rfl rfl (ty_ge (n := -1) nk_im1 (fun z2 ez2 => ?_))
  refine hq_p rfl rfl (ty_ge (n := -1) nk_im1 (fun z3 ez3 => ?_))
  refine hq_p rfl rfl (ty_gle (n := 0) (by decide) (fun z4 ez4 => ?_))
  refine ty_callj 0 (W := ty_Wy) H hJ rfl (fun _ => rfl) rfl rfl rfl (hq_pre_o I.1 (x := 97) (ci := 11) rfl (by decide) rfl rfl rfl rfl) (fun _ _ w => w) (fun _ w => w) (ct_202 (x1 := z1) (x2 := x1) (x3 := x2) (x4 := z2) (x5 := z3) (x6 := z4) (by omega) (by omega) (by omega) (by omega) (by omega)) (fun h6 _ Jh6 P5 => ?_)
  have Ih6 := H.1 h6 Jh6
  obtain ⟨z7, rfl⟩ := P5
  refine hq_p rfl rfl (ty_gle (n := 1) (by decide) (fun z8 ez8 => ?_))
  refine hq_p rfl rfl (ty_gc (fun z9 ez9 => ?_))
  refine ty_zne rfl (fun c10 => ?_) (fun c10 => ?_)
  · clear ez9 c10
    refine hq_p rfl rfl (ty_ge (n := 0) nk_i0 (fun z11 ez11 => ?_))
    exact ty_rB rfl rfl (by omega) (by omega) ⟨Jh6, _, rfl, by omega, by omega⟩
  · replace ez9 : z7.toInt = z8.toInt := by omega
    clear c10
    refine hq_p rfl rfl (ty_ge (n := 1) nk_i1 (fun z12 ez12 => ?_))
    refine hq_p rfl rfl ?_
    exact ty_rB rfl rfl (by omega) (by omega) ⟨Jh6, _, rfl, by omega, by omega⟩
theorem ct_205 {X : pm_X} {d : Nat} {h : pm_H} {x1 : Int32} {x2 : Int32} (hd : 5 ≤ d) (ax1 : 0 ≤ x1.toInt) (bx1 : x1.toInt ≤ 7) : ty_M X ty_Wy d 205 [.ref 97, .int x1, .int x2] h (ty_pi 0 9) := by
  intro J H hJ
  obtain ⟨d, rfl⟩ : ∃ e, d = e + 1 := ⟨d - 1, by omega⟩
  have I := H.1 h hJ
  have ax2 := nm_lo x2
  have bx2 := nm_hi x2
  refine hq_M.enter (q := (⟨"TrainBearersModel", "tiresOf", "(II)I"⟩, _, 3, some .int, 11, 3, pm_c205)) rfl rfl ?_
  show hq_W X d 11 false (some .int) pm_c205 (0, [some (.ref 97), some (.int x1), some (.int x2)], [], h) (fun h' v => J h' ∧ (ty_pi 0 9) h' v)
  refine hq_p rfl rfl ?_
  refine hq_p rfl rfl (ty_ge (n := 1) nk_i1 (fun z1 ez1 => ?_))
  refine hq_p rfl rfl ?_
  refine hq_p rfl rfl ?_
  refine hq_gR I.1 rfl rfl (by decide) (by decide) rfl ?_
  refine hq_p rfl rfl (ty_ge (n := 26) nk_b26 (fun z2 ez2 => ?_))
  refine hq_p rfl rfl ?_
  refine hq_p rfl rfl (ty_ge (n := z2.toInt + x1.toInt) (nm_add (by omega) (by omega)) (fun z3 ez3 => ?_))
  refine ty_aL I rfl rfl (by decide) (by omega) (by omega) (fun i e => ty_le (ty_w26 (by omega) (by omega))) (fun z4 ez4 az4 bz4 => ?_)
  refine hq_p rfl rfl (ty_ge (n := -1) nk_im1 (fun z5 ez5 => ?_))
  refine hq_p rfl rfl ?_
  refine hq_p rfl rfl ?_
  refine hq_p rfl rfl (ty_ge (n := 1) nk_i1 (fun z6 ez6 => ?_))
  refine hq_p rfl rfl (ty_ga (fun z7 az7 bz7 => ?_))
  refine hq_p rfl rfl (ty_gle (n := z7.toInt) (nm_i2l _) (fun z8 ez8 => ?_))
  refine ty_callj 0 (W := ty_Wy) H hJ rfl (fun _ => rfl) rfl rfl rfl (hq_pre_o I.1 (x := 97) (ci := 11) rfl (by decide) rfl rfl rfl rfl) (fun _ _ w => w) (fun _ w => w) (ct_202 (x1 := z1) (x2 := x1) (x3 := z4) (x4 := z5) (x5 := x2) (x6 := z8) (by omega) (by omega) (by omega) (by omega) (by omega)) (fun h10 _ Jh10 P9 => ?_)
  have Ih10 := H.1 h10 Jh10
  obtain ⟨z11, rfl⟩ := P9
  refine hq_p rfl rfl (ty_ge (n := 0) nk_i0 (fun z12 ez12 => ?_))
  refine hq_p rfl rfl (ty_ge (n := 9) nk_b9 (fun z13 ez13 => ?_))
  refine ty_callp 1 Ih10 rfl (fun _ => rfl) rfl rfl rfl rfl (ct_139 (x0 := z11) (x1 := z12) (x2 := z13) (by omega) (by omega) (by omega) (by omega) (by omega)) (fun _ P14 => ?_)
  obtain ⟨z15, rfl, fz15⟩ := P14
  exact hq_W.ret rfl rfl rfl ⟨Jh10, _, rfl, by omega, by omega⟩
theorem ct_206 {X : pm_X} {d : Nat} {h : pm_H} {x1 : Int32} {x2 : Int32} (hd : 5 ≤ d) (ax1 : 0 ≤ x1.toInt) (bx1 : x1.toInt ≤ 7) : ty_M X ty_Wy d 206 [.ref 97, .int x1, .int x2] h (ty_pi 0 99) := by
  intro J H hJ
  obtain ⟨d, rfl⟩ : ∃ e, d = e + 1 := ⟨d - 1, by omega⟩
  have I := H.1 h hJ
  have ax2 := nm_lo x2
  have bx2 := nm_hi x2
  refine hq_M.enter (q := (⟨"TrainBearersModel", "bringsOf", "(II)I"⟩, _, 3, some .int, 11, 3, pm_c206)) rfl rfl ?_
  show hq_W X d 11 false (some .int) pm_c206 (0, [some (.ref 97), some (.int x1), some (.int x2)], [], h) (fun h' v => J h' ∧ (ty_pi 0 99) h' v)
  refine hq_p rfl rfl ?_
  refine ty_zne rfl (fun c1 => ?_) (fun c1 => ?_)
  · clear c1
    refine hq_p rfl rfl ?_
    refine hq_p rfl rfl (ty_ge (n := 2) nk_i2 (fun z2 ez2 => ?_))
    refine hq_p rfl rfl (ty_ge (n := -1) nk_im1 (fun z3 ez3 => ?_))
    refine hq_p rfl rfl ?_
    refine hq_p rfl rfl ?_
    refine hq_p rfl rfl (ty_ge (n := -1) nk_im1 (fun z4 ez4 => ?_))
    refine hq_p rfl rfl ?_
    refine hq_p rfl rfl (ty_gle (n := x2.toInt) (nm_i2l _) (fun z5 ez5 => ?_))
    refine ty_callj 0 (W := ty_Wy) H hJ rfl (fun _ => rfl) rfl rfl rfl (hq_pre_o I.1 (x := 97) (ci := 11) rfl (by decide) rfl rfl rfl rfl) (fun _ _ w => w) (fun _ w => w) (ct_202 (x1 := z2) (x2 := z3) (x3 := x1) (x4 := x2) (x5 := z4) (x6 := z5) (by omega) (by omega) (by omega) (by omega) (by omega)) (fun h7 _ Jh7 P6 => ?_)
    have Ih7 := H.1 h7 Jh7
    obtain ⟨z8, rfl⟩ := P6
    refine hq_p rfl rfl (ty_ge (n := 0) nk_i0 (fun z9 ez9 => ?_))
    refine hq_p rfl rfl (ty_ge (n := 99) nk_b99 (fun z10 ez10 => ?_))
    refine ty_callp 1 Ih7 rfl (fun _ => rfl) rfl rfl rfl rfl (ct_139 (x0 := z8) (x1 := z9) (x2 := z10) (by omega) (by omega) (by omega) (by omega) (by omega)) (fun _ P11 => ?_)
    obtain ⟨z12, rfl, fz12⟩ := P11
    exact hq_W.ret rfl rfl rfl ⟨Jh7, _, rfl, by omega, by omega⟩
  · refine hq_p rfl rfl (ty_ge (n := 0) nk_i0 (fun z13 ez13 => ?_))
    refine hq_p rfl rfl ?_
    exact hq_W.ret rfl rfl rfl ⟨hJ, _, rfl, by omega, by omega⟩
theorem ct_207 {X : pm_X} {d : Nat} {h : pm_H} {x1 : Int32} {x2 : Int32} (hd : 6 ≤ d) (ax1 : 0 ≤ x1.toInt) (bx1 : x1.toInt ≤ 7) : ty_M X ty_Wy d 207 [.ref 97, .int x1, .int x2] h (ty_pi 0 29) := by
  intro J H hJ
  obtain ⟨d, rfl⟩ : ∃ e, d = e + 1 := ⟨d - 1, by omega⟩
  have I := H.1 h hJ
  have ax2 := nm_lo x2
  have bx2 := nm_hi x2
  refine hq_M.enter (q := (⟨"TrainBearersModel", "dipOf", "(II)I"⟩, _, 5, some .int, 11, 3, pm_c207)) rfl rfl ?_
  show hq_W X d 11 false (some .int) pm_c207 (0, [some (.ref 97), some (.int x1), some (.int x2), none, none], [], h) (fun h' v => J h' ∧ (ty_pi 0 29) h' v)
  refine hq_p rfl rfl ?_
  refine hq_gR I.1 rfl rfl (by decide) (by decide) rfl ?_
  refine hq_p rfl rfl (ty_ge (n := 34) nk_b34 (fun z1 ez1 => ?_))
  refine hq_p rfl rfl ?_
  refine hq_p rfl rfl (ty_ge (n := z1.toInt + x1.toInt) (nm_add (by omega) (by omega)) (fun z2 ez2 => ?_))
  refine ty_aL I rfl rfl (by decide) (by omega) (by omega) (fun i e => ty_le (ty_w34 (by omega) (by omega))) (fun z3 ez3 az3 bz3 => ?_)
  refine hq_p rfl rfl ?_
  refine hq_gR I.1 rfl rfl (by decide) (by decide) rfl ?_
  refine hq_p rfl rfl (ty_ge (n := 10) nk_b10 (fun z4 ez4 => ?_))
  refine hq_p rfl rfl ?_
  refine hq_p rfl rfl (ty_ge (n := z4.toInt + x1.toInt) (nm_add (by omega) (by omega)) (fun z5 ez5 => ?_))
  refine ty_aL I rfl rfl (by decide) (by omega) (by omega) (fun i e => ty_le (ty_w10 (by omega) (by omega))) (fun z6 ez6 az6 bz6 => ?_)
  refine hq_p rfl rfl (ty_ge (n := z3.toInt + z6.toInt) (nm_add (by omega) (by omega)) (fun z7 ez7 => ?_))
  refine hq_p (ls' := [some (.ref 97), some (.int x1), some (.int x2), some (.int z7), none]) rfl rfl ?_
  refine hq_p rfl rfl (ty_ge (n := 0) nk_i0 (fun z8 ez8 => ?_))
  refine hq_p (ls' := [some (.ref 97), some (.int x1), some (.int x2), some (.int z7), some (.int z8)]) rfl rfl ?_
  have L23_n42 : ∀ n42 : Nat, ∀ (y36 : Int32) (y37 : Int32) (h38 : pm_H), (8 - y37.toInt).toNat = n42 → -160 ≤ y36.toInt → y36.toInt ≤ 29 → 0 ≤ y37.toInt → y37.toInt ≤ 8 → -20 * y37.toInt ≤ y36.toInt → J h38 → hq_W X d 11 false (some .int) pm_c207 (23, [some (.ref 97), some (.int x1), some (.int x2), some (.int y36), some (.int y37)], [], h38) (fun h' v => J h' ∧ (ty_pi 0 29) h' v) := by
    intro n42
    induction n42 using Nat.strongRecOn with
    | ind n42 ihn42 =>
      intro y36 y37 h38 mn42 ay36 by36 ay37 by37 x0n42 Jh38
      have Ih38 := H.1 h38 Jh38
      refine hq_p rfl rfl ?_
      refine hq_p rfl rfl ?_
      refine hq_gR Ih38.1 rfl rfl (by decide) (by decide) rfl ?_
      refine hq_p rfl rfl (ty_ge (n := 1) nk_i1 (fun z43 ez43 => ?_))
      refine ty_aL Ih38 rfl rfl (by decide) (by omega) (by omega) (fun i e => ty_le (ty_w0 (by omega) (by omega))) (fun z44 ez44 az44 bz44 => ?_)
      rw [show z43.toInt.toNat = 1 by omega] at ez44
      refine ty_ige rfl (fun c45 => ?_) (fun c45 => ?_)
      · refine hq_p rfl rfl ?_
        refine ty_zge rfl (fun c46 => ?_) (fun c46 => ?_)
        · refine hq_p rfl rfl ?_
          exact hq_W.ret rfl rfl rfl ⟨Jh38, _, rfl, by omega, by omega⟩
        · refine hq_p rfl rfl (ty_ge (n := 0) nk_i0 (fun z47 ez47 => ?_))
          refine hq_p rfl rfl ?_
          exact hq_W.ret rfl rfl rfl ⟨Jh38, _, rfl, by omega, by omega⟩
      · refine hq_p rfl rfl ?_
        refine hq_p rfl rfl ?_
        refine hq_p rfl rfl ?_
        refine ty_callp 1 Ih38 rfl (fun _ => rfl) rfl rfl rfl rfl (ct_137 (x0 := x2) (x1 := y37) (by omega)) (fun _ P48 => ?_)
        obtain ⟨z49, rfl, az49, bz49⟩ := P48
        refine ty_zeq rfl (fun c50 => ?_) (fun c50 => ?_)
        · refine hq_p rfl rfl (ty_ge (n := 0) nk_i0 (fun z51 ez51 => ?_))
          refine hq_p rfl rfl (ty_ge (n := y36.toInt - z51.toInt) (nm_sub (by omega) (by omega)) (fun z52 ez52 => ?_))
          refine hq_p (ls' := [some (.ref 97), some (.int x1), some (.int x2), some (.int z52), some (.int y37)]) rfl rfl ?_
          refine ty_inc (ls' := fun z53 => [some (.ref 97), some (.int x1), some (.int x2), some (.int z52), some (.int z53)]) rfl rfl (fun _ => rfl) (nm_addc nk_i1 (by omega) (by omega)) (fun z53 ez53 => ?_)
          refine hq_p rfl rfl ?_
          exact ihn42 ((8 - z53.toInt).toNat) (by omega) z52 z53 h38 rfl (by omega) (by omega) (by omega) (by omega) (by omega) Jh38
        · replace c50 : 1 ≤ z49.toInt ∧ z49.toInt ≤ 1 := by omega
          refine hq_p rfl rfl ?_
          refine hq_p rfl rfl ?_
          refine hq_p rfl rfl ?_
          refine ty_callj 0 (W := ty_Wy) H Jh38 rfl (fun _ => rfl) rfl rfl rfl (hq_pre_o Ih38.1 (x := 97) (ci := 11) rfl (by decide) rfl rfl rfl rfl) (fun _ _ w => w) (fun _ w => w) (ct_203 (x1 := y37) (x2 := x1) (by omega) (by omega) (by omega) (by omega) (by omega)) (fun h55 _ Jh55 P54 => ?_)
          have Ih55 := H.1 h55 Jh55
          obtain ⟨z56, rfl, az56, bz56⟩ := P54
          refine hq_p rfl rfl ?_
          refine hq_p rfl rfl (ty_ge (n := y36.toInt - z56.toInt) (nm_sub (by omega) (by omega)) (fun z57 ez57 => ?_))
          refine hq_p (ls' := [some (.ref 97), some (.int x1), some (.int x2), some (.int z57), some (.int y37)]) rfl rfl ?_
          refine ty_inc (ls' := fun z58 => [some (.ref 97), some (.int x1), some (.int x2), some (.int z57), some (.int z58)]) rfl rfl (fun _ => rfl) (nm_addc nk_i1 (by omega) (by omega)) (fun z58 ez58 => ?_)
          refine hq_p rfl rfl ?_
          exact ihn42 ((8 - z58.toInt).toNat) (by omega) z57 z58 h55 rfl (by omega) (by omega) (by omega) (by omega) (by omega) Jh55
  exact L23_n42 _ z7 z8 h rfl (by omega) (by omega) (by omega) (by omega) (by omega) hJ
theorem ct_208 {X : pm_X} {d : Nat} {h : pm_H}  (hd : 7 ≤ d)  : ty_M X ty_Wy d 208 [.ref 97] h (ty_pi 0 792) := by
  intro J H hJ
  obtain ⟨d, rfl⟩ : ∃ e, d = e + 1 := ⟨d - 1, by omega⟩
  have I := H.1 h hJ
  refine hq_M.enter (q := (⟨"TrainBearersModel", "broughtNow", "()I"⟩, _, 3, some .int, 11, 1, pm_c208)) rfl rfl ?_
  show hq_W X d 11 false (some .int) pm_c208 (0, [some (.ref 97), none, none], [], h) (fun h' v => J h' ∧ (ty_pi 0 792) h' v)
  refine hq_p rfl rfl (ty_ge (n := 0) nk_i0 (fun z1 ez1 => ?_))
  refine hq_p (ls' := [some (.ref 97), some (.int z1), none]) rfl rfl ?_
  refine hq_p rfl rfl (ty_ge (n := 0) nk_i0 (fun z2 ez2 => ?_))
  refine hq_p (ls' := [some (.ref 97), some (.int z1), some (.int z2)]) rfl rfl ?_
  have L4_n36 : ∀ n36 : Nat, ∀ (y30 : Int32) (y31 : Int32) (h32 : pm_H), (8 - y31.toInt).toNat = n36 → 0 ≤ y30.toInt → y30.toInt ≤ 792 → 0 ≤ y31.toInt → y31.toInt ≤ 8 → y30.toInt ≤ 99 * y31.toInt → J h32 → hq_W X d 11 false (some .int) pm_c208 (4, [some (.ref 97), some (.int y30), some (.int y31)], [], h32) (fun h' v => J h' ∧ (ty_pi 0 792) h' v) := by
    intro n36
    induction n36 using Nat.strongRecOn with
    | ind n36 ihn36 =>
      intro y30 y31 h32 mn36 ay30 by30 ay31 by31 x0n36 Jh32
      have Ih32 := H.1 h32 Jh32
      refine hq_p rfl rfl ?_
      refine hq_p rfl rfl ?_
      refine hq_gR Ih32.1 rfl rfl (by decide) (by decide) rfl ?_
      refine hq_p rfl rfl (ty_ge (n := 0) nk_i0 (fun z37 ez37 => ?_))
      refine ty_aL Ih32 rfl rfl (by decide) (by omega) (by omega) (fun i e => ty_le (ty_w0 (by omega) (by omega))) (fun z38 ez38 az38 bz38 => ?_)
      rw [show z37.toInt.toNat = 0 by omega] at ez38
      refine ty_ige rfl (fun c39 => ?_) (fun c39 => ?_)
      · refine hq_p rfl rfl ?_
        exact hq_W.ret rfl rfl rfl ⟨Jh32, _, rfl, by omega, by omega⟩
      · refine hq_p rfl rfl ?_
        refine hq_p rfl rfl ?_
        refine hq_p rfl rfl ?_
        refine hq_p rfl rfl ?_
        refine hq_p rfl rfl ?_
        refine hq_p rfl rfl ?_
        refine hq_p rfl rfl ?_
        refine ty_callp 0 Ih32 rfl (fun _ => rfl) rfl rfl rfl (hq_pre_o Ih32.1 (x := 97) (ci := 11) rfl (by decide) rfl rfl rfl rfl) (ct_152 (x1 := y31) (by omega)) (fun _ P40 => ?_)
        obtain ⟨z41, rfl, az41, bz41⟩ := P40
        refine ty_callj 0 (W := ty_Wy) H Jh32 rfl (fun _ => rfl) rfl rfl rfl (hq_pre_o Ih32.1 (x := 97) (ci := 11) rfl (by decide) rfl rfl rfl rfl) (fun _ _ w => w) (fun _ w => w) (ct_207 (x1 := y31) (x2 := z41) (by omega) (by omega) (by omega)) (fun h43 _ Jh43 P42 => ?_)
        have Ih43 := H.1 h43 Jh43
        obtain ⟨z44, rfl, az44, bz44⟩ := P42
        refine ty_callj 0 (W := ty_Wy) H Jh43 rfl (fun _ => rfl) rfl rfl rfl (hq_pre_o Ih43.1 (x := 97) (ci := 11) rfl (by decide) rfl rfl rfl rfl) (fun _ _ w => w) (fun _ w => w) (ct_206 (x1 := y31) (x2 := z44) (by omega) (by omega) (by omega)) (fun h46 _ Jh46 P45 => ?_)
        have Ih46 := H.1 h46 Jh46
        obtain ⟨z47, rfl, az47, bz47⟩ := P45
        refine hq_p rfl rfl (ty_ge (n := y30.toInt + z47.toInt) (nm_add (by omega) (by omega)) (fun z48 ez48 => ?_))
        refine hq_p (ls' := [some (.ref 97), some (.int z48), some (.int y31)]) rfl rfl ?_
        refine ty_inc (ls' := fun z49 => [some (.ref 97), some (.int z48), some (.int z49)]) rfl rfl (fun _ => rfl) (nm_addc nk_i1 (by omega) (by omega)) (fun z49 ez49 => ?_)
        refine hq_p rfl rfl ?_
        exact ihn36 ((8 - z49.toInt).toNat) (by omega) z48 z49 h46 rfl (by omega) (by omega) (by omega) (by omega) (by omega) Jh46
  exact L4_n36 _ z1 z2 h rfl (by omega) (by omega) (by omega) (by omega) (by omega) hJ
theorem ct_209 {X : pm_X} {d : Nat} {h : pm_H} {x1 : Int32} {x2 : Int32} (hd : 6 ≤ d) (ax1 : 0 ≤ x1.toInt) (bx1 : x1.toInt ≤ 7) (ax2 : 0 ≤ x2.toInt) (bx2 : x2.toInt ≤ 7) : ty_M X ty_Wy d 209 [.ref 97, .int x1, .int x2] h (ty_pi 0 1) := by
  intro J H hJ
  obtain ⟨d, rfl⟩ : ∃ e, d = e + 1 := ⟨d - 1, by omega⟩
  have I := H.1 h hJ
  refine hq_M.enter (q := (⟨"TrainBearersModel", "canHold", "(II)Z"⟩, _, 3, some .boolean, 11, 3, pm_c209)) rfl rfl ?_
  show hq_W X d 11 false (some .boolean) pm_c209 (0, [some (.ref 97), some (.int x1), some (.int x2)], [], h) (fun h' v => J h' ∧ (ty_pi 0 1) h' v)
  refine hq_p rfl rfl ?_
  refine hq_gR I.1 rfl rfl (by decide) (by decide) rfl ?_
  refine hq_p rfl rfl (ty_ge (n := 26) nk_b26 (fun z1 ez1 => ?_))
  refine hq_p rfl rfl ?_
  refine hq_p rfl rfl (ty_ge (n := z1.toInt + x1.toInt) (nm_add (by omega) (by omega)) (fun z2 ez2 => ?_))
  refine ty_aL I rfl rfl (by decide) (by omega) (by omega) (fun i e => ty_le (ty_w26 (by omega) (by omega))) (fun z3 ez3 az3 bz3 => ?_)
  refine hq_p rfl rfl ?_
  refine ty_ieq rfl (fun c4 => ?_) (fun c4 => ?_)
  · refine hq_p rfl rfl (ty_ge (n := 0) nk_i0 (fun z5 ez5 => ?_))
    exact ty_rB rfl rfl (by omega) (by omega) ⟨hJ, _, rfl, by omega, by omega⟩
  · clear c4
    refine hq_p rfl rfl ?_
    refine hq_p rfl rfl ?_
    refine ty_callp 0 I rfl (fun _ => rfl) rfl rfl rfl (hq_pre_o I.1 (x := 97) (ci := 11) rfl (by decide) rfl rfl rfl rfl) (ct_152 (x1 := x2) (by omega)) (fun _ P6 => ?_)
    obtain ⟨z7, rfl, az7, bz7⟩ := P6
    refine ty_callp 1 I rfl (fun _ => rfl) rfl rfl rfl rfl (ct_138 (x0 := z7) (by omega)) (fun _ P8 => ?_)
    obtain ⟨z9, rfl, az9, bz9⟩ := P8
    refine hq_p rfl rfl (ty_ge (n := 2) nk_i2 (fun z10 ez10 => ?_))
    refine ty_ige rfl (fun c11 => ?_) (fun c11 => ?_)
    · refine hq_p rfl rfl (ty_ge (n := 0) nk_i0 (fun z12 ez12 => ?_))
      exact ty_rB rfl rfl (by omega) (by omega) ⟨hJ, _, rfl, by omega, by omega⟩
    · refine hq_p rfl rfl ?_
      refine hq_p rfl rfl ?_
      refine hq_p rfl rfl ?_
      refine ty_callj 0 (W := ty_Wy) H hJ rfl (fun _ => rfl) rfl rfl rfl (hq_pre_o I.1 (x := 97) (ci := 11) rfl (by decide) rfl rfl rfl rfl) (fun _ _ w => w) (fun _ w => w) (ct_204 (x1 := x1) (x2 := x2) (by omega) (by omega) (by omega) (by omega) (by omega)) (fun h14 _ Jh14 P13 => ?_)
      have Ih14 := H.1 h14 Jh14
      obtain ⟨z15, rfl, az15, bz15⟩ := P13
      refine ty_zne rfl (fun c16 => ?_) (fun c16 => ?_)
      · replace c16 : 1 ≤ z15.toInt ∧ z15.toInt ≤ 1 := by omega
        refine hq_p rfl rfl (ty_ge (n := 0) nk_i0 (fun z17 ez17 => ?_))
        exact ty_rB rfl rfl (by omega) (by omega) ⟨Jh14, _, rfl, by omega, by omega⟩
      · refine hq_p rfl rfl (ty_ge (n := 1) nk_i1 (fun z18 ez18 => ?_))
        refine hq_p rfl rfl ?_
        exact ty_rB rfl rfl (by omega) (by omega) ⟨Jh14, _, rfl, by omega, by omega⟩
end CT3
