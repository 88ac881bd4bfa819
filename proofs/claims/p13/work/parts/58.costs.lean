/-! CONTRACTS (printed by wip/pm/cts.py) -/
section CT34
/-- costs, the least -/
def ty_Wco (a k : Nat) : Prop := a = 200 ∨ (a = 97 ∧ (k = 34 ∨ k = 38 ∨ k = 39 ∨ k = 40)) ∨ a = 115 ∨ a = 117 ∨ a = 120 ∨ a = 122 ∨ a = 123
def ty_Wle (a _k : Nat) : Prop := a = 121
theorem ct_137e {X : pm_X} {d : Nat} {h : pm_H} {x0 : Int32} {x1 : Int32} (hd : 1 ≤ d)  : ty_M X ty_W0 d 137 [.int x0, .int x1] h (fun _ v => ∃ z : Int32, v = some (.int z) ∧ 0 ≤ z.toInt ∧ z.toInt ≤ 1 ∧ (x0.toInt = 0 → z.toInt = 0)) := by
  intro J H hJ
  obtain ⟨d, rfl⟩ : ∃ e, d = e + 1 := ⟨d - 1, by omega⟩
  have I := H.1 h hJ
  have ax0 := nm_lo x0
  have bx0 := nm_hi x0
  have ax1 := nm_lo x1
  have bx1 := nm_hi x1
  refine hq_M.enter (q := (⟨"TrainBearersModel", "is", "(II)Z"⟩, _, 2, some .boolean, 11, 2, pm_c137)) rfl rfl ?_
  show hq_W X d 11 false (some .boolean) pm_c137 (0, [some (.int x0), some (.int x1)], [], h) (fun h' v => J h' ∧ (fun _ v => ∃ z : Int32, v = some (.int z) ∧ 0 ≤ z.toInt ∧ z.toInt ≤ 1 ∧ (x0.toInt = 0 → z.toInt = 0)) h' v)
  refine hq_p rfl rfl ?_
  refine hq_p rfl rfl ?_
  refine hq_p rfl rfl (ty_ge (n := (x0 >>> (x1 &&& 31)).toInt) rfl (fun z1 ez1 => ?_))
  have az1 := nm_lo z1
  have bz1 := nm_hi z1
  refine hq_p rfl rfl (ty_ge (n := 1) nk_i1 (fun z2 ez2 => ?_))
  refine hq_p rfl rfl (ty_ge (n := (z1 &&& z2).toInt) rfl (fun z3 ez3 => ?_))
  have bz3 : 0 ≤ z3.toInt ∧ z3.toInt ≤ 1 := by rw [ez3]; have q := nm_and_r (x := z1) (y := z2) (by omega); omega
  refine hq_p rfl rfl (ty_ge (n := 1) nk_i1 (fun z4 ez4 => ?_))
  refine ty_ine rfl (fun c5 => ?_) (fun c5 => ?_)
  · replace c5 : 0 ≤ z3.toInt ∧ z3.toInt ≤ 0 := by omega
    refine hq_p rfl rfl (ty_ge (n := 0) nk_i0 (fun z6 ez6 => ?_))
    exact ty_rB rfl rfl (by omega) (by omega) ⟨hJ, _, rfl, by omega, by omega, fun _ => by omega⟩
  · refine hq_p rfl rfl (ty_ge (n := 1) nk_i1 (fun z7 ez7 => ?_))
    refine hq_p rfl rfl ?_
    exact ty_rB rfl rfl (by omega) (by omega) ⟨hJ, _, rfl, by omega, by omega, (fun q => by exfalso; have k1 : z1.toInt = 0 := (by rw [ez1]; exact nm_0shr q); have k2 := nm_and_l (x := z1) (y := z2) (by omega); omega)⟩
theorem ct_138e {X : pm_X} {d : Nat} {h : pm_H} {x0 : Int32} (hd : 1 ≤ d)  : ty_M X ty_W0 d 138 [.int x0] h (fun _ v => ∃ z : Int32, v = some (.int z) ∧ 0 ≤ z.toInt ∧ z.toInt ≤ 8 ∧ (x0.toInt = 0 → z.toInt = 0)) := by
  intro J H hJ
  obtain ⟨d, rfl⟩ : ∃ e, d = e + 1 := ⟨d - 1, by omega⟩
  have I := H.1 h hJ
  have ax0 := nm_lo x0
  have bx0 := nm_hi x0
  refine hq_M.enter (q := (⟨"TrainBearersModel", "ones", "(I)I"⟩, _, 3, some .int, 11, 1, pm_c138)) rfl rfl ?_
  show hq_W X d 11 false (some .int) pm_c138 (0, [some (.int x0), none, none], [], h) (fun h' v => J h' ∧ (fun _ v => ∃ z : Int32, v = some (.int z) ∧ 0 ≤ z.toInt ∧ z.toInt ≤ 8 ∧ (x0.toInt = 0 → z.toInt = 0)) h' v)
  refine hq_p rfl rfl (ty_ge (n := 0) nk_i0 (fun z1 ez1 => ?_))
  refine hq_p (ls' := [some (.int x0), some (.int z1), none]) rfl rfl ?_
  refine hq_p rfl rfl (ty_ge (n := 0) nk_i0 (fun z2 ez2 => ?_))
  refine hq_p (ls' := [some (.int x0), some (.int z1), some (.int z2)]) rfl rfl ?_
  have L4_n25 : ∀ n25 : Nat, ∀ (y21 : Int32) (y22 : Int32), (8 - y22.toInt).toNat = n25 → 0 ≤ y21.toInt → y21.toInt ≤ 8 → 0 ≤ y22.toInt → y22.toInt ≤ 8 → y21.toInt ≤ y22.toInt → (x0.toInt = 0 → y21.toInt = 0) → hq_W X d 11 false (some .int) pm_c138 (4, [some (.int x0), some (.int y21), some (.int y22)], [], h) (fun h' v => J h' ∧ (fun _ v => ∃ z : Int32, v = some (.int z) ∧ 0 ≤ z.toInt ∧ z.toInt ≤ 8 ∧ (x0.toInt = 0 → z.toInt = 0)) h' v) := by
    intro n25
    induction n25 using Nat.strongRecOn with
    | ind n25 ihn25 =>
      intro y21 y22 mn25 ay21 by21 ay22 by22 x0n25 x1n25
      refine hq_p rfl rfl ?_
      refine hq_p rfl rfl (ty_ge (n := 8) nk_b8 (fun z26 ez26 => ?_))
      refine ty_ige rfl (fun c27 => ?_) (fun c27 => ?_)
      · refine hq_p rfl rfl ?_
        exact hq_W.ret rfl rfl rfl ⟨hJ, _, rfl, by omega, by omega, by omega⟩
      · refine hq_p rfl rfl ?_
        refine hq_p rfl rfl ?_
        refine hq_p rfl rfl ?_
        refine hq_p rfl rfl (ty_ge (n := (x0 >>> (y22 &&& 31)).toInt) rfl (fun z28 ez28 => ?_))
        have az28 := nm_lo z28
        have bz28 := nm_hi z28
        refine hq_p rfl rfl (ty_ge (n := 1) nk_i1 (fun z29 ez29 => ?_))
        refine hq_p rfl rfl (ty_ge (n := (z28 &&& z29).toInt) rfl (fun z30 ez30 => ?_))
        have bz30 : 0 ≤ z30.toInt ∧ z30.toInt ≤ 1 := by rw [ez30]; have q := nm_and_r (x := z28) (y := z29) (by omega); omega
        have kz30 : x0.toInt = 0 → z30.toInt = 0 := fun q => by have k1 : z28.toInt = 0 := (by rw [ez28]; exact nm_0shr q); have k2 := nm_and_l (x := z28) (y := z29) (by omega); omega
        refine hq_p rfl rfl (ty_ge (n := y21.toInt + z30.toInt) (nm_add (by omega) (by omega)) (fun z31 ez31 => ?_))
        refine hq_p (ls' := [some (.int x0), some (.int z31), some (.int y22)]) rfl rfl ?_
        refine ty_inc (ls' := fun z32 => [some (.int x0), some (.int z31), some (.int z32)]) rfl rfl (fun _ => rfl) (nm_addc nk_i1 (by omega) (by omega)) (fun z32 ez32 => ?_)
        refine hq_p rfl rfl ?_
        exact ihn25 ((8 - z32.toInt).toNat) (by omega) z31 z32 rfl (by omega) (by omega) (by omega) (by omega) (by omega) (by omega)
  exact L4_n25 _ z1 z2 rfl (by omega) (by omega) (by omega) (by omega) (by omega) (by omega)
theorem ct_222e {X : pm_X} {d : Nat} {h : pm_H} {x1 : Int32} {x2 : Int32} (hd : 6 ≤ d) (ax1 : 0 ≤ x1.toInt) (bx1 : x1.toInt ≤ 7) (ax2 : 0 ≤ x2.toInt) (bx2 : x2.toInt ≤ 255) : ty_M X ty_Wy d 222 [.ref 97, .int x1, .int x2] h (fun _ v => ∃ z : Int32, v = some (.int z) ∧ 0 ≤ z.toInt ∧ z.toInt ≤ 100000000 ∧ (x2.toInt = 0 → z.toInt ≤ 9908)) := by
  intro J H hJ
  obtain ⟨d, rfl⟩ : ∃ e, d = e + 1 := ⟨d - 1, by omega⟩
  have I := H.1 h hJ
  refine hq_M.enter (q := (⟨"TrainBearersModel", "costOf", "(II)I"⟩, _, 5, some .int, 11, 3, pm_c222)) rfl rfl ?_
  show hq_W X d 11 false (some .int) pm_c222 (0, [some (.ref 97), some (.int x1), some (.int x2), none, none], [], h) (fun h' v => J h' ∧ (fun _ v => ∃ z : Int32, v = some (.int z) ∧ 0 ≤ z.toInt ∧ z.toInt ≤ 100000000 ∧ (x2.toInt = 0 → z.toInt ≤ 9908)) h' v)
  refine hq_p rfl rfl ?_
  refine hq_gR I.1 rfl rfl (by decide) (by decide) rfl ?_
  refine hq_p rfl rfl (ty_ge (n := 34) nk_b34 (fun z1 ez1 => ?_))
  refine hq_p rfl rfl ?_
  refine hq_p rfl rfl (ty_ge (n := z1.toInt + x1.toInt) (nm_add (by omega) (by omega)) (fun z2 ez2 => ?_))
  refine ty_aL I rfl rfl (by decide) (by omega) (by omega) (fun i e => ty_le (ty_w34 (by omega) (by omega))) (fun z3 ez3 az3 bz3 => ?_)
  refine hq_p rfl rfl ?_
  refine hq_gR I.1 rfl rfl (by decide) (by decide) rfl ?_
  refine hq_p rfl rfl (ty_ge (n := 10) nk_b10 (fun z4 ez4 => ?_))
  refine hq_p rfl rfl ?_
  refine hq_p rfl rfl (ty_ge (n := z4.toInt + x1.toInt) (nm_add (by omega) (by omega)) (fun z5 ez5 => ?_))
  refine ty_aL I rfl rfl (by decide) (by omega) (by omega) (fun i e => ty_le (ty_w10 (by omega) (by omega))) (fun z6 ez6 az6 bz6 => ?_)
  refine hq_p rfl rfl (ty_ge (n := z3.toInt + z6.toInt) (nm_add (by omega) (by omega)) (fun z7 ez7 => ?_))
  refine hq_p (ls' := [some (.ref 97), some (.int x1), some (.int x2), some (.int z7), none]) rfl rfl ?_
  refine hq_p rfl rfl (ty_ge (n := 0) nk_i0 (fun z8 ez8 => ?_))
  refine hq_p (ls' := [some (.ref 97), some (.int x1), some (.int x2), some (.int z7), some (.int z8)]) rfl rfl ?_
  have L23_n31 : ∀ n31 : Nat, ∀ (y27 : Int32) (y28 : Int32), (8 - y28.toInt).toNat = n31 → -2147483648 ≤ y27.toInt → y27.toInt ≤ 2147483647 → 0 ≤ y28.toInt → y28.toInt ≤ 8 → hq_W X d 11 false (some .int) pm_c222 (23, [some (.ref 97), some (.int x1), some (.int x2), some (.int y27), some (.int y28)], [], h) (fun h' v => J h' ∧ (fun _ v => ∃ z : Int32, v = some (.int z) ∧ 0 ≤ z.toInt ∧ z.toInt ≤ 100000000 ∧ (x2.toInt = 0 → z.toInt ≤ 9908)) h' v) := by
    intro n31
    induction n31 using Nat.strongRecOn with
    | ind n31 ihn31 =>
      intro y27 y28 mn31 ay27 by27 ay28 by28
      refine hq_p rfl rfl ?_
      refine hq_p rfl rfl ?_
      refine hq_gR I.1 rfl rfl (by decide) (by decide) rfl ?_
      refine hq_p rfl rfl (ty_ge (n := 1) nk_i1 (fun z32 ez32 => ?_))
      refine ty_aL I rfl rfl (by decide) (by omega) (by omega) (fun i e => ty_le (ty_w0 (by omega) (by omega))) (fun z33 ez33 az33 bz33 => ?_)
      rw [show z32.toInt.toNat = 1 by omega] at ez33
      refine ty_ige rfl (fun c34 => ?_) (fun c34 => ?_)
      · refine hq_p rfl rfl (ty_ge (n := 100) nk_b100 (fun z35 ez35 => ?_))
        refine hq_p rfl rfl ?_
        refine hq_p rfl rfl ?_
        refine hq_p rfl rfl ?_
        refine ty_zge rfl (fun c36 => ?_) (fun c36 => ?_)
        · refine hq_p rfl rfl ?_
          refine ty_callj 0 (W := ty_Wy) H hJ rfl (fun _ => rfl) rfl rfl rfl (hq_pre_o I.1 (x := 97) (ci := 11) rfl (by decide) rfl rfl rfl rfl) (fun _ _ w => w) (fun _ w => w) (ct_206 (x1 := x1) (x2 := y27) (by omega) (by omega) (by omega)) (fun h38 _ Jh38 P37 => ?_)
          have Ih38 := H.1 h38 Jh38
          obtain ⟨z39, rfl, az39, bz39⟩ := P37
          refine hq_p rfl rfl (ty_ge (n := 100 * z39.toInt) (nm_cmul ez35 (by omega) (by omega)) (fun z40 ez40 => ?_))
          refine hq_p rfl rfl ?_
          refine ty_callp 1 Ih38 rfl (fun _ => rfl) rfl rfl rfl rfl (ct_138e (x0 := x2) (by omega)) (fun _ P41 => ?_)
          obtain ⟨z42, rfl, az42, bz42, iz42⟩ := P41
          refine hq_p rfl rfl (ty_ge (n := z40.toInt + z42.toInt) (nm_add (by omega) (by omega)) (fun z43 ez43 => ?_))
          exact hq_W.ret rfl rfl rfl ⟨Jh38, _, rfl, by omega, by omega, by omega⟩
        · refine hq_p rfl rfl (ty_ge (n := 0) nk_i0 (fun z44 ez44 => ?_))
          refine hq_p rfl rfl ?_
          refine ty_callj 0 (W := ty_Wy) H hJ rfl (fun _ => rfl) rfl rfl rfl (hq_pre_o I.1 (x := 97) (ci := 11) rfl (by decide) rfl rfl rfl rfl) (fun _ _ w => w) (fun _ w => w) (ct_206 (x1 := x1) (x2 := z44) (by omega) (by omega) (by omega)) (fun h46 _ Jh46 P45 => ?_)
          have Ih46 := H.1 h46 Jh46
          obtain ⟨z47, rfl, az47, bz47⟩ := P45
          refine hq_p rfl rfl (ty_ge (n := 100 * z47.toInt) (nm_cmul ez35 (by omega) (by omega)) (fun z48 ez48 => ?_))
          refine hq_p rfl rfl ?_
          refine ty_callp 1 Ih46 rfl (fun _ => rfl) rfl rfl rfl rfl (ct_138e (x0 := x2) (by omega)) (fun _ P49 => ?_)
          obtain ⟨z50, rfl, az50, bz50, iz50⟩ := P49
          refine hq_p rfl rfl (ty_ge (n := z48.toInt + z50.toInt) (nm_add (by omega) (by omega)) (fun z51 ez51 => ?_))
          exact hq_W.ret rfl rfl rfl ⟨Jh46, _, rfl, by omega, by omega, by omega⟩
      · refine hq_p rfl rfl ?_
        refine hq_p rfl rfl ?_
        refine ty_callp 1 I rfl (fun _ => rfl) rfl rfl rfl rfl (ct_137e (x0 := x2) (x1 := y28) (by omega)) (fun _ P52 => ?_)
        obtain ⟨z53, rfl, az53, bz53, iz53⟩ := P52
        refine ty_zeq rfl (fun c54 => ?_) (fun c54 => ?_)
        · refine ty_inc (ls' := fun z55 => [some (.ref 97), some (.int x1), some (.int x2), some (.int y27), some (.int z55)]) rfl rfl (fun _ => rfl) (nm_addc nk_i1 (by omega) (by omega)) (fun z55 ez55 => ?_)
          refine hq_p rfl rfl ?_
          exact ihn31 ((8 - z55.toInt).toNat) (by omega) y27 z55 rfl (by omega) (by omega) (by omega) (by omega)
        · replace c54 : 1 ≤ z53.toInt ∧ z53.toInt ≤ 1 := by omega
          refine hq_p rfl rfl ?_
          refine hq_gR I.1 rfl rfl (by decide) (by decide) rfl ?_
          refine hq_p rfl rfl (ty_ge (n := 8) nk_b8 (fun z56 ez56 => ?_))
          refine hq_p rfl rfl ?_
          refine hq_p rfl rfl (ty_ge (n := 8 * x1.toInt) (nm_cmul ez56 (by omega) (by omega)) (fun z57 ez57 => ?_))
          refine hq_p rfl rfl ?_
          refine hq_p rfl rfl (ty_ge (n := z57.toInt + y28.toInt) (nm_add (by omega) (by omega)) (fun z58 ez58 => ?_))
          refine ty_bL I rfl rfl (by decide) (by omega) (by omega) (fun z59 az59 bz59 => ?_)
          refine ty_zeq rfl (fun c60 => ?_) (fun c60 => ?_)
          · refine hq_p rfl rfl ?_
            refine hq_p rfl rfl ?_
            refine hq_gR I.1 rfl rfl (by decide) (by decide) rfl ?_
            refine hq_p rfl rfl (ty_ge (n := 8) nk_b8 (fun z61 ez61 => ?_))
            refine hq_p rfl rfl ?_
            refine hq_p rfl rfl (ty_ge (n := 8 * x1.toInt) (nm_cmul ez61 (by omega) (by omega)) (fun z62 ez62 => ?_))
            refine hq_p rfl rfl ?_
            refine hq_p rfl rfl (ty_ge (n := z62.toInt + y28.toInt) (nm_add (by omega) (by omega)) (fun z63 ez63 => ?_))
            refine ty_aL I rfl rfl (by decide) (by omega) (by omega) (fun _ _ => ty_le rfl) (fun z64 ez64 az64 bz64 => ?_)
            refine hq_p rfl rfl (ty_ga (fun z65 az65 bz65 => ?_))
            refine hq_p (ls' := [some (.ref 97), some (.int x1), some (.int x2), some (.int z65), some (.int y28)]) rfl rfl ?_
            refine ty_inc (ls' := fun z66 => [some (.ref 97), some (.int x1), some (.int x2), some (.int z65), some (.int z66)]) rfl rfl (fun _ => rfl) (nm_addc nk_i1 (by omega) (by omega)) (fun z66 ez66 => ?_)
            refine hq_p rfl rfl ?_
            exact ihn31 ((8 - z66.toInt).toNat) (by omega) z65 z66 rfl (by omega) (by omega) (by omega) (by omega)
          · clear c60
            refine hq_p rfl rfl (ty_ge (n := 100000000) nk_d100000000 (fun z67 ez67 => ?_))
            exact hq_W.ret rfl rfl rfl ⟨hJ, _, rfl, by omega, by omega, by omega⟩
  exact L23_n31 _ z7 z8 rfl (by omega) (by omega) (by omega) (by omega)
theorem ct_223e {X : pm_X} {d : Nat} {h : pm_H}  (hd : 7 ≤ d)  : ty_M X ty_Wco d 223 [.ref 97] h (fun h1 v => v = none ∧ bo_p (hs_aI h1 120) (bo_G (hs_aI h 99 1)) (hs_aI h 99 0).toInt 0) := by
  intro J0 H0 hJ0
  obtain ⟨R99, eR99⟩ : ∃ R, hs_aI h 99 = R := ⟨_, rfl⟩
  obtain ⟨J, eJ⟩ : ∃ J : pm_H → Prop, J = fun h' => J0 h' ∧ hs_aI h' 99 = R99 := ⟨_, rfl⟩
  have H : ty_C ty_Wco J := by rw [eJ]; exact H0.arr 99 (by decide) (fun k => by unfold ty_Wco; omega) R99
  have hJ : J h := by rw [eJ]; exact ⟨hJ0, eR99⟩
  refine hq_M.mono (Nat.le_refl _) (Q := fun h' v => J h' ∧ (fun h1 v => v = none ∧ bo_p (hs_aI h1 120) (bo_G (hs_aI h 99 1)) (hs_aI h 99 0).toInt 0) h' v) (fun h' v q => ⟨by have q1 := q.1; rw [eJ] at q1; exact q1.1, q.2⟩) ?_
  have hG := bo_Gb (r := R99 1) (by rw [← eR99]; exact ((H0.1 h hJ0).2.2.2.1 99 1 (by decide) (by decide)).1) (by rw [← eR99]; exact ((H0.1 h hJ0).2.2.2.1 99 1 (by decide) (by decide)).2)
  have hG1 := hG.1
  have hG2 := hG.2
  have hm0 : 0 ≤ (R99 0).toInt := by rw [← eR99]; exact ((H0.1 h hJ0).2.2.2.1 99 0 (by decide) (by decide)).1
  obtain ⟨d, rfl⟩ : ∃ e, d = e + 1 := ⟨d - 1, by omega⟩
  have I := H.1 h hJ
  refine hq_M.enter (q := (⟨"TrainBearersModel", "layCosts", "()V"⟩, _, 3, none, 11, 1, pm_c223)) rfl rfl ?_
  show hq_W X d 11 false (none) pm_c223 (0, [some (.ref 97), none, none], [], h) (fun h' v => J h' ∧ (fun h1 v => v = none ∧ bo_p (hs_aI h1 120) (bo_G (hs_aI h 99 1)) (hs_aI h 99 0).toInt 0) h' v)
  refine hq_p rfl rfl (ty_ge (n := 0) nk_i0 (fun z1 ez1 => ?_))
  refine hq_p (ls' := [some (.ref 97), some (.int z1), none]) rfl rfl ?_
  have L2_n11 : ∀ n11 : Nat, ∀ (y5 : Int32) (w6 : Option Value) (h7 : pm_H), (8 - y5.toInt).toNat = n11 → 0 ≤ y5.toInt → y5.toInt ≤ 8 → pm_two w6 = false → bo_p (hs_aI h7 120) (bo_G (R99 1)) y5.toInt 0 → y5.toInt ≤ (R99 0).toInt → J h7 → hq_W X d 11 false (none) pm_c223 (2, [some (.ref 97), some (.int y5), w6], [], h7) (fun h' v => J h' ∧ (fun h1 v => v = none ∧ bo_p (hs_aI h1 120) (bo_G (hs_aI h 99 1)) (hs_aI h 99 0).toInt 0) h' v) := by
    intro n11
    induction n11 using Nat.strongRecOn with
    | ind n11 ihn11 =>
      intro y5 w6 h7 mn11 ay5 by5 kw6 x0n11 x1n11 Jh7
      have Ih7 := H.1 h7 Jh7
      refine hq_p rfl rfl ?_
      refine hq_p rfl rfl ?_
      refine hq_gR Ih7.1 rfl rfl (by decide) (by decide) rfl ?_
      refine hq_p rfl rfl (ty_ge (n := 0) nk_i0 (fun z12 ez12 => ?_))
      refine ty_aL Ih7 rfl rfl (by decide) (by omega) (by omega) (fun i e => ty_le (ty_w0 (by omega) (by omega))) (fun z13 ez13 az13 bz13 => ?_)
      rw [show z12.toInt.toNat = 0 by omega] at ez13
      have rr99h7 : hs_aI h7 99 = R99 := by have q := Jh7; rw [eJ] at q; exact q.2
      have n0z13 : z13.toInt = (R99 0).toInt := by rw [← rr99h7]; omega
      refine ty_ige rfl (fun c14 => ?_) (fun c14 => ?_)
      · have rr99h7 : hs_aI h7 99 = R99 := by have q := Jh7; rw [eJ] at q; exact q.2
        have fin : bo_p (hs_aI h7 120) (bo_G (R99 1)) (R99 0).toInt 0 := by have q := x0n11; rw [show y5.toInt = (R99 0).toInt by rw [← rr99h7]; omega] at q; exact q
        exact hq_W.ret rfl rfl rfl ⟨Jh7, rfl, (by rw [eR99]; exact fin)⟩
      · refine hq_p rfl rfl (ty_ge (n := 0) nk_i0 (fun z15 ez15 => ?_))
        refine hq_p (ls' := [some (.ref 97), some (.int y5), some (.int z15)]) rfl rfl ?_
        have L14_n38 : ∀ n38 : Nat, ∀ (y34 : Int32) (h35 : pm_H), (8 - y34.toInt).toNat = n38 → 0 ≤ y34.toInt → y34.toInt ≤ 8 → bo_p (hs_aI h35 120) (bo_G (R99 1)) y5.toInt 0 → J h35 → hq_W X d 11 false (none) pm_c223 (14, [some (.ref 97), some (.int y5), some (.int y34)], [], h35) (fun h' v => J h' ∧ (fun h1 v => v = none ∧ bo_p (hs_aI h1 120) (bo_G (hs_aI h 99 1)) (hs_aI h 99 0).toInt 0) h' v) := by
          intro n38
          induction n38 using Nat.strongRecOn with
          | ind n38 ihn38 =>
            intro y34 h35 mn38 ay34 by34 x0n38 Jh35
            have Ih35 := H.1 h35 Jh35
            refine hq_p rfl rfl ?_
            refine hq_p rfl rfl ?_
            refine hq_gR Ih35.1 rfl rfl (by decide) (by decide) rfl ?_
            refine hq_p rfl rfl (ty_ge (n := 1) nk_i1 (fun z39 ez39 => ?_))
            refine ty_aL Ih35 rfl rfl (by decide) (by omega) (by omega) (fun i e => ty_le (ty_w0 (by omega) (by omega))) (fun z40 ez40 az40 bz40 => ?_)
            rw [show z39.toInt.toNat = 1 by omega] at ez40
            refine ty_ige rfl (fun c41 => ?_) (fun c41 => ?_)
            · refine hq_p rfl rfl (ty_ge (n := 0) nk_i0 (fun z42 ez42 => ?_))
              refine hq_p (ls' := [some (.ref 97), some (.int y5), some (.int z42)]) rfl rfl ?_
              have L66_n115 : ∀ n115 : Nat, ∀ (y111 : Int32) (h112 : pm_H), (256 - y111.toInt).toNat = n115 → 0 ≤ y111.toInt → y111.toInt ≤ 256 → bo_p (hs_aI h112 120) (bo_G (R99 1)) y5.toInt y111.toInt → J h112 → hq_W X d 11 false (none) pm_c223 (66, [some (.ref 97), some (.int y5), some (.int y111)], [], h112) (fun h' v => J h' ∧ (fun h1 v => v = none ∧ bo_p (hs_aI h1 120) (bo_G (hs_aI h 99 1)) (hs_aI h 99 0).toInt 0) h' v) := by
                intro n115
                induction n115 using Nat.strongRecOn with
                | ind n115 ihn115 =>
                  intro y111 h112 mn115 ay111 by111 x0n115 Jh112
                  have Ih112 := H.1 h112 Jh112
                  refine hq_p rfl rfl ?_
                  refine hq_p rfl rfl (ty_ge (n := 1) nk_i1 (fun z116 ez116 => ?_))
                  refine hq_p rfl rfl ?_
                  refine hq_gR Ih112.1 rfl rfl (by decide) (by decide) rfl ?_
                  refine hq_p rfl rfl (ty_ge (n := 1) nk_i1 (fun z117 ez117 => ?_))
                  refine ty_aL Ih112 rfl rfl (by decide) (by omega) (by omega) (fun i e => ty_le (ty_w0 (by omega) (by omega))) (fun z118 ez118 az118 bz118 => ?_)
                  rw [show z117.toInt.toNat = 1 by omega] at ez118
                  refine hq_p rfl rfl (ty_ge (n := (z116 <<< (z118 &&& 31)).toInt) rfl (fun z119 ez119 => ?_))
                  have bz119 : 1 ≤ z119.toInt ∧ z119.toInt ≤ 256 := by rw [ez119]; have q := nm_shl1 (x := z116) (y := z118) (by omega) (by omega) (by omega); omega
                  have rr99h112 : hs_aI h112 99 = R99 := by have q := Jh112; rw [eJ] at q; exact q.2
                  have eGz119 : z119.toInt = bo_G (R99 1) := by rw [ez119]; exact bo_Ge (by omega) (by rw [← rr99h112]; omega)
                  refine ty_ige rfl (fun c120 => ?_) (fun c120 => ?_)
                  · refine ty_inc (ls' := fun z121 => [some (.ref 97), some (.int z121), some (.int y111)]) rfl rfl (fun _ => rfl) (nm_addc nk_i1 (by omega) (by omega)) (fun z121 ez121 => ?_)
                    refine hq_p rfl rfl ?_
                    exact ihn11 ((8 - z121.toInt).toNat) (by omega) z121 (some (.int y111)) h112 rfl (by omega) (by omega) rfl (bo_pn x0n115 (by omega) (by omega) (by omega)) (by omega) Jh112
                  · refine hq_p rfl rfl ?_
                    refine hq_gR Ih112.1 rfl rfl (by decide) (by decide) rfl ?_
                    refine hq_p rfl rfl (ty_ge (n := 256) nk_s256 (fun z122 ez122 => ?_))
                    refine hq_p rfl rfl ?_
                    refine hq_p rfl rfl (ty_ge (n := 256 * y5.toInt) (nm_cmul ez122 (by omega) (by omega)) (fun z123 ez123 => ?_))
                    refine hq_p rfl rfl ?_
                    refine hq_p rfl rfl (ty_ge (n := z123.toInt + y111.toInt) (nm_add (by omega) (by omega)) (fun z124 ez124 => ?_))
                    refine hq_p rfl rfl ?_
                    refine ty_callp 1 Ih112 rfl (fun _ => rfl) rfl rfl rfl rfl (ct_138e (x0 := y111) (by omega)) (fun _ P125 => ?_)
                    obtain ⟨z126, rfl, az126, bz126, iz126⟩ := P125
                    refine hq_p rfl rfl (ty_ge (n := 2) nk_i2 (fun z127 ez127 => ?_))
                    refine ty_ile rfl (fun c128 => ?_) (fun c128 => ?_)
                    · refine hq_p rfl rfl ?_
                      refine hq_p rfl rfl ?_
                      refine hq_p rfl rfl ?_
                      refine ty_callm 0 [(3, 120, 0)] (W := ty_Wco) H Jh112 rfl (fun _ => rfl) rfl rfl rfl (hq_pre_o Ih112.1 (x := 97) (ci := 11) rfl (by decide) rfl rfl rfl rfl) (fun a k w => by unfold ty_Wy at w; unfold ty_Wco; omega) (by unfold ty_Wy ty_Wco; omega) (ct_222e (x1 := y5) (x2 := y111) (by omega) (by omega) (by omega) (by omega) (by omega)) ⟨⟨rfl, fun k => show ¬ ty_Wy 120 k by unfold ty_Wy; omega⟩, trivial⟩ (fun h130 _ Jh130 gh130 P129 => ?_)
                      obtain ⟨gh130_0, _⟩ := gh130
                      have gh130_0 : hs_aI h130 120 = hs_aI h112 120 := gh130_0
                      have ugh130_0 : hs_aI h130 120 = (hs_aI h112 120) := gh130_0.trans rfl
                      have Ih130 := H.1 h130 Jh130
                      obtain ⟨z131, rfl, az131, bz131, iz131⟩ := P129
                      have pv : bo_p (hs_aI h130 120) (bo_G (R99 1)) y5.toInt y111.toInt := by rw [ugh130_0]; exact x0n115
                      have v9 : y111.toInt = 0 → z131.toInt ≤ 9908 := iz131
                      refine ty_aS (W := ty_Wco) H Jh130 rfl rfl (by decide) (by omega) (by omega) (fun i e => by unfold ty_Wco; omega) (fun _ _ => ty_eg rfl) (by omega) (by omega) (fun e1 e2 w => by omega) (fun h132 eh132 Jh132 => ?_)
                      have Ih132 := H.1 h132 Jh132
                      have pn : bo_p (hs_aI h132 120) (bo_G (R99 1)) y5.toInt (y111.toInt + 1) := by rw [eh132, hs_aI_sA]; exact bo_ps pv (by omega) (by omega) (by omega) (by omega) (by omega) (by omega) (by omega) v9 rfl
                      refine ty_inc (ls' := fun z133 => [some (.ref 97), some (.int y5), some (.int z133)]) rfl rfl (fun _ => rfl) (nm_addc nk_i1 (by omega) (by omega)) (fun z133 ez133 => ?_)
                      refine hq_p rfl rfl ?_
                      exact ihn115 ((256 - z133.toInt).toNat) (by omega) z133 h132 rfl (by omega) (by omega) (by have q := pn; rw [show y111.toInt + 1 = z133.toInt by omega] at q; exact q) Jh132
                    · refine hq_p rfl rfl (ty_ge (n := 100000000) nk_d100000000 (fun z134 ez134 => ?_))
                      refine hq_p rfl rfl ?_
                      have pv : bo_p (hs_aI h112 120) (bo_G (R99 1)) y5.toInt y111.toInt := by exact x0n115
                      have v9 : y111.toInt = 0 → z134.toInt ≤ 9908 := fun q => by omega
                      refine ty_aS (W := ty_Wco) H Jh112 rfl rfl (by decide) (by omega) (by omega) (fun i e => by unfold ty_Wco; omega) (fun _ _ => ty_eg rfl) (by omega) (by omega) (fun e1 e2 w => by omega) (fun h135 eh135 Jh135 => ?_)
                      have Ih135 := H.1 h135 Jh135
                      have pn : bo_p (hs_aI h135 120) (bo_G (R99 1)) y5.toInt (y111.toInt + 1) := by rw [eh135, hs_aI_sA]; exact bo_ps pv (by omega) (by omega) (by omega) (by omega) (by omega) (by omega) (by omega) v9 rfl
                      refine ty_inc (ls' := fun z136 => [some (.ref 97), some (.int y5), some (.int z136)]) rfl rfl (fun _ => rfl) (nm_addc nk_i1 (by omega) (by omega)) (fun z136 ez136 => ?_)
                      refine hq_p rfl rfl ?_
                      exact ihn115 ((256 - z136.toInt).toNat) (by omega) z136 h135 rfl (by omega) (by omega) (by have q := pn; rw [show y111.toInt + 1 = z136.toInt by omega] at q; exact q) Jh135
              exact L66_n115 _ z42 h35 rfl (by omega) (by omega) (by rw [show z42.toInt = 0 by omega]; exact x0n38) Jh35
            · refine hq_p rfl rfl ?_
              refine hq_gR Ih35.1 rfl rfl (by decide) (by decide) rfl ?_
              refine hq_p rfl rfl (ty_ge (n := 8) nk_b8 (fun z137 ez137 => ?_))
              refine hq_p rfl rfl ?_
              refine hq_p rfl rfl (ty_ge (n := 8 * y5.toInt) (nm_cmul ez137 (by omega) (by omega)) (fun z138 ez138 => ?_))
              refine hq_p rfl rfl ?_
              refine hq_p rfl rfl (ty_ge (n := z138.toInt + y34.toInt) (nm_add (by omega) (by omega)) (fun z139 ez139 => ?_))
              refine hq_p rfl rfl ?_
              refine hq_p rfl rfl ?_
              refine hq_p rfl rfl ?_
              refine ty_callm 0 [(3, 120, 0)] (W := ty_Wco) H Jh35 rfl (fun _ => rfl) rfl rfl rfl (hq_pre_o Ih35.1 (x := 97) (ci := 11) rfl (by decide) rfl rfl rfl rfl) (fun a k w => by unfold ty_Wy at w; unfold ty_Wco; omega) (by unfold ty_Wy ty_Wco; omega) (ct_203 (x1 := y34) (x2 := y5) (by omega) (by omega) (by omega) (by omega) (by omega)) ⟨⟨rfl, fun k => show ¬ ty_Wy 120 k by unfold ty_Wy; omega⟩, trivial⟩ (fun h141 _ Jh141 gh141 P140 => ?_)
              obtain ⟨gh141_0, _⟩ := gh141
              have gh141_0 : hs_aI h141 120 = hs_aI h35 120 := gh141_0
              have ugh141_0 : hs_aI h141 120 = (hs_aI h35 120) := gh141_0.trans rfl
              have Ih141 := H.1 h141 Jh141
              obtain ⟨z142, rfl, az142, bz142⟩ := P140
              refine ty_aS (W := ty_Wco) H Jh141 rfl rfl (by decide) (by omega) (by omega) (fun i e => by unfold ty_Wco; omega) (fun _ _ => ty_eg rfl) (by omega) (by omega) (fun e1 e2 w => by omega) (fun h143 eh143 Jh143 => ?_)
              have vh143_120 : hs_aI h143 120 = (hs_aI h35 120) := by rw [eh143]; exact (hs_aI_ne (by decide)).trans ugh141_0
              have Ih143 := H.1 h143 Jh143
              refine hq_p rfl rfl ?_
              refine hq_gR Ih143.1 rfl rfl (by decide) (by decide) rfl ?_
              refine hq_p rfl rfl (ty_ge (n := 8) nk_b8 (fun z144 ez144 => ?_))
              refine hq_p rfl rfl ?_
              refine hq_p rfl rfl (ty_ge (n := 8 * y5.toInt) (nm_cmul ez144 (by omega) (by omega)) (fun z145 ez145 => ?_))
              refine hq_p rfl rfl ?_
              refine hq_p rfl rfl (ty_ge (n := z145.toInt + y34.toInt) (nm_add (by omega) (by omega)) (fun z146 ez146 => ?_))
              refine hq_p rfl rfl ?_
              refine hq_p rfl rfl ?_
              refine hq_p rfl rfl ?_
              refine ty_callm 0 [(3, 120, 0)] (W := ty_Wco) H Jh143 rfl (fun _ => rfl) rfl rfl rfl (hq_pre_o Ih143.1 (x := 97) (ci := 11) rfl (by decide) rfl rfl rfl rfl) (fun a k w => by unfold ty_Wy at w; unfold ty_Wco; omega) (by unfold ty_Wy ty_Wco; omega) (ct_204 (x1 := y34) (x2 := y5) (by omega) (by omega) (by omega) (by omega) (by omega)) ⟨⟨rfl, fun k => show ¬ ty_Wy 120 k by unfold ty_Wy; omega⟩, trivial⟩ (fun h148 _ Jh148 gh148 P147 => ?_)
              obtain ⟨gh148_0, _⟩ := gh148
              have gh148_0 : hs_aI h148 120 = hs_aI h143 120 := gh148_0
              have ugh148_0 : hs_aI h148 120 = (hs_aI h35 120) := gh148_0.trans vh143_120
              have Ih148 := H.1 h148 Jh148
              obtain ⟨z149, rfl, az149, bz149⟩ := P147
              refine ty_bS (W := ty_Wco) H Jh148 rfl rfl (by decide) (by omega) (by omega) (fun i e => by unfold ty_Wco; omega) (fun _ => rfl) (by omega) (fun h150 eh150 Jh150 => ?_)
              have vh150_120 : hs_aI h150 120 = (hs_aI h35 120) := by rw [eh150]; exact (hs_aI_ne (by decide)).trans ugh148_0
              have Ih150 := H.1 h150 Jh150
              have f151 : bo_p (hs_aI h150 120) (bo_G (R99 1)) y5.toInt 0 := by rw [vh150_120]; exact x0n38
              refine ty_inc (ls' := fun z152 => [some (.ref 97), some (.int y5), some (.int z152)]) rfl rfl (fun _ => rfl) (nm_addc nk_i1 (by omega) (by omega)) (fun z152 ez152 => ?_)
              refine hq_p rfl rfl ?_
              exact ihn38 ((8 - z152.toInt).toNat) (by omega) z152 h150 rfl (by omega) (by omega) f151 Jh150
        exact L14_n38 _ z15 h7 rfl (by omega) (by omega) x0n11 Jh7
  exact L2_n11 _ z1 none h rfl (by omega) (by omega) rfl (bo_p0 (by omega) (by omega)) (by omega) hJ
end CT34
