/-! CONTRACTS (printed by wip/pm/cts.py) -/
section CT16
theorem nk_d1 : ((1 : Int32)).toInt = 1 := by decide
theorem hq_pre_s {h : pm_H} {st : List Value} {na k : Nat} {cls : String} (hk : k < 23) (hl : (st.take na).getLastD .null = .retAddr k) (hw : (decide (na ≤ st.length) && pm_w8 (st.drop na)) = true) : hq_pre h st 7 na cls = true := by
  unfold hq_pre
  rw [hw, hl]
  show decide (k < 23) = true
  exact decide_eq_true hk
theorem ct_262 {X : pm_X} {d : Nat} {h : pm_H} {k0 : Nat} (hd : 1 ≤ d) (hk0 : k0 < 23) : ty_M X ty_W0 d 262 [.retAddr k0] h (ty_pi 0 0) := by
  intro J H hJ
  obtain ⟨d, rfl⟩ : ∃ e, d = e + 1 := ⟨d - 1, by omega⟩
  have I := H.1 h hJ
  have nk0 := ty_sn0 hk0
  refine hq_M.enter (q := (⟨"java/lang/String", "coder", "()B"⟩, _, 1, some .byte, 15, 1, pm_c262)) rfl rfl ?_
  show hq_W X d 15 false (some .byte) pm_c262 (0, [some (.retAddr k0)], [], h) (fun h' v => J h' ∧ (ty_pi 0 0) h' v)
  refine hq_p rfl rfl (ty_ge (n := 1) nk_d1 (fun z1 ez1 => ?_))
  refine ty_zeq rfl (fun c2 => ?_) (fun c2 => ?_)
  · exfalso; omega
  · clear c2
    refine hq_p rfl rfl ?_
    refine ty_sc0 hk0 rfl (by decide) (ty_ge (c := 0) (n := 0) nm_0 (fun z3 ez3 => ?_))
    refine hq_p rfl rfl ?_
    exact ty_rY rfl rfl (by omega) ⟨hJ, _, rfl, by omega, by omega⟩
theorem ct_263 {X : pm_X} {d : Nat} {h : pm_H} {k0 : Nat} (hd : 1 ≤ d) (hk0 : k0 < 23) : ty_M X ty_W0 d 263 [.retAddr k0] h (ty_pi 1 1) := by
  intro J H hJ
  obtain ⟨d, rfl⟩ : ∃ e, d = e + 1 := ⟨d - 1, by omega⟩
  have I := H.1 h hJ
  have nk0 := ty_sn0 hk0
  refine hq_M.enter (q := (⟨"java/lang/String", "isLatin1", "()Z"⟩, _, 1, some .boolean, 15, 1, pm_c263)) rfl rfl ?_
  show hq_W X d 15 false (some .boolean) pm_c263 (0, [some (.retAddr k0)], [], h) (fun h' v => J h' ∧ (ty_pi 1 1) h' v)
  refine hq_p rfl rfl (ty_ge (n := 1) nk_d1 (fun z1 ez1 => ?_))
  refine ty_zeq rfl (fun c2 => ?_) (fun c2 => ?_)
  · exfalso; omega
  · clear c2
    refine hq_p rfl rfl ?_
    refine ty_sc0 hk0 rfl (by decide) (ty_ge (c := 0) (n := 0) nm_0 (fun z3 ez3 => ?_))
    refine ty_zne rfl (fun c4 => ?_) (fun c4 => ?_)
    · exfalso; omega
    · refine hq_p rfl rfl (ty_ge (n := 1) nk_i1 (fun z5 ez5 => ?_))
      refine hq_p rfl rfl ?_
      exact ty_rB rfl rfl (by omega) (by omega) ⟨hJ, _, rfl, by omega, by omega⟩
theorem ct_260 {X : pm_X} {d : Nat} {h : pm_H} {k0 : Nat} (hd : 2 ≤ d) (hX : ty_SX X) (hk0 : k0 < 23) : ty_M X ty_W0 d 260 [.retAddr k0] h (fun _ v => ∃ z : Int32, v = some (.int z) ∧ (z.toInt = ty_sn k0)) := by
  intro J H hJ
  obtain ⟨d, rfl⟩ : ∃ e, d = e + 1 := ⟨d - 1, by omega⟩
  have I := H.1 h hJ
  have nk0 := ty_sn0 hk0
  refine hq_M.enter (q := (⟨"java/lang/String", "length", "()I"⟩, _, 1, some .int, 15, 1, pm_c260)) rfl rfl ?_
  show hq_W X d 15 false (some .int) pm_c260 (0, [some (.retAddr k0)], [], h) (fun h' v => J h' ∧ (fun _ v => ∃ z : Int32, v = some (.int z) ∧ (z.toInt = ty_sn k0)) h' v)
  refine hq_p rfl rfl ?_
  refine ty_sv0 hk0 rfl ?_
  refine hq_alen rfl (ty_sB hX hk0) rfl (ty_ge (n := ty_sn k0) (ty_snI hk0) (fun z1 ez1 => ?_))
  refine hq_p rfl rfl ?_
  refine ty_callp 0 I rfl (fun _ => rfl) rfl rfl rfl (hq_pre_s (k := k0) hk0 rfl rfl) (ct_262 (k0 := k0) (by omega) hk0) (fun _ P2 => ?_)
  obtain ⟨z3, rfl, az3, bz3⟩ := P2
  refine hq_p rfl rfl (ty_ge (n := z1.toInt) (nm_shr0 (by omega)) (fun z4 ez4 => ?_))
  exact hq_W.ret rfl rfl rfl ⟨hJ, _, rfl, by omega⟩
theorem ct_268 {X : pm_X} {d : Nat} {h : pm_H} {x0 : Int32} {x1 : Int32} (hd : 1 ≤ d) (ax0 : 0 ≤ x0.toInt) (bx0 : x0.toInt ≤ 2147483647) (hi : x0.toInt < x1.toInt) : ty_M X ty_W0 d 268 [.int x0, .int x1, .retAddr 300] h (ty_pi 0 2147483646) := by
  intro J H hJ
  obtain ⟨d, rfl⟩ : ∃ e, d = e + 1 := ⟨d - 1, by omega⟩
  have I := H.1 h hJ
  have ax1 := nm_lo x1
  have bx1 := nm_hi x1
  refine hq_M.enter (q := (⟨"jdk/internal/util/Preconditions", "checkIndex", "(IILjava/util/function/BiFunction;)I"⟩, _, 3, some .int, 18, 3, pm_c268)) rfl rfl ?_
  show hq_W X d 18 false (some .int) pm_c268 (0, [some (.int x0), some (.int x1), some (.retAddr 300)], [], h) (fun h' v => J h' ∧ (ty_pi 0 2147483646) h' v)
  refine hq_p rfl rfl ?_
  refine ty_zlt rfl (fun c1 => ?_) (fun c1 => ?_)
  · exfalso; omega
  · refine hq_p rfl rfl ?_
    refine hq_p rfl rfl ?_
    refine ty_ilt rfl (fun c2 => ?_) (fun c2 => ?_)
    · refine hq_p rfl rfl ?_
      exact hq_W.ret rfl rfl rfl ⟨hJ, _, rfl, by omega, by omega⟩
    · exfalso; omega
theorem ct_264 {X : pm_X} {d : Nat} {h : pm_H} {x0 : Int32} {x1 : Int32} (hd : 2 ≤ d) (ax0 : 0 ≤ x0.toInt) (bx0 : x0.toInt ≤ 2147483647) (hi : x0.toInt < x1.toInt) : ty_M X ty_W0 d 264 [.int x0, .int x1] h ty_pv := by
  intro J H hJ
  obtain ⟨d, rfl⟩ : ∃ e, d = e + 1 := ⟨d - 1, by omega⟩
  have I := H.1 h hJ
  have ax1 := nm_lo x1
  have bx1 := nm_hi x1
  refine hq_M.enter (q := (⟨"java/lang/String", "checkIndex", "(II)V"⟩, _, 2, none, 15, 2, pm_c264)) rfl rfl ?_
  show hq_W X d 15 false (none) pm_c264 (0, [some (.int x0), some (.int x1)], [], h) (fun h' v => J h' ∧ ty_pv h' v)
  refine hq_p rfl rfl ?_
  refine hq_p rfl rfl ?_
  refine hq_p rfl rfl ?_
  refine ty_callp 1 I rfl (fun _ => rfl) rfl rfl rfl rfl (ct_268 (x0 := x0) (x1 := x1) (by omega) (by omega) (by omega) (by omega)) (fun _ P1 => ?_)
  obtain ⟨z2, rfl, az2, bz2⟩ := P1
  refine hq_p rfl rfl ?_
  exact hq_W.ret rfl rfl rfl ⟨hJ, rfl⟩
theorem ct_265 {X : pm_X} {d : Nat} {h : pm_H} {k0 : Nat} {x1 : Int32} (hd : 3 ≤ d) (hX : ty_SX X) (hk0 : k0 < 23) (ax1 : 0 ≤ x1.toInt) (bx1 : x1.toInt ≤ 99) (hi : x1.toInt < ty_sn k0) : ty_M X ty_W0 d 265 [.retAddr (100 + k0), .int x1] h (ty_pi 0 255) := by
  intro J H hJ
  obtain ⟨d, rfl⟩ : ∃ e, d = e + 1 := ⟨d - 1, by omega⟩
  have I := H.1 h hJ
  have nk0 := ty_sn0 hk0
  refine hq_M.enter (q := (⟨"java/lang/StringLatin1", "charAt", "([BI)C"⟩, _, 2, some .char, 16, 2, pm_c265)) rfl rfl ?_
  show hq_W X d 16 false (some .char) pm_c265 (0, [some (.retAddr (100 + k0)), some (.int x1)], [], h) (fun h' v => J h' ∧ (ty_pi 0 255) h' v)
  refine hq_p rfl rfl ?_
  refine hq_p rfl rfl ?_
  refine hq_alen rfl (ty_sB hX hk0) rfl (ty_ge (n := ty_sn k0) (ty_snI hk0) (fun z1 ez1 => ?_))
  refine ty_callp 1 I rfl (fun _ => rfl) rfl rfl rfl rfl (ct_264 (x0 := x1) (x1 := z1) (by omega) (by omega) (by omega) (by omega)) (fun _ P2 => ?_)
  subst P2
  refine hq_p rfl rfl ?_
  refine hq_p rfl rfl ?_
  refine ty_sbl hX hk0 rfl (by omega) (by omega) (ty_ga (fun z3 az3 bz3 => ?_))
  refine hq_p rfl rfl (ty_ge (n := 255) nk_s255 (fun z4 ez4 => ?_))
  refine hq_p rfl rfl (ty_gb (c := z3 &&& z4) (lo := 0) (hi := 255) (by have q := nm_and_r (x := z3) (y := z4) (by omega); omega) (fun z5 az5 bz5 => ?_))
  refine hq_p rfl rfl (ty_ge (n := z5.toInt) (nm_i2c (by omega) (by omega)) (fun z6 ez6 => ?_))
  exact ty_rC rfl rfl (by omega) (by omega) ⟨hJ, _, rfl, by omega, by omega⟩
theorem ct_261 {X : pm_X} {d : Nat} {h : pm_H} {k0 : Nat} {x1 : Int32} (hd : 4 ≤ d) (hX : ty_SX X) (hk0 : k0 < 23) (ax1 : 0 ≤ x1.toInt) (bx1 : x1.toInt ≤ 99) (hi : x1.toInt < ty_sn k0) : ty_M X ty_W0 d 261 [.retAddr k0, .int x1] h (ty_pi 0 255) := by
  intro J H hJ
  obtain ⟨d, rfl⟩ : ∃ e, d = e + 1 := ⟨d - 1, by omega⟩
  have I := H.1 h hJ
  have nk0 := ty_sn0 hk0
  refine hq_M.enter (q := (⟨"java/lang/String", "charAt", "(I)C"⟩, _, 2, some .char, 15, 2, pm_c261)) rfl rfl ?_
  show hq_W X d 15 false (some .char) pm_c261 (0, [some (.retAddr k0), some (.int x1)], [], h) (fun h' v => J h' ∧ (ty_pi 0 255) h' v)
  refine hq_p rfl rfl ?_
  refine ty_callp 0 I rfl (fun _ => rfl) rfl rfl rfl (hq_pre_s (k := k0) hk0 rfl rfl) (ct_263 (k0 := k0) (by omega) hk0) (fun _ P1 => ?_)
  obtain ⟨z2, rfl, az2, bz2⟩ := P1
  refine ty_zeq rfl (fun c3 => ?_) (fun c3 => ?_)
  · exfalso; omega
  · clear c3
    refine hq_p rfl rfl ?_
    refine ty_sv0 hk0 rfl ?_
    refine hq_p rfl rfl ?_
    refine ty_callp 1 I rfl (fun _ => rfl) rfl rfl rfl rfl (ct_265 (k0 := k0) (x1 := x1) (by omega) hX hk0 (by omega) (by omega) (by omega)) (fun _ P4 => ?_)
    obtain ⟨z5, rfl, az5, bz5⟩ := P4
    exact ty_rC rfl rfl (by omega) (by omega) ⟨hJ, _, rfl, by omega, by omega⟩
theorem ct_40 {X : pm_X} {d : Nat} {h : pm_H} {k1 : Nat} (hd : 5 ≤ d) (hX : ty_SX X) (hk1 : k1 < 23) : ty_M X ty_W0 d 40 [.ref 62, .retAddr k1] h (ty_pi 0 1) := by
  intro J H hJ
  obtain ⟨d, rfl⟩ : ∃ e, d = e + 1 := ⟨d - 1, by omega⟩
  have I := H.1 h hJ
  have nk1 := ty_sn0 hk1
  refine hq_M.enter (q := (⟨"TrainBearers$Reader", "isHere", "(Ljava/lang/String;)Z"⟩, _, 3, some .boolean, 3, 2, pm_c40)) rfl rfl ?_
  show hq_W X d 3 false (some .boolean) pm_c40 (0, [some (.ref 62), some (.retAddr k1), none], [], h) (fun h' v => J h' ∧ (ty_pi 0 1) h' v)
  refine hq_p rfl rfl ?_
  refine ty_gI I rfl rfl (by decide) (by decide) rfl rfl (fun z1 ez1 az1 bz1 => ?_)
  refine hq_p rfl rfl ?_
  refine ty_gI I rfl rfl (by decide) (by decide) rfl rfl (fun z2 ez2 az2 bz2 => ?_)
  refine hq_p rfl rfl (ty_ge (n := z1.toInt - z2.toInt) (nm_sub (by omega) (by omega)) (fun z3 ez3 => ?_))
  refine hq_p rfl rfl ?_
  refine ty_callp 0 I rfl (fun _ => rfl) rfl rfl rfl (hq_pre_s (k := k1) hk1 rfl rfl) (ct_260 (k0 := k1) (by omega) hX hk1) (fun _ P4 => ?_)
  obtain ⟨z5, rfl, fz5⟩ := P4
  refine ty_ieq rfl (fun c6 => ?_) (fun c6 => ?_)
  · refine hq_p rfl rfl (ty_ge (n := 0) nk_i0 (fun z7 ez7 => ?_))
    refine hq_p (ls' := [some (.ref 62), some (.retAddr k1), some (.int z7)]) rfl rfl ?_
    have L20_n41 : ∀ n41 : Nat, ∀ (y39 : Int32), (100 - y39.toInt).toNat = n41 → 0 ≤ y39.toInt → y39.toInt ≤ 100 → hq_W X d 3 false (some .boolean) pm_c40 (20, [some (.ref 62), some (.retAddr k1), some (.int y39)], [], h) (fun h' v => J h' ∧ (ty_pi 0 1) h' v) := by
      intro n41
      induction n41 using Nat.strongRecOn with
      | ind n41 ihn41 =>
        intro y39 mn41 ay39 by39
        refine hq_p rfl rfl ?_
        refine hq_p rfl rfl ?_
        refine ty_callp 0 I rfl (fun _ => rfl) rfl rfl rfl (hq_pre_s (k := k1) hk1 rfl rfl) (ct_260 (k0 := k1) (by omega) hX hk1) (fun _ P42 => ?_)
        obtain ⟨z43, rfl, fz43⟩ := P42
        refine ty_ige rfl (fun c44 => ?_) (fun c44 => ?_)
        · refine hq_p rfl rfl (ty_ge (n := 1) nk_i1 (fun z45 ez45 => ?_))
          exact ty_rB rfl rfl (by omega) (by omega) ⟨hJ, _, rfl, by omega, by omega⟩
        · refine hq_p rfl rfl ?_
          refine hq_gR I.1 rfl rfl (by decide) (by decide) rfl ?_
          refine hq_p rfl rfl ?_
          refine ty_gI I rfl rfl (by decide) (by decide) rfl rfl (fun z46 ez46 az46 bz46 => ?_)
          refine hq_p rfl rfl ?_
          refine hq_p rfl rfl (ty_ge (n := z46.toInt + y39.toInt) (nm_add (by omega) (by omega)) (fun z47 ez47 => ?_))
          refine ty_aL I rfl rfl (by decide) (by omega) (by omega) (fun _ _ => ty_le rfl) (fun z48 ez48 az48 bz48 => ?_)
          refine hq_p rfl rfl ?_
          refine hq_p rfl rfl ?_
          refine ty_callp 0 I rfl (fun _ => rfl) rfl rfl rfl (hq_pre_s (k := k1) hk1 rfl rfl) (ct_261 (k0 := k1) (x1 := y39) (by omega) hX hk1 (by omega) (by omega) (by omega)) (fun _ P49 => ?_)
          obtain ⟨z50, rfl, az50, bz50⟩ := P49
          refine ty_ieq rfl (fun c51 => ?_) (fun c51 => ?_)
          · refine ty_inc (ls' := fun z52 => [some (.ref 62), some (.retAddr k1), some (.int z52)]) rfl rfl (fun _ => rfl) (nm_addc nk_i1 (by omega) (by omega)) (fun z52 ez52 => ?_)
            refine hq_p rfl rfl ?_
            exact ihn41 ((100 - z52.toInt).toNat) (by omega) z52 rfl (by omega) (by omega)
          · clear c51
            refine hq_p rfl rfl (ty_ge (n := 0) nk_i0 (fun z53 ez53 => ?_))
            exact ty_rB rfl rfl (by omega) (by omega) ⟨hJ, _, rfl, by omega, by omega⟩
    exact L20_n41 _ z7 rfl (by omega) (by omega)
  · clear c6
    refine hq_p rfl rfl (ty_ge (n := 0) nk_i0 (fun z54 ez54 => ?_))
    exact ty_rB rfl rfl (by omega) (by omega) ⟨hJ, _, rfl, by omega, by omega⟩
theorem ct_41 {X : pm_X} {d : Nat} {h : pm_H} {k1 : Nat} (hd : 5 ≤ d) (hX : ty_SX X) (hk1 : k1 < 23) : ty_M X ty_W0 d 41 [.ref 62, .retAddr k1] h (ty_pi (-1) 100) := by
  intro J H hJ
  obtain ⟨d, rfl⟩ : ∃ e, d = e + 1 := ⟨d - 1, by omega⟩
  have I := H.1 h hJ
  have nk1 := ty_sn0 hk1
  refine hq_M.enter (q := (⟨"TrainBearers$Reader", "wordHere", "(Ljava/lang/String;)I"⟩, _, 7, some .int, 3, 2, pm_c41)) rfl rfl ?_
  show hq_W X d 3 false (some .int) pm_c41 (0, [some (.ref 62), some (.retAddr k1), none, none, none, none, none], [], h) (fun h' v => J h' ∧ (ty_pi (-1) 100) h' v)
  refine hq_p rfl rfl (ty_ge (n := 0) nk_i0 (fun z1 ez1 => ?_))
  refine hq_p (ls' := [some (.ref 62), some (.retAddr k1), some (.int z1), none, none, none, none]) rfl rfl ?_
  refine hq_p rfl rfl (ty_ge (n := 0) nk_i0 (fun z2 ez2 => ?_))
  refine hq_p (ls' := [some (.ref 62), some (.retAddr k1), some (.int z1), some (.int z2), none, none, none]) rfl rfl ?_
  refine hq_p rfl rfl (ty_ge (n := 1) nk_i1 (fun z3 ez3 => ?_))
  refine hq_p (ls' := [some (.ref 62), some (.retAddr k1), some (.int z1), some (.int z2), some (.int z3), none, none]) rfl rfl ?_
  refine hq_p rfl rfl (ty_ge (n := 0) nk_i0 (fun z4 ez4 => ?_))
  refine hq_p (ls' := [some (.ref 62), some (.retAddr k1), some (.int z1), some (.int z2), some (.int z3), some (.int z4), none]) rfl rfl ?_
  have L10_n170 : ∀ n170 : Nat, ∀ (y160 : Int32) (y161 : Int32) (y162 : Int32) (y163 : Int32) (w164 : Option Value), (100 - y163.toInt).toNat = n170 → 0 ≤ y160.toInt → y160.toInt ≤ 100 → 0 ≤ y161.toInt → y161.toInt ≤ 100 → 0 ≤ y162.toInt → y162.toInt ≤ 1 → 0 ≤ y163.toInt → y163.toInt ≤ 100 → pm_two w164 = false → y160.toInt ≤ y163.toInt → y161.toInt ≤ y163.toInt → hq_W X d 3 false (some .int) pm_c41 (10, [some (.ref 62), some (.retAddr k1), some (.int y160), some (.int y161), some (.int y162), some (.int y163), w164], [], h) (fun h' v => J h' ∧ (ty_pi (-1) 100) h' v) := by
    intro n170
    induction n170 using Nat.strongRecOn with
    | ind n170 ihn170 =>
      intro y160 y161 y162 y163 w164 mn170 ay160 by160 ay161 by161 ay162 by162 ay163 by163 kw164 x0n170 x1n170
      refine hq_p rfl rfl ?_
      refine hq_p rfl rfl ?_
      refine ty_callp 0 I rfl (fun _ => rfl) rfl rfl rfl (hq_pre_s (k := k1) hk1 rfl rfl) (ct_260 (k0 := k1) (by omega) hX hk1) (fun _ P171 => ?_)
      obtain ⟨z172, rfl, fz172⟩ := P171
      refine ty_ige rfl (fun c173 => ?_) (fun c173 => ?_)
      · refine hq_p rfl rfl (ty_ge (n := -1) nk_im1 (fun z174 ez174 => ?_))
        exact hq_W.ret rfl rfl rfl ⟨hJ, _, rfl, by omega, by omega⟩
      · refine hq_p rfl rfl ?_
        refine hq_p rfl rfl ?_
        refine ty_callp 0 I rfl (fun _ => rfl) rfl rfl rfl (hq_pre_s (k := k1) hk1 rfl rfl) (ct_261 (k0 := k1) (x1 := y163) (by omega) hX hk1 (by omega) (by omega) (by omega)) (fun _ P175 => ?_)
        obtain ⟨z176, rfl, az176, bz176⟩ := P175
        refine hq_p (ls' := [some (.ref 62), some (.retAddr k1), some (.int y160), some (.int y161), some (.int y162), some (.int y163), some (.int z176)]) rfl rfl ?_
        refine hq_p rfl rfl ?_
        refine hq_p rfl rfl (ty_ge (n := 32) nk_b32 (fun z177 ez177 => ?_))
        refine ty_ieq rfl (fun c178 => ?_) (fun c178 => ?_)
        · refine hq_p rfl rfl ?_
          refine ty_zeq rfl (fun c179 => ?_) (fun c179 => ?_)
          · refine ty_inc (ls' := fun z180 => [some (.ref 62), some (.retAddr k1), some (.int z180), some (.int y161), some (.int y162), some (.int y163), some (.int z176)]) rfl rfl (fun _ => rfl) (nm_addc nk_i1 (by omega) (by omega)) (fun z180 ez180 => ?_)
            refine hq_p rfl rfl (ty_ge (n := 0) nk_i0 (fun z181 ez181 => ?_))
            refine hq_p (ls' := [some (.ref 62), some (.retAddr k1), some (.int z180), some (.int z181), some (.int y162), some (.int y163), some (.int z176)]) rfl rfl ?_
            refine hq_p rfl rfl (ty_ge (n := 1) nk_i1 (fun z182 ez182 => ?_))
            refine hq_p (ls' := [some (.ref 62), some (.retAddr k1), some (.int z180), some (.int z181), some (.int z182), some (.int y163), some (.int z176)]) rfl rfl ?_
            refine ty_inc (ls' := fun z183 => [some (.ref 62), some (.retAddr k1), some (.int z180), some (.int z181), some (.int z182), some (.int z183), some (.int z176)]) rfl rfl (fun _ => rfl) (nm_addc nk_i1 (by omega) (by omega)) (fun z183 ez183 => ?_)
            refine hq_p rfl rfl ?_
            exact ihn170 ((100 - z183.toInt).toNat) (by omega) z180 z181 z182 z183 (some (.int z176)) rfl (by omega) (by omega) (by omega) (by omega) (by omega) (by omega) (by omega) (by omega) rfl (by omega) (by omega)
          · replace c179 : 1 ≤ y162.toInt ∧ y162.toInt ≤ 1 := by omega
            refine hq_p rfl rfl ?_
            refine hq_p rfl rfl ?_
            refine ty_gI I rfl rfl (by decide) (by decide) rfl rfl (fun z184 ez184 az184 bz184 => ?_)
            refine hq_p rfl rfl ?_
            refine ty_gI I rfl rfl (by decide) (by decide) rfl rfl (fun z185 ez185 az185 bz185 => ?_)
            refine hq_p rfl rfl (ty_ge (n := z184.toInt - z185.toInt) (nm_sub (by omega) (by omega)) (fun z186 ez186 => ?_))
            refine ty_ine rfl (fun c187 => ?_) (fun c187 => ?_)
            · clear c187
              refine ty_inc (ls' := fun z188 => [some (.ref 62), some (.retAddr k1), some (.int z188), some (.int y161), some (.int y162), some (.int y163), some (.int z176)]) rfl rfl (fun _ => rfl) (nm_addc nk_i1 (by omega) (by omega)) (fun z188 ez188 => ?_)
              refine hq_p rfl rfl (ty_ge (n := 0) nk_i0 (fun z189 ez189 => ?_))
              refine hq_p (ls' := [some (.ref 62), some (.retAddr k1), some (.int z188), some (.int z189), some (.int y162), some (.int y163), some (.int z176)]) rfl rfl ?_
              refine hq_p rfl rfl (ty_ge (n := 1) nk_i1 (fun z190 ez190 => ?_))
              refine hq_p (ls' := [some (.ref 62), some (.retAddr k1), some (.int z188), some (.int z189), some (.int z190), some (.int y163), some (.int z176)]) rfl rfl ?_
              refine ty_inc (ls' := fun z191 => [some (.ref 62), some (.retAddr k1), some (.int z188), some (.int z189), some (.int z190), some (.int z191), some (.int z176)]) rfl rfl (fun _ => rfl) (nm_addc nk_i1 (by omega) (by omega)) (fun z191 ez191 => ?_)
              refine hq_p rfl rfl ?_
              exact ihn170 ((100 - z191.toInt).toNat) (by omega) z188 z189 z190 z191 (some (.int z176)) rfl (by omega) (by omega) (by omega) (by omega) (by omega) (by omega) (by omega) (by omega) rfl (by omega) (by omega)
            · refine hq_p rfl rfl ?_
              exact hq_W.ret rfl rfl rfl ⟨hJ, _, rfl, by omega, by omega⟩
        · clear c178
          refine hq_p rfl rfl ?_
          refine ty_zeq rfl (fun c192 => ?_) (fun c192 => ?_)
          · refine hq_p rfl rfl (ty_ge (n := 0) nk_i0 (fun z193 ez193 => ?_))
            refine hq_p (ls' := [some (.ref 62), some (.retAddr k1), some (.int y160), some (.int y161), some (.int z193), some (.int y163), some (.int z176)]) rfl rfl ?_
            refine ty_inc (ls' := fun z194 => [some (.ref 62), some (.retAddr k1), some (.int y160), some (.int z194), some (.int z193), some (.int y163), some (.int z176)]) rfl rfl (fun _ => rfl) (nm_addc nk_i1 (by omega) (by omega)) (fun z194 ez194 => ?_)
            refine hq_p rfl rfl ?_
            refine ty_inc (ls' := fun z195 => [some (.ref 62), some (.retAddr k1), some (.int y160), some (.int z194), some (.int z193), some (.int z195), some (.int z176)]) rfl rfl (fun _ => rfl) (nm_addc nk_i1 (by omega) (by omega)) (fun z195 ez195 => ?_)
            refine hq_p rfl rfl ?_
            exact ihn170 ((100 - z195.toInt).toNat) (by omega) y160 z194 z193 z195 (some (.int z176)) rfl (by omega) (by omega) (by omega) (by omega) (by omega) (by omega) (by omega) (by omega) rfl (by omega) (by omega)
          · replace c192 : 1 ≤ y162.toInt ∧ y162.toInt ≤ 1 := by omega
            refine hq_p rfl rfl ?_
            refine ty_gI I rfl rfl (by decide) (by decide) rfl rfl (fun z196 ez196 az196 bz196 => ?_)
            refine hq_p rfl rfl ?_
            refine hq_p rfl rfl (ty_ge (n := z196.toInt + y161.toInt) (nm_add (by omega) (by omega)) (fun z197 ez197 => ?_))
            refine hq_p rfl rfl ?_
            refine ty_gI I rfl rfl (by decide) (by decide) rfl rfl (fun z198 ez198 az198 bz198 => ?_)
            refine ty_ige rfl (fun c199 => ?_) (fun c199 => ?_)
            · refine hq_p rfl rfl (ty_ge (n := 0) nk_i0 (fun z200 ez200 => ?_))
              refine hq_p (ls' := [some (.ref 62), some (.retAddr k1), some (.int y160), some (.int y161), some (.int z200), some (.int y163), some (.int z176)]) rfl rfl ?_
              refine ty_inc (ls' := fun z201 => [some (.ref 62), some (.retAddr k1), some (.int y160), some (.int z201), some (.int z200), some (.int y163), some (.int z176)]) rfl rfl (fun _ => rfl) (nm_addc nk_i1 (by omega) (by omega)) (fun z201 ez201 => ?_)
              refine hq_p rfl rfl ?_
              refine ty_inc (ls' := fun z202 => [some (.ref 62), some (.retAddr k1), some (.int y160), some (.int z201), some (.int z200), some (.int z202), some (.int z176)]) rfl rfl (fun _ => rfl) (nm_addc nk_i1 (by omega) (by omega)) (fun z202 ez202 => ?_)
              refine hq_p rfl rfl ?_
              exact ihn170 ((100 - z202.toInt).toNat) (by omega) y160 z201 z200 z202 (some (.int z176)) rfl (by omega) (by omega) (by omega) (by omega) (by omega) (by omega) (by omega) (by omega) rfl (by omega) (by omega)
            · refine hq_p rfl rfl ?_
              refine hq_gR I.1 rfl rfl (by decide) (by decide) rfl ?_
              refine hq_p rfl rfl ?_
              refine ty_gI I rfl rfl (by decide) (by decide) rfl rfl (fun z203 ez203 az203 bz203 => ?_)
              refine hq_p rfl rfl ?_
              refine hq_p rfl rfl (ty_ge (n := z203.toInt + y161.toInt) (nm_add (by omega) (by omega)) (fun z204 ez204 => ?_))
              refine ty_aL I rfl rfl (by decide) (by omega) (by omega) (fun _ _ => ty_le rfl) (fun z205 ez205 az205 bz205 => ?_)
              refine hq_p rfl rfl ?_
              refine ty_ine rfl (fun c206 => ?_) (fun c206 => ?_)
              · clear c206
                refine hq_p rfl rfl (ty_ge (n := 0) nk_i0 (fun z207 ez207 => ?_))
                refine hq_p (ls' := [some (.ref 62), some (.retAddr k1), some (.int y160), some (.int y161), some (.int z207), some (.int y163), some (.int z176)]) rfl rfl ?_
                refine ty_inc (ls' := fun z208 => [some (.ref 62), some (.retAddr k1), some (.int y160), some (.int z208), some (.int z207), some (.int y163), some (.int z176)]) rfl rfl (fun _ => rfl) (nm_addc nk_i1 (by omega) (by omega)) (fun z208 ez208 => ?_)
                refine hq_p rfl rfl ?_
                refine ty_inc (ls' := fun z209 => [some (.ref 62), some (.retAddr k1), some (.int y160), some (.int z208), some (.int z207), some (.int z209), some (.int z176)]) rfl rfl (fun _ => rfl) (nm_addc nk_i1 (by omega) (by omega)) (fun z209 ez209 => ?_)
                refine hq_p rfl rfl ?_
                exact ihn170 ((100 - z209.toInt).toNat) (by omega) y160 z208 z207 z209 (some (.int z176)) rfl (by omega) (by omega) (by omega) (by omega) (by omega) (by omega) (by omega) (by omega) rfl (by omega) (by omega)
              · refine hq_p rfl rfl (ty_ge (n := 1) nk_i1 (fun z210 ez210 => ?_))
                refine hq_p rfl rfl ?_
                refine hq_p (ls' := [some (.ref 62), some (.retAddr k1), some (.int y160), some (.int y161), some (.int z210), some (.int y163), some (.int z176)]) rfl rfl ?_
                refine ty_inc (ls' := fun z211 => [some (.ref 62), some (.retAddr k1), some (.int y160), some (.int z211), some (.int z210), some (.int y163), some (.int z176)]) rfl rfl (fun _ => rfl) (nm_addc nk_i1 (by omega) (by omega)) (fun z211 ez211 => ?_)
                refine hq_p rfl rfl ?_
                refine ty_inc (ls' := fun z212 => [some (.ref 62), some (.retAddr k1), some (.int y160), some (.int z211), some (.int z210), some (.int z212), some (.int z176)]) rfl rfl (fun _ => rfl) (nm_addc nk_i1 (by omega) (by omega)) (fun z212 ez212 => ?_)
                refine hq_p rfl rfl ?_
                exact ihn170 ((100 - z212.toInt).toNat) (by omega) y160 z211 z210 z212 (some (.int z176)) rfl (by omega) (by omega) (by omega) (by omega) (by omega) (by omega) (by omega) (by omega) rfl (by omega) (by omega)
  exact L10_n170 _ z1 z2 z3 z4 none rfl (by omega) (by omega) (by omega) (by omega) (by omega) (by omega) (by omega) (by omega) rfl (by omega) (by omega)
theorem ct_42 {X : pm_X} {d : Nat} {h : pm_H}  (hd : 1 ≤ d)  (hT : ty_dg h (hs_fI h 62 3).toInt (hs_fI h 62 4).toInt) : ty_M X ty_W0 d 42 [.ref 62] h (ty_pi (-1) 10009) := by
  intro J H hJ
  obtain ⟨d, rfl⟩ : ∃ e, d = e + 1 := ⟨d - 1, by omega⟩
  have I := H.1 h hJ
  refine hq_M.enter (q := (⟨"TrainBearers$Reader", "numberHere", "()I"⟩, _, 3, some .int, 3, 1, pm_c42)) rfl rfl ?_
  show hq_W X d 3 false (some .int) pm_c42 (0, [some (.ref 62), none, none], [], h) (fun h' v => J h' ∧ (ty_pi (-1) 10009) h' v)
  refine hq_p rfl rfl ?_
  refine ty_gI I rfl rfl (by decide) (by decide) rfl rfl (fun z1 ez1 az1 bz1 => ?_)
  refine hq_p rfl rfl ?_
  refine ty_gI I rfl rfl (by decide) (by decide) rfl rfl (fun z2 ez2 az2 bz2 => ?_)
  refine ty_ige rfl (fun c3 => ?_) (fun c3 => ?_)
  · refine hq_p rfl rfl (ty_ge (n := -1) nk_im1 (fun z4 ez4 => ?_))
    exact hq_W.ret rfl rfl rfl ⟨hJ, _, rfl, by omega, by omega⟩
  · refine hq_p rfl rfl ?_
    refine hq_gR I.1 rfl rfl (by decide) (by decide) rfl ?_
    refine hq_p rfl rfl ?_
    refine ty_gI I rfl rfl (by decide) (by decide) rfl rfl (fun z5 ez5 az5 bz5 => ?_)
    refine ty_aL I rfl rfl (by decide) (by omega) (by omega) (fun _ _ => ty_le rfl) (fun z6 ez6 az6 bz6 => ?_)
    refine hq_p rfl rfl (ty_ge (n := 48) nk_b48 (fun z7 ez7 => ?_))
    refine ty_ilt rfl (fun c8 => ?_) (fun c8 => ?_)
    · refine hq_p rfl rfl (ty_ge (n := -1) nk_im1 (fun z9 ez9 => ?_))
      exact hq_W.ret rfl rfl rfl ⟨hJ, _, rfl, by omega, by omega⟩
    · refine hq_p rfl rfl ?_
      refine hq_gR I.1 rfl rfl (by decide) (by decide) rfl ?_
      refine hq_p rfl rfl ?_
      refine ty_gI I rfl rfl (by decide) (by decide) rfl rfl (fun z10 ez10 az10 bz10 => ?_)
      refine ty_aL I rfl rfl (by decide) (by omega) (by omega) (fun _ _ => ty_le rfl) (fun z11 ez11 az11 bz11 => ?_)
      refine hq_p rfl rfl (ty_ge (n := 57) nk_b57 (fun z12 ez12 => ?_))
      refine ty_ile rfl (fun c13 => ?_) (fun c13 => ?_)
      · have d1 : 48 ≤ (hs_aI h 63 (hs_fI h 62 3).toInt.toNat).toInt := by rw [← ez5, ← ez6]; omega
        have d2 : (hs_aI h 63 (hs_fI h 62 3).toInt.toNat).toInt ≤ 57 := by rw [← ez10, ← ez11]; omega
        refine hq_p rfl rfl (ty_ge (n := 0) nk_i0 (fun z14 ez14 => ?_))
        refine hq_p (ls' := [some (.ref 62), some (.int z14), none]) rfl rfl ?_
        refine hq_p rfl rfl ?_
        refine ty_gI I rfl rfl (by decide) (by decide) rfl rfl (fun z15 ez15 az15 bz15 => ?_)
        refine hq_p (ls' := [some (.ref 62), some (.int z14), some (.int z15)]) rfl rfl ?_
        have L48_n24 : ∀ n24 : Nat, ∀ (y20 : Int32) (y21 : Int32), (400 - y21.toInt).toNat = n24 → 0 ≤ y20.toInt → y20.toInt ≤ 10009 → 0 ≤ y21.toInt → y21.toInt ≤ 400 → (hs_fI h 62 3).toInt ≤ y21.toInt → hq_W X d 3 false (some .int) pm_c42 (48, [some (.ref 62), some (.int y20), some (.int y21)], [], h) (fun h' v => J h' ∧ (ty_pi (-1) 10009) h' v) := by
          intro n24
          induction n24 using Nat.strongRecOn with
          | ind n24 ihn24 =>
            intro y20 y21 mn24 ay20 by20 ay21 by21 x0n24
            refine hq_p rfl rfl ?_
            refine hq_p rfl rfl ?_
            refine ty_gI I rfl rfl (by decide) (by decide) rfl rfl (fun z25 ez25 az25 bz25 => ?_)
            refine ty_ige rfl (fun c26 => ?_) (fun c26 => ?_)
            · refine hq_p rfl rfl ?_
              exact hq_W.ret rfl rfl rfl ⟨hJ, _, rfl, by omega, by omega⟩
            · refine hq_p rfl rfl ?_
              refine hq_p rfl rfl (ty_ge (n := 1000) nk_s1000 (fun z27 ez27 => ?_))
              refine ty_igt rfl (fun c28 => ?_) (fun c28 => ?_)
              · refine hq_p rfl rfl ?_
                exact hq_W.ret rfl rfl rfl ⟨hJ, _, rfl, by omega, by omega⟩
              · refine hq_p rfl rfl ?_
                refine hq_p rfl rfl (ty_ge (n := 10) nk_b10 (fun z29 ez29 => ?_))
                refine hq_p rfl rfl (ty_ge (n := 10 * y20.toInt) (nm_mulc ez29 (by omega) (by omega)) (fun z30 ez30 => ?_))
                refine hq_p rfl rfl ?_
                refine hq_gR I.1 rfl rfl (by decide) (by decide) rfl ?_
                refine hq_p rfl rfl ?_
                refine ty_aL I rfl rfl (by decide) (by omega) (by omega) (fun _ _ => ty_le rfl) (fun z31 ez31 az31 bz31 => ?_)
                have dgz31 := hT d1 d2 y21.toInt.toNat (by omega) (by omega)
                refine hq_p rfl rfl (ty_ge (n := z30.toInt + z31.toInt) (nm_add (by omega) (by omega)) (fun z32 ez32 => ?_))
                refine hq_p rfl rfl (ty_ge (n := 48) nk_b48 (fun z33 ez33 => ?_))
                refine hq_p rfl rfl (ty_ge (n := z32.toInt - z33.toInt) (nm_sub (by omega) (by omega)) (fun z34 ez34 => ?_))
                refine hq_p (ls' := [some (.ref 62), some (.int z34), some (.int y21)]) rfl rfl ?_
                refine ty_inc (ls' := fun z35 => [some (.ref 62), some (.int z34), some (.int z35)]) rfl rfl (fun _ => rfl) (nm_addc nk_i1 (by omega) (by omega)) (fun z35 ez35 => ?_)
                refine hq_p rfl rfl ?_
                exact ihn24 ((400 - z35.toInt).toNat) (by omega) z34 z35 rfl (by omega) (by omega) (by omega) (by omega) (by omega)
        exact L48_n24 _ z14 z15 rfl (by omega) (by omega) (by omega) (by omega) (by omega)
      · refine hq_p rfl rfl (ty_ge (n := -1) nk_im1 (fun z36 ez36 => ?_))
        exact hq_W.ret rfl rfl rfl ⟨hJ, _, rfl, by omega, by omega⟩
theorem ct_33 {X : pm_X} {d : Nat} {h : pm_H} {x1 : Int32} (hd : 6 ≤ d) (hX : ty_SX X) (ax1 : 0 ≤ x1.toInt) (bx1 : x1.toInt ≤ 3) : ty_M X ty_W0 d 33 [.ref 62, .int x1] h (ty_pi (-1) 10) := by
  intro J H hJ
  obtain ⟨d, rfl⟩ : ∃ e, d = e + 1 := ⟨d - 1, by omega⟩
  have I := H.1 h hJ
  refine hq_M.enter (q := (⟨"TrainBearers$Reader", "operatorHere", "(I)I"⟩, _, 2, some .int, 3, 2, pm_c33)) rfl rfl ?_
  show hq_W X d 3 false (some .int) pm_c33 (0, [some (.ref 62), some (.int x1)], [], h) (fun h' v => J h' ∧ (ty_pi (-1) 10) h' v)
  refine hq_p rfl rfl ?_
  rcases (show x1.toInt = 0 ∨ x1.toInt = 1 ∨ x1.toInt = 2 ∨ (x1.toInt < 0 ∨ 2 < x1.toInt) by omega) with c1 | c1 | c1 | c1
  · refine ty_ts (n := 0) rfl c1 rfl rfl (by decide) ?_
    refine hq_p rfl rfl ?_
    refine hq_p rfl rfl ?_
    refine ty_callp 0 I rfl (fun _ => rfl) rfl rfl rfl (hq_pre_o I.1 (x := 62) (ci := 3) rfl (by decide) rfl rfl rfl rfl) (ct_40 (k1 := 11) (by omega) hX (by decide)) (fun _ P2 => ?_)
    obtain ⟨z3, rfl, az3, bz3⟩ := P2
    refine ty_zeq rfl (fun c4 => ?_) (fun c4 => ?_)
    · refine hq_p rfl rfl (ty_ge (n := -1) nk_im1 (fun z5 ez5 => ?_))
      exact hq_W.ret rfl rfl rfl ⟨hJ, _, rfl, by omega, by omega⟩
    · replace c4 : 1 ≤ z3.toInt ∧ z3.toInt ≤ 1 := by omega
      refine hq_p rfl rfl (ty_ge (n := 5) nk_i5 (fun z6 ez6 => ?_))
      refine hq_p rfl rfl ?_
      exact hq_W.ret rfl rfl rfl ⟨hJ, _, rfl, by omega, by omega⟩
  · refine ty_ts (n := 1) rfl c1 rfl rfl (by decide) ?_
    refine hq_p rfl rfl ?_
    refine hq_p rfl rfl ?_
    refine ty_callp 0 I rfl (fun _ => rfl) rfl rfl rfl (hq_pre_o I.1 (x := 62) (ci := 3) rfl (by decide) rfl rfl rfl rfl) (ct_40 (k1 := 12) (by omega) hX (by decide)) (fun _ P7 => ?_)
    obtain ⟨z8, rfl, az8, bz8⟩ := P7
    refine ty_zeq rfl (fun c9 => ?_) (fun c9 => ?_)
    · refine hq_p rfl rfl (ty_ge (n := -1) nk_im1 (fun z10 ez10 => ?_))
      exact hq_W.ret rfl rfl rfl ⟨hJ, _, rfl, by omega, by omega⟩
    · replace c9 : 1 ≤ z8.toInt ∧ z8.toInt ≤ 1 := by omega
      refine hq_p rfl rfl (ty_ge (n := 4) nk_i4 (fun z11 ez11 => ?_))
      refine hq_p rfl rfl ?_
      exact hq_W.ret rfl rfl rfl ⟨hJ, _, rfl, by omega, by omega⟩
  · refine ty_ts (n := 2) rfl c1 rfl rfl (by decide) ?_
    refine hq_p rfl rfl ?_
    refine hq_p rfl rfl ?_
    refine ty_callp 0 I rfl (fun _ => rfl) rfl rfl rfl (hq_pre_o I.1 (x := 62) (ci := 3) rfl (by decide) rfl rfl rfl rfl) (ct_40 (k1 := 13) (by omega) hX (by decide)) (fun _ P12 => ?_)
    obtain ⟨z13, rfl, az13, bz13⟩ := P12
    refine ty_zeq rfl (fun c14 => ?_) (fun c14 => ?_)
    · refine hq_p rfl rfl ?_
      refine hq_p rfl rfl ?_
      refine ty_callp 0 I rfl (fun _ => rfl) rfl rfl rfl (hq_pre_o I.1 (x := 62) (ci := 3) rfl (by decide) rfl rfl rfl rfl) (ct_40 (k1 := 14) (by omega) hX (by decide)) (fun _ P15 => ?_)
      obtain ⟨z16, rfl, az16, bz16⟩ := P15
      refine ty_zeq rfl (fun c17 => ?_) (fun c17 => ?_)
      · refine hq_p rfl rfl (ty_ge (n := -1) nk_im1 (fun z18 ez18 => ?_))
        exact hq_W.ret rfl rfl rfl ⟨hJ, _, rfl, by omega, by omega⟩
      · replace c17 : 1 ≤ z16.toInt ∧ z16.toInt ≤ 1 := by omega
        refine hq_p rfl rfl (ty_ge (n := 7) nk_b7 (fun z19 ez19 => ?_))
        refine hq_p rfl rfl ?_
        exact hq_W.ret rfl rfl rfl ⟨hJ, _, rfl, by omega, by omega⟩
    · replace c14 : 1 ≤ z13.toInt ∧ z13.toInt ≤ 1 := by omega
      refine hq_p rfl rfl (ty_ge (n := 6) nk_b6 (fun z20 ez20 => ?_))
      refine hq_p rfl rfl ?_
      exact hq_W.ret rfl rfl rfl ⟨hJ, _, rfl, by omega, by omega⟩
  · refine ty_td rfl c1 (by decide) ?_
    refine hq_p rfl rfl ?_
    refine hq_p rfl rfl ?_
    refine ty_callp 0 I rfl (fun _ => rfl) rfl rfl rfl (hq_pre_o I.1 (x := 62) (ci := 3) rfl (by decide) rfl rfl rfl rfl) (ct_40 (k1 := 15) (by omega) hX (by decide)) (fun _ P21 => ?_)
    obtain ⟨z22, rfl, az22, bz22⟩ := P21
    refine ty_zeq rfl (fun c23 => ?_) (fun c23 => ?_)
    · refine hq_p rfl rfl ?_
      refine hq_p rfl rfl ?_
      refine ty_callp 0 I rfl (fun _ => rfl) rfl rfl rfl (hq_pre_o I.1 (x := 62) (ci := 3) rfl (by decide) rfl rfl rfl rfl) (ct_40 (k1 := 16) (by omega) hX (by decide)) (fun _ P24 => ?_)
      obtain ⟨z25, rfl, az25, bz25⟩ := P24
      refine ty_zeq rfl (fun c26 => ?_) (fun c26 => ?_)
      · refine hq_p rfl rfl ?_
        refine hq_p rfl rfl ?_
        refine ty_callp 0 I rfl (fun _ => rfl) rfl rfl rfl (hq_pre_o I.1 (x := 62) (ci := 3) rfl (by decide) rfl rfl rfl rfl) (ct_40 (k1 := 17) (by omega) hX (by decide)) (fun _ P27 => ?_)
        obtain ⟨z28, rfl, az28, bz28⟩ := P27
        refine ty_zeq rfl (fun c29 => ?_) (fun c29 => ?_)
        · refine hq_p rfl rfl (ty_ge (n := -1) nk_im1 (fun z30 ez30 => ?_))
          exact hq_W.ret rfl rfl rfl ⟨hJ, _, rfl, by omega, by omega⟩
        · replace c29 : 1 ≤ z28.toInt ∧ z28.toInt ≤ 1 := by omega
          refine hq_p rfl rfl (ty_ge (n := 10) nk_b10 (fun z31 ez31 => ?_))
          refine hq_p rfl rfl ?_
          exact hq_W.ret rfl rfl rfl ⟨hJ, _, rfl, by omega, by omega⟩
      · replace c26 : 1 ≤ z25.toInt ∧ z25.toInt ≤ 1 := by omega
        refine hq_p rfl rfl (ty_ge (n := 9) nk_b9 (fun z32 ez32 => ?_))
        refine hq_p rfl rfl ?_
        exact hq_W.ret rfl rfl rfl ⟨hJ, _, rfl, by omega, by omega⟩
    · replace c23 : 1 ≤ z22.toInt ∧ z22.toInt ≤ 1 := by omega
      refine hq_p rfl rfl (ty_ge (n := 8) nk_b8 (fun z33 ez33 => ?_))
      refine hq_p rfl rfl ?_
      exact hq_W.ret rfl rfl rfl ⟨hJ, _, rfl, by omega, by omega⟩
end CT16
