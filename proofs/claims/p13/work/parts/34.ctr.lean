/-! CONTRACTS (printed by wip/pm/cts.py) -/
section CT18
theorem ct_39 {X : pm_X} {d : Nat} {h : pm_H} {k1 : Nat} (hd : 6 ≤ d) (hX : ty_SX X) (hk1 : k1 < 23) : ty_M X ty_Wr d 39 [.ref 62, .retAddr k1] h (ty_pi 0 1) := by
  intro J H hJ
  obtain ⟨d, rfl⟩ : ∃ e, d = e + 1 := ⟨d - 1, by omega⟩
  have I := H.1 h hJ
  have nk1 := ty_sn0 hk1
  refine hq_M.enter (q := (⟨"TrainBearers$Reader", "pass", "(Ljava/lang/String;)Z"⟩, _, 2, some .boolean, 3, 2, pm_c39)) rfl rfl ?_
  show hq_W X d 3 false (some .boolean) pm_c39 (0, [some (.ref 62), some (.retAddr k1)], [], h) (fun h' v => J h' ∧ (ty_pi 0 1) h' v)
  refine hq_p rfl rfl ?_
  refine hq_p rfl rfl ?_
  refine ty_callp 0 I rfl (fun _ => rfl) rfl rfl rfl (hq_pre_o I.1 (x := 62) (ci := 3) rfl (by decide) rfl rfl rfl rfl) (ct_40 (k1 := k1) (by omega) hX hk1) (fun _ P1 => ?_)
  obtain ⟨z2, rfl, az2, bz2⟩ := P1
  refine ty_zne rfl (fun c3 => ?_) (fun c3 => ?_)
  · replace c3 : 1 ≤ z2.toInt ∧ z2.toInt ≤ 1 := by omega
    refine hq_p rfl rfl ?_
    refine ty_callj 0 (W := ty_Wr) H hJ rfl (fun _ => rfl) rfl rfl rfl (hq_pre_o I.1 (x := 62) (ci := 3) rfl (by decide) rfl rfl rfl rfl) (fun _ _ w => w) (fun _ w => w) (ct_38 (by omega)) (fun h5 _ Jh5 P4 => ?_)
    have Ih5 := H.1 h5 Jh5
    subst P4
    refine hq_p rfl rfl (ty_ge (n := 1) nk_i1 (fun z6 ez6 => ?_))
    exact ty_rB rfl rfl (by omega) (by omega) ⟨Jh5, _, rfl, by omega, by omega⟩
  · refine hq_p rfl rfl (ty_ge (n := 0) nk_i0 (fun z7 ez7 => ?_))
    exact ty_rB rfl rfl (by omega) (by omega) ⟨hJ, _, rfl, by omega, by omega⟩
theorem ct_36 {X : pm_X} {d : Nat} {h : pm_H} {x1 : Int32} (hd : 2 ≤ d) (ax1 : 0 ≤ x1.toInt) (bx1 : x1.toInt ≤ 8) : ty_M X ty_Wr d 36 [.ref 62, .int x1] h (ty_pb (x1.toInt ≤ 7)) := by
  intro J H hJ
  obtain ⟨d, rfl⟩ : ∃ e, d = e + 1 := ⟨d - 1, by omega⟩
  have I := H.1 h hJ
  refine hq_M.enter (q := (⟨"TrainBearers$Reader", "open", "(I)Z"⟩, _, 2, some .boolean, 3, 2, pm_c36)) rfl rfl ?_
  show hq_W X d 3 false (some .boolean) pm_c36 (0, [some (.ref 62), some (.int x1)], [], h) (fun h' v => J h' ∧ (ty_pb (x1.toInt ≤ 7)) h' v)
  refine hq_p rfl rfl ?_
  refine hq_p rfl rfl (ty_ge (n := 8) nk_b8 (fun z1 ez1 => ?_))
  refine ty_ilt rfl (fun c2 => ?_) (fun c2 => ?_)
  · refine hq_p rfl rfl ?_
    refine ty_callj 0 (W := ty_Wr) H hJ rfl (fun _ => rfl) rfl rfl rfl (hq_pre_o I.1 (x := 62) (ci := 3) rfl (by decide) rfl rfl rfl rfl) (fun _ _ w => w) (fun _ w => w) (ct_38 (by omega)) (fun h4 _ Jh4 P3 => ?_)
    have Ih4 := H.1 h4 Jh4
    subst P3
    refine hq_p rfl rfl (ty_ge (n := 1) nk_i1 (fun z5 ez5 => ?_))
    exact ty_rB rfl rfl (by omega) (by omega) ⟨Jh4, _, rfl, by omega, by omega, fun q => by omega⟩
  · refine hq_p rfl rfl (ty_ge (n := 0) nk_i0 (fun z6 ez6 => ?_))
    exact ty_rB rfl rfl (by omega) (by omega) ⟨hJ, _, rfl, by omega, by omega, fun q => by omega⟩
set_option maxHeartbeats 20000000 in
theorem ct_37 {X : pm_X} {d : Nat} {h : pm_H}  (hd : 6 ≤ d) (hX : ty_SX X)  : ty_M X ty_Wr d 37 [.ref 62] h (ty_pi 0 1) := by
  intro J H hJ
  obtain ⟨d, rfl⟩ : ∃ e, d = e + 1 := ⟨d - 1, by omega⟩
  have I := H.1 h hJ
  refine hq_M.enter (q := (⟨"TrainBearers$Reader", "numberOrWord", "()Z"⟩, _, 4, some .boolean, 3, 1, pm_c37)) rfl rfl ?_
  show hq_W X d 3 false (some .boolean) pm_c37 (0, [some (.ref 62), none, none, none], [], h) (fun h' v => J h' ∧ (ty_pi 0 1) h' v)
  refine hq_p rfl rfl ?_
  refine ty_callp 0 I rfl (fun _ => rfl) rfl rfl rfl (hq_pre_o I.1 (x := 62) (ci := 3) rfl (by decide) rfl rfl rfl rfl) (ct_42 (by omega) ((H.2.2.2.2.2.2.2.1 (by unfold ty_Wr; omega)).1 h hJ)) (fun _ P1 => ?_)
  obtain ⟨z2, rfl, az2, bz2⟩ := P1
  refine hq_p (ls' := [some (.ref 62), some (.int z2), none, none]) rfl rfl ?_
  refine hq_p rfl rfl ?_
  refine hq_p rfl rfl ?_
  refine ty_gB I rfl rfl (by decide) (by decide) rfl (fun z3 ez3 az3 bz3 => ?_)
  refine ty_zeq rfl (fun c4 => ?_) (fun c4 => ?_)
  · refine hq_p rfl rfl ?_
    refine ty_callp 0 I rfl (fun _ => rfl) rfl rfl rfl (hq_pre_o I.1 (x := 62) (ci := 3) rfl (by decide) rfl rfl rfl rfl) (ct_41 (k1 := 10) (by omega) hX (by decide)) (fun _ P5 => ?_)
    obtain ⟨z6, rfl, az6, bz6⟩ := P5
    refine hq_p (ls' := [some (.ref 62), some (.int z2), some (.int z6), none]) rfl rfl ?_
    refine hq_p rfl rfl ?_
    refine hq_p rfl rfl (ty_ge (n := -1) nk_im1 (fun z7 ez7 => ?_))
    refine ty_ine rfl (fun c8 => ?_) (fun c8 => ?_)
    · replace c8 : 0 ≤ z2.toInt ∧ z2.toInt ≤ 10009 := by omega
      refine hq_p rfl rfl ?_
      refine hq_p rfl rfl (ty_ge (n := 1000) nk_s1000 (fun z9 ez9 => ?_))
      refine ty_igt rfl (fun c10 => ?_) (fun c10 => ?_)
      · refine hq_p rfl rfl (ty_ge (n := 0) nk_i0 (fun z11 ez11 => ?_))
        exact ty_rB rfl rfl (by omega) (by omega) ⟨hJ, _, rfl, by omega, by omega⟩
      · refine hq_p rfl rfl ?_
        refine ty_gI I rfl rfl (by decide) (by decide) rfl rfl (fun z12 ez12 az12 bz12 => ?_)
        refine hq_p rfl rfl (ty_ge (n := 50) nk_b50 (fun z13 ez13 => ?_))
        refine ty_ilt rfl (fun c14 => ?_) (fun c14 => ?_)
        · refine hq_p rfl rfl ?_
          refine hq_p rfl rfl ?_
          refine ty_gI I rfl rfl (by decide) (by decide) rfl rfl (fun z15 ez15 az15 bz15 => ?_)
          refine hq_p rfl rfl (ty_ge (n := 1) nk_i1 (fun z16 ez16 => ?_))
          refine hq_p rfl rfl (ty_ge (n := z15.toInt + z16.toInt) (nm_add (by omega) (by omega)) (fun z17 ez17 => ?_))
          refine ty_pI (W := ty_Wr) H hJ rfl rfl (by decide) rfl rfl (by unfold ty_Wr; omega) rfl (by omega) (by omega) (fun h18 eh18 Jh18 => ?_)
          have wh18 : (hs_fI h18 62 5).toInt = z17.toInt := by rw [eh18]; exact congrArg Int32.toInt (ty_fI_eq I.1 rfl (by decide) rfl)
          have Ih18 := H.1 h18 Jh18
          refine hq_p rfl rfl ?_
          refine ty_callj 0 (W := ty_Wr) H Jh18 rfl (fun _ => rfl) rfl rfl rfl (hq_pre_o Ih18.1 (x := 62) (ci := 3) rfl (by decide) rfl rfl rfl rfl) (fun _ _ w => w) (fun _ w => w) (ct_38 (by omega)) (fun h20 _ Jh20 P19 => ?_)
          have Ih20 := H.1 h20 Jh20
          subst P19
          refine hq_p rfl rfl ?_
          refine hq_p rfl rfl (ty_ge (n := -1) nk_im1 (fun z21 ez21 => ?_))
          refine ty_ieq rfl (fun c22 => ?_) (fun c22 => ?_)
          · exfalso; omega
          · clear c22
            refine hq_p rfl rfl ?_
            refine hq_gR Ih20.1 rfl rfl (by decide) (by decide) rfl ?_
            refine hq_p rfl rfl (ty_ge (n := 1) nk_i1 (fun z23 ez23 => ?_))
            refine hq_p rfl rfl ?_
            refine ty_callj 0 (W := ty_Wr) H Jh20 rfl (fun _ => rfl) rfl rfl rfl (hq_pre_o Ih20.1 (x := 64) (ci := 7) rfl (by decide) rfl rfl rfl rfl) (fun _ _ w => w) (fun _ w => w) (ct_63 (x1 := z23) (x2 := z2) (by omega) (by omega) (by omega)) (fun h25 _ Jh25 P24 => ?_)
            have Ih25 := H.1 h25 Jh25
            subst P24
            refine hq_p rfl rfl ?_
            refine hq_p rfl rfl (ty_ge (n := 1) nk_i1 (fun z26 ez26 => ?_))
            exact ty_rB rfl rfl (by omega) (by omega) ⟨Jh25, _, rfl, by omega, by omega⟩
        · refine hq_p rfl rfl (ty_ge (n := 0) nk_i0 (fun z27 ez27 => ?_))
          exact ty_rB rfl rfl (by omega) (by omega) ⟨hJ, _, rfl, by omega, by omega⟩
    · refine hq_p rfl rfl ?_
      refine hq_p rfl rfl (ty_ge (n := -1) nk_im1 (fun z28 ez28 => ?_))
      refine ty_ieq rfl (fun c29 => ?_) (fun c29 => ?_)
      · refine hq_p rfl rfl (ty_ge (n := 0) nk_i0 (fun z30 ez30 => ?_))
        exact ty_rB rfl rfl (by omega) (by omega) ⟨hJ, _, rfl, by omega, by omega⟩
      · replace c29 : 0 ≤ z6.toInt ∧ z6.toInt ≤ 100 := by omega
        refine hq_p rfl rfl ?_
        refine hq_p rfl rfl (ty_ge (n := 1000) nk_s1000 (fun z31 ez31 => ?_))
        refine ty_igt rfl (fun c32 => ?_) (fun c32 => ?_)
        · exfalso; omega
        · refine hq_p rfl rfl ?_
          refine ty_gI I rfl rfl (by decide) (by decide) rfl rfl (fun z33 ez33 az33 bz33 => ?_)
          refine hq_p rfl rfl (ty_ge (n := 50) nk_b50 (fun z34 ez34 => ?_))
          refine ty_ilt rfl (fun c35 => ?_) (fun c35 => ?_)
          · refine hq_p rfl rfl ?_
            refine hq_p rfl rfl ?_
            refine ty_gI I rfl rfl (by decide) (by decide) rfl rfl (fun z36 ez36 az36 bz36 => ?_)
            refine hq_p rfl rfl (ty_ge (n := 1) nk_i1 (fun z37 ez37 => ?_))
            refine hq_p rfl rfl (ty_ge (n := z36.toInt + z37.toInt) (nm_add (by omega) (by omega)) (fun z38 ez38 => ?_))
            refine ty_pI (W := ty_Wr) H hJ rfl rfl (by decide) rfl rfl (by unfold ty_Wr; omega) rfl (by omega) (by omega) (fun h39 eh39 Jh39 => ?_)
            have wh39 : (hs_fI h39 62 5).toInt = z38.toInt := by rw [eh39]; exact congrArg Int32.toInt (ty_fI_eq I.1 rfl (by decide) rfl)
            have Ih39 := H.1 h39 Jh39
            refine hq_p rfl rfl ?_
            refine ty_callj 0 (W := ty_Wr) H Jh39 rfl (fun _ => rfl) rfl rfl rfl (hq_pre_o Ih39.1 (x := 62) (ci := 3) rfl (by decide) rfl rfl rfl rfl) (fun _ _ w => w) (fun _ w => w) (ct_38 (by omega)) (fun h41 _ Jh41 P40 => ?_)
            have Ih41 := H.1 h41 Jh41
            subst P40
            refine hq_p rfl rfl ?_
            refine hq_p rfl rfl (ty_ge (n := -1) nk_im1 (fun z42 ez42 => ?_))
            refine ty_ieq rfl (fun c43 => ?_) (fun c43 => ?_)
            · refine hq_p rfl rfl ?_
              refine ty_gB Ih41 rfl rfl (by decide) (by decide) rfl (fun z44 ez44 az44 bz44 => ?_)
              refine ty_zne rfl (fun c45 => ?_) (fun c45 => ?_)
              · replace c45 : 1 ≤ z44.toInt ∧ z44.toInt ≤ 1 := by omega
                refine hq_p rfl rfl ?_
                refine hq_gR Ih41.1 rfl rfl (by decide) (by decide) rfl ?_
                refine hq_p rfl rfl (ty_ge (n := 2) nk_i2 (fun z46 ez46 => ?_))
                refine hq_p rfl rfl ?_
                refine ty_callj 0 (W := ty_Wr) H Jh41 rfl (fun _ => rfl) rfl rfl rfl (hq_pre_o Ih41.1 (x := 64) (ci := 7) rfl (by decide) rfl rfl rfl rfl) (fun _ _ w => w) (fun _ w => w) (ct_63 (x1 := z46) (x2 := z6) (by omega) (by omega) (by omega)) (fun h48 _ Jh48 P47 => ?_)
                have Ih48 := H.1 h48 Jh48
                subst P47
                refine hq_p rfl rfl ?_
                refine hq_p rfl rfl (ty_ge (n := 1) nk_i1 (fun z49 ez49 => ?_))
                exact ty_rB rfl rfl (by omega) (by omega) ⟨Jh48, _, rfl, by omega, by omega⟩
              · refine hq_p rfl rfl ?_
                refine hq_p rfl rfl (ty_ge (n := 5) nk_i5 (fun z50 ez50 => ?_))
                refine ty_ige rfl (fun c51 => ?_) (fun c51 => ?_)
                · refine hq_p rfl rfl ?_
                  refine ty_callp 0 Ih41 rfl (fun _ => rfl) rfl rfl rfl (hq_pre_o Ih41.1 (x := 62) (ci := 3) rfl (by decide) rfl rfl rfl rfl) (ct_42 (by omega) ((H.2.2.2.2.2.2.2.1 (by unfold ty_Wr; omega)).1 h41 Jh41)) (fun _ P52 => ?_)
                  obtain ⟨z53, rfl, az53, bz53⟩ := P52
                  refine hq_p (ls' := [some (.ref 62), some (.int z2), some (.int z6), some (.int z53)]) rfl rfl ?_
                  refine hq_p rfl rfl ?_
                  refine ty_zlt rfl (fun c54 => ?_) (fun c54 => ?_)
                  · refine hq_p rfl rfl (ty_ge (n := 0) nk_i0 (fun z55 ez55 => ?_))
                    exact ty_rB rfl rfl (by omega) (by omega) ⟨Jh41, _, rfl, by omega, by omega⟩
                  · refine hq_p rfl rfl ?_
                    refine hq_p rfl rfl (ty_ge (n := 8) nk_b8 (fun z56 ez56 => ?_))
                    refine ty_ilt rfl (fun c57 => ?_) (fun c57 => ?_)
                    · refine hq_p rfl rfl ?_
                      refine hq_gR Ih41.1 rfl rfl (by decide) (by decide) rfl ?_
                      refine hq_p rfl rfl ?_
                      refine hq_p rfl rfl (ty_ge (n := 5) nk_i5 (fun z58 ez58 => ?_))
                      refine ty_ine rfl (fun c59 => ?_) (fun c59 => ?_)
                      · replace c59 : 6 ≤ z6.toInt ∧ z6.toInt ≤ 100 := by omega
                        refine hq_p rfl rfl (ty_ge (n := 0) nk_i0 (fun z60 ez60 => ?_))
                        refine hq_p rfl rfl ?_
                        refine ty_callj 0 (W := ty_Wr) H Jh41 rfl (fun _ => rfl) rfl rfl rfl (hq_pre_o Ih41.1 (x := 64) (ci := 7) rfl (by decide) rfl rfl rfl rfl) (fun _ _ w => w) (fun _ w => w) (ct_64 (x1 := z60) (x2 := z53) (by omega) (by omega) (by omega) (by omega) (by omega)) (fun h62 _ Jh62 P61 => ?_)
                        have Ih62 := H.1 h62 Jh62
                        subst P61
                        refine hq_p rfl rfl ?_
                        refine ty_callj 0 (W := ty_Wr) H Jh62 rfl (fun _ => rfl) rfl rfl rfl (hq_pre_o Ih62.1 (x := 62) (ci := 3) rfl (by decide) rfl rfl rfl rfl) (fun _ _ w => w) (fun _ w => w) (ct_38 (by omega)) (fun h64 _ Jh64 P63 => ?_)
                        have Ih64 := H.1 h64 Jh64
                        subst P63
                        refine hq_p rfl rfl (ty_ge (n := 1) nk_i1 (fun z65 ez65 => ?_))
                        exact ty_rB rfl rfl (by omega) (by omega) ⟨Jh64, _, rfl, by omega, by omega⟩
                      · refine hq_p rfl rfl (ty_ge (n := 1) nk_i1 (fun z66 ez66 => ?_))
                        refine hq_p rfl rfl ?_
                        refine hq_p rfl rfl ?_
                        refine ty_callj 0 (W := ty_Wr) H Jh41 rfl (fun _ => rfl) rfl rfl rfl (hq_pre_o Ih41.1 (x := 64) (ci := 7) rfl (by decide) rfl rfl rfl rfl) (fun _ _ w => w) (fun _ w => w) (ct_64 (x1 := z66) (x2 := z53) (by omega) (by omega) (by omega) (by omega) (by omega)) (fun h68 _ Jh68 P67 => ?_)
                        have Ih68 := H.1 h68 Jh68
                        subst P67
                        refine hq_p rfl rfl ?_
                        refine ty_callj 0 (W := ty_Wr) H Jh68 rfl (fun _ => rfl) rfl rfl rfl (hq_pre_o Ih68.1 (x := 62) (ci := 3) rfl (by decide) rfl rfl rfl rfl) (fun _ _ w => w) (fun _ w => w) (ct_38 (by omega)) (fun h70 _ Jh70 P69 => ?_)
                        have Ih70 := H.1 h70 Jh70
                        subst P69
                        refine hq_p rfl rfl (ty_ge (n := 1) nk_i1 (fun z71 ez71 => ?_))
                        exact ty_rB rfl rfl (by omega) (by omega) ⟨Jh70, _, rfl, by omega, by omega⟩
                    · refine hq_p rfl rfl (ty_ge (n := 0) nk_i0 (fun z72 ez72 => ?_))
                      exact ty_rB rfl rfl (by omega) (by omega) ⟨Jh41, _, rfl, by omega, by omega⟩
                · refine hq_p rfl rfl ?_
                  refine hq_gR Ih41.1 rfl rfl (by decide) (by decide) rfl ?_
                  refine hq_p rfl rfl (ty_ge (n := 2) nk_i2 (fun z73 ez73 => ?_))
                  refine hq_p rfl rfl ?_
                  refine ty_callj 0 (W := ty_Wr) H Jh41 rfl (fun _ => rfl) rfl rfl rfl (hq_pre_o Ih41.1 (x := 64) (ci := 7) rfl (by decide) rfl rfl rfl rfl) (fun _ _ w => w) (fun _ w => w) (ct_63 (x1 := z73) (x2 := z6) (by omega) (by omega) (by omega)) (fun h75 _ Jh75 P74 => ?_)
                  have Ih75 := H.1 h75 Jh75
                  subst P74
                  refine hq_p rfl rfl ?_
                  refine hq_p rfl rfl (ty_ge (n := 1) nk_i1 (fun z76 ez76 => ?_))
                  exact ty_rB rfl rfl (by omega) (by omega) ⟨Jh75, _, rfl, by omega, by omega⟩
            · exfalso; omega
          · refine hq_p rfl rfl (ty_ge (n := 0) nk_i0 (fun z77 ez77 => ?_))
            exact ty_rB rfl rfl (by omega) (by omega) ⟨hJ, _, rfl, by omega, by omega⟩
  · replace c4 : 1 ≤ z3.toInt ∧ z3.toInt ≤ 1 := by omega
    refine hq_p rfl rfl ?_
    refine hq_p rfl rfl ?_
    refine ty_callp 0 I rfl (fun _ => rfl) rfl rfl rfl (hq_pre_o I.1 (x := 62) (ci := 3) rfl (by decide) rfl rfl rfl rfl) (ct_41 (k1 := 9) (by omega) hX (by decide)) (fun _ P78 => ?_)
    obtain ⟨z79, rfl, az79, bz79⟩ := P78
    refine hq_p (ls' := [some (.ref 62), some (.int z2), some (.int z79), none]) rfl rfl ?_
    refine hq_p rfl rfl ?_
    refine hq_p rfl rfl (ty_ge (n := -1) nk_im1 (fun z80 ez80 => ?_))
    refine ty_ine rfl (fun c81 => ?_) (fun c81 => ?_)
    · replace c81 : 0 ≤ z2.toInt ∧ z2.toInt ≤ 10009 := by omega
      refine hq_p rfl rfl ?_
      refine hq_p rfl rfl (ty_ge (n := 1000) nk_s1000 (fun z82 ez82 => ?_))
      refine ty_igt rfl (fun c83 => ?_) (fun c83 => ?_)
      · refine hq_p rfl rfl (ty_ge (n := 0) nk_i0 (fun z84 ez84 => ?_))
        exact ty_rB rfl rfl (by omega) (by omega) ⟨hJ, _, rfl, by omega, by omega⟩
      · refine hq_p rfl rfl ?_
        refine ty_gI I rfl rfl (by decide) (by decide) rfl rfl (fun z85 ez85 az85 bz85 => ?_)
        refine hq_p rfl rfl (ty_ge (n := 50) nk_b50 (fun z86 ez86 => ?_))
        refine ty_ilt rfl (fun c87 => ?_) (fun c87 => ?_)
        · refine hq_p rfl rfl ?_
          refine hq_p rfl rfl ?_
          refine ty_gI I rfl rfl (by decide) (by decide) rfl rfl (fun z88 ez88 az88 bz88 => ?_)
          refine hq_p rfl rfl (ty_ge (n := 1) nk_i1 (fun z89 ez89 => ?_))
          refine hq_p rfl rfl (ty_ge (n := z88.toInt + z89.toInt) (nm_add (by omega) (by omega)) (fun z90 ez90 => ?_))
          refine ty_pI (W := ty_Wr) H hJ rfl rfl (by decide) rfl rfl (by unfold ty_Wr; omega) rfl (by omega) (by omega) (fun h91 eh91 Jh91 => ?_)
          have wh91 : (hs_fI h91 62 5).toInt = z90.toInt := by rw [eh91]; exact congrArg Int32.toInt (ty_fI_eq I.1 rfl (by decide) rfl)
          have Ih91 := H.1 h91 Jh91
          refine hq_p rfl rfl ?_
          refine ty_callj 0 (W := ty_Wr) H Jh91 rfl (fun _ => rfl) rfl rfl rfl (hq_pre_o Ih91.1 (x := 62) (ci := 3) rfl (by decide) rfl rfl rfl rfl) (fun _ _ w => w) (fun _ w => w) (ct_38 (by omega)) (fun h93 _ Jh93 P92 => ?_)
          have Ih93 := H.1 h93 Jh93
          subst P92
          refine hq_p rfl rfl ?_
          refine hq_p rfl rfl (ty_ge (n := -1) nk_im1 (fun z94 ez94 => ?_))
          refine ty_ieq rfl (fun c95 => ?_) (fun c95 => ?_)
          · exfalso; omega
          · clear c95
            refine hq_p rfl rfl ?_
            refine hq_gR Ih93.1 rfl rfl (by decide) (by decide) rfl ?_
            refine hq_p rfl rfl (ty_ge (n := 1) nk_i1 (fun z96 ez96 => ?_))
            refine hq_p rfl rfl ?_
            refine ty_callj 0 (W := ty_Wr) H Jh93 rfl (fun _ => rfl) rfl rfl rfl (hq_pre_o Ih93.1 (x := 64) (ci := 7) rfl (by decide) rfl rfl rfl rfl) (fun _ _ w => w) (fun _ w => w) (ct_63 (x1 := z96) (x2 := z2) (by omega) (by omega) (by omega)) (fun h98 _ Jh98 P97 => ?_)
            have Ih98 := H.1 h98 Jh98
            subst P97
            refine hq_p rfl rfl ?_
            refine hq_p rfl rfl (ty_ge (n := 1) nk_i1 (fun z99 ez99 => ?_))
            exact ty_rB rfl rfl (by omega) (by omega) ⟨Jh98, _, rfl, by omega, by omega⟩
        · refine hq_p rfl rfl (ty_ge (n := 0) nk_i0 (fun z100 ez100 => ?_))
          exact ty_rB rfl rfl (by omega) (by omega) ⟨hJ, _, rfl, by omega, by omega⟩
    · refine hq_p rfl rfl ?_
      refine hq_p rfl rfl (ty_ge (n := -1) nk_im1 (fun z101 ez101 => ?_))
      refine ty_ieq rfl (fun c102 => ?_) (fun c102 => ?_)
      · refine hq_p rfl rfl (ty_ge (n := 0) nk_i0 (fun z103 ez103 => ?_))
        exact ty_rB rfl rfl (by omega) (by omega) ⟨hJ, _, rfl, by omega, by omega⟩
      · replace c102 : 0 ≤ z79.toInt ∧ z79.toInt ≤ 100 := by omega
        refine hq_p rfl rfl ?_
        refine hq_p rfl rfl (ty_ge (n := 1000) nk_s1000 (fun z104 ez104 => ?_))
        refine ty_igt rfl (fun c105 => ?_) (fun c105 => ?_)
        · exfalso; omega
        · refine hq_p rfl rfl ?_
          refine ty_gI I rfl rfl (by decide) (by decide) rfl rfl (fun z106 ez106 az106 bz106 => ?_)
          refine hq_p rfl rfl (ty_ge (n := 50) nk_b50 (fun z107 ez107 => ?_))
          refine ty_ilt rfl (fun c108 => ?_) (fun c108 => ?_)
          · refine hq_p rfl rfl ?_
            refine hq_p rfl rfl ?_
            refine ty_gI I rfl rfl (by decide) (by decide) rfl rfl (fun z109 ez109 az109 bz109 => ?_)
            refine hq_p rfl rfl (ty_ge (n := 1) nk_i1 (fun z110 ez110 => ?_))
            refine hq_p rfl rfl (ty_ge (n := z109.toInt + z110.toInt) (nm_add (by omega) (by omega)) (fun z111 ez111 => ?_))
            refine ty_pI (W := ty_Wr) H hJ rfl rfl (by decide) rfl rfl (by unfold ty_Wr; omega) rfl (by omega) (by omega) (fun h112 eh112 Jh112 => ?_)
            have wh112 : (hs_fI h112 62 5).toInt = z111.toInt := by rw [eh112]; exact congrArg Int32.toInt (ty_fI_eq I.1 rfl (by decide) rfl)
            have Ih112 := H.1 h112 Jh112
            refine hq_p rfl rfl ?_
            refine ty_callj 0 (W := ty_Wr) H Jh112 rfl (fun _ => rfl) rfl rfl rfl (hq_pre_o Ih112.1 (x := 62) (ci := 3) rfl (by decide) rfl rfl rfl rfl) (fun _ _ w => w) (fun _ w => w) (ct_38 (by omega)) (fun h114 _ Jh114 P113 => ?_)
            have Ih114 := H.1 h114 Jh114
            subst P113
            refine hq_p rfl rfl ?_
            refine hq_p rfl rfl (ty_ge (n := -1) nk_im1 (fun z115 ez115 => ?_))
            refine ty_ieq rfl (fun c116 => ?_) (fun c116 => ?_)
            · refine hq_p rfl rfl ?_
              refine ty_gB Ih114 rfl rfl (by decide) (by decide) rfl (fun z117 ez117 az117 bz117 => ?_)
              refine ty_zne rfl (fun c118 => ?_) (fun c118 => ?_)
              · replace c118 : 1 ≤ z117.toInt ∧ z117.toInt ≤ 1 := by omega
                refine hq_p rfl rfl ?_
                refine hq_gR Ih114.1 rfl rfl (by decide) (by decide) rfl ?_
                refine hq_p rfl rfl (ty_ge (n := 2) nk_i2 (fun z119 ez119 => ?_))
                refine hq_p rfl rfl ?_
                refine ty_callj 0 (W := ty_Wr) H Jh114 rfl (fun _ => rfl) rfl rfl rfl (hq_pre_o Ih114.1 (x := 64) (ci := 7) rfl (by decide) rfl rfl rfl rfl) (fun _ _ w => w) (fun _ w => w) (ct_63 (x1 := z119) (x2 := z79) (by omega) (by omega) (by omega)) (fun h121 _ Jh121 P120 => ?_)
                have Ih121 := H.1 h121 Jh121
                subst P120
                refine hq_p rfl rfl ?_
                refine hq_p rfl rfl (ty_ge (n := 1) nk_i1 (fun z122 ez122 => ?_))
                exact ty_rB rfl rfl (by omega) (by omega) ⟨Jh121, _, rfl, by omega, by omega⟩
              · refine hq_p rfl rfl ?_
                refine hq_p rfl rfl (ty_ge (n := 5) nk_i5 (fun z123 ez123 => ?_))
                refine ty_ige rfl (fun c124 => ?_) (fun c124 => ?_)
                · refine hq_p rfl rfl ?_
                  refine ty_callp 0 Ih114 rfl (fun _ => rfl) rfl rfl rfl (hq_pre_o Ih114.1 (x := 62) (ci := 3) rfl (by decide) rfl rfl rfl rfl) (ct_42 (by omega) ((H.2.2.2.2.2.2.2.1 (by unfold ty_Wr; omega)).1 h114 Jh114)) (fun _ P125 => ?_)
                  obtain ⟨z126, rfl, az126, bz126⟩ := P125
                  refine hq_p (ls' := [some (.ref 62), some (.int z2), some (.int z79), some (.int z126)]) rfl rfl ?_
                  refine hq_p rfl rfl ?_
                  refine ty_zlt rfl (fun c127 => ?_) (fun c127 => ?_)
                  · refine hq_p rfl rfl (ty_ge (n := 0) nk_i0 (fun z128 ez128 => ?_))
                    exact ty_rB rfl rfl (by omega) (by omega) ⟨Jh114, _, rfl, by omega, by omega⟩
                  · refine hq_p rfl rfl ?_
                    refine hq_p rfl rfl (ty_ge (n := 8) nk_b8 (fun z129 ez129 => ?_))
                    refine ty_ilt rfl (fun c130 => ?_) (fun c130 => ?_)
                    · refine hq_p rfl rfl ?_
                      refine hq_gR Ih114.1 rfl rfl (by decide) (by decide) rfl ?_
                      refine hq_p rfl rfl ?_
                      refine hq_p rfl rfl (ty_ge (n := 5) nk_i5 (fun z131 ez131 => ?_))
                      refine ty_ine rfl (fun c132 => ?_) (fun c132 => ?_)
                      · replace c132 : 6 ≤ z79.toInt ∧ z79.toInt ≤ 100 := by omega
                        refine hq_p rfl rfl (ty_ge (n := 0) nk_i0 (fun z133 ez133 => ?_))
                        refine hq_p rfl rfl ?_
                        refine ty_callj 0 (W := ty_Wr) H Jh114 rfl (fun _ => rfl) rfl rfl rfl (hq_pre_o Ih114.1 (x := 64) (ci := 7) rfl (by decide) rfl rfl rfl rfl) (fun _ _ w => w) (fun _ w => w) (ct_64 (x1 := z133) (x2 := z126) (by omega) (by omega) (by omega) (by omega) (by omega)) (fun h135 _ Jh135 P134 => ?_)
                        have Ih135 := H.1 h135 Jh135
                        subst P134
                        refine hq_p rfl rfl ?_
                        refine ty_callj 0 (W := ty_Wr) H Jh135 rfl (fun _ => rfl) rfl rfl rfl (hq_pre_o Ih135.1 (x := 62) (ci := 3) rfl (by decide) rfl rfl rfl rfl) (fun _ _ w => w) (fun _ w => w) (ct_38 (by omega)) (fun h137 _ Jh137 P136 => ?_)
                        have Ih137 := H.1 h137 Jh137
                        subst P136
                        refine hq_p rfl rfl (ty_ge (n := 1) nk_i1 (fun z138 ez138 => ?_))
                        exact ty_rB rfl rfl (by omega) (by omega) ⟨Jh137, _, rfl, by omega, by omega⟩
                      · refine hq_p rfl rfl (ty_ge (n := 1) nk_i1 (fun z139 ez139 => ?_))
                        refine hq_p rfl rfl ?_
                        refine hq_p rfl rfl ?_
                        refine ty_callj 0 (W := ty_Wr) H Jh114 rfl (fun _ => rfl) rfl rfl rfl (hq_pre_o Ih114.1 (x := 64) (ci := 7) rfl (by decide) rfl rfl rfl rfl) (fun _ _ w => w) (fun _ w => w) (ct_64 (x1 := z139) (x2 := z126) (by omega) (by omega) (by omega) (by omega) (by omega)) (fun h141 _ Jh141 P140 => ?_)
                        have Ih141 := H.1 h141 Jh141
                        subst P140
                        refine hq_p rfl rfl ?_
                        refine ty_callj 0 (W := ty_Wr) H Jh141 rfl (fun _ => rfl) rfl rfl rfl (hq_pre_o Ih141.1 (x := 62) (ci := 3) rfl (by decide) rfl rfl rfl rfl) (fun _ _ w => w) (fun _ w => w) (ct_38 (by omega)) (fun h143 _ Jh143 P142 => ?_)
                        have Ih143 := H.1 h143 Jh143
                        subst P142
                        refine hq_p rfl rfl (ty_ge (n := 1) nk_i1 (fun z144 ez144 => ?_))
                        exact ty_rB rfl rfl (by omega) (by omega) ⟨Jh143, _, rfl, by omega, by omega⟩
                    · refine hq_p rfl rfl (ty_ge (n := 0) nk_i0 (fun z145 ez145 => ?_))
                      exact ty_rB rfl rfl (by omega) (by omega) ⟨Jh114, _, rfl, by omega, by omega⟩
                · refine hq_p rfl rfl ?_
                  refine hq_gR Ih114.1 rfl rfl (by decide) (by decide) rfl ?_
                  refine hq_p rfl rfl (ty_ge (n := 2) nk_i2 (fun z146 ez146 => ?_))
                  refine hq_p rfl rfl ?_
                  refine ty_callj 0 (W := ty_Wr) H Jh114 rfl (fun _ => rfl) rfl rfl rfl (hq_pre_o Ih114.1 (x := 64) (ci := 7) rfl (by decide) rfl rfl rfl rfl) (fun _ _ w => w) (fun _ w => w) (ct_63 (x1 := z146) (x2 := z79) (by omega) (by omega) (by omega)) (fun h148 _ Jh148 P147 => ?_)
                  have Ih148 := H.1 h148 Jh148
                  subst P147
                  refine hq_p rfl rfl ?_
                  refine hq_p rfl rfl (ty_ge (n := 1) nk_i1 (fun z149 ez149 => ?_))
                  exact ty_rB rfl rfl (by omega) (by omega) ⟨Jh148, _, rfl, by omega, by omega⟩
            · exfalso; omega
          · refine hq_p rfl rfl (ty_ge (n := 0) nk_i0 (fun z150 ez150 => ?_))
            exact ty_rB rfl rfl (by omega) (by omega) ⟨hJ, _, rfl, by omega, by omega⟩
theorem ct_30 {X : pm_X} {d : Nat} {h : pm_H} {x1 : Int32} (hd : 7 ≤ d) (hX : ty_SX X) (ax1 : 0 ≤ x1.toInt) (bx1 : x1.toInt ≤ 11) : ty_M X ty_Wr d 30 [.ref 62, .int x1] h (ty_pi 0 1) := by
  intro J H hJ
  obtain ⟨d, rfl⟩ : ∃ e, d = e + 1 := ⟨d - 1, by omega⟩
  have I := H.1 h hJ
  refine hq_M.enter (q := (⟨"TrainBearers$Reader", "repetition", "(I)Z"⟩, _, 3, some .boolean, 3, 2, pm_c30)) rfl rfl ?_
  show hq_W X d 3 false (some .boolean) pm_c30 (0, [some (.ref 62), some (.int x1), none], [], h) (fun h' v => J h' ∧ (ty_pi 0 1) h' v)
  refine hq_p rfl rfl ?_
  refine hq_p rfl rfl ?_
  refine ty_callj 0 (W := ty_Wr) H hJ rfl (fun _ => rfl) rfl rfl rfl (hq_pre_o I.1 (x := 62) (ci := 3) rfl (by decide) rfl rfl rfl rfl) (fun _ _ w => w) (fun _ w => w) (ct_39 (k1 := 20) (by omega) hX (by decide)) (fun h2 _ Jh2 P1 => ?_)
  have Ih2 := H.1 h2 Jh2
  obtain ⟨z3, rfl, az3, bz3⟩ := P1
  refine ty_zne rfl (fun c4 => ?_) (fun c4 => ?_)
  · replace c4 : 1 ≤ z3.toInt ∧ z3.toInt ≤ 1 := by omega
    refine hq_p rfl rfl ?_
    refine ty_callp 0 Ih2 rfl (fun _ => rfl) rfl rfl rfl (hq_pre_o Ih2.1 (x := 62) (ci := 3) rfl (by decide) rfl rfl rfl rfl) (ct_42 (by omega) ((H.2.2.2.2.2.2.2.1 (by unfold ty_Wr; omega)).1 h2 Jh2)) (fun _ P5 => ?_)
    obtain ⟨z6, rfl, az6, bz6⟩ := P5
    refine hq_p (ls' := [some (.ref 62), some (.int x1), some (.int z6)]) rfl rfl ?_
    refine hq_p rfl rfl ?_
    refine hq_p rfl rfl (ty_ge (n := 1) nk_i1 (fun z7 ez7 => ?_))
    refine ty_ilt rfl (fun c8 => ?_) (fun c8 => ?_)
    · refine hq_p rfl rfl (ty_ge (n := 0) nk_i0 (fun z9 ez9 => ?_))
      exact ty_rB rfl rfl (by omega) (by omega) ⟨Jh2, _, rfl, by omega, by omega⟩
    · refine hq_p rfl rfl ?_
      refine hq_p rfl rfl (ty_ge (n := 20) nk_b20 (fun z10 ez10 => ?_))
      refine ty_ile rfl (fun c11 => ?_) (fun c11 => ?_)
      · refine hq_p rfl rfl ?_
        refine hq_gR Ih2.1 rfl rfl (by decide) (by decide) rfl ?_
        refine hq_gR Ih2.1 rfl rfl (by decide) (by decide) rfl ?_
        refine hq_p rfl rfl ?_
        refine hq_p rfl rfl ?_
        refine ty_aS (W := ty_Wr) H Jh2 rfl rfl (by decide) (by omega) (by omega) (fun i e => by unfold ty_Wr; omega) (fun _ _ => ty_eg rfl) (by omega) (by omega) (fun e1 e2 w => by omega) (fun h12 eh12 Jh12 => ?_)
        have Ih12 := H.1 h12 Jh12
        refine hq_p rfl rfl ?_
        refine ty_callj 0 (W := ty_Wr) H Jh12 rfl (fun _ => rfl) rfl rfl rfl (hq_pre_o Ih12.1 (x := 62) (ci := 3) rfl (by decide) rfl rfl rfl rfl) (fun _ _ w => w) (fun _ w => w) (ct_38 (by omega)) (fun h14 _ Jh14 P13 => ?_)
        have Ih14 := H.1 h14 Jh14
        subst P13
        refine hq_p rfl rfl (ty_ge (n := 1) nk_i1 (fun z15 ez15 => ?_))
        exact ty_rB rfl rfl (by omega) (by omega) ⟨Jh14, _, rfl, by omega, by omega⟩
      · refine hq_p rfl rfl (ty_ge (n := 0) nk_i0 (fun z16 ez16 => ?_))
        exact ty_rB rfl rfl (by omega) (by omega) ⟨Jh2, _, rfl, by omega, by omega⟩
  · refine hq_p rfl rfl (ty_ge (n := 1) nk_i1 (fun z17 ez17 => ?_))
    exact ty_rB rfl rfl (by omega) (by omega) ⟨Jh2, _, rfl, by omega, by omega⟩
theorem ct_35 {X : pm_X} {d : Nat} {h : pm_H} {x1 : Int32} (hd : 7 ≤ d) (hX : ty_SX X) (ax1 : 0 ≤ x1.toInt) (bx1 : x1.toInt ≤ 8) (hr2 : x1.toInt < 8 → ∀ (h1 : pm_H) (y z : Int32), y.toInt = 2 → z.toInt = x1.toInt + 1 → ty_M X ty_Wr (d - 1) 32 [.ref 62, .int y, .int z] h1 (ty_pi 0 1)) : ty_M X ty_Wr d 35 [.ref 62, .int x1] h (ty_pi 0 1) := by
  intro J H hJ
  obtain ⟨d, rfl⟩ : ∃ e, d = e + 1 := ⟨d - 1, by omega⟩
  have I := H.1 h hJ
  refine hq_M.enter (q := (⟨"TrainBearers$Reader", "part", "(I)Z"⟩, _, 2, some .boolean, 3, 2, pm_c35)) rfl rfl ?_
  show hq_W X d 3 false (some .boolean) pm_c35 (0, [some (.ref 62), some (.int x1)], [], h) (fun h' v => J h' ∧ (ty_pi 0 1) h' v)
  refine hq_p rfl rfl ?_
  refine hq_p rfl rfl ?_
  refine ty_callp 0 I rfl (fun _ => rfl) rfl rfl rfl (hq_pre_o I.1 (x := 62) (ci := 3) rfl (by decide) rfl rfl rfl rfl) (ct_40 (k1 := 7) (by omega) hX (by decide)) (fun _ P1 => ?_)
  obtain ⟨z2, rfl, az2, bz2⟩ := P1
  refine ty_zeq rfl (fun c3 => ?_) (fun c3 => ?_)
  · refine hq_p rfl rfl ?_
    refine ty_callj 0 (W := ty_Wr) H hJ rfl (fun _ => rfl) rfl rfl rfl (hq_pre_o I.1 (x := 62) (ci := 3) rfl (by decide) rfl rfl rfl rfl) (fun _ _ w => w) (fun _ w => w) (ct_37 (by omega) hX) (fun h5 _ Jh5 P4 => ?_)
    have Ih5 := H.1 h5 Jh5
    obtain ⟨z6, rfl, az6, bz6⟩ := P4
    exact ty_rB rfl rfl (by omega) (by omega) ⟨Jh5, _, rfl, by omega, by omega⟩
  · replace c3 : 1 ≤ z2.toInt ∧ z2.toInt ≤ 1 := by omega
    refine hq_p rfl rfl ?_
    refine hq_p rfl rfl ?_
    refine ty_callj 0 (W := ty_Wr) H hJ rfl (fun _ => rfl) rfl rfl rfl (hq_pre_o I.1 (x := 62) (ci := 3) rfl (by decide) rfl rfl rfl rfl) (fun _ _ w => w) (fun _ w => w) (ct_36 (x1 := x1) (by omega) (by omega) (by omega)) (fun h8 _ Jh8 P7 => ?_)
    have Ih8 := H.1 h8 Jh8
    obtain ⟨z9, rfl, az9, bz9, iz9⟩ := P7
    refine ty_zeq rfl (fun c10 => ?_) (fun c10 => ?_)
    · clear iz9
      refine hq_p rfl rfl (ty_ge (n := 0) nk_i0 (fun z11 ez11 => ?_))
      exact ty_rB rfl rfl (by omega) (by omega) ⟨Jh8, _, rfl, by omega, by omega⟩
    · replace c10 : 1 ≤ z9.toInt ∧ z9.toInt ≤ 1 := by omega
      have f12 := iz9 (by omega)
      clear iz9
      refine hq_p rfl rfl ?_
      refine hq_p rfl rfl (ty_ge (n := 2) nk_i2 (fun z13 ez13 => ?_))
      refine hq_p rfl rfl ?_
      refine hq_p rfl rfl (ty_ge (n := 1) nk_i1 (fun z14 ez14 => ?_))
      refine hq_p rfl rfl (ty_ge (n := x1.toInt + z14.toInt) (nm_add (by omega) (by omega)) (fun z15 ez15 => ?_))
      refine ty_callj 0 (W := ty_Wr) H Jh8 rfl (fun _ => rfl) rfl rfl rfl (hq_pre_o Ih8.1 (x := 62) (ci := 3) rfl (by decide) rfl rfl rfl rfl) (fun _ _ w => w) (fun _ w => w) (hr2 (by omega) h8 z13 z15 (by omega) (by omega)) (fun h17 _ Jh17 P16 => ?_)
      have Ih17 := H.1 h17 Jh17
      obtain ⟨z18, rfl, az18, bz18⟩ := P16
      refine ty_zeq rfl (fun c19 => ?_) (fun c19 => ?_)
      · refine hq_p rfl rfl (ty_ge (n := 0) nk_i0 (fun z20 ez20 => ?_))
        exact ty_rB rfl rfl (by omega) (by omega) ⟨Jh17, _, rfl, by omega, by omega⟩
      · replace c19 : 1 ≤ z18.toInt ∧ z18.toInt ≤ 1 := by omega
        refine hq_p rfl rfl ?_
        refine hq_p rfl rfl ?_
        refine ty_callj 0 (W := ty_Wr) H Jh17 rfl (fun _ => rfl) rfl rfl rfl (hq_pre_o Ih17.1 (x := 62) (ci := 3) rfl (by decide) rfl rfl rfl rfl) (fun _ _ w => w) (fun _ w => w) (ct_39 (k1 := 8) (by omega) hX (by decide)) (fun h22 _ Jh22 P21 => ?_)
        have Ih22 := H.1 h22 Jh22
        obtain ⟨z23, rfl, az23, bz23⟩ := P21
        refine ty_zeq rfl (fun c24 => ?_) (fun c24 => ?_)
        · refine hq_p rfl rfl (ty_ge (n := 0) nk_i0 (fun z25 ez25 => ?_))
          exact ty_rB rfl rfl (by omega) (by omega) ⟨Jh22, _, rfl, by omega, by omega⟩
        · replace c24 : 1 ≤ z23.toInt ∧ z23.toInt ≤ 1 := by omega
          refine hq_p rfl rfl (ty_ge (n := 1) nk_i1 (fun z26 ez26 => ?_))
          refine hq_p rfl rfl ?_
          exact ty_rB rfl rfl (by omega) (by omega) ⟨Jh22, _, rfl, by omega, by omega⟩
set_option maxHeartbeats 20000000 in
theorem ct_34 {X : pm_X} {d : Nat} {h : pm_H} {x1 : Int32} (hd : 7 ≤ d) (hX : ty_SX X) (ax1 : 0 ≤ x1.toInt) (bx1 : x1.toInt ≤ 8) (hr0 : x1.toInt < 8 → ∀ (h1 : pm_H) (y z : Int32), y.toInt = 0 → z.toInt = x1.toInt + 1 → ty_M X ty_Wr (d - 1) 32 [.ref 62, .int y, .int z] h1 (ty_pi 0 1)) (hr2 : x1.toInt ≤ 8 → ∀ (h1 : pm_H) (y z : Int32), y.toInt = 2 → z.toInt = x1.toInt + 0 → ty_M X ty_Wr (d - 1) 32 [.ref 62, .int y, .int z] h1 (ty_pi 0 1)) : ty_M X ty_Wr d 34 [.ref 62, .int x1] h (ty_pi 0 1) := by
  intro J H hJ
  obtain ⟨d, rfl⟩ : ∃ e, d = e + 1 := ⟨d - 1, by omega⟩
  have I := H.1 h hJ
  refine hq_M.enter (q := (⟨"TrainBearers$Reader", "plain", "(I)Z"⟩, _, 5, some .boolean, 3, 2, pm_c34)) rfl rfl ?_
  show hq_W X d 3 false (some .boolean) pm_c34 (0, [some (.ref 62), some (.int x1), none, none, none], [], h) (fun h' v => J h' ∧ (ty_pi 0 1) h' v)
  refine hq_p rfl rfl (ty_ge (n := 0) nk_i0 (fun z1 ez1 => ?_))
  refine hq_p (ls' := [some (.ref 62), some (.int x1), some (.int z1), none, none]) rfl rfl ?_
  refine hq_p rfl rfl (ty_ge (n := 0) nk_i0 (fun z2 ez2 => ?_))
  refine hq_p (ls' := [some (.ref 62), some (.int x1), some (.int z1), some (.int z2), none]) rfl rfl ?_
  have L4_n117 : ∀ n117 : Nat, ∀ (y111 : Int32) (y112 : Int32) (h113 : pm_H), (400 - y112.toInt).toNat = n117 → 0 ≤ y111.toInt → y111.toInt ≤ 1 → 0 ≤ y112.toInt → y112.toInt ≤ 400 → J h113 → hq_W X d 3 false (some .boolean) pm_c34 (4, [some (.ref 62), some (.int x1), some (.int y111), some (.int y112), none], [], h113) (fun h' v => J h' ∧ (ty_pi 0 1) h' v) := by
    intro n117
    induction n117 using Nat.strongRecOn with
    | ind n117 ihn117 =>
      intro y111 y112 h113 mn117 ay111 by111 ay112 by112 Jh113
      have Ih113 := H.1 h113 Jh113
      refine hq_p rfl rfl ?_
      refine hq_p rfl rfl (ty_ge (n := 400) nk_s400 (fun z118 ez118 => ?_))
      refine ty_ige rfl (fun c119 => ?_) (fun c119 => ?_)
      · refine hq_p rfl rfl ?_
        refine hq_p rfl rfl ?_
        refine ty_callp 0 Ih113 rfl (fun _ => rfl) rfl rfl rfl (hq_pre_o Ih113.1 (x := 62) (ci := 3) rfl (by decide) rfl rfl rfl rfl) (ct_40 (k1 := 2) (by omega) hX (by decide)) (fun _ P120 => ?_)
        obtain ⟨z121, rfl, az121, bz121⟩ := P120
        have K125 : ∀ (y122 : Int32) (w123 : Option Value) (h124 : pm_H), 0 ≤ y122.toInt → y122.toInt ≤ 1 → pm_two w123 = false → J h124 → hq_W X d 3 false (some .boolean) pm_c34 (177, [some (.ref 62), some (.int x1), some (.int y111), some (.int y122), w123], [], h124) (fun h' v => J h' ∧ (ty_pi 0 1) h' v) := by
          intro y122 w123 h124 ay122 by122 kw123 Jh124
          have Ih124 := H.1 h124 Jh124
          refine hq_p rfl rfl ?_
          refine ty_zeq rfl (fun c126 => ?_) (fun c126 => ?_)
          · refine hq_p rfl rfl ?_
            exact ty_rB rfl rfl (by omega) (by omega) ⟨Jh124, _, rfl, by omega, by omega⟩
          · replace c126 : 1 ≤ y111.toInt ∧ y111.toInt ≤ 1 := by omega
            refine hq_p rfl rfl ?_
            refine hq_gR Ih124.1 rfl rfl (by decide) (by decide) rfl ?_
            refine hq_p rfl rfl (ty_ge (n := 3) nk_i3 (fun z127 ez127 => ?_))
            refine hq_p rfl rfl (ty_ge (n := 0) nk_i0 (fun z128 ez128 => ?_))
            refine ty_callj 0 (W := ty_Wr) H Jh124 rfl (fun _ => rfl) rfl rfl rfl (hq_pre_o Ih124.1 (x := 64) (ci := 7) rfl (by decide) rfl rfl rfl rfl) (fun _ _ w => w) (fun _ w => w) (ct_63 (x1 := z127) (x2 := z128) (by omega) (by omega) (by omega)) (fun h130 _ Jh130 P129 => ?_)
            have Ih130 := H.1 h130 Jh130
            subst P129
            refine hq_p rfl rfl ?_
            exact ty_rB rfl rfl (by omega) (by omega) ⟨Jh130, _, rfl, by omega, by omega⟩
        refine ty_zeq rfl (fun c131 => ?_) (fun c131 => ?_)
        · refine hq_p rfl rfl ?_
          refine hq_p rfl rfl (ty_ge (n := 2) nk_i2 (fun z132 ez132 => ?_))
          refine hq_p rfl rfl ?_
          refine ty_callj 0 (W := ty_Wr) H Jh113 rfl (fun _ => rfl) rfl rfl rfl (hq_pre_o Ih113.1 (x := 62) (ci := 3) rfl (by decide) rfl rfl rfl rfl) (fun _ _ w => w) (fun _ w => w) (hr2 (by omega) h113 z132 x1 (by omega) (by omega)) (fun h134 _ Jh134 P133 => ?_)
          have Ih134 := H.1 h134 Jh134
          obtain ⟨z135, rfl, az135, bz135⟩ := P133
          refine hq_p (ls' := [some (.ref 62), some (.int x1), some (.int y111), some (.int z135), none]) rfl rfl ?_
          refine hq_p rfl rfl ?_
          refine hq_p rfl rfl ?_
          refine ty_callp 0 Ih134 rfl (fun _ => rfl) rfl rfl rfl (hq_pre_o Ih134.1 (x := 62) (ci := 3) rfl (by decide) rfl rfl rfl rfl) (ct_40 (k1 := 4) (by omega) hX (by decide)) (fun _ P136 => ?_)
          obtain ⟨z137, rfl, az137, bz137⟩ := P136
          have K139 : ∀ (y138 : Int32), 11 ≤ y138.toInt → y138.toInt ≤ 13 → hq_W X d 3 false (some .boolean) pm_c34 (119, [some (.ref 62), some (.int x1), some (.int y111), some (.int z135), none], [.int y138], h134) (fun h' v => J h' ∧ (ty_pi 0 1) h' v) := by
            intro y138 ay138 by138
            refine hq_p (ls' := [some (.ref 62), some (.int x1), some (.int y111), some (.int z135), some (.int y138)]) rfl rfl ?_
            refine hq_p rfl rfl ?_
            have K142 : ∀ (y140 : Int32) (h141 : pm_H), 0 ≤ y140.toInt → y140.toInt ≤ 1 → J h141 → hq_W X d 3 false (some .boolean) pm_c34 (166, [some (.ref 62), some (.int x1), some (.int y111), some (.int z135), some (.int y138)], [.int y140], h141) (fun h' v => J h' ∧ (ty_pi 0 1) h' v) := by
              intro y140 h141 ay140 by140 Jh141
              have Ih141 := H.1 h141 Jh141
              refine hq_p (ls' := [some (.ref 62), some (.int x1), some (.int y111), some (.int y140), some (.int y138)]) rfl rfl ?_
              refine hq_p rfl rfl ?_
              refine hq_gR Ih141.1 rfl rfl (by decide) (by decide) rfl ?_
              refine hq_p rfl rfl ?_
              refine hq_p rfl rfl (ty_ge (n := 0) nk_i0 (fun z143 ez143 => ?_))
              refine ty_callj 0 (W := ty_Wr) H Jh141 rfl (fun _ => rfl) rfl rfl rfl (hq_pre_o Ih141.1 (x := 64) (ci := 7) rfl (by decide) rfl rfl rfl rfl) (fun _ _ w => w) (fun _ w => w) (ct_63 (x1 := y138) (x2 := z143) (by omega) (by omega) (by omega)) (fun h145 _ Jh145 P144 => ?_)
              have Ih145 := H.1 h145 Jh145
              subst P144
              exact K125 y140 (some (.int y138)) h145 (by omega) (by omega) rfl Jh145
            refine ty_zeq rfl (fun c146 => ?_) (fun c146 => ?_)
            · refine hq_p rfl rfl (ty_ge (n := 0) nk_i0 (fun z147 ez147 => ?_))
              exact K142 z147 h134 (by omega) (by omega) Jh134
            · replace c146 : 1 ≤ z135.toInt ∧ z135.toInt ≤ 1 := by omega
              refine hq_p rfl rfl ?_
              refine hq_p rfl rfl ?_
              refine ty_callj 0 (W := ty_Wr) H Jh134 rfl (fun _ => rfl) rfl rfl rfl (hq_pre_o Ih134.1 (x := 62) (ci := 3) rfl (by decide) rfl rfl rfl rfl) (fun _ _ w => w) (fun _ w => w) (ct_39 (k1 := 4) (by omega) hX (by decide)) (fun h149 _ Jh149 P148 => ?_)
              have Ih149 := H.1 h149 Jh149
              obtain ⟨z150, rfl, az150, bz150⟩ := P148
              refine ty_zne rfl (fun c151 => ?_) (fun c151 => ?_)
              · replace c151 : 1 ≤ z150.toInt ∧ z150.toInt ≤ 1 := by omega
                refine hq_p rfl rfl ?_
                refine hq_p rfl rfl (ty_ge (n := 2) nk_i2 (fun z152 ez152 => ?_))
                refine hq_p rfl rfl ?_
                refine ty_callj 0 (W := ty_Wr) H Jh149 rfl (fun _ => rfl) rfl rfl rfl (hq_pre_o Ih149.1 (x := 62) (ci := 3) rfl (by decide) rfl rfl rfl rfl) (fun _ _ w => w) (fun _ w => w) (hr2 (by omega) h149 z152 x1 (by omega) (by omega)) (fun h154 _ Jh154 P153 => ?_)
                have Ih154 := H.1 h154 Jh154
                obtain ⟨z155, rfl, az155, bz155⟩ := P153
                refine ty_zeq rfl (fun c156 => ?_) (fun c156 => ?_)
                · refine hq_p rfl rfl (ty_ge (n := 0) nk_i0 (fun z157 ez157 => ?_))
                  exact K142 z157 h154 (by omega) (by omega) Jh154
                · replace c156 : 1 ≤ z155.toInt ∧ z155.toInt ≤ 1 := by omega
                  refine hq_p rfl rfl (ty_ge (n := 1) nk_i1 (fun z158 ez158 => ?_))
                  refine hq_p rfl rfl ?_
                  exact K142 z158 h154 (by omega) (by omega) Jh154
              · refine hq_p rfl rfl ?_
                refine hq_p rfl rfl ?_
                refine ty_callj 0 (W := ty_Wr) H Jh149 rfl (fun _ => rfl) rfl rfl rfl (hq_pre_o Ih149.1 (x := 62) (ci := 3) rfl (by decide) rfl rfl rfl rfl) (fun _ _ w => w) (fun _ w => w) (ct_39 (k1 := 5) (by omega) hX (by decide)) (fun h160 _ Jh160 P159 => ?_)
                have Ih160 := H.1 h160 Jh160
                obtain ⟨z161, rfl, az161, bz161⟩ := P159
                refine ty_zne rfl (fun c162 => ?_) (fun c162 => ?_)
                · replace c162 : 1 ≤ z161.toInt ∧ z161.toInt ≤ 1 := by omega
                  refine hq_p rfl rfl ?_
                  refine hq_p rfl rfl (ty_ge (n := 2) nk_i2 (fun z163 ez163 => ?_))
                  refine hq_p rfl rfl ?_
                  refine ty_callj 0 (W := ty_Wr) H Jh160 rfl (fun _ => rfl) rfl rfl rfl (hq_pre_o Ih160.1 (x := 62) (ci := 3) rfl (by decide) rfl rfl rfl rfl) (fun _ _ w => w) (fun _ w => w) (hr2 (by omega) h160 z163 x1 (by omega) (by omega)) (fun h165 _ Jh165 P164 => ?_)
                  have Ih165 := H.1 h165 Jh165
                  obtain ⟨z166, rfl, az166, bz166⟩ := P164
                  refine ty_zeq rfl (fun c167 => ?_) (fun c167 => ?_)
                  · refine hq_p rfl rfl (ty_ge (n := 0) nk_i0 (fun z168 ez168 => ?_))
                    exact K142 z168 h165 (by omega) (by omega) Jh165
                  · replace c167 : 1 ≤ z166.toInt ∧ z166.toInt ≤ 1 := by omega
                    refine hq_p rfl rfl (ty_ge (n := 1) nk_i1 (fun z169 ez169 => ?_))
                    refine hq_p rfl rfl ?_
                    exact K142 z169 h165 (by omega) (by omega) Jh165
                · refine hq_p rfl rfl ?_
                  refine hq_p rfl rfl ?_
                  refine ty_callj 0 (W := ty_Wr) H Jh160 rfl (fun _ => rfl) rfl rfl rfl (hq_pre_o Ih160.1 (x := 62) (ci := 3) rfl (by decide) rfl rfl rfl rfl) (fun _ _ w => w) (fun _ w => w) (ct_39 (k1 := 6) (by omega) hX (by decide)) (fun h171 _ Jh171 P170 => ?_)
                  have Ih171 := H.1 h171 Jh171
                  obtain ⟨z172, rfl, az172, bz172⟩ := P170
                  refine ty_zeq rfl (fun c173 => ?_) (fun c173 => ?_)
                  · refine hq_p rfl rfl (ty_ge (n := 0) nk_i0 (fun z174 ez174 => ?_))
                    exact K142 z174 h171 (by omega) (by omega) Jh171
                  · replace c173 : 1 ≤ z172.toInt ∧ z172.toInt ≤ 1 := by omega
                    refine hq_p rfl rfl ?_
                    refine hq_p rfl rfl (ty_ge (n := 2) nk_i2 (fun z175 ez175 => ?_))
                    refine hq_p rfl rfl ?_
                    refine ty_callj 0 (W := ty_Wr) H Jh171 rfl (fun _ => rfl) rfl rfl rfl (hq_pre_o Ih171.1 (x := 62) (ci := 3) rfl (by decide) rfl rfl rfl rfl) (fun _ _ w => w) (fun _ w => w) (hr2 (by omega) h171 z175 x1 (by omega) (by omega)) (fun h177 _ Jh177 P176 => ?_)
                    have Ih177 := H.1 h177 Jh177
                    obtain ⟨z178, rfl, az178, bz178⟩ := P176
                    refine ty_zeq rfl (fun c179 => ?_) (fun c179 => ?_)
                    · refine hq_p rfl rfl (ty_ge (n := 0) nk_i0 (fun z180 ez180 => ?_))
                      exact K142 z180 h177 (by omega) (by omega) Jh177
                    · replace c179 : 1 ≤ z178.toInt ∧ z178.toInt ≤ 1 := by omega
                      refine hq_p rfl rfl (ty_ge (n := 1) nk_i1 (fun z181 ez181 => ?_))
                      refine hq_p rfl rfl ?_
                      exact K142 z181 h177 (by omega) (by omega) Jh177
          refine ty_zeq rfl (fun c182 => ?_) (fun c182 => ?_)
          · refine hq_p rfl rfl ?_
            refine hq_p rfl rfl ?_
            refine ty_callp 0 Ih134 rfl (fun _ => rfl) rfl rfl rfl (hq_pre_o Ih134.1 (x := 62) (ci := 3) rfl (by decide) rfl rfl rfl rfl) (ct_40 (k1 := 5) (by omega) hX (by decide)) (fun _ P183 => ?_)
            obtain ⟨z184, rfl, az184, bz184⟩ := P183
            refine ty_zeq rfl (fun c185 => ?_) (fun c185 => ?_)
            · refine hq_p rfl rfl (ty_ge (n := 13) nk_b13 (fun z186 ez186 => ?_))
              exact K139 z186 (by omega) (by omega)
            · replace c185 : 1 ≤ z184.toInt ∧ z184.toInt ≤ 1 := by omega
              refine hq_p rfl rfl (ty_ge (n := 12) nk_b12 (fun z187 ez187 => ?_))
              refine hq_p rfl rfl ?_
              exact K139 z187 (by omega) (by omega)
          · replace c182 : 1 ≤ z137.toInt ∧ z137.toInt ≤ 1 := by omega
            refine hq_p rfl rfl (ty_ge (n := 11) nk_b11 (fun z188 ez188 => ?_))
            refine hq_p rfl rfl ?_
            exact K139 z188 (by omega) (by omega)
        · replace c131 : 1 ≤ z121.toInt ∧ z121.toInt ≤ 1 := by omega
          refine hq_p rfl rfl ?_
          refine hq_p rfl rfl ?_
          refine ty_callj 0 (W := ty_Wr) H Jh113 rfl (fun _ => rfl) rfl rfl rfl (hq_pre_o Ih113.1 (x := 62) (ci := 3) rfl (by decide) rfl rfl rfl rfl) (fun _ _ w => w) (fun _ w => w) (ct_36 (x1 := x1) (by omega) (by omega) (by omega)) (fun h190 _ Jh190 P189 => ?_)
          have Ih190 := H.1 h190 Jh190
          obtain ⟨z191, rfl, az191, bz191, iz191⟩ := P189
          refine ty_zeq rfl (fun c192 => ?_) (fun c192 => ?_)
          · clear iz191
            refine hq_p rfl rfl (ty_ge (n := 0) nk_i0 (fun z193 ez193 => ?_))
            refine hq_p (ls' := [some (.ref 62), some (.int x1), some (.int y111), some (.int z193), none]) rfl rfl ?_
            refine hq_p rfl rfl ?_
            exact K125 z193 none h190 (by omega) (by omega) rfl Jh190
          · replace c192 : 1 ≤ z191.toInt ∧ z191.toInt ≤ 1 := by omega
            have f194 := iz191 (by omega)
            clear iz191
            refine hq_p rfl rfl ?_
            refine hq_p rfl rfl (ty_ge (n := 0) nk_i0 (fun z195 ez195 => ?_))
            refine hq_p rfl rfl ?_
            refine hq_p rfl rfl (ty_ge (n := 1) nk_i1 (fun z196 ez196 => ?_))
            refine hq_p rfl rfl (ty_ge (n := x1.toInt + z196.toInt) (nm_add (by omega) (by omega)) (fun z197 ez197 => ?_))
            refine ty_callj 0 (W := ty_Wr) H Jh190 rfl (fun _ => rfl) rfl rfl rfl (hq_pre_o Ih190.1 (x := 62) (ci := 3) rfl (by decide) rfl rfl rfl rfl) (fun _ _ w => w) (fun _ w => w) (hr0 (by omega) h190 z195 z197 (by omega) (by omega)) (fun h199 _ Jh199 P198 => ?_)
            have Ih199 := H.1 h199 Jh199
            obtain ⟨z200, rfl, az200, bz200⟩ := P198
            refine ty_zeq rfl (fun c201 => ?_) (fun c201 => ?_)
            · refine hq_p rfl rfl (ty_ge (n := 0) nk_i0 (fun z202 ez202 => ?_))
              refine hq_p (ls' := [some (.ref 62), some (.int x1), some (.int y111), some (.int z202), none]) rfl rfl ?_
              refine hq_p rfl rfl ?_
              exact K125 z202 none h199 (by omega) (by omega) rfl Jh199
            · replace c201 : 1 ≤ z200.toInt ∧ z200.toInt ≤ 1 := by omega
              refine hq_p rfl rfl ?_
              refine hq_p rfl rfl ?_
              refine ty_callj 0 (W := ty_Wr) H Jh199 rfl (fun _ => rfl) rfl rfl rfl (hq_pre_o Ih199.1 (x := 62) (ci := 3) rfl (by decide) rfl rfl rfl rfl) (fun _ _ w => w) (fun _ w => w) (ct_39 (k1 := 3) (by omega) hX (by decide)) (fun h204 _ Jh204 P203 => ?_)
              have Ih204 := H.1 h204 Jh204
              obtain ⟨z205, rfl, az205, bz205⟩ := P203
              refine ty_zeq rfl (fun c206 => ?_) (fun c206 => ?_)
              · refine hq_p rfl rfl (ty_ge (n := 0) nk_i0 (fun z207 ez207 => ?_))
                refine hq_p (ls' := [some (.ref 62), some (.int x1), some (.int y111), some (.int z207), none]) rfl rfl ?_
                refine hq_p rfl rfl ?_
                exact K125 z207 none h204 (by omega) (by omega) rfl Jh204
              · replace c206 : 1 ≤ z205.toInt ∧ z205.toInt ≤ 1 := by omega
                refine hq_p rfl rfl (ty_ge (n := 1) nk_i1 (fun z208 ez208 => ?_))
                refine hq_p rfl rfl ?_
                refine hq_p (ls' := [some (.ref 62), some (.int x1), some (.int y111), some (.int z208), none]) rfl rfl ?_
                refine hq_p rfl rfl ?_
                exact K125 z208 none h204 (by omega) (by omega) rfl Jh204
      · refine hq_p rfl rfl ?_
        refine hq_p rfl rfl ?_
        refine ty_callj 0 (W := ty_Wr) H Jh113 rfl (fun _ => rfl) rfl rfl rfl (hq_pre_o Ih113.1 (x := 62) (ci := 3) rfl (by decide) rfl rfl rfl rfl) (fun _ _ w => w) (fun _ w => w) (ct_39 (k1 := 1) (by omega) hX (by decide)) (fun h210 _ Jh210 P209 => ?_)
        have Ih210 := H.1 h210 Jh210
        obtain ⟨z211, rfl, az211, bz211⟩ := P209
        refine ty_zeq rfl (fun c212 => ?_) (fun c212 => ?_)
        · refine hq_p rfl rfl ?_
          refine hq_p rfl rfl ?_
          refine ty_callp 0 Ih210 rfl (fun _ => rfl) rfl rfl rfl (hq_pre_o Ih210.1 (x := 62) (ci := 3) rfl (by decide) rfl rfl rfl rfl) (ct_40 (k1 := 2) (by omega) hX (by decide)) (fun _ P213 => ?_)
          obtain ⟨z214, rfl, az214, bz214⟩ := P213
          have K218 : ∀ (y215 : Int32) (w216 : Option Value) (h217 : pm_H), 0 ≤ y215.toInt → y215.toInt ≤ 1 → pm_two w216 = false → J h217 → hq_W X d 3 false (some .boolean) pm_c34 (177, [some (.ref 62), some (.int x1), some (.int y111), some (.int y215), w216], [], h217) (fun h' v => J h' ∧ (ty_pi 0 1) h' v) := by
            intro y215 w216 h217 ay215 by215 kw216 Jh217
            have Ih217 := H.1 h217 Jh217
            refine hq_p rfl rfl ?_
            refine ty_zeq rfl (fun c219 => ?_) (fun c219 => ?_)
            · refine hq_p rfl rfl ?_
              exact ty_rB rfl rfl (by omega) (by omega) ⟨Jh217, _, rfl, by omega, by omega⟩
            · replace c219 : 1 ≤ y111.toInt ∧ y111.toInt ≤ 1 := by omega
              refine hq_p rfl rfl ?_
              refine hq_gR Ih217.1 rfl rfl (by decide) (by decide) rfl ?_
              refine hq_p rfl rfl (ty_ge (n := 3) nk_i3 (fun z220 ez220 => ?_))
              refine hq_p rfl rfl (ty_ge (n := 0) nk_i0 (fun z221 ez221 => ?_))
              refine ty_callj 0 (W := ty_Wr) H Jh217 rfl (fun _ => rfl) rfl rfl rfl (hq_pre_o Ih217.1 (x := 64) (ci := 7) rfl (by decide) rfl rfl rfl rfl) (fun _ _ w => w) (fun _ w => w) (ct_63 (x1 := z220) (x2 := z221) (by omega) (by omega) (by omega)) (fun h223 _ Jh223 P222 => ?_)
              have Ih223 := H.1 h223 Jh223
              subst P222
              refine hq_p rfl rfl ?_
              exact ty_rB rfl rfl (by omega) (by omega) ⟨Jh223, _, rfl, by omega, by omega⟩
          refine ty_zeq rfl (fun c224 => ?_) (fun c224 => ?_)
          · refine hq_p rfl rfl ?_
            refine hq_p rfl rfl (ty_ge (n := 2) nk_i2 (fun z225 ez225 => ?_))
            refine hq_p rfl rfl ?_
            refine ty_callj 0 (W := ty_Wr) H Jh210 rfl (fun _ => rfl) rfl rfl rfl (hq_pre_o Ih210.1 (x := 62) (ci := 3) rfl (by decide) rfl rfl rfl rfl) (fun _ _ w => w) (fun _ w => w) (hr2 (by omega) h210 z225 x1 (by omega) (by omega)) (fun h227 _ Jh227 P226 => ?_)
            have Ih227 := H.1 h227 Jh227
            obtain ⟨z228, rfl, az228, bz228⟩ := P226
            refine hq_p (ls' := [some (.ref 62), some (.int x1), some (.int y111), some (.int z228), none]) rfl rfl ?_
            refine hq_p rfl rfl ?_
            refine hq_p rfl rfl ?_
            refine ty_callp 0 Ih227 rfl (fun _ => rfl) rfl rfl rfl (hq_pre_o Ih227.1 (x := 62) (ci := 3) rfl (by decide) rfl rfl rfl rfl) (ct_40 (k1 := 4) (by omega) hX (by decide)) (fun _ P229 => ?_)
            obtain ⟨z230, rfl, az230, bz230⟩ := P229
            have K232 : ∀ (y231 : Int32), 11 ≤ y231.toInt → y231.toInt ≤ 13 → hq_W X d 3 false (some .boolean) pm_c34 (119, [some (.ref 62), some (.int x1), some (.int y111), some (.int z228), none], [.int y231], h227) (fun h' v => J h' ∧ (ty_pi 0 1) h' v) := by
              intro y231 ay231 by231
              refine hq_p (ls' := [some (.ref 62), some (.int x1), some (.int y111), some (.int z228), some (.int y231)]) rfl rfl ?_
              refine hq_p rfl rfl ?_
              have K235 : ∀ (y233 : Int32) (h234 : pm_H), 0 ≤ y233.toInt → y233.toInt ≤ 1 → J h234 → hq_W X d 3 false (some .boolean) pm_c34 (166, [some (.ref 62), some (.int x1), some (.int y111), some (.int z228), some (.int y231)], [.int y233], h234) (fun h' v => J h' ∧ (ty_pi 0 1) h' v) := by
                intro y233 h234 ay233 by233 Jh234
                have Ih234 := H.1 h234 Jh234
                refine hq_p (ls' := [some (.ref 62), some (.int x1), some (.int y111), some (.int y233), some (.int y231)]) rfl rfl ?_
                refine hq_p rfl rfl ?_
                refine hq_gR Ih234.1 rfl rfl (by decide) (by decide) rfl ?_
                refine hq_p rfl rfl ?_
                refine hq_p rfl rfl (ty_ge (n := 0) nk_i0 (fun z236 ez236 => ?_))
                refine ty_callj 0 (W := ty_Wr) H Jh234 rfl (fun _ => rfl) rfl rfl rfl (hq_pre_o Ih234.1 (x := 64) (ci := 7) rfl (by decide) rfl rfl rfl rfl) (fun _ _ w => w) (fun _ w => w) (ct_63 (x1 := y231) (x2 := z236) (by omega) (by omega) (by omega)) (fun h238 _ Jh238 P237 => ?_)
                have Ih238 := H.1 h238 Jh238
                subst P237
                exact K218 y233 (some (.int y231)) h238 (by omega) (by omega) rfl Jh238
              refine ty_zeq rfl (fun c239 => ?_) (fun c239 => ?_)
              · refine hq_p rfl rfl (ty_ge (n := 0) nk_i0 (fun z240 ez240 => ?_))
                exact K235 z240 h227 (by omega) (by omega) Jh227
              · replace c239 : 1 ≤ z228.toInt ∧ z228.toInt ≤ 1 := by omega
                refine hq_p rfl rfl ?_
                refine hq_p rfl rfl ?_
                refine ty_callj 0 (W := ty_Wr) H Jh227 rfl (fun _ => rfl) rfl rfl rfl (hq_pre_o Ih227.1 (x := 62) (ci := 3) rfl (by decide) rfl rfl rfl rfl) (fun _ _ w => w) (fun _ w => w) (ct_39 (k1 := 4) (by omega) hX (by decide)) (fun h242 _ Jh242 P241 => ?_)
                have Ih242 := H.1 h242 Jh242
                obtain ⟨z243, rfl, az243, bz243⟩ := P241
                refine ty_zne rfl (fun c244 => ?_) (fun c244 => ?_)
                · replace c244 : 1 ≤ z243.toInt ∧ z243.toInt ≤ 1 := by omega
                  refine hq_p rfl rfl ?_
                  refine hq_p rfl rfl (ty_ge (n := 2) nk_i2 (fun z245 ez245 => ?_))
                  refine hq_p rfl rfl ?_
                  refine ty_callj 0 (W := ty_Wr) H Jh242 rfl (fun _ => rfl) rfl rfl rfl (hq_pre_o Ih242.1 (x := 62) (ci := 3) rfl (by decide) rfl rfl rfl rfl) (fun _ _ w => w) (fun _ w => w) (hr2 (by omega) h242 z245 x1 (by omega) (by omega)) (fun h247 _ Jh247 P246 => ?_)
                  have Ih247 := H.1 h247 Jh247
                  obtain ⟨z248, rfl, az248, bz248⟩ := P246
                  refine ty_zeq rfl (fun c249 => ?_) (fun c249 => ?_)
                  · refine hq_p rfl rfl (ty_ge (n := 0) nk_i0 (fun z250 ez250 => ?_))
                    exact K235 z250 h247 (by omega) (by omega) Jh247
                  · replace c249 : 1 ≤ z248.toInt ∧ z248.toInt ≤ 1 := by omega
                    refine hq_p rfl rfl (ty_ge (n := 1) nk_i1 (fun z251 ez251 => ?_))
                    refine hq_p rfl rfl ?_
                    exact K235 z251 h247 (by omega) (by omega) Jh247
                · refine hq_p rfl rfl ?_
                  refine hq_p rfl rfl ?_
                  refine ty_callj 0 (W := ty_Wr) H Jh242 rfl (fun _ => rfl) rfl rfl rfl (hq_pre_o Ih242.1 (x := 62) (ci := 3) rfl (by decide) rfl rfl rfl rfl) (fun _ _ w => w) (fun _ w => w) (ct_39 (k1 := 5) (by omega) hX (by decide)) (fun h253 _ Jh253 P252 => ?_)
                  have Ih253 := H.1 h253 Jh253
                  obtain ⟨z254, rfl, az254, bz254⟩ := P252
                  refine ty_zne rfl (fun c255 => ?_) (fun c255 => ?_)
                  · replace c255 : 1 ≤ z254.toInt ∧ z254.toInt ≤ 1 := by omega
                    refine hq_p rfl rfl ?_
                    refine hq_p rfl rfl (ty_ge (n := 2) nk_i2 (fun z256 ez256 => ?_))
                    refine hq_p rfl rfl ?_
                    refine ty_callj 0 (W := ty_Wr) H Jh253 rfl (fun _ => rfl) rfl rfl rfl (hq_pre_o Ih253.1 (x := 62) (ci := 3) rfl (by decide) rfl rfl rfl rfl) (fun _ _ w => w) (fun _ w => w) (hr2 (by omega) h253 z256 x1 (by omega) (by omega)) (fun h258 _ Jh258 P257 => ?_)
                    have Ih258 := H.1 h258 Jh258
                    obtain ⟨z259, rfl, az259, bz259⟩ := P257
                    refine ty_zeq rfl (fun c260 => ?_) (fun c260 => ?_)
                    · refine hq_p rfl rfl (ty_ge (n := 0) nk_i0 (fun z261 ez261 => ?_))
                      exact K235 z261 h258 (by omega) (by omega) Jh258
                    · replace c260 : 1 ≤ z259.toInt ∧ z259.toInt ≤ 1 := by omega
                      refine hq_p rfl rfl (ty_ge (n := 1) nk_i1 (fun z262 ez262 => ?_))
                      refine hq_p rfl rfl ?_
                      exact K235 z262 h258 (by omega) (by omega) Jh258
                  · refine hq_p rfl rfl ?_
                    refine hq_p rfl rfl ?_
                    refine ty_callj 0 (W := ty_Wr) H Jh253 rfl (fun _ => rfl) rfl rfl rfl (hq_pre_o Ih253.1 (x := 62) (ci := 3) rfl (by decide) rfl rfl rfl rfl) (fun _ _ w => w) (fun _ w => w) (ct_39 (k1 := 6) (by omega) hX (by decide)) (fun h264 _ Jh264 P263 => ?_)
                    have Ih264 := H.1 h264 Jh264
                    obtain ⟨z265, rfl, az265, bz265⟩ := P263
                    refine ty_zeq rfl (fun c266 => ?_) (fun c266 => ?_)
                    · refine hq_p rfl rfl (ty_ge (n := 0) nk_i0 (fun z267 ez267 => ?_))
                      exact K235 z267 h264 (by omega) (by omega) Jh264
                    · replace c266 : 1 ≤ z265.toInt ∧ z265.toInt ≤ 1 := by omega
                      refine hq_p rfl rfl ?_
                      refine hq_p rfl rfl (ty_ge (n := 2) nk_i2 (fun z268 ez268 => ?_))
                      refine hq_p rfl rfl ?_
                      refine ty_callj 0 (W := ty_Wr) H Jh264 rfl (fun _ => rfl) rfl rfl rfl (hq_pre_o Ih264.1 (x := 62) (ci := 3) rfl (by decide) rfl rfl rfl rfl) (fun _ _ w => w) (fun _ w => w) (hr2 (by omega) h264 z268 x1 (by omega) (by omega)) (fun h270 _ Jh270 P269 => ?_)
                      have Ih270 := H.1 h270 Jh270
                      obtain ⟨z271, rfl, az271, bz271⟩ := P269
                      refine ty_zeq rfl (fun c272 => ?_) (fun c272 => ?_)
                      · refine hq_p rfl rfl (ty_ge (n := 0) nk_i0 (fun z273 ez273 => ?_))
                        exact K235 z273 h270 (by omega) (by omega) Jh270
                      · replace c272 : 1 ≤ z271.toInt ∧ z271.toInt ≤ 1 := by omega
                        refine hq_p rfl rfl (ty_ge (n := 1) nk_i1 (fun z274 ez274 => ?_))
                        refine hq_p rfl rfl ?_
                        exact K235 z274 h270 (by omega) (by omega) Jh270
            refine ty_zeq rfl (fun c275 => ?_) (fun c275 => ?_)
            · refine hq_p rfl rfl ?_
              refine hq_p rfl rfl ?_
              refine ty_callp 0 Ih227 rfl (fun _ => rfl) rfl rfl rfl (hq_pre_o Ih227.1 (x := 62) (ci := 3) rfl (by decide) rfl rfl rfl rfl) (ct_40 (k1 := 5) (by omega) hX (by decide)) (fun _ P276 => ?_)
              obtain ⟨z277, rfl, az277, bz277⟩ := P276
              refine ty_zeq rfl (fun c278 => ?_) (fun c278 => ?_)
              · refine hq_p rfl rfl (ty_ge (n := 13) nk_b13 (fun z279 ez279 => ?_))
                exact K232 z279 (by omega) (by omega)
              · replace c278 : 1 ≤ z277.toInt ∧ z277.toInt ≤ 1 := by omega
                refine hq_p rfl rfl (ty_ge (n := 12) nk_b12 (fun z280 ez280 => ?_))
                refine hq_p rfl rfl ?_
                exact K232 z280 (by omega) (by omega)
            · replace c275 : 1 ≤ z230.toInt ∧ z230.toInt ≤ 1 := by omega
              refine hq_p rfl rfl (ty_ge (n := 11) nk_b11 (fun z281 ez281 => ?_))
              refine hq_p rfl rfl ?_
              exact K232 z281 (by omega) (by omega)
          · replace c224 : 1 ≤ z214.toInt ∧ z214.toInt ≤ 1 := by omega
            refine hq_p rfl rfl ?_
            refine hq_p rfl rfl ?_
            refine ty_callj 0 (W := ty_Wr) H Jh210 rfl (fun _ => rfl) rfl rfl rfl (hq_pre_o Ih210.1 (x := 62) (ci := 3) rfl (by decide) rfl rfl rfl rfl) (fun _ _ w => w) (fun _ w => w) (ct_36 (x1 := x1) (by omega) (by omega) (by omega)) (fun h283 _ Jh283 P282 => ?_)
            have Ih283 := H.1 h283 Jh283
            obtain ⟨z284, rfl, az284, bz284, iz284⟩ := P282
            refine ty_zeq rfl (fun c285 => ?_) (fun c285 => ?_)
            · clear iz284
              refine hq_p rfl rfl (ty_ge (n := 0) nk_i0 (fun z286 ez286 => ?_))
              refine hq_p (ls' := [some (.ref 62), some (.int x1), some (.int y111), some (.int z286), none]) rfl rfl ?_
              refine hq_p rfl rfl ?_
              exact K218 z286 none h283 (by omega) (by omega) rfl Jh283
            · replace c285 : 1 ≤ z284.toInt ∧ z284.toInt ≤ 1 := by omega
              have f287 := iz284 (by omega)
              clear iz284
              refine hq_p rfl rfl ?_
              refine hq_p rfl rfl (ty_ge (n := 0) nk_i0 (fun z288 ez288 => ?_))
              refine hq_p rfl rfl ?_
              refine hq_p rfl rfl (ty_ge (n := 1) nk_i1 (fun z289 ez289 => ?_))
              refine hq_p rfl rfl (ty_ge (n := x1.toInt + z289.toInt) (nm_add (by omega) (by omega)) (fun z290 ez290 => ?_))
              refine ty_callj 0 (W := ty_Wr) H Jh283 rfl (fun _ => rfl) rfl rfl rfl (hq_pre_o Ih283.1 (x := 62) (ci := 3) rfl (by decide) rfl rfl rfl rfl) (fun _ _ w => w) (fun _ w => w) (hr0 (by omega) h283 z288 z290 (by omega) (by omega)) (fun h292 _ Jh292 P291 => ?_)
              have Ih292 := H.1 h292 Jh292
              obtain ⟨z293, rfl, az293, bz293⟩ := P291
              refine ty_zeq rfl (fun c294 => ?_) (fun c294 => ?_)
              · refine hq_p rfl rfl (ty_ge (n := 0) nk_i0 (fun z295 ez295 => ?_))
                refine hq_p (ls' := [some (.ref 62), some (.int x1), some (.int y111), some (.int z295), none]) rfl rfl ?_
                refine hq_p rfl rfl ?_
                exact K218 z295 none h292 (by omega) (by omega) rfl Jh292
              · replace c294 : 1 ≤ z293.toInt ∧ z293.toInt ≤ 1 := by omega
                refine hq_p rfl rfl ?_
                refine hq_p rfl rfl ?_
                refine ty_callj 0 (W := ty_Wr) H Jh292 rfl (fun _ => rfl) rfl rfl rfl (hq_pre_o Ih292.1 (x := 62) (ci := 3) rfl (by decide) rfl rfl rfl rfl) (fun _ _ w => w) (fun _ w => w) (ct_39 (k1 := 3) (by omega) hX (by decide)) (fun h297 _ Jh297 P296 => ?_)
                have Ih297 := H.1 h297 Jh297
                obtain ⟨z298, rfl, az298, bz298⟩ := P296
                refine ty_zeq rfl (fun c299 => ?_) (fun c299 => ?_)
                · refine hq_p rfl rfl (ty_ge (n := 0) nk_i0 (fun z300 ez300 => ?_))
                  refine hq_p (ls' := [some (.ref 62), some (.int x1), some (.int y111), some (.int z300), none]) rfl rfl ?_
                  refine hq_p rfl rfl ?_
                  exact K218 z300 none h297 (by omega) (by omega) rfl Jh297
                · replace c299 : 1 ≤ z298.toInt ∧ z298.toInt ≤ 1 := by omega
                  refine hq_p rfl rfl (ty_ge (n := 1) nk_i1 (fun z301 ez301 => ?_))
                  refine hq_p rfl rfl ?_
                  refine hq_p (ls' := [some (.ref 62), some (.int x1), some (.int y111), some (.int z301), none]) rfl rfl ?_
                  refine hq_p rfl rfl ?_
                  exact K218 z301 none h297 (by omega) (by omega) rfl Jh297
        · replace c212 : 1 ≤ z211.toInt ∧ z211.toInt ≤ 1 := by omega
          refine hq_p rfl rfl ?_
          refine ty_zne rfl (fun c302 => ?_) (fun c302 => ?_)
          · replace c302 : 1 ≤ y111.toInt ∧ y111.toInt ≤ 1 := by omega
            refine hq_p rfl rfl (ty_ge (n := 0) nk_i0 (fun z303 ez303 => ?_))
            refine hq_p (ls' := [some (.ref 62), some (.int x1), some (.int z303), some (.int y112), none]) rfl rfl ?_
            refine ty_inc (ls' := fun z304 => [some (.ref 62), some (.int x1), some (.int z303), some (.int z304), none]) rfl rfl (fun _ => rfl) (nm_addc nk_i1 (by omega) (by omega)) (fun z304 ez304 => ?_)
            refine hq_p rfl rfl ?_
            exact ihn117 ((400 - z304.toInt).toNat) (by omega) z303 z304 h210 rfl (by omega) (by omega) (by omega) (by omega) Jh210
          · refine hq_p rfl rfl (ty_ge (n := 1) nk_i1 (fun z305 ez305 => ?_))
            refine hq_p rfl rfl ?_
            refine hq_p (ls' := [some (.ref 62), some (.int x1), some (.int z305), some (.int y112), none]) rfl rfl ?_
            refine ty_inc (ls' := fun z306 => [some (.ref 62), some (.int x1), some (.int z305), some (.int z306), none]) rfl rfl (fun _ => rfl) (nm_addc nk_i1 (by omega) (by omega)) (fun z306 ez306 => ?_)
            refine hq_p rfl rfl ?_
            exact ihn117 ((400 - z306.toInt).toNat) (by omega) z305 z306 h210 rfl (by omega) (by omega) (by omega) (by omega) Jh210
  exact L4_n117 _ z1 z2 h rfl (by omega) (by omega) (by omega) (by omega) hJ
theorem ct_32r3 {X : pm_X} {d : Nat} {h : pm_H} {x1 : Int32} {x2 : Int32} (hd : 7 ≤ d) (hX : ty_SX X) (ax1 : 3 ≤ x1.toInt) (bx1 : x1.toInt ≤ 3) (ax2 : 0 ≤ x2.toInt) (bx2 : x2.toInt ≤ 8) (hr : ∀ (h1 : pm_H) (z : Int32), z.toInt = x2.toInt → ty_M X ty_Wr (d - 1) 35 [.ref 62, .int z] h1 (ty_pi 0 1)) : ty_M X ty_Wr d 32 [.ref 62, .int x1, .int x2] h (ty_pi 0 1) := by
  intro J H hJ
  obtain ⟨d, rfl⟩ : ∃ e, d = e + 1 := ⟨d - 1, by omega⟩
  have I := H.1 h hJ
  refine hq_M.enter (q := (⟨"TrainBearers$Reader", "chain", "(II)Z"⟩, _, 8, some .boolean, 3, 3, pm_c32)) rfl rfl ?_
  show hq_W X d 3 false (some .boolean) pm_c32 (0, [some (.ref 62), some (.int x1), some (.int x2), none, none, none, none, none], [], h) (fun h' v => J h' ∧ (ty_pi 0 1) h' v)
  refine hq_p rfl rfl ?_
  refine ty_zeq rfl (fun c1 => ?_) (fun c1 => ?_)
  · exfalso; omega
  · clear c1
    refine hq_p rfl rfl ?_
    refine hq_p rfl rfl (ty_ge (n := 1) nk_i1 (fun z2 ez2 => ?_))
    refine ty_ine rfl (fun c3 => ?_) (fun c3 => ?_)
    · clear c3
      refine hq_p rfl rfl (ty_ge (n := 0) nk_i0 (fun z4 ez4 => ?_))
      refine hq_p (ls' := [some (.ref 62), some (.int x1), some (.int x2), some (.int z4), none, none, none, none]) rfl rfl ?_
      refine hq_p rfl rfl (ty_ge (n := -1) nk_im1 (fun z5 ez5 => ?_))
      refine hq_p (ls' := [some (.ref 62), some (.int x1), some (.int x2), some (.int z4), some (.int z5), none, none, none]) rfl rfl ?_
      refine hq_p rfl rfl (ty_ge (n := -1) nk_im1 (fun z6 ez6 => ?_))
      refine hq_p (ls' := [some (.ref 62), some (.int x1), some (.int x2), some (.int z4), some (.int z5), some (.int z6), none, none]) rfl rfl ?_
      refine hq_p rfl rfl (ty_ge (n := 0) nk_i0 (fun z7 ez7 => ?_))
      refine hq_p (ls' := [some (.ref 62), some (.int x1), some (.int x2), some (.int z4), some (.int z5), some (.int z6), some (.int z7), none]) rfl rfl ?_
      have L24_n198 : ∀ n198 : Nat, ∀ (y188 : Int32) (y189 : Int32) (y190 : Int32) (w191 : Option Value) (h192 : pm_H), (400 - y190.toInt).toNat = n198 → -1 ≤ y188.toInt → y188.toInt ≤ 10 → -1 ≤ y189.toInt → y189.toInt ≤ 400 → 0 ≤ y190.toInt → y190.toInt ≤ 400 → pm_two w191 = false → J h192 → hq_W X d 3 false (some .boolean) pm_c32 (24, [some (.ref 62), some (.int x1), some (.int x2), some (.int z4), some (.int y188), some (.int y189), some (.int y190), w191], [], h192) (fun h' v => J h' ∧ (ty_pi 0 1) h' v) := by
        intro n198
        induction n198 using Nat.strongRecOn with
        | ind n198 ihn198 =>
          intro y188 y189 y190 w191 h192 mn198 ay188 by188 ay189 by189 ay190 by190 kw191 Jh192
          have Ih192 := H.1 h192 Jh192
          refine hq_p rfl rfl ?_
          refine hq_p rfl rfl (ty_ge (n := 400) nk_s400 (fun z199 ez199 => ?_))
          refine ty_ige rfl (fun c200 => ?_) (fun c200 => ?_)
          · refine hq_p rfl rfl (ty_ge (n := 0) nk_i0 (fun z201 ez201 => ?_))
            exact ty_rB rfl rfl (by omega) (by omega) ⟨Jh192, _, rfl, by omega, by omega⟩
          · refine hq_p rfl rfl ?_
            refine hq_p rfl rfl (ty_ge (n := 1) nk_i1 (fun z202 ez202 => ?_))
            refine ty_ine rfl (fun c203 => ?_) (fun c203 => ?_)
            · clear c203
              refine hq_p rfl rfl ?_
              refine hq_p rfl rfl (ty_ge (n := 3) nk_i3 (fun z204 ez204 => ?_))
              refine ty_ine rfl (fun c205 => ?_) (fun c205 => ?_)
              · exfalso; omega
              · refine hq_p rfl rfl ?_
                refine hq_p rfl rfl ?_
                refine ty_callj 0 (W := ty_Wr) H Jh192 rfl (fun _ => rfl) rfl rfl rfl (hq_pre_o Ih192.1 (x := 62) (ci := 3) rfl (by decide) rfl rfl rfl rfl) (fun _ _ w => w) (fun _ w => w) (hr h192 x2 (by omega)) (fun h207 _ Jh207 P206 => ?_)
                have Ih207 := H.1 h207 Jh207
                obtain ⟨z208, rfl, az208, bz208⟩ := P206
                refine hq_p rfl rfl ?_
                refine hq_p (ls' := [some (.ref 62), some (.int x1), some (.int x2), some (.int z4), some (.int y188), some (.int y189), some (.int y190), some (.int z208)]) rfl rfl ?_
                refine hq_p rfl rfl ?_
                have K210 : ∀ (h209 : pm_H), J h209 → hq_W X d 3 false (some .boolean) pm_c32 (100, [some (.ref 62), some (.int x1), some (.int x2), some (.int z4), some (.int y188), some (.int y189), some (.int y190), some (.int z208)], [], h209) (fun h' v => J h' ∧ (ty_pi 0 1) h' v) := by
                  intro h209 Jh209
                  have Ih209 := H.1 h209 Jh209
                  refine hq_p rfl rfl ?_
                  refine hq_p rfl rfl ?_
                  refine ty_callp 0 Ih209 rfl (fun _ => rfl) rfl rfl rfl (hq_pre_o Ih209.1 (x := 62) (ci := 3) rfl (by decide) rfl rfl rfl rfl) (ct_33 (x1 := x1) (by omega) hX (by omega) (by omega)) (fun _ P211 => ?_)
                  obtain ⟨z212, rfl, az212, bz212⟩ := P211
                  refine hq_p (ls' := [some (.ref 62), some (.int x1), some (.int x2), some (.int z4), some (.int z212), some (.int y189), some (.int y190), some (.int z208)]) rfl rfl ?_
                  refine hq_p rfl rfl ?_
                  refine ty_zeq rfl (fun c213 => ?_) (fun c213 => ?_)
                  · refine hq_p rfl rfl ?_
                    exact ty_rB rfl rfl (by omega) (by omega) ⟨Jh209, _, rfl, by omega, by omega⟩
                  · replace c213 : 1 ≤ z208.toInt ∧ z208.toInt ≤ 1 := by omega
                    refine hq_p rfl rfl ?_
                    refine hq_p rfl rfl (ty_ge (n := -1) nk_im1 (fun z214 ez214 => ?_))
                    refine ty_ine rfl (fun c215 => ?_) (fun c215 => ?_)
                    · replace c215 : 0 ≤ z212.toInt ∧ z212.toInt ≤ 10 := by omega
                      refine hq_p rfl rfl ?_
                      refine hq_gR Ih209.1 rfl rfl (by decide) (by decide) rfl ?_
                      refine ty_gI Ih209 rfl rfl (by decide) (by decide) rfl rfl (fun z216 ez216 az216 bz216 => ?_)
                      refine hq_p (ls' := [some (.ref 62), some (.int x1), some (.int x2), some (.int z4), some (.int z212), some (.int z216), some (.int y190), some (.int z208)]) rfl rfl ?_
                      refine hq_p rfl rfl ?_
                      refine ty_zeq rfl (fun c217 => ?_) (fun c217 => ?_)
                      · refine hq_p rfl rfl ?_
                        refine ty_callj 0 (W := ty_Wr) H Jh209 rfl (fun _ => rfl) rfl rfl rfl (hq_pre_o Ih209.1 (x := 62) (ci := 3) rfl (by decide) rfl rfl rfl rfl) (fun _ _ w => w) (fun _ w => w) (ct_38 (by omega)) (fun h219 _ Jh219 P218 => ?_)
                        have Ih219 := H.1 h219 Jh219
                        subst P218
                        refine ty_inc (ls' := fun z220 => [some (.ref 62), some (.int x1), some (.int x2), some (.int z4), some (.int z212), some (.int z216), some (.int z220), some (.int z208)]) rfl rfl (fun _ => rfl) (nm_addc nk_i1 (by omega) (by omega)) (fun z220 ez220 => ?_)
                        refine hq_p rfl rfl ?_
                        exact ihn198 ((400 - z220.toInt).toNat) (by omega) z212 z216 z220 (some (.int z208)) h219 rfl (by omega) (by omega) (by omega) (by omega) (by omega) (by omega) rfl Jh219
                      · exfalso; omega
                    · refine hq_p rfl rfl ?_
                      exact ty_rB rfl rfl (by omega) (by omega) ⟨Jh209, _, rfl, by omega, by omega⟩
                refine ty_zeq rfl (fun c221 => ?_) (fun c221 => ?_)
                · refine hq_p rfl rfl ?_
                  refine hq_p rfl rfl (ty_ge (n := -1) nk_im1 (fun z222 ez222 => ?_))
                  refine ty_ieq rfl (fun c223 => ?_) (fun c223 => ?_)
                  · exact K210 h207 Jh207
                  · replace c223 : 0 ≤ y188.toInt ∧ y188.toInt ≤ 10 := by omega
                    refine hq_p rfl rfl ?_
                    refine hq_gR Ih207.1 rfl rfl (by decide) (by decide) rfl ?_
                    refine hq_p rfl rfl ?_
                    refine hq_p rfl rfl (ty_ge (n := 0) nk_i0 (fun z224 ez224 => ?_))
                    refine ty_callj 0 (W := ty_Wr) H Jh207 rfl (fun _ => rfl) rfl rfl rfl (hq_pre_o Ih207.1 (x := 64) (ci := 7) rfl (by decide) rfl rfl rfl rfl) (fun _ _ w => w) (fun _ w => w) (ct_63 (x1 := y188) (x2 := z224) (by omega) (by omega) (by omega)) (fun h226 _ Jh226 P225 => ?_)
                    have Ih226 := H.1 h226 Jh226
                    subst P225
                    exact K210 h226 Jh226
                · exfalso; omega
            · exfalso; omega
      exact L24_n198 _ z5 z6 z7 none h rfl (by omega) (by omega) (by omega) (by omega) (by omega) (by omega) rfl hJ
    · exfalso; omega
theorem ct_32r2 {X : pm_X} {d : Nat} {h : pm_H} {x1 : Int32} {x2 : Int32} (hd : 7 ≤ d) (hX : ty_SX X) (ax1 : 2 ≤ x1.toInt) (bx1 : x1.toInt ≤ 2) (ax2 : 0 ≤ x2.toInt) (bx2 : x2.toInt ≤ 8) (hr : ∀ (h1 : pm_H) (y z : Int32), y.toInt = 3 → z.toInt = x2.toInt → ty_M X ty_Wr (d - 1) 32 [.ref 62, .int y, .int z] h1 (ty_pi 0 1)) : ty_M X ty_Wr d 32 [.ref 62, .int x1, .int x2] h (ty_pi 0 1) := by
  intro J H hJ
  obtain ⟨d, rfl⟩ : ∃ e, d = e + 1 := ⟨d - 1, by omega⟩
  have I := H.1 h hJ
  refine hq_M.enter (q := (⟨"TrainBearers$Reader", "chain", "(II)Z"⟩, _, 8, some .boolean, 3, 3, pm_c32)) rfl rfl ?_
  show hq_W X d 3 false (some .boolean) pm_c32 (0, [some (.ref 62), some (.int x1), some (.int x2), none, none, none, none, none], [], h) (fun h' v => J h' ∧ (ty_pi 0 1) h' v)
  refine hq_p rfl rfl ?_
  refine ty_zeq rfl (fun c1 => ?_) (fun c1 => ?_)
  · exfalso; omega
  · clear c1
    refine hq_p rfl rfl ?_
    refine hq_p rfl rfl (ty_ge (n := 1) nk_i1 (fun z2 ez2 => ?_))
    refine ty_ine rfl (fun c3 => ?_) (fun c3 => ?_)
    · clear c3
      refine hq_p rfl rfl (ty_ge (n := 0) nk_i0 (fun z4 ez4 => ?_))
      refine hq_p (ls' := [some (.ref 62), some (.int x1), some (.int x2), some (.int z4), none, none, none, none]) rfl rfl ?_
      refine hq_p rfl rfl (ty_ge (n := -1) nk_im1 (fun z5 ez5 => ?_))
      refine hq_p (ls' := [some (.ref 62), some (.int x1), some (.int x2), some (.int z4), some (.int z5), none, none, none]) rfl rfl ?_
      refine hq_p rfl rfl (ty_ge (n := -1) nk_im1 (fun z6 ez6 => ?_))
      refine hq_p (ls' := [some (.ref 62), some (.int x1), some (.int x2), some (.int z4), some (.int z5), some (.int z6), none, none]) rfl rfl ?_
      refine hq_p rfl rfl (ty_ge (n := 0) nk_i0 (fun z7 ez7 => ?_))
      refine hq_p (ls' := [some (.ref 62), some (.int x1), some (.int x2), some (.int z4), some (.int z5), some (.int z6), some (.int z7), none]) rfl rfl ?_
      have L24_n198 : ∀ n198 : Nat, ∀ (y188 : Int32) (y189 : Int32) (y190 : Int32) (w191 : Option Value) (h192 : pm_H), (400 - y190.toInt).toNat = n198 → -1 ≤ y188.toInt → y188.toInt ≤ 10 → -1 ≤ y189.toInt → y189.toInt ≤ 400 → 0 ≤ y190.toInt → y190.toInt ≤ 400 → pm_two w191 = false → J h192 → hq_W X d 3 false (some .boolean) pm_c32 (24, [some (.ref 62), some (.int x1), some (.int x2), some (.int z4), some (.int y188), some (.int y189), some (.int y190), w191], [], h192) (fun h' v => J h' ∧ (ty_pi 0 1) h' v) := by
        intro n198
        induction n198 using Nat.strongRecOn with
        | ind n198 ihn198 =>
          intro y188 y189 y190 w191 h192 mn198 ay188 by188 ay189 by189 ay190 by190 kw191 Jh192
          have Ih192 := H.1 h192 Jh192
          refine hq_p rfl rfl ?_
          refine hq_p rfl rfl (ty_ge (n := 400) nk_s400 (fun z199 ez199 => ?_))
          refine ty_ige rfl (fun c200 => ?_) (fun c200 => ?_)
          · refine hq_p rfl rfl (ty_ge (n := 0) nk_i0 (fun z201 ez201 => ?_))
            exact ty_rB rfl rfl (by omega) (by omega) ⟨Jh192, _, rfl, by omega, by omega⟩
          · refine hq_p rfl rfl ?_
            refine hq_p rfl rfl (ty_ge (n := 1) nk_i1 (fun z202 ez202 => ?_))
            refine ty_ine rfl (fun c203 => ?_) (fun c203 => ?_)
            · clear c203
              refine hq_p rfl rfl ?_
              refine hq_p rfl rfl (ty_ge (n := 3) nk_i3 (fun z204 ez204 => ?_))
              refine ty_ine rfl (fun c205 => ?_) (fun c205 => ?_)
              · clear c205
                refine hq_p rfl rfl ?_
                refine hq_p rfl rfl ?_
                refine hq_p rfl rfl (ty_ge (n := 1) nk_i1 (fun z206 ez206 => ?_))
                refine hq_p rfl rfl (ty_ge (n := x1.toInt + z206.toInt) (nm_add (by omega) (by omega)) (fun z207 ez207 => ?_))
                refine hq_p rfl rfl ?_
                refine ty_callj 0 (W := ty_Wr) H Jh192 rfl (fun _ => rfl) rfl rfl rfl (hq_pre_o Ih192.1 (x := 62) (ci := 3) rfl (by decide) rfl rfl rfl rfl) (fun _ _ w => w) (fun _ w => w) (hr h192 z207 x2 (by omega) (by omega)) (fun h209 _ Jh209 P208 => ?_)
                have Ih209 := H.1 h209 Jh209
                obtain ⟨z210, rfl, az210, bz210⟩ := P208
                refine hq_p (ls' := [some (.ref 62), some (.int x1), some (.int x2), some (.int z4), some (.int y188), some (.int y189), some (.int y190), some (.int z210)]) rfl rfl ?_
                refine hq_p rfl rfl ?_
                have K212 : ∀ (h211 : pm_H), J h211 → hq_W X d 3 false (some .boolean) pm_c32 (100, [some (.ref 62), some (.int x1), some (.int x2), some (.int z4), some (.int y188), some (.int y189), some (.int y190), some (.int z210)], [], h211) (fun h' v => J h' ∧ (ty_pi 0 1) h' v) := by
                  intro h211 Jh211
                  have Ih211 := H.1 h211 Jh211
                  refine hq_p rfl rfl ?_
                  refine hq_p rfl rfl ?_
                  refine ty_callp 0 Ih211 rfl (fun _ => rfl) rfl rfl rfl (hq_pre_o Ih211.1 (x := 62) (ci := 3) rfl (by decide) rfl rfl rfl rfl) (ct_33 (x1 := x1) (by omega) hX (by omega) (by omega)) (fun _ P213 => ?_)
                  obtain ⟨z214, rfl, az214, bz214⟩ := P213
                  refine hq_p (ls' := [some (.ref 62), some (.int x1), some (.int x2), some (.int z4), some (.int z214), some (.int y189), some (.int y190), some (.int z210)]) rfl rfl ?_
                  refine hq_p rfl rfl ?_
                  refine ty_zeq rfl (fun c215 => ?_) (fun c215 => ?_)
                  · refine hq_p rfl rfl ?_
                    exact ty_rB rfl rfl (by omega) (by omega) ⟨Jh211, _, rfl, by omega, by omega⟩
                  · replace c215 : 1 ≤ z210.toInt ∧ z210.toInt ≤ 1 := by omega
                    refine hq_p rfl rfl ?_
                    refine hq_p rfl rfl (ty_ge (n := -1) nk_im1 (fun z216 ez216 => ?_))
                    refine ty_ine rfl (fun c217 => ?_) (fun c217 => ?_)
                    · replace c217 : 0 ≤ z214.toInt ∧ z214.toInt ≤ 10 := by omega
                      refine hq_p rfl rfl ?_
                      refine hq_gR Ih211.1 rfl rfl (by decide) (by decide) rfl ?_
                      refine ty_gI Ih211 rfl rfl (by decide) (by decide) rfl rfl (fun z218 ez218 az218 bz218 => ?_)
                      refine hq_p (ls' := [some (.ref 62), some (.int x1), some (.int x2), some (.int z4), some (.int z214), some (.int z218), some (.int y190), some (.int z210)]) rfl rfl ?_
                      refine hq_p rfl rfl ?_
                      refine ty_zeq rfl (fun c219 => ?_) (fun c219 => ?_)
                      · refine hq_p rfl rfl ?_
                        refine ty_callj 0 (W := ty_Wr) H Jh211 rfl (fun _ => rfl) rfl rfl rfl (hq_pre_o Ih211.1 (x := 62) (ci := 3) rfl (by decide) rfl rfl rfl rfl) (fun _ _ w => w) (fun _ w => w) (ct_38 (by omega)) (fun h221 _ Jh221 P220 => ?_)
                        have Ih221 := H.1 h221 Jh221
                        subst P220
                        refine ty_inc (ls' := fun z222 => [some (.ref 62), some (.int x1), some (.int x2), some (.int z4), some (.int z214), some (.int z218), some (.int z222), some (.int z210)]) rfl rfl (fun _ => rfl) (nm_addc nk_i1 (by omega) (by omega)) (fun z222 ez222 => ?_)
                        refine hq_p rfl rfl ?_
                        exact ihn198 ((400 - z222.toInt).toNat) (by omega) z214 z218 z222 (some (.int z210)) h221 rfl (by omega) (by omega) (by omega) (by omega) (by omega) (by omega) rfl Jh221
                      · exfalso; omega
                    · refine hq_p rfl rfl ?_
                      exact ty_rB rfl rfl (by omega) (by omega) ⟨Jh211, _, rfl, by omega, by omega⟩
                refine ty_zeq rfl (fun c223 => ?_) (fun c223 => ?_)
                · refine hq_p rfl rfl ?_
                  refine hq_p rfl rfl (ty_ge (n := -1) nk_im1 (fun z224 ez224 => ?_))
                  refine ty_ieq rfl (fun c225 => ?_) (fun c225 => ?_)
                  · exact K212 h209 Jh209
                  · replace c225 : 0 ≤ y188.toInt ∧ y188.toInt ≤ 10 := by omega
                    refine hq_p rfl rfl ?_
                    refine hq_gR Ih209.1 rfl rfl (by decide) (by decide) rfl ?_
                    refine hq_p rfl rfl ?_
                    refine hq_p rfl rfl (ty_ge (n := 0) nk_i0 (fun z226 ez226 => ?_))
                    refine ty_callj 0 (W := ty_Wr) H Jh209 rfl (fun _ => rfl) rfl rfl rfl (hq_pre_o Ih209.1 (x := 64) (ci := 7) rfl (by decide) rfl rfl rfl rfl) (fun _ _ w => w) (fun _ w => w) (ct_63 (x1 := y188) (x2 := z226) (by omega) (by omega) (by omega)) (fun h228 _ Jh228 P227 => ?_)
                    have Ih228 := H.1 h228 Jh228
                    subst P227
                    exact K212 h228 Jh228
                · exfalso; omega
              · exfalso; omega
            · exfalso; omega
      exact L24_n198 _ z5 z6 z7 none h rfl (by omega) (by omega) (by omega) (by omega) (by omega) (by omega) rfl hJ
    · exfalso; omega
theorem ct_32r1 {X : pm_X} {d : Nat} {h : pm_H} {x1 : Int32} {x2 : Int32} (hd : 7 ≤ d) (hX : ty_SX X) (ax1 : 1 ≤ x1.toInt) (bx1 : x1.toInt ≤ 1) (ax2 : 0 ≤ x2.toInt) (bx2 : x2.toInt ≤ 8) (hr : ∀ (h1 : pm_H) (z : Int32), z.toInt = x2.toInt → ty_M X ty_Wr (d - 1) 34 [.ref 62, .int z] h1 (ty_pi 0 1)) : ty_M X ty_Wr d 32 [.ref 62, .int x1, .int x2] h (ty_pi 0 1) := by
  intro J H hJ
  obtain ⟨d, rfl⟩ : ∃ e, d = e + 1 := ⟨d - 1, by omega⟩
  have I := H.1 h hJ
  refine hq_M.enter (q := (⟨"TrainBearers$Reader", "chain", "(II)Z"⟩, _, 8, some .boolean, 3, 3, pm_c32)) rfl rfl ?_
  show hq_W X d 3 false (some .boolean) pm_c32 (0, [some (.ref 62), some (.int x1), some (.int x2), none, none, none, none, none], [], h) (fun h' v => J h' ∧ (ty_pi 0 1) h' v)
  refine hq_p rfl rfl ?_
  refine ty_zeq rfl (fun c1 => ?_) (fun c1 => ?_)
  · exfalso; omega
  · clear c1
    refine hq_p rfl rfl ?_
    refine hq_p rfl rfl (ty_ge (n := 1) nk_i1 (fun z2 ez2 => ?_))
    refine ty_ine rfl (fun c3 => ?_) (fun c3 => ?_)
    · exfalso; omega
    · refine hq_p rfl rfl (ty_ge (n := 1) nk_i1 (fun z4 ez4 => ?_))
      refine hq_p rfl rfl ?_
      refine hq_p (ls' := [some (.ref 62), some (.int x1), some (.int x2), some (.int z4), none, none, none, none]) rfl rfl ?_
      refine hq_p rfl rfl (ty_ge (n := -1) nk_im1 (fun z5 ez5 => ?_))
      refine hq_p (ls' := [some (.ref 62), some (.int x1), some (.int x2), some (.int z4), some (.int z5), none, none, none]) rfl rfl ?_
      refine hq_p rfl rfl (ty_ge (n := -1) nk_im1 (fun z6 ez6 => ?_))
      refine hq_p (ls' := [some (.ref 62), some (.int x1), some (.int x2), some (.int z4), some (.int z5), some (.int z6), none, none]) rfl rfl ?_
      refine hq_p rfl rfl (ty_ge (n := 0) nk_i0 (fun z7 ez7 => ?_))
      refine hq_p (ls' := [some (.ref 62), some (.int x1), some (.int x2), some (.int z4), some (.int z5), some (.int z6), some (.int z7), none]) rfl rfl ?_
      have L24_n198 : ∀ n198 : Nat, ∀ (y188 : Int32) (y189 : Int32) (y190 : Int32) (w191 : Option Value) (h192 : pm_H), (400 - y190.toInt).toNat = n198 → -1 ≤ y188.toInt → y188.toInt ≤ 10 → -1 ≤ y189.toInt → y189.toInt ≤ 400 → 0 ≤ y190.toInt → y190.toInt ≤ 400 → pm_two w191 = false → J h192 → hq_W X d 3 false (some .boolean) pm_c32 (24, [some (.ref 62), some (.int x1), some (.int x2), some (.int z4), some (.int y188), some (.int y189), some (.int y190), w191], [], h192) (fun h' v => J h' ∧ (ty_pi 0 1) h' v) := by
        intro n198
        induction n198 using Nat.strongRecOn with
        | ind n198 ihn198 =>
          intro y188 y189 y190 w191 h192 mn198 ay188 by188 ay189 by189 ay190 by190 kw191 Jh192
          have Ih192 := H.1 h192 Jh192
          refine hq_p rfl rfl ?_
          refine hq_p rfl rfl (ty_ge (n := 400) nk_s400 (fun z199 ez199 => ?_))
          refine ty_ige rfl (fun c200 => ?_) (fun c200 => ?_)
          · refine hq_p rfl rfl (ty_ge (n := 0) nk_i0 (fun z201 ez201 => ?_))
            exact ty_rB rfl rfl (by omega) (by omega) ⟨Jh192, _, rfl, by omega, by omega⟩
          · refine hq_p rfl rfl ?_
            refine hq_p rfl rfl (ty_ge (n := 1) nk_i1 (fun z202 ez202 => ?_))
            refine ty_ine rfl (fun c203 => ?_) (fun c203 => ?_)
            · exfalso; omega
            · refine hq_p rfl rfl ?_
              refine hq_p rfl rfl ?_
              refine ty_callj 0 (W := ty_Wr) H Jh192 rfl (fun _ => rfl) rfl rfl rfl (hq_pre_o Ih192.1 (x := 62) (ci := 3) rfl (by decide) rfl rfl rfl rfl) (fun _ _ w => w) (fun _ w => w) (hr h192 x2 (by omega)) (fun h205 _ Jh205 P204 => ?_)
              have Ih205 := H.1 h205 Jh205
              obtain ⟨z206, rfl, az206, bz206⟩ := P204
              refine hq_p rfl rfl ?_
              refine hq_p (ls' := [some (.ref 62), some (.int x1), some (.int x2), some (.int z4), some (.int y188), some (.int y189), some (.int y190), some (.int z206)]) rfl rfl ?_
              refine hq_p rfl rfl ?_
              refine ty_zeq rfl (fun c207 => ?_) (fun c207 => ?_)
              · exfalso; omega
              · clear c207
                refine hq_p rfl rfl ?_
                refine hq_gR Ih205.1 rfl rfl (by decide) (by decide) rfl ?_
                refine hq_p rfl rfl ?_
                refine ty_callj 0 (W := ty_Wr) H Jh205 rfl (fun _ => rfl) rfl rfl rfl (hq_pre_o Ih205.1 (x := 64) (ci := 7) rfl (by decide) rfl rfl rfl rfl) (fun _ _ w => w) (fun _ w => w) (ct_65 (x1 := y189) (by omega)) (fun h209 _ Jh209 P208 => ?_)
                have Ih209 := H.1 h209 Jh209
                subst P208
                refine hq_p rfl rfl ?_
                refine hq_p rfl rfl ?_
                refine hq_p rfl rfl ?_
                refine ty_callp 0 Ih209 rfl (fun _ => rfl) rfl rfl rfl (hq_pre_o Ih209.1 (x := 62) (ci := 3) rfl (by decide) rfl rfl rfl rfl) (ct_33 (x1 := x1) (by omega) hX (by omega) (by omega)) (fun _ P210 => ?_)
                obtain ⟨z211, rfl, az211, bz211⟩ := P210
                refine hq_p (ls' := [some (.ref 62), some (.int x1), some (.int x2), some (.int z4), some (.int z211), some (.int y189), some (.int y190), some (.int z206)]) rfl rfl ?_
                refine hq_p rfl rfl ?_
                refine ty_zeq rfl (fun c212 => ?_) (fun c212 => ?_)
                · refine hq_p rfl rfl ?_
                  exact ty_rB rfl rfl (by omega) (by omega) ⟨Jh209, _, rfl, by omega, by omega⟩
                · replace c212 : 1 ≤ z206.toInt ∧ z206.toInt ≤ 1 := by omega
                  refine hq_p rfl rfl ?_
                  refine hq_p rfl rfl (ty_ge (n := -1) nk_im1 (fun z213 ez213 => ?_))
                  refine ty_ine rfl (fun c214 => ?_) (fun c214 => ?_)
                  · replace c214 : 0 ≤ z211.toInt ∧ z211.toInt ≤ 10 := by omega
                    refine hq_p rfl rfl ?_
                    refine hq_gR Ih209.1 rfl rfl (by decide) (by decide) rfl ?_
                    refine ty_gI Ih209 rfl rfl (by decide) (by decide) rfl rfl (fun z215 ez215 az215 bz215 => ?_)
                    refine hq_p (ls' := [some (.ref 62), some (.int x1), some (.int x2), some (.int z4), some (.int z211), some (.int z215), some (.int y190), some (.int z206)]) rfl rfl ?_
                    refine hq_p rfl rfl ?_
                    refine ty_zeq rfl (fun c216 => ?_) (fun c216 => ?_)
                    · exfalso; omega
                    · clear c216
                      refine hq_p rfl rfl ?_
                      refine hq_gR Ih209.1 rfl rfl (by decide) (by decide) rfl ?_
                      refine hq_p rfl rfl ?_
                      refine hq_p rfl rfl (ty_ge (n := 0) nk_i0 (fun z217 ez217 => ?_))
                      refine ty_callj 0 (W := ty_Wr) H Jh209 rfl (fun _ => rfl) rfl rfl rfl (hq_pre_o Ih209.1 (x := 64) (ci := 7) rfl (by decide) rfl rfl rfl rfl) (fun _ _ w => w) (fun _ w => w) (ct_63 (x1 := z211) (x2 := z217) (by omega) (by omega) (by omega)) (fun h219 _ Jh219 P218 => ?_)
                      have Ih219 := H.1 h219 Jh219
                      subst P218
                      refine hq_p rfl rfl ?_
                      refine ty_callj 0 (W := ty_Wr) H Jh219 rfl (fun _ => rfl) rfl rfl rfl (hq_pre_o Ih219.1 (x := 62) (ci := 3) rfl (by decide) rfl rfl rfl rfl) (fun _ _ w => w) (fun _ w => w) (ct_38 (by omega)) (fun h221 _ Jh221 P220 => ?_)
                      have Ih221 := H.1 h221 Jh221
                      subst P220
                      refine ty_inc (ls' := fun z222 => [some (.ref 62), some (.int x1), some (.int x2), some (.int z4), some (.int z211), some (.int z215), some (.int z222), some (.int z206)]) rfl rfl (fun _ => rfl) (nm_addc nk_i1 (by omega) (by omega)) (fun z222 ez222 => ?_)
                      refine hq_p rfl rfl ?_
                      exact ihn198 ((400 - z222.toInt).toNat) (by omega) z211 z215 z222 (some (.int z206)) h221 rfl (by omega) (by omega) (by omega) (by omega) (by omega) (by omega) rfl Jh221
                  · refine hq_p rfl rfl ?_
                    exact ty_rB rfl rfl (by omega) (by omega) ⟨Jh209, _, rfl, by omega, by omega⟩
      exact L24_n198 _ z5 z6 z7 none h rfl (by omega) (by omega) (by omega) (by omega) (by omega) (by omega) rfl hJ
theorem ct_32r0 {X : pm_X} {d : Nat} {h : pm_H} {x1 : Int32} {x2 : Int32} (hd : 7 ≤ d) (hX : ty_SX X) (ax1 : 0 ≤ x1.toInt) (bx1 : x1.toInt ≤ 0) (ax2 : 0 ≤ x2.toInt) (bx2 : x2.toInt ≤ 8) (hr : ∀ (h1 : pm_H) (y z : Int32), y.toInt = 1 → z.toInt = x2.toInt → ty_M X ty_Wr (d - 1) 32 [.ref 62, .int y, .int z] h1 (ty_pi 0 1)) : ty_M X ty_Wr d 32 [.ref 62, .int x1, .int x2] h (ty_pi 0 1) := by
  intro J H hJ
  obtain ⟨d, rfl⟩ : ∃ e, d = e + 1 := ⟨d - 1, by omega⟩
  have I := H.1 h hJ
  refine hq_M.enter (q := (⟨"TrainBearers$Reader", "chain", "(II)Z"⟩, _, 8, some .boolean, 3, 3, pm_c32)) rfl rfl ?_
  show hq_W X d 3 false (some .boolean) pm_c32 (0, [some (.ref 62), some (.int x1), some (.int x2), none, none, none, none, none], [], h) (fun h' v => J h' ∧ (ty_pi 0 1) h' v)
  refine hq_p rfl rfl ?_
  refine ty_zeq rfl (fun c1 => ?_) (fun c1 => ?_)
  · refine hq_p rfl rfl (ty_ge (n := 1) nk_i1 (fun z2 ez2 => ?_))
    refine hq_p rfl rfl ?_
    refine hq_p (ls' := [some (.ref 62), some (.int x1), some (.int x2), some (.int z2), none, none, none, none]) rfl rfl ?_
    refine hq_p rfl rfl (ty_ge (n := -1) nk_im1 (fun z3 ez3 => ?_))
    refine hq_p (ls' := [some (.ref 62), some (.int x1), some (.int x2), some (.int z2), some (.int z3), none, none, none]) rfl rfl ?_
    refine hq_p rfl rfl (ty_ge (n := -1) nk_im1 (fun z4 ez4 => ?_))
    refine hq_p (ls' := [some (.ref 62), some (.int x1), some (.int x2), some (.int z2), some (.int z3), some (.int z4), none, none]) rfl rfl ?_
    refine hq_p rfl rfl (ty_ge (n := 0) nk_i0 (fun z5 ez5 => ?_))
    refine hq_p (ls' := [some (.ref 62), some (.int x1), some (.int x2), some (.int z2), some (.int z3), some (.int z4), some (.int z5), none]) rfl rfl ?_
    have L24_n196 : ∀ n196 : Nat, ∀ (y186 : Int32) (y187 : Int32) (y188 : Int32) (w189 : Option Value) (h190 : pm_H), (400 - y188.toInt).toNat = n196 → -1 ≤ y186.toInt → y186.toInt ≤ 10 → -1 ≤ y187.toInt → y187.toInt ≤ 400 → 0 ≤ y188.toInt → y188.toInt ≤ 400 → pm_two w189 = false → J h190 → hq_W X d 3 false (some .boolean) pm_c32 (24, [some (.ref 62), some (.int x1), some (.int x2), some (.int z2), some (.int y186), some (.int y187), some (.int y188), w189], [], h190) (fun h' v => J h' ∧ (ty_pi 0 1) h' v) := by
      intro n196
      induction n196 using Nat.strongRecOn with
      | ind n196 ihn196 =>
        intro y186 y187 y188 w189 h190 mn196 ay186 by186 ay187 by187 ay188 by188 kw189 Jh190
        have Ih190 := H.1 h190 Jh190
        refine hq_p rfl rfl ?_
        refine hq_p rfl rfl (ty_ge (n := 400) nk_s400 (fun z197 ez197 => ?_))
        refine ty_ige rfl (fun c198 => ?_) (fun c198 => ?_)
        · refine hq_p rfl rfl (ty_ge (n := 0) nk_i0 (fun z199 ez199 => ?_))
          exact ty_rB rfl rfl (by omega) (by omega) ⟨Jh190, _, rfl, by omega, by omega⟩
        · refine hq_p rfl rfl ?_
          refine hq_p rfl rfl (ty_ge (n := 1) nk_i1 (fun z200 ez200 => ?_))
          refine ty_ine rfl (fun c201 => ?_) (fun c201 => ?_)
          · clear c201
            refine hq_p rfl rfl ?_
            refine hq_p rfl rfl (ty_ge (n := 3) nk_i3 (fun z202 ez202 => ?_))
            refine ty_ine rfl (fun c203 => ?_) (fun c203 => ?_)
            · clear c203
              refine hq_p rfl rfl ?_
              refine hq_p rfl rfl ?_
              refine hq_p rfl rfl (ty_ge (n := 1) nk_i1 (fun z204 ez204 => ?_))
              refine hq_p rfl rfl (ty_ge (n := x1.toInt + z204.toInt) (nm_add (by omega) (by omega)) (fun z205 ez205 => ?_))
              refine hq_p rfl rfl ?_
              refine ty_callj 0 (W := ty_Wr) H Jh190 rfl (fun _ => rfl) rfl rfl rfl (hq_pre_o Ih190.1 (x := 62) (ci := 3) rfl (by decide) rfl rfl rfl rfl) (fun _ _ w => w) (fun _ w => w) (hr h190 z205 x2 (by omega) (by omega)) (fun h207 _ Jh207 P206 => ?_)
              have Ih207 := H.1 h207 Jh207
              obtain ⟨z208, rfl, az208, bz208⟩ := P206
              refine hq_p (ls' := [some (.ref 62), some (.int x1), some (.int x2), some (.int z2), some (.int y186), some (.int y187), some (.int y188), some (.int z208)]) rfl rfl ?_
              refine hq_p rfl rfl ?_
              refine ty_zeq rfl (fun c209 => ?_) (fun c209 => ?_)
              · exfalso; omega
              · clear c209
                refine hq_p rfl rfl ?_
                refine hq_gR Ih207.1 rfl rfl (by decide) (by decide) rfl ?_
                refine hq_p rfl rfl ?_
                refine ty_callj 0 (W := ty_Wr) H Jh207 rfl (fun _ => rfl) rfl rfl rfl (hq_pre_o Ih207.1 (x := 64) (ci := 7) rfl (by decide) rfl rfl rfl rfl) (fun _ _ w => w) (fun _ w => w) (ct_65 (x1 := y187) (by omega)) (fun h211 _ Jh211 P210 => ?_)
                have Ih211 := H.1 h211 Jh211
                subst P210
                refine hq_p rfl rfl ?_
                refine hq_p rfl rfl ?_
                refine hq_p rfl rfl ?_
                refine ty_callp 0 Ih211 rfl (fun _ => rfl) rfl rfl rfl (hq_pre_o Ih211.1 (x := 62) (ci := 3) rfl (by decide) rfl rfl rfl rfl) (ct_33 (x1 := x1) (by omega) hX (by omega) (by omega)) (fun _ P212 => ?_)
                obtain ⟨z213, rfl, az213, bz213⟩ := P212
                refine hq_p (ls' := [some (.ref 62), some (.int x1), some (.int x2), some (.int z2), some (.int z213), some (.int y187), some (.int y188), some (.int z208)]) rfl rfl ?_
                refine hq_p rfl rfl ?_
                refine ty_zeq rfl (fun c214 => ?_) (fun c214 => ?_)
                · refine hq_p rfl rfl ?_
                  exact ty_rB rfl rfl (by omega) (by omega) ⟨Jh211, _, rfl, by omega, by omega⟩
                · replace c214 : 1 ≤ z208.toInt ∧ z208.toInt ≤ 1 := by omega
                  refine hq_p rfl rfl ?_
                  refine hq_p rfl rfl (ty_ge (n := -1) nk_im1 (fun z215 ez215 => ?_))
                  refine ty_ine rfl (fun c216 => ?_) (fun c216 => ?_)
                  · replace c216 : 0 ≤ z213.toInt ∧ z213.toInt ≤ 10 := by omega
                    refine hq_p rfl rfl ?_
                    refine hq_gR Ih211.1 rfl rfl (by decide) (by decide) rfl ?_
                    refine ty_gI Ih211 rfl rfl (by decide) (by decide) rfl rfl (fun z217 ez217 az217 bz217 => ?_)
                    refine hq_p (ls' := [some (.ref 62), some (.int x1), some (.int x2), some (.int z2), some (.int z213), some (.int z217), some (.int y188), some (.int z208)]) rfl rfl ?_
                    refine hq_p rfl rfl ?_
                    refine ty_zeq rfl (fun c218 => ?_) (fun c218 => ?_)
                    · exfalso; omega
                    · clear c218
                      refine hq_p rfl rfl ?_
                      refine hq_gR Ih211.1 rfl rfl (by decide) (by decide) rfl ?_
                      refine hq_p rfl rfl ?_
                      refine hq_p rfl rfl (ty_ge (n := 0) nk_i0 (fun z219 ez219 => ?_))
                      refine ty_callj 0 (W := ty_Wr) H Jh211 rfl (fun _ => rfl) rfl rfl rfl (hq_pre_o Ih211.1 (x := 64) (ci := 7) rfl (by decide) rfl rfl rfl rfl) (fun _ _ w => w) (fun _ w => w) (ct_63 (x1 := z213) (x2 := z219) (by omega) (by omega) (by omega)) (fun h221 _ Jh221 P220 => ?_)
                      have Ih221 := H.1 h221 Jh221
                      subst P220
                      refine hq_p rfl rfl ?_
                      refine ty_callj 0 (W := ty_Wr) H Jh221 rfl (fun _ => rfl) rfl rfl rfl (hq_pre_o Ih221.1 (x := 62) (ci := 3) rfl (by decide) rfl rfl rfl rfl) (fun _ _ w => w) (fun _ w => w) (ct_38 (by omega)) (fun h223 _ Jh223 P222 => ?_)
                      have Ih223 := H.1 h223 Jh223
                      subst P222
                      refine ty_inc (ls' := fun z224 => [some (.ref 62), some (.int x1), some (.int x2), some (.int z2), some (.int z213), some (.int z217), some (.int z224), some (.int z208)]) rfl rfl (fun _ => rfl) (nm_addc nk_i1 (by omega) (by omega)) (fun z224 ez224 => ?_)
                      refine hq_p rfl rfl ?_
                      exact ihn196 ((400 - z224.toInt).toNat) (by omega) z213 z217 z224 (some (.int z208)) h223 rfl (by omega) (by omega) (by omega) (by omega) (by omega) (by omega) rfl Jh223
                  · refine hq_p rfl rfl ?_
                    exact ty_rB rfl rfl (by omega) (by omega) ⟨Jh211, _, rfl, by omega, by omega⟩
            · exfalso; omega
          · exfalso; omega
    exact L24_n196 _ z3 z4 z5 none h rfl (by omega) (by omega) (by omega) (by omega) (by omega) (by omega) rfl hJ
  · exfalso; omega
end CT18
