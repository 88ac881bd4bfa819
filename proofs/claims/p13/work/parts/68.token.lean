/-! CONTRACTS (printed by wip/pm/cts.py) -/
section CT45
theorem ct_175w {X : pm_X} {d : Nat} {h : pm_H} {x1 : Int32} (hd : 3 ≤ d) (ax1 : 0 ≤ x1.toInt) (bx1 : x1.toInt ≤ 1) (hk : tk_ok h) : ty_M X ty_Wo d 175 [.ref 97, .int x1] h (fun h1 v => v = none ∧ tk_ok h1 ∧ (((hs_fI h1 97 19).toInt = 1 ∧ (hs_fI h1 97 14).toInt = (hs_fI h 97 14).toInt) ∨ ((hs_fI h1 97 19).toInt = 0 ∧ x1.toInt = 1 ∧ (hs_fI h 97 15).toInt ≤ (hs_fI h1 97 14).toInt))) := by
  intro J H hJ
  have t1 := hk.1
  have t2 := hk.2.1
  obtain ⟨d, rfl⟩ : ∃ e, d = e + 1 := ⟨d - 1, by omega⟩
  have I := H.1 h hJ
  obtain ⟨q13, eq13⟩ : ∃ q : Int32, q.toInt = (hs_fI h 97 13).toInt := ⟨_, rfl⟩
  have gq130 : 0 ≤ (hs_fI h 97 13).toInt := (I.2.1 97 13 (by decide)).1
  have gq131 : (hs_fI h 97 13).toInt ≤ 400 := (I.2.1 97 13 (by decide)).2
  obtain ⟨q14, eq14⟩ : ∃ q : Int32, q.toInt = (hs_fI h 97 14).toInt := ⟨_, rfl⟩
  have gq140 : 0 ≤ (hs_fI h 97 14).toInt := (I.2.1 97 14 (by decide)).1
  have gq141 : (hs_fI h 97 14).toInt ≤ 400 := (I.2.1 97 14 (by decide)).2
  obtain ⟨q15, eq15⟩ : ∃ q : Int32, q.toInt = (hs_fI h 97 15).toInt := ⟨_, rfl⟩
  have gq150 : 0 ≤ (hs_fI h 97 15).toInt := (I.2.1 97 15 (by decide)).1
  have gq151 : (hs_fI h 97 15).toInt ≤ 400 := (I.2.1 97 15 (by decide)).2
  obtain ⟨q16, eq16⟩ : ∃ q : Int32, q.toInt = (hs_fI h 97 16).toInt := ⟨_, rfl⟩
  have gq160 : -2147483648 ≤ (hs_fI h 97 16).toInt := (I.2.1 97 16 (by decide)).1
  have gq161 : (hs_fI h 97 16).toInt ≤ 2147483647 := (I.2.1 97 16 (by decide)).2
  refine hq_M.enter (q := (⟨"TrainBearersModel", "must", "(Z)V"⟩, _, 2, none, 11, 2, pm_c175)) rfl rfl ?_
  show hq_W X d 11 false (none) pm_c175 (0, [some (.ref 97), some (.int x1)], [], h) (fun h' v => J h' ∧ (fun h1 v => v = none ∧ tk_ok h1 ∧ (((hs_fI h1 97 19).toInt = 1 ∧ (hs_fI h1 97 14).toInt = (hs_fI h 97 14).toInt) ∨ ((hs_fI h1 97 19).toInt = 0 ∧ x1.toInt = 1 ∧ (hs_fI h 97 15).toInt ≤ (hs_fI h1 97 14).toInt))) h' v)
  obtain ⟨q17, eq17⟩ : ∃ q : Int64, q.toInt = (hs_fL h 97 17).toInt := ⟨_, rfl⟩
  have aq17 := nm_llo q17
  have bq17 := nm_lhi q17
  refine hq_p rfl rfl ?_
  refine ty_gB I rfl rfl (by decide) (by decide) rfl (fun z1 ez1 az1 bz1 => ?_)
  refine ty_zne rfl (fun c2 => ?_) (fun c2 => ?_)
  · replace c2 : 1 ≤ z1.toInt ∧ z1.toInt ≤ 1 := by omega
    refine hq_p rfl rfl ?_
    refine ty_gB I rfl rfl (by decide) (by decide) rfl (fun z3 ez3 az3 bz3 => ?_)
    refine ty_zne rfl (fun c4 => ?_) (fun c4 => ?_)
    · clear c4
      exact hq_W.ret rfl rfl rfl ⟨hJ, rfl, tk_same hk (by omega) (by omega) (by omega) (by omega) (by omega), by omega⟩
    · exfalso; omega
  · refine hq_p rfl rfl ?_
    refine ty_zne rfl (fun c5 => ?_) (fun c5 => ?_)
    · replace c5 : 1 ≤ x1.toInt ∧ x1.toInt ≤ 1 := by omega
      refine hq_p rfl rfl ?_
      refine ty_gB I rfl rfl (by decide) (by decide) rfl (fun z6 ez6 az6 bz6 => ?_)
      refine ty_zne rfl (fun c7 => ?_) (fun c7 => ?_)
      · exfalso; omega
      · refine hq_p rfl rfl ?_
        refine ty_callm 0 [(0, 97, 19)] (W := ty_Wo) H hJ rfl (fun _ => rfl) rfl rfl rfl (hq_pre_o I.1 (x := 97) (ci := 11) rfl (by decide) rfl rfl rfl rfl) (fun a k w => by unfold ty_Wn at w; unfold ty_Wo; omega) (by unfold ty_Wn ty_Wo; omega) (ct_172w (by omega) (by omega)) ⟨⟨rfl, show ¬ ty_Wn 97 19 by unfold ty_Wn; omega⟩, trivial⟩ (fun h9 _ Jh9 gh9 P8 => ?_)
        obtain ⟨gh9_0, _⟩ := gh9
        have gh9_0 : (hs_fI h9 97 19).toInt = (hs_fI h 97 19).toInt := gh9_0
        have Ih9 := H.1 h9 Jh9
        obtain ⟨rq10, fq10, kq10⟩ := P8
        subst rq10
        exact hq_W.ret rfl rfl rfl ⟨Jh9, rfl, kq10, by omega⟩
    · refine hq_p rfl rfl ?_
      refine hq_p rfl rfl (ty_ge (n := 1) nk_i1 (fun z11 ez11 => ?_))
      refine ty_pB (W := ty_Wo) H hJ rfl rfl (by decide) rfl rfl rfl (by unfold ty_Wo; omega) rfl (by omega) (by omega) (fun h12 eh12 Jh12 => ?_)
      have wh12 : (hs_fI h12 97 19).toInt = z11.toInt := by rw [eh12]; exact congrArg Int32.toInt (ty_fI_eq I.1 rfl (by decide) rfl)
      have Ih12 := H.1 h12 Jh12
      refine hq_p rfl rfl ?_
      refine hq_p rfl rfl ?_
      have r14 : (hs_fI h12 97 14).toInt = (hs_fI h 97 14).toInt := by rw [eh12]; exact congrArg Int32.toInt (ty_fI_sF (by decide))
      refine ty_gI Ih12 rfl rfl (by decide) (by decide) rfl rfl (fun z13 ez13 az13 bz13 => ?_)
      refine ty_pI (W := ty_Wo) H Jh12 rfl rfl (by decide) rfl rfl (by unfold ty_Wo; omega) rfl (by omega) (by omega) (fun h15 eh15 Jh15 => ?_)
      have wh15 : (hs_fI h15 97 18).toInt = z13.toInt := by rw [eh15]; exact congrArg Int32.toInt (ty_fI_eq Ih12.1 rfl (by decide) rfl)
      have Ih15 := H.1 h15 Jh15
      refine hq_p rfl rfl ?_
      have r17 : (hs_fI h15 97 19).toInt = (hs_fI h12 97 19).toInt := by rw [eh15]; exact congrArg Int32.toInt (ty_fI_sF (by decide))
      refine ty_gB Ih15 rfl rfl (by decide) (by decide) rfl (fun z16 ez16 az16 bz16 => ?_)
      refine ty_zne rfl (fun c18 => ?_) (fun c18 => ?_)
      · clear c18
        have r19 : (hs_fI h12 97 13).toInt = (hs_fI h 97 13).toInt := by rw [eh12]; exact congrArg Int32.toInt (ty_fI_sF (by decide))
        have r20 : (hs_fI h15 97 13).toInt = (hs_fI h12 97 13).toInt := by rw [eh15]; exact congrArg Int32.toInt (ty_fI_sF (by decide))
        have r21 : (hs_fI h15 97 14).toInt = (hs_fI h12 97 14).toInt := by rw [eh15]; exact congrArg Int32.toInt (ty_fI_sF (by decide))
        have r22 : (hs_fI h12 97 15).toInt = (hs_fI h 97 15).toInt := by rw [eh12]; exact congrArg Int32.toInt (ty_fI_sF (by decide))
        have r23 : (hs_fI h15 97 15).toInt = (hs_fI h12 97 15).toInt := by rw [eh15]; exact congrArg Int32.toInt (ty_fI_sF (by decide))
        have r24 : (hs_fI h12 97 16).toInt = (hs_fI h 97 16).toInt := by rw [eh12]; exact congrArg Int32.toInt (ty_fI_sF (by decide))
        have r25 : (hs_fI h15 97 16).toInt = (hs_fI h12 97 16).toInt := by rw [eh15]; exact congrArg Int32.toInt (ty_fI_sF (by decide))
        have r26 : (hs_fL h12 97 17).toInt = (hs_fL h 97 17).toInt := by rw [eh12]; exact congrArg Int64.toInt (ty_fL_sF (by decide))
        have r27 : (hs_fL h15 97 17).toInt = (hs_fL h12 97 17).toInt := by rw [eh15]; exact congrArg Int64.toInt (ty_fL_sF (by decide))
        exact hq_W.ret rfl rfl rfl ⟨Jh15, rfl, tk_same hk (by omega) (by omega) (by omega) (by omega) (by omega), by omega⟩
      · exfalso; omega
theorem ct_173w {X : pm_X} {d : Nat} {h : pm_H} {x1 : Int64} (hd : 1 ≤ d)  : ty_M X ty_W0 d 173 [.ref 97, .long x1] h (fun _ v => ∃ z : Int32, v = some (.int z) ∧ 0 ≤ z.toInt ∧ z.toInt ≤ 1 ∧ (z.toInt ≠ 0 → (hs_fI h 97 16).toInt = 1 ∧ (hs_fL h 97 17).toInt = x1.toInt)) := by
  intro J H hJ
  obtain ⟨d, rfl⟩ : ∃ e, d = e + 1 := ⟨d - 1, by omega⟩
  have I := H.1 h hJ
  have ax1 := nm_llo x1
  have bx1 := nm_lhi x1
  refine hq_M.enter (q := (⟨"TrainBearersModel", "isWord", "(J)Z"⟩, _, 3, some .boolean, 11, 2, pm_c173)) rfl rfl ?_
  show hq_W X d 11 false (some .boolean) pm_c173 (0, [some (.ref 97), some (.long x1), none], [], h) (fun h' v => J h' ∧ (fun _ v => ∃ z : Int32, v = some (.int z) ∧ 0 ≤ z.toInt ∧ z.toInt ≤ 1 ∧ (z.toInt ≠ 0 → (hs_fI h 97 16).toInt = 1 ∧ (hs_fL h 97 17).toInt = x1.toInt)) h' v)
  refine hq_p rfl rfl ?_
  refine ty_gI I rfl rfl (by decide) (by decide) rfl rfl (fun z1 ez1 az1 bz1 => ?_)
  refine hq_p rfl rfl (ty_ge (n := 1) nk_i1 (fun z2 ez2 => ?_))
  refine ty_ine rfl (fun c3 => ?_) (fun c3 => ?_)
  · clear c3
    refine hq_p rfl rfl (ty_ge (n := 0) nk_i0 (fun z4 ez4 => ?_))
    exact ty_rB rfl rfl (by omega) (by omega) ⟨hJ, _, rfl, by omega, by omega, fun q => by omega⟩
  · refine hq_p rfl rfl ?_
    refine ty_gL I rfl rfl (by decide) (by decide) rfl rfl (fun z5 ez5 az5 bz5 => ?_)
    refine hq_p rfl rfl ?_
    refine hq_p rfl rfl (ty_gc (fun z6 ez6 => ?_))
    refine ty_zne rfl (fun c7 => ?_) (fun c7 => ?_)
    · clear ez6 c7
      refine hq_p rfl rfl (ty_ge (n := 0) nk_i0 (fun z8 ez8 => ?_))
      exact ty_rB rfl rfl (by omega) (by omega) ⟨hJ, _, rfl, by omega, by omega, fun q => by omega⟩
    · replace ez6 : z5.toInt = x1.toInt := by omega
      clear c7
      refine hq_p rfl rfl (ty_ge (n := 1) nk_i1 (fun z9 ez9 => ?_))
      refine hq_p rfl rfl ?_
      exact ty_rB rfl rfl (by omega) (by omega) ⟨hJ, _, rfl, by omega, by omega, fun q => by omega⟩
theorem ct_174w {X : pm_X} {d : Nat} {h : pm_H} {x1 : Int32} (hd : 1 ≤ d)  : ty_M X ty_W0 d 174 [.ref 97, .int x1] h (fun _ v => ∃ z : Int32, v = some (.int z) ∧ 0 ≤ z.toInt ∧ z.toInt ≤ 1 ∧ (z.toInt ≠ 0 → (hs_fI h 97 16).toInt = 3)) := by
  intro J H hJ
  obtain ⟨d, rfl⟩ : ∃ e, d = e + 1 := ⟨d - 1, by omega⟩
  have I := H.1 h hJ
  have ax1 := nm_lo x1
  have bx1 := nm_hi x1
  refine hq_M.enter (q := (⟨"TrainBearersModel", "isSign", "(I)Z"⟩, _, 2, some .boolean, 11, 2, pm_c174)) rfl rfl ?_
  show hq_W X d 11 false (some .boolean) pm_c174 (0, [some (.ref 97), some (.int x1)], [], h) (fun h' v => J h' ∧ (fun _ v => ∃ z : Int32, v = some (.int z) ∧ 0 ≤ z.toInt ∧ z.toInt ≤ 1 ∧ (z.toInt ≠ 0 → (hs_fI h 97 16).toInt = 3)) h' v)
  refine hq_p rfl rfl ?_
  refine ty_gI I rfl rfl (by decide) (by decide) rfl rfl (fun z1 ez1 az1 bz1 => ?_)
  refine hq_p rfl rfl (ty_ge (n := 3) nk_i3 (fun z2 ez2 => ?_))
  refine ty_ine rfl (fun c3 => ?_) (fun c3 => ?_)
  · clear c3
    refine hq_p rfl rfl (ty_ge (n := 0) nk_i0 (fun z4 ez4 => ?_))
    exact ty_rB rfl rfl (by omega) (by omega) ⟨hJ, _, rfl, by omega, by omega, fun q => by omega⟩
  · refine hq_p rfl rfl ?_
    refine ty_gL I rfl rfl (by decide) (by decide) rfl rfl (fun z5 ez5 az5 bz5 => ?_)
    refine hq_p rfl rfl ?_
    refine hq_p rfl rfl (ty_gle (n := x1.toInt) (nm_i2l _) (fun z6 ez6 => ?_))
    refine hq_p rfl rfl (ty_gc (fun z7 ez7 => ?_))
    refine ty_zne rfl (fun c8 => ?_) (fun c8 => ?_)
    · clear ez7 c8
      refine hq_p rfl rfl (ty_ge (n := 0) nk_i0 (fun z9 ez9 => ?_))
      exact ty_rB rfl rfl (by omega) (by omega) ⟨hJ, _, rfl, by omega, by omega, fun q => by omega⟩
    · replace ez7 : z5.toInt = z6.toInt := by omega
      clear c8
      refine hq_p rfl rfl (ty_ge (n := 1) nk_i1 (fun z10 ez10 => ?_))
      refine hq_p rfl rfl ?_
      exact ty_rB rfl rfl (by omega) (by omega) ⟨hJ, _, rfl, by omega, by omega, fun q => by omega⟩
theorem ct_180e {X : pm_X} {d : Nat} {h : pm_H} {x0 : Int32} (hd : 1 ≤ d)  : ty_M X ty_W0 d 180 [.int x0] h (fun _ v => ∃ z : Int32, v = some (.int z) ∧ z.toInt = ps_bd x0.toInt) := by
  intro J H hJ
  obtain ⟨d, rfl⟩ : ∃ e, d = e + 1 := ⟨d - 1, by omega⟩
  have I := H.1 h hJ
  have ax0 := nm_lo x0
  have bx0 := nm_hi x0
  refine hq_M.enter (q := (⟨"TrainBearersModel", "binds", "(I)I"⟩, _, 1, some .int, 11, 1, pm_c180)) rfl rfl ?_
  show hq_W X d 11 false (some .int) pm_c180 (0, [some (.int x0)], [], h) (fun h' v => J h' ∧ (fun _ v => ∃ z : Int32, v = some (.int z) ∧ z.toInt = ps_bd x0.toInt) h' v)
  refine hq_p rfl rfl ?_
  refine hq_p rfl rfl (ty_ge (n := 31) nk_b31 (fun z1 ez1 => ?_))
  refine ty_ilt rfl (fun c2 => ?_) (fun c2 => ?_)
  · refine hq_p rfl rfl ?_
    refine hq_p rfl rfl (ty_ge (n := 30) nk_b30 (fun z3 ez3 => ?_))
    refine ty_ine rfl (fun c4 => ?_) (fun c4 => ?_)
    · replace c4 : x0.toInt < z3.toInt := by omega
      refine hq_p rfl rfl ?_
      refine hq_p rfl rfl (ty_ge (n := 29) nk_b29 (fun z5 ez5 => ?_))
      refine ty_ine rfl (fun c6 => ?_) (fun c6 => ?_)
      · replace c6 : x0.toInt < z5.toInt := by omega
        refine hq_p rfl rfl ?_
        refine hq_p rfl rfl (ty_ge (n := 28) nk_b28 (fun z7 ez7 => ?_))
        refine ty_ine rfl (fun c8 => ?_) (fun c8 => ?_)
        · replace c8 : x0.toInt < z7.toInt := by omega
          refine hq_p rfl rfl ?_
          refine hq_p rfl rfl (ty_ge (n := 25) nk_b25 (fun z9 ez9 => ?_))
          refine ty_ilt rfl (fun c10 => ?_) (fun c10 => ?_)
          · refine hq_p rfl rfl ?_
            refine hq_p rfl rfl (ty_ge (n := 22) nk_b22 (fun z11 ez11 => ?_))
            refine ty_ilt rfl (fun c12 => ?_) (fun c12 => ?_)
            · refine hq_p rfl rfl (ty_ge (n := 5) nk_i5 (fun z13 ez13 => ?_))
              exact hq_W.ret rfl rfl rfl ⟨hJ, _, rfl, (by unfold ps_bd; first | (rw [if_pos (by omega)]; omega) | (rw [if_neg (by omega), if_pos (by omega)]; omega) | (rw [if_neg (by omega), if_neg (by omega), if_pos (by omega)]; omega) | (rw [if_neg (by omega), if_neg (by omega), if_neg (by omega), if_pos (by omega)]; omega) | (rw [if_neg (by omega), if_neg (by omega), if_neg (by omega), if_neg (by omega), if_pos (by omega)]; omega) | (rw [if_neg (by omega), if_neg (by omega), if_neg (by omega), if_neg (by omega), if_neg (by omega), if_pos (by omega)]; omega) | (rw [if_neg (by omega), if_neg (by omega), if_neg (by omega), if_neg (by omega), if_neg (by omega), if_neg (by omega)]; omega))⟩
            · refine hq_p rfl rfl (ty_ge (n := 6) nk_b6 (fun z14 ez14 => ?_))
              refine hq_p rfl rfl ?_
              exact hq_W.ret rfl rfl rfl ⟨hJ, _, rfl, (by unfold ps_bd; first | (rw [if_pos (by omega)]; omega) | (rw [if_neg (by omega), if_pos (by omega)]; omega) | (rw [if_neg (by omega), if_neg (by omega), if_pos (by omega)]; omega) | (rw [if_neg (by omega), if_neg (by omega), if_neg (by omega), if_pos (by omega)]; omega) | (rw [if_neg (by omega), if_neg (by omega), if_neg (by omega), if_neg (by omega), if_pos (by omega)]; omega) | (rw [if_neg (by omega), if_neg (by omega), if_neg (by omega), if_neg (by omega), if_neg (by omega), if_pos (by omega)]; omega) | (rw [if_neg (by omega), if_neg (by omega), if_neg (by omega), if_neg (by omega), if_neg (by omega), if_neg (by omega)]; omega))⟩
          · refine hq_p rfl rfl (ty_ge (n := 4) nk_i4 (fun z15 ez15 => ?_))
            refine hq_p rfl rfl ?_
            exact hq_W.ret rfl rfl rfl ⟨hJ, _, rfl, (by unfold ps_bd; first | (rw [if_pos (by omega)]; omega) | (rw [if_neg (by omega), if_pos (by omega)]; omega) | (rw [if_neg (by omega), if_neg (by omega), if_pos (by omega)]; omega) | (rw [if_neg (by omega), if_neg (by omega), if_neg (by omega), if_pos (by omega)]; omega) | (rw [if_neg (by omega), if_neg (by omega), if_neg (by omega), if_neg (by omega), if_pos (by omega)]; omega) | (rw [if_neg (by omega), if_neg (by omega), if_neg (by omega), if_neg (by omega), if_neg (by omega), if_pos (by omega)]; omega) | (rw [if_neg (by omega), if_neg (by omega), if_neg (by omega), if_neg (by omega), if_neg (by omega), if_neg (by omega)]; omega))⟩
        · refine hq_p rfl rfl (ty_ge (n := 3) nk_i3 (fun z16 ez16 => ?_))
          refine hq_p rfl rfl ?_
          exact hq_W.ret rfl rfl rfl ⟨hJ, _, rfl, (by unfold ps_bd; first | (rw [if_pos (by omega)]; omega) | (rw [if_neg (by omega), if_pos (by omega)]; omega) | (rw [if_neg (by omega), if_neg (by omega), if_pos (by omega)]; omega) | (rw [if_neg (by omega), if_neg (by omega), if_neg (by omega), if_pos (by omega)]; omega) | (rw [if_neg (by omega), if_neg (by omega), if_neg (by omega), if_neg (by omega), if_pos (by omega)]; omega) | (rw [if_neg (by omega), if_neg (by omega), if_neg (by omega), if_neg (by omega), if_neg (by omega), if_pos (by omega)]; omega) | (rw [if_neg (by omega), if_neg (by omega), if_neg (by omega), if_neg (by omega), if_neg (by omega), if_neg (by omega)]; omega))⟩
      · refine hq_p rfl rfl (ty_ge (n := 2) nk_i2 (fun z17 ez17 => ?_))
        refine hq_p rfl rfl ?_
        exact hq_W.ret rfl rfl rfl ⟨hJ, _, rfl, (by unfold ps_bd; first | (rw [if_pos (by omega)]; omega) | (rw [if_neg (by omega), if_pos (by omega)]; omega) | (rw [if_neg (by omega), if_neg (by omega), if_pos (by omega)]; omega) | (rw [if_neg (by omega), if_neg (by omega), if_neg (by omega), if_pos (by omega)]; omega) | (rw [if_neg (by omega), if_neg (by omega), if_neg (by omega), if_neg (by omega), if_pos (by omega)]; omega) | (rw [if_neg (by omega), if_neg (by omega), if_neg (by omega), if_neg (by omega), if_neg (by omega), if_pos (by omega)]; omega) | (rw [if_neg (by omega), if_neg (by omega), if_neg (by omega), if_neg (by omega), if_neg (by omega), if_neg (by omega)]; omega))⟩
    · refine hq_p rfl rfl (ty_ge (n := 1) nk_i1 (fun z18 ez18 => ?_))
      refine hq_p rfl rfl ?_
      exact hq_W.ret rfl rfl rfl ⟨hJ, _, rfl, (by unfold ps_bd; first | (rw [if_pos (by omega)]; omega) | (rw [if_neg (by omega), if_pos (by omega)]; omega) | (rw [if_neg (by omega), if_neg (by omega), if_pos (by omega)]; omega) | (rw [if_neg (by omega), if_neg (by omega), if_neg (by omega), if_pos (by omega)]; omega) | (rw [if_neg (by omega), if_neg (by omega), if_neg (by omega), if_neg (by omega), if_pos (by omega)]; omega) | (rw [if_neg (by omega), if_neg (by omega), if_neg (by omega), if_neg (by omega), if_neg (by omega), if_pos (by omega)]; omega) | (rw [if_neg (by omega), if_neg (by omega), if_neg (by omega), if_neg (by omega), if_neg (by omega), if_neg (by omega)]; omega))⟩
  · refine hq_p rfl rfl (ty_ge (n := 0) nk_i0 (fun z19 ez19 => ?_))
    refine hq_p rfl rfl ?_
    exact hq_W.ret rfl rfl rfl ⟨hJ, _, rfl, (by unfold ps_bd; first | (rw [if_pos (by omega)]; omega) | (rw [if_neg (by omega), if_pos (by omega)]; omega) | (rw [if_neg (by omega), if_neg (by omega), if_pos (by omega)]; omega) | (rw [if_neg (by omega), if_neg (by omega), if_neg (by omega), if_pos (by omega)]; omega) | (rw [if_neg (by omega), if_neg (by omega), if_neg (by omega), if_neg (by omega), if_pos (by omega)]; omega) | (rw [if_neg (by omega), if_neg (by omega), if_neg (by omega), if_neg (by omega), if_neg (by omega), if_pos (by omega)]; omega) | (rw [if_neg (by omega), if_neg (by omega), if_neg (by omega), if_neg (by omega), if_neg (by omega), if_neg (by omega)]; omega))⟩
theorem ct_182e {X : pm_X} {d : Nat} {h : pm_H}  (hd : 1 ≤ d)  : ty_M X ty_W0 d 182 [.ref 97] h (fun _ v => ∃ z : Int32, v = some (.int z) ∧ pq_in (hs_aI h 110) (hs_fI h 97 29).toInt z.toInt) := by
  intro J H hJ
  obtain ⟨d, rfl⟩ : ∃ e, d = e + 1 := ⟨d - 1, by omega⟩
  have I := H.1 h hJ
  obtain ⟨q29, eq29⟩ : ∃ q : Int32, q.toInt = (hs_fI h 97 29).toInt := ⟨_, rfl⟩
  have gq290 : 0 ≤ (hs_fI h 97 29).toInt := (I.2.1 97 29 (by decide)).1
  have gq291 : (hs_fI h 97 29).toInt ≤ 400 := (I.2.1 97 29 (by decide)).2
  refine hq_M.enter (q := (⟨"TrainBearersModel", "inner", "()I"⟩, _, 3, some .int, 11, 1, pm_c182)) rfl rfl ?_
  show hq_W X d 11 false (some .int) pm_c182 (0, [some (.ref 97), none, none], [], h) (fun h' v => J h' ∧ (fun _ v => ∃ z : Int32, v = some (.int z) ∧ pq_in (hs_aI h 110) (hs_fI h 97 29).toInt z.toInt) h' v)
  refine hq_p rfl rfl (ty_ge (n := -1) nk_im1 (fun z1 ez1 => ?_))
  refine hq_p (ls' := [some (.ref 97), some (.int z1), none]) rfl rfl ?_
  refine hq_p rfl rfl (ty_ge (n := 0) nk_i0 (fun z2 ez2 => ?_))
  refine hq_p (ls' := [some (.ref 97), some (.int z1), some (.int z2)]) rfl rfl ?_
  have L4_n79 : ∀ n79 : Nat, ∀ (y75 : Int32) (y76 : Int32), (400 - y76.toInt).toNat = n79 → -2147483648 ≤ y75.toInt → y75.toInt ≤ 2147483647 → 0 ≤ y76.toInt → y76.toInt ≤ 400 → pq_in (hs_aI h 110) y76.toInt y75.toInt → y76.toInt ≤ (hs_fI h 97 29).toInt → hq_W X d 11 false (some .int) pm_c182 (4, [some (.ref 97), some (.int y75), some (.int y76)], [], h) (fun h' v => J h' ∧ (fun _ v => ∃ z : Int32, v = some (.int z) ∧ pq_in (hs_aI h 110) (hs_fI h 97 29).toInt z.toInt) h' v) := by
    intro n79
    induction n79 using Nat.strongRecOn with
    | ind n79 ihn79 =>
      intro y75 y76 mn79 ay75 by75 ay76 by76 x0n79 x1n79
      refine hq_p rfl rfl ?_
      refine hq_p rfl rfl ?_
      refine ty_gI I rfl rfl (by decide) (by decide) rfl rfl (fun z80 ez80 az80 bz80 => ?_)
      refine ty_ige rfl (fun c81 => ?_) (fun c81 => ?_)
      · refine hq_p rfl rfl ?_
        exact hq_W.ret rfl rfl rfl ⟨hJ, _, rfl, (by have q := x0n79; rw [show y76.toInt = (hs_fI h 97 29).toInt by omega] at q; exact q)⟩
      · refine hq_p rfl rfl ?_
        refine hq_gR I.1 rfl rfl (by decide) (by decide) rfl ?_
        refine hq_p rfl rfl ?_
        refine ty_aL I rfl rfl (by decide) (by omega) (by omega) (fun _ _ => ty_le rfl) (fun z82 ez82 az82 bz82 => ?_)
        refine hq_p rfl rfl (ty_ge (n := 31) nk_b31 (fun z83 ez83 => ?_))
        refine ty_ilt rfl (fun c84 => ?_) (fun c84 => ?_)
        · refine hq_p rfl rfl ?_
          refine hq_p (ls' := [some (.ref 97), some (.int y75), some (.int y76)]) rfl rfl ?_
          refine ty_inc (ls' := fun z85 => [some (.ref 97), some (.int y75), some (.int z85)]) rfl rfl (fun _ => rfl) (nm_addc nk_i1 (by omega) (by omega)) (fun z85 ez85 => ?_)
          refine hq_p rfl rfl ?_
          exact ihn79 ((400 - z85.toInt).toNat) (by omega) y75 z85 rfl (by omega) (by omega) (by omega) (by omega) (pq_ins x0n79 (by omega) (by omega) (by show (hs_aI h 110 y76.toInt.toNat).toInt < 31; omega)) (by omega)
        · refine hq_p rfl rfl ?_
          refine hq_gR I.1 rfl rfl (by decide) (by decide) rfl ?_
          refine hq_p rfl rfl ?_
          refine ty_aL I rfl rfl (by decide) (by omega) (by omega) (fun _ _ => ty_le rfl) (fun z86 ez86 az86 bz86 => ?_)
          refine hq_p rfl rfl ?_
          refine hq_p (ls' := [some (.ref 97), some (.int z86), some (.int y76)]) rfl rfl ?_
          refine ty_inc (ls' := fun z87 => [some (.ref 97), some (.int z86), some (.int z87)]) rfl rfl (fun _ => rfl) (nm_addc nk_i1 (by omega) (by omega)) (fun z87 ez87 => ?_)
          refine hq_p rfl rfl ?_
          exact ihn79 ((400 - z87.toInt).toNat) (by omega) z86 z87 rfl (by omega) (by omega) (by omega) (by omega) (pq_inb (m := y76.toInt) (by omega) (by omega) (by show z86.toInt = (hs_aI h 110 y76.toInt.toNat).toInt; omega) (by omega)) (by omega)
  exact L4_n79 _ z1 z2 rfl (by omega) (by omega) (by omega) (by omega) (pq_in0 (by omega) (by omega)) (by omega)
end CT45
