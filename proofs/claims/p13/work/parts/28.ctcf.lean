/-! CONTRACTS (printed by wip/pm/cts.py) -/
section CT13
theorem ct_84 {X : pm_X} {d : Nat} {h : pm_H} {x1 : Int32} {x2 : Int32} (hd : 6 ≤ d)  : ty_M X ty_Wc d 84 [.ref 0, .int x1, .int x2] h (ty_pi (-2147483648) 2147483647) := by
  intro J H hJ
  obtain ⟨d, rfl⟩ : ∃ e, d = e + 1 := ⟨d - 1, by omega⟩
  have I := H.1 h hJ
  have ax1 := nm_lo x1
  have bx1 := nm_hi x1
  have ax2 := nm_lo x2
  have bx2 := nm_hi x2
  refine hq_M.enter (q := (⟨"TrainBearers", "at", "(II)I"⟩, _, 3, some .int, 10, 3, pm_c84)) rfl rfl ?_
  show hq_W X d 10 false (some .int) pm_c84 (0, [some (.ref 0), some (.int x1), some (.int x2)], [], h) (fun h' v => J h' ∧ (ty_pi (-2147483648) 2147483647) h' v)
  refine hq_p rfl rfl ?_
  obtain ⟨t1, kt1⟩ : ∃ q, hs_fR h 0 0 = q := ⟨_, rfl⟩
  refine ty_gT I rfl rfl (by decide) (by decide) rfl kt1 (fun ot1 => ?_)
  have pt1 : ty_tr t1 := by rcases ot1 with rfl | rfl; exact Or.inl rfl; exact Or.inr (Or.inl rfl)
  have lt1 := ty_trl pt1
  clear ot1
  refine hq_p rfl rfl ?_
  refine ty_callp 0 I rfl (fun _ => rfl) rfl rfl rfl (hq_pre_o I.1 (x := t1) (ci := 8) (ty_trs pt1) (by omega) rfl rfl rfl rfl) (ct_69 (t0 := t1) (x1 := x1) (by omega) pt1) (fun _ P2 => ?_)
  obtain ⟨z3, rfl, az3, bz3, iz3⟩ := P2
  refine ty_zne rfl (fun c4 => ?_) (fun c4 => ?_)
  · replace c4 : 1 ≤ z3.toInt ∧ z3.toInt ≤ 1 := by omega
    have f5 := iz3 (by omega)
    clear iz3
    refine hq_p rfl rfl ?_
    rcases (show x2.toInt = 0 ∨ x2.toInt = 1 ∨ x2.toInt = 2 ∨ x2.toInt = 3 ∨ x2.toInt = 4 ∨ (x2.toInt < 0 ∨ 4 < x2.toInt) by omega) with c6 | c6 | c6 | c6 | c6 | c6
    · refine ty_ts (n := 0) rfl c6 rfl rfl (by decide) ?_
      refine hq_p rfl rfl ?_
      refine ty_gT I rfl rfl (by decide) (by decide) rfl kt1 (fun ot1 => ?_)
      clear ot1
      refine hq_gR I.1 rfl (ty_trs pt1) (by omega) (by decide) rfl ?_
      refine hq_p rfl rfl ?_
      refine ty_aL I rfl (ty_trs1 pt1) (by omega) (by omega) (by omega) (fun i _ => ty_le (ty_tra1 pt1 i)) (fun z7 ez7 az7 bz7 => ?_)
      exact hq_W.ret rfl rfl rfl ⟨hJ, _, rfl, by omega, by omega⟩
    · refine ty_ts (n := 1) rfl c6 rfl rfl (by decide) ?_
      refine hq_p rfl rfl ?_
      refine ty_gT I rfl rfl (by decide) (by decide) rfl kt1 (fun ot1 => ?_)
      clear ot1
      refine hq_gR I.1 rfl (ty_trs pt1) (by omega) (by decide) rfl ?_
      refine hq_p rfl rfl ?_
      refine ty_aL I rfl (ty_trs2 pt1) (by omega) (by omega) (by omega) (fun i _ => ty_le (ty_tra2 pt1 i)) (fun z8 ez8 az8 bz8 => ?_)
      exact hq_W.ret rfl rfl rfl ⟨hJ, _, rfl, by omega, by omega⟩
    · refine ty_ts (n := 2) rfl c6 rfl rfl (by decide) ?_
      refine hq_p rfl rfl ?_
      refine ty_gT I rfl rfl (by decide) (by decide) rfl kt1 (fun ot1 => ?_)
      clear ot1
      refine hq_p rfl rfl ?_
      refine ty_callp 0 I rfl (fun _ => rfl) rfl rfl rfl (hq_pre_o I.1 (x := t1) (ci := 8) (ty_trs pt1) (by omega) rfl rfl rfl rfl) (ct_73 (t0 := t1) (x1 := x1) (by omega) pt1) (fun _ P9 => ?_)
      obtain ⟨z10, rfl, az10, bz10⟩ := P9
      exact hq_W.ret rfl rfl rfl ⟨hJ, _, rfl, by omega, by omega⟩
    · refine ty_ts (n := 3) rfl c6 rfl rfl (by decide) ?_
      refine hq_p rfl rfl ?_
      refine hq_gR I.1 rfl rfl (by decide) (by decide) rfl ?_
      refine hq_p rfl rfl ?_
      refine ty_gT I rfl rfl (by decide) (by decide) rfl kt1 (fun ot1 => ?_)
      clear ot1
      refine hq_p rfl rfl ?_
      refine ty_callj 0 (W := ty_Wc) H hJ rfl (fun _ => rfl) rfl rfl rfl (hq_pre_o I.1 (x := 72) (ci := 4) rfl (by decide) rfl rfl rfl rfl) (fun a k w => by unfold ty_Wu at w; unfold ty_Wc; omega) (by unfold ty_Wu ty_Wc; omega) (ct_48 (t0 := 72) (t1 := t1) (x2 := x1) (by omega) (show ty_ru 72 by simp [ty_ru]) pt1) (fun h12 _ Jh12 P11 => ?_)
      have Ih12 := H.1 h12 Jh12
      obtain ⟨z13, rfl, az13, bz13⟩ := P11
      exact hq_W.ret rfl rfl rfl ⟨Jh12, _, rfl, by omega, by omega⟩
    · refine ty_ts (n := 4) rfl c6 rfl rfl (by decide) ?_
      refine hq_p rfl rfl ?_
      refine hq_gR I.1 rfl rfl (by decide) (by decide) rfl ?_
      refine hq_p rfl rfl ?_
      refine ty_gT I rfl rfl (by decide) (by decide) rfl kt1 (fun ot1 => ?_)
      clear ot1
      refine hq_p rfl rfl ?_
      refine hq_p rfl rfl ?_
      refine hq_gR I.1 rfl rfl (by decide) (by decide) rfl ?_
      refine hq_p rfl rfl ?_
      refine ty_gT I rfl rfl (by decide) (by decide) rfl kt1 (fun ot1 => ?_)
      clear ot1
      refine hq_p rfl rfl ?_
      refine ty_callj 0 (W := ty_Wc) H hJ rfl (fun _ => rfl) rfl rfl rfl (hq_pre_o I.1 (x := 72) (ci := 4) rfl (by decide) rfl rfl rfl rfl) (fun a k w => by unfold ty_Wu at w; unfold ty_Wc; omega) (by unfold ty_Wu ty_Wc; omega) (ct_48 (t0 := 72) (t1 := t1) (x2 := x1) (by omega) (show ty_ru 72 by simp [ty_ru]) pt1) (fun h15 _ Jh15 P14 => ?_)
      have Ih15 := H.1 h15 Jh15
      obtain ⟨z16, rfl, az16, bz16⟩ := P14
      refine ty_callj 0 (W := ty_Wc) H Jh15 rfl (fun _ => rfl) rfl rfl rfl (hq_pre_o Ih15.1 (x := 72) (ci := 4) rfl (by decide) rfl rfl rfl rfl) (fun a k w => by unfold ty_Wu at w; unfold ty_Wc; omega) (by unfold ty_Wu ty_Wc; omega) (ct_47 (t0 := 72) (t1 := t1) (x2 := x1) (x3 := z16) (by omega) (show ty_ru 72 by simp [ty_ru]) pt1) (fun h18 _ Jh18 P17 => ?_)
      have Ih18 := H.1 h18 Jh18
      obtain ⟨z19, rfl, az19, bz19⟩ := P17
      exact hq_W.ret rfl rfl rfl ⟨Jh18, _, rfl, by omega, by omega⟩
    · refine ty_td rfl c6 (by decide) ?_
      refine hq_p rfl rfl (ty_ge (n := -1) nk_im1 (fun z20 ez20 => ?_))
      exact hq_W.ret rfl rfl rfl ⟨hJ, _, rfl, by omega, by omega⟩
  · clear iz3
    refine hq_p rfl rfl (ty_ge (n := -1) nk_im1 (fun z21 ez21 => ?_))
    exact hq_W.ret rfl rfl rfl ⟨hJ, _, rfl, by omega, by omega⟩
theorem ct_86 {X : pm_X} {d : Nat} {h : pm_H} {x1 : Int32} {x2 : Int32} (hd : 2 ≤ d)  : ty_M X ty_Wc d 86 [.ref 0, .int x1, .int x2] h (ty_pi (-2147483648) 2147483647) := by
  intro J H hJ
  obtain ⟨d, rfl⟩ : ∃ e, d = e + 1 := ⟨d - 1, by omega⟩
  have I := H.1 h hJ
  have ax1 := nm_lo x1
  have bx1 := nm_hi x1
  have ax2 := nm_lo x2
  have bx2 := nm_hi x2
  refine hq_M.enter (q := (⟨"TrainBearers", "of", "(II)I"⟩, _, 3, some .int, 10, 3, pm_c86)) rfl rfl ?_
  show hq_W X d 10 false (some .int) pm_c86 (0, [some (.ref 0), some (.int x1), some (.int x2)], [], h) (fun h' v => J h' ∧ (ty_pi (-2147483648) 2147483647) h' v)
  refine hq_p rfl rfl ?_
  obtain ⟨t1, kt1⟩ : ∃ q, hs_fR h 0 0 = q := ⟨_, rfl⟩
  refine ty_gT I rfl rfl (by decide) (by decide) rfl kt1 (fun ot1 => ?_)
  have pt1 : ty_tr t1 := by rcases ot1 with rfl | rfl; exact Or.inl rfl; exact Or.inr (Or.inl rfl)
  have lt1 := ty_trl pt1
  clear ot1
  refine hq_p rfl rfl ?_
  refine ty_callp 0 I rfl (fun _ => rfl) rfl rfl rfl (hq_pre_o I.1 (x := t1) (ci := 8) (ty_trs pt1) (by omega) rfl rfl rfl rfl) (ct_70 (t0 := t1) (x1 := x1) (by omega) pt1) (fun _ P2 => ?_)
  obtain ⟨z3, rfl, az3, bz3, iz3⟩ := P2
  refine ty_zne rfl (fun c4 => ?_) (fun c4 => ?_)
  · replace c4 : 1 ≤ z3.toInt ∧ z3.toInt ≤ 1 := by omega
    have f5 := iz3 (by omega)
    clear iz3
    refine hq_p rfl rfl ?_
    rcases (show x2.toInt = 0 ∨ x2.toInt = 1 ∨ x2.toInt = 2 ∨ (x2.toInt < 0 ∨ 2 < x2.toInt) by omega) with c6 | c6 | c6 | c6
    · refine ty_ts (n := 0) rfl c6 rfl rfl (by decide) ?_
      refine hq_p rfl rfl ?_
      refine ty_gT I rfl rfl (by decide) (by decide) rfl kt1 (fun ot1 => ?_)
      clear ot1
      refine hq_gR I.1 rfl (ty_trs pt1) (by omega) (by decide) rfl ?_
      refine hq_p rfl rfl ?_
      refine ty_aL I rfl (ty_trs3 pt1) (by omega) (by omega) (by omega) (fun i _ => ty_le (ty_tra3 pt1 i)) (fun z7 ez7 az7 bz7 => ?_)
      exact hq_W.ret rfl rfl rfl ⟨hJ, _, rfl, by omega, by omega⟩
    · refine ty_ts (n := 1) rfl c6 rfl rfl (by decide) ?_
      refine hq_p rfl rfl ?_
      refine ty_gT I rfl rfl (by decide) (by decide) rfl kt1 (fun ot1 => ?_)
      clear ot1
      refine hq_gR I.1 rfl (ty_trs pt1) (by omega) (by decide) rfl ?_
      refine hq_p rfl rfl ?_
      refine ty_aL I rfl (ty_trs4 pt1) (by omega) (by omega) (by omega) (fun i _ => ty_le (ty_tra4 pt1 i)) (fun z8 ez8 az8 bz8 => ?_)
      exact hq_W.ret rfl rfl rfl ⟨hJ, _, rfl, by omega, by omega⟩
    · refine ty_ts (n := 2) rfl c6 rfl rfl (by decide) ?_
      refine hq_p rfl rfl ?_
      refine ty_gT I rfl rfl (by decide) (by decide) rfl kt1 (fun ot1 => ?_)
      clear ot1
      refine hq_gR I.1 rfl (ty_trs pt1) (by omega) (by decide) rfl ?_
      refine hq_p rfl rfl ?_
      refine ty_aL I rfl (ty_trs5 pt1) (by omega) (by omega) (by omega) (fun i _ => ty_le (ty_tra5 pt1 i)) (fun z9 ez9 az9 bz9 => ?_)
      exact hq_W.ret rfl rfl rfl ⟨hJ, _, rfl, by omega, by omega⟩
    · refine ty_td rfl c6 (by decide) ?_
      refine hq_p rfl rfl (ty_ge (n := -1) nk_im1 (fun z10 ez10 => ?_))
      exact hq_W.ret rfl rfl rfl ⟨hJ, _, rfl, by omega, by omega⟩
  · clear iz3
    refine hq_p rfl rfl (ty_ge (n := -1) nk_im1 (fun z11 ez11 => ?_))
    exact hq_W.ret rfl rfl rfl ⟨hJ, _, rfl, by omega, by omega⟩
theorem ct_87 {X : pm_X} {d : Nat} {h : pm_H} {x1 : Int32} {x2 : Int32} {x3 : Int32} (hd : 5 ≤ d)  : ty_M X ty_Wc d 87 [.ref 0, .int x1, .int x2, .int x3] h (ty_pi (-1) 2147483647) := by
  intro J H hJ
  obtain ⟨d, rfl⟩ : ∃ e, d = e + 1 := ⟨d - 1, by omega⟩
  have I := H.1 h hJ
  have ax1 := nm_lo x1
  have bx1 := nm_hi x1
  have ax2 := nm_lo x2
  have bx2 := nm_hi x2
  have ax3 := nm_lo x3
  have bx3 := nm_hi x3
  refine hq_M.enter (q := (⟨"TrainBearers", "asks", "(III)I"⟩, _, 4, some .int, 10, 4, pm_c87)) rfl rfl ?_
  show hq_W X d 10 false (some .int) pm_c87 (0, [some (.ref 0), some (.int x1), some (.int x2), some (.int x3)], [], h) (fun h' v => J h' ∧ (ty_pi (-1) 2147483647) h' v)
  refine hq_p rfl rfl ?_
  obtain ⟨t1, kt1⟩ : ∃ q, hs_fR h 0 0 = q := ⟨_, rfl⟩
  refine ty_gT I rfl rfl (by decide) (by decide) rfl kt1 (fun ot1 => ?_)
  have pt1 : ty_tr t1 := by rcases ot1 with rfl | rfl; exact Or.inl rfl; exact Or.inr (Or.inl rfl)
  have lt1 := ty_trl pt1
  clear ot1
  refine hq_p rfl rfl ?_
  refine ty_callp 0 I rfl (fun _ => rfl) rfl rfl rfl (hq_pre_o I.1 (x := t1) (ci := 8) (ty_trs pt1) (by omega) rfl rfl rfl rfl) (ct_70 (t0 := t1) (x1 := x1) (by omega) pt1) (fun _ P2 => ?_)
  obtain ⟨z3, rfl, az3, bz3, iz3⟩ := P2
  refine ty_zeq rfl (fun c4 => ?_) (fun c4 => ?_)
  · clear iz3
    refine hq_p rfl rfl (ty_ge (n := -1) nk_im1 (fun z5 ez5 => ?_))
    exact hq_W.ret rfl rfl rfl ⟨hJ, _, rfl, by omega, by omega⟩
  · replace c4 : 1 ≤ z3.toInt ∧ z3.toInt ≤ 1 := by omega
    have f6 := iz3 (by omega)
    clear iz3
    refine hq_p rfl rfl ?_
    refine ty_gT I rfl rfl (by decide) (by decide) rfl kt1 (fun ot1 => ?_)
    clear ot1
    refine hq_p rfl rfl ?_
    refine ty_callp 0 I rfl (fun _ => rfl) rfl rfl rfl (hq_pre_o I.1 (x := t1) (ci := 8) (ty_trs pt1) (by omega) rfl rfl rfl rfl) (ct_69 (t0 := t1) (x1 := x2) (by omega) pt1) (fun _ P7 => ?_)
    obtain ⟨z8, rfl, az8, bz8, iz8⟩ := P7
    refine ty_zne rfl (fun c9 => ?_) (fun c9 => ?_)
    · replace c9 : 1 ≤ z8.toInt ∧ z8.toInt ≤ 1 := by omega
      have f10 := iz8 (by omega)
      clear iz8
      refine hq_p rfl rfl ?_
      refine ty_zne rfl (fun c11 => ?_) (fun c11 => ?_)
      · clear c11
        refine hq_p rfl rfl ?_
        refine hq_p rfl rfl (ty_ge (n := 1) nk_i1 (fun z12 ez12 => ?_))
        refine ty_ine rfl (fun c13 => ?_) (fun c13 => ?_)
        · clear c13
          refine hq_p rfl rfl (ty_ge (n := -1) nk_im1 (fun z14 ez14 => ?_))
          exact hq_W.ret rfl rfl rfl ⟨hJ, _, rfl, by omega, by omega⟩
        · refine hq_p rfl rfl ?_
          refine hq_gR I.1 rfl rfl (by decide) (by decide) rfl ?_
          refine hq_p rfl rfl ?_
          refine ty_gT I rfl rfl (by decide) (by decide) rfl kt1 (fun ot1 => ?_)
          clear ot1
          refine hq_p rfl rfl ?_
          refine hq_p rfl rfl ?_
          refine ty_callj 0 (W := ty_Wc) H hJ rfl (fun _ => rfl) rfl rfl rfl (hq_pre_o I.1 (x := 72) (ci := 4) rfl (by decide) rfl rfl rfl rfl) (fun a k w => by unfold ty_Wu at w; unfold ty_Wc; omega) (by unfold ty_Wu ty_Wc; omega) (ct_45 (t0 := 72) (t1 := t1) (x2 := x1) (x3 := x2) (by omega) (show ty_ru 72 by simp [ty_ru]) pt1) (fun h16 _ Jh16 P15 => ?_)
          have Ih16 := H.1 h16 Jh16
          obtain ⟨z17, rfl, az17, bz17⟩ := P15
          refine ty_zeq rfl (fun c18 => ?_) (fun c18 => ?_)
          · refine hq_p rfl rfl (ty_ge (n := 0) nk_i0 (fun z19 ez19 => ?_))
            exact hq_W.ret rfl rfl rfl ⟨Jh16, _, rfl, by omega, by omega⟩
          · replace c18 : 1 ≤ z17.toInt ∧ z17.toInt ≤ 1 := by omega
            refine hq_p rfl rfl (ty_ge (n := 1) nk_i1 (fun z20 ez20 => ?_))
            refine hq_p rfl rfl ?_
            exact hq_W.ret rfl rfl rfl ⟨Jh16, _, rfl, by omega, by omega⟩
      · refine hq_p rfl rfl ?_
        refine hq_gR I.1 rfl rfl (by decide) (by decide) rfl ?_
        refine hq_p rfl rfl ?_
        refine ty_gT I rfl rfl (by decide) (by decide) rfl kt1 (fun ot1 => ?_)
        clear ot1
        refine hq_p rfl rfl ?_
        refine hq_p rfl rfl ?_
        refine ty_callj 0 (W := ty_Wc) H hJ rfl (fun _ => rfl) rfl rfl rfl (hq_pre_o I.1 (x := 72) (ci := 4) rfl (by decide) rfl rfl rfl rfl) (fun a k w => by unfold ty_Wu at w; unfold ty_Wc; omega) (by unfold ty_Wu ty_Wc; omega) (ct_44 (t0 := 72) (t1 := t1) (x2 := x1) (x3 := x2) (by omega) (show ty_ru 72 by simp [ty_ru]) pt1) (fun h22 _ Jh22 P21 => ?_)
        have Ih22 := H.1 h22 Jh22
        obtain ⟨z23, rfl, az23, bz23⟩ := P21
        exact hq_W.ret rfl rfl rfl ⟨Jh22, _, rfl, by omega, by omega⟩
    · clear iz8
      refine hq_p rfl rfl (ty_ge (n := -1) nk_im1 (fun z24 ez24 => ?_))
      exact hq_W.ret rfl rfl rfl ⟨hJ, _, rfl, by omega, by omega⟩
theorem ct_88 {X : pm_X} {d : Nat} {h : pm_H} {x1 : Int32} {x2 : Int32} {x3 : Int32} (hd : 3 ≤ d)  : ty_M X ty_Wc d 88 [.ref 0, .int x1, .int x2, .int x3] h (ty_pi (-2147483648) 2147483647) := by
  intro J H hJ
  obtain ⟨d, rfl⟩ : ∃ e, d = e + 1 := ⟨d - 1, by omega⟩
  have I := H.1 h hJ
  have ax1 := nm_lo x1
  have bx1 := nm_hi x1
  have ax2 := nm_lo x2
  have bx2 := nm_hi x2
  have ax3 := nm_lo x3
  have bx3 := nm_hi x3
  refine hq_M.enter (q := (⟨"TrainBearers", "lane", "(III)I"⟩, _, 5, some .int, 10, 4, pm_c88)) rfl rfl ?_
  show hq_W X d 10 false (some .int) pm_c88 (0, [some (.ref 0), some (.int x1), some (.int x2), some (.int x3), none], [], h) (fun h' v => J h' ∧ (ty_pi (-2147483648) 2147483647) h' v)
  refine hq_p rfl rfl ?_
  refine hq_p rfl rfl ?_
  refine hq_p rfl rfl ?_
  refine ty_callp 1 I rfl (fun _ => rfl) rfl rfl rfl rfl (ct_129 (x0 := x1) (x1 := x2) (x2 := x3) (by omega)) (fun _ P1 => ?_)
  obtain ⟨z2, rfl, az2, bz2, iz2⟩ := P1
  refine ty_zne rfl (fun c3 => ?_) (fun c3 => ?_)
  · replace c3 : 1 ≤ z2.toInt ∧ z2.toInt ≤ 1 := by omega
    have f4 := iz2 (by omega)
    clear iz2
    refine hq_p rfl rfl ?_
    obtain ⟨t5, kt5⟩ : ∃ q, hs_fR h 0 0 = q := ⟨_, rfl⟩
    refine ty_gT I rfl rfl (by decide) (by decide) rfl kt5 (fun ot5 => ?_)
    have pt5 : ty_tr t5 := by rcases ot5 with rfl | rfl; exact Or.inl rfl; exact Or.inr (Or.inl rfl)
    have lt5 := ty_trl pt5
    clear ot5
    refine hq_p rfl rfl ?_
    refine hq_p rfl rfl ?_
    refine ty_callp 0 I rfl (fun _ => rfl) rfl rfl rfl (hq_pre_o I.1 (x := t5) (ci := 8) (ty_trs pt5) (by omega) rfl rfl rfl rfl) (ct_75 (t0 := t5) (x1 := x1) (x2 := x2) (by omega) pt5) (fun _ P6 => ?_)
    obtain ⟨z7, rfl, az7, bz7⟩ := P6
    refine hq_p (ls' := [some (.ref 0), some (.int x1), some (.int x2), some (.int x3), some (.int z7)]) rfl rfl ?_
    refine hq_p rfl rfl ?_
    refine ty_gT I rfl rfl (by decide) (by decide) rfl kt5 (fun ot5 => ?_)
    clear ot5
    refine hq_p rfl rfl ?_
    refine hq_p rfl rfl ?_
    refine hq_p rfl rfl ?_
    refine ty_callj 0 (W := ty_Wc) H hJ rfl (fun _ => rfl) rfl rfl rfl (hq_pre_o I.1 (x := t5) (ci := 8) (ty_trs pt5) (by omega) rfl rfl rfl rfl) (fun _ _ w => w) (fun _ w => w) (ct_76 (t0 := t5) (x1 := x1) (x2 := x2) (x3 := x3) (by omega) pt5) (fun h9 _ Jh9 P8 => ?_)
    have Ih9 := H.1 h9 Jh9
    subst P8
    refine hq_p rfl rfl ?_
    refine hq_p rfl rfl ?_
    refine ty_callj 0 (W := ty_Wc) H Jh9 rfl (fun _ => rfl) rfl rfl rfl (hq_pre_o Ih9.1 (x := 0) (ci := 10) rfl (by decide) rfl rfl rfl rfl) (fun _ _ w => w) (fun _ w => w) (ct_126 (x1 := z7) (by omega)) (fun h11 _ Jh11 P10 => ?_)
    have Ih11 := H.1 h11 Jh11
    obtain ⟨z12, rfl, fz12⟩ := P10
    exact hq_W.ret rfl rfl rfl ⟨Jh11, _, rfl, by omega, by omega⟩
  · clear iz2
    refine hq_p rfl rfl ?_
    refine hq_p rfl rfl (ty_ge (n := -1) nk_im1 (fun z13 ez13 => ?_))
    refine ty_callj 0 (W := ty_Wc) H hJ rfl (fun _ => rfl) rfl rfl rfl (hq_pre_o I.1 (x := 0) (ci := 10) rfl (by decide) rfl rfl rfl rfl) (fun _ _ w => w) (fun _ w => w) (ct_125 (x1 := z13) (by omega)) (fun h15 _ Jh15 P14 => ?_)
    have Ih15 := H.1 h15 Jh15
    obtain ⟨z16, rfl, fz16⟩ := P14
    exact hq_W.ret rfl rfl rfl ⟨Jh15, _, rfl, by omega, by omega⟩
theorem ct_89 {X : pm_X} {d : Nat} {h : pm_H} {x1 : Int32} {x2 : Int32} (hd : 3 ≤ d)  : ty_M X ty_Wc d 89 [.ref 0, .int x1, .int x2] h (ty_pi (-2147483648) 2147483647) := by
  intro J H hJ
  obtain ⟨d, rfl⟩ : ∃ e, d = e + 1 := ⟨d - 1, by omega⟩
  have I := H.1 h hJ
  have ax1 := nm_lo x1
  have bx1 := nm_hi x1
  have ax2 := nm_lo x2
  have bx2 := nm_hi x2
  refine hq_M.enter (q := (⟨"TrainBearers", "stiles", "(II)I"⟩, _, 3, some .int, 10, 3, pm_c89)) rfl rfl ?_
  show hq_W X d 10 false (some .int) pm_c89 (0, [some (.ref 0), some (.int x1), some (.int x2)], [], h) (fun h' v => J h' ∧ (ty_pi (-2147483648) 2147483647) h' v)
  refine hq_p rfl rfl ?_
  obtain ⟨t1, kt1⟩ : ∃ q, hs_fR h 0 0 = q := ⟨_, rfl⟩
  refine ty_gT I rfl rfl (by decide) (by decide) rfl kt1 (fun ot1 => ?_)
  have pt1 : ty_tr t1 := by rcases ot1 with rfl | rfl; exact Or.inl rfl; exact Or.inr (Or.inl rfl)
  have lt1 := ty_trl pt1
  clear ot1
  refine hq_p rfl rfl ?_
  refine hq_p rfl rfl ?_
  refine ty_callp 0 I rfl (fun _ => rfl) rfl rfl rfl (hq_pre_o I.1 (x := t1) (ci := 8) (ty_trs pt1) (by omega) rfl rfl rfl rfl) (ct_75 (t0 := t1) (x1 := x1) (x2 := x2) (by omega) pt1) (fun _ P2 => ?_)
  obtain ⟨z3, rfl, az3, bz3⟩ := P2
  exact hq_W.ret rfl rfl rfl ⟨hJ, _, rfl, by omega, by omega⟩
theorem ct_94 {X : pm_X} {d : Nat} {h : pm_H}  (hd : 1 ≤ d)  : ty_M X ty_Wc d 94 [.ref 0] h (ty_pi (-2147483648) 2147483647) := by
  intro J H hJ
  obtain ⟨d, rfl⟩ : ∃ e, d = e + 1 := ⟨d - 1, by omega⟩
  have I := H.1 h hJ
  refine hq_M.enter (q := (⟨"TrainBearers", "puddles", "()I"⟩, _, 1, some .int, 10, 1, pm_c94)) rfl rfl ?_
  show hq_W X d 10 false (some .int) pm_c94 (0, [some (.ref 0)], [], h) (fun h' v => J h' ∧ (ty_pi (-2147483648) 2147483647) h' v)
  refine hq_p rfl rfl ?_
  refine ty_gI I rfl rfl (by decide) (by decide) rfl rfl (fun z1 ez1 az1 bz1 => ?_)
  exact hq_W.ret rfl rfl rfl ⟨hJ, _, rfl, by omega, by omega⟩
theorem ct_97 {X : pm_X} {d : Nat} {h : pm_H}  (hd : 1 ≤ d)  : ty_M X ty_Wc d 97 [.ref 0] h (ty_pi (-2147483648) 2147483647) := by
  intro J H hJ
  obtain ⟨d, rfl⟩ : ∃ e, d = e + 1 := ⟨d - 1, by omega⟩
  have I := H.1 h hJ
  refine hq_M.enter (q := (⟨"TrainBearers", "fault", "()I"⟩, _, 1, some .int, 10, 1, pm_c97)) rfl rfl ?_
  show hq_W X d 10 false (some .int) pm_c97 (0, [some (.ref 0)], [], h) (fun h' v => J h' ∧ (ty_pi (-2147483648) 2147483647) h' v)
  refine hq_p rfl rfl ?_
  refine hq_gR I.1 rfl rfl (by decide) (by decide) rfl ?_
  refine ty_gI I rfl rfl (by decide) (by decide) rfl rfl (fun z1 ez1 az1 bz1 => ?_)
  exact hq_W.ret rfl rfl rfl ⟨hJ, _, rfl, by omega, by omega⟩
theorem ct_98 {X : pm_X} {d : Nat} {h : pm_H}  (hd : 1 ≤ d)  : ty_M X ty_Wc d 98 [.ref 0] h (ty_pi (-2147483648) 2147483647) := by
  intro J H hJ
  obtain ⟨d, rfl⟩ : ∃ e, d = e + 1 := ⟨d - 1, by omega⟩
  have I := H.1 h hJ
  refine hq_M.enter (q := (⟨"TrainBearers", "stopped", "()I"⟩, _, 1, some .int, 10, 1, pm_c98)) rfl rfl ?_
  show hq_W X d 10 false (some .int) pm_c98 (0, [some (.ref 0)], [], h) (fun h' v => J h' ∧ (ty_pi (-2147483648) 2147483647) h' v)
  refine hq_p rfl rfl ?_
  refine hq_gR I.1 rfl rfl (by decide) (by decide) rfl ?_
  refine ty_gI I rfl rfl (by decide) (by decide) rfl rfl (fun z1 ez1 az1 bz1 => ?_)
  exact hq_W.ret rfl rfl rfl ⟨hJ, _, rfl, by omega, by omega⟩
theorem ct_99 {X : pm_X} {d : Nat} {h : pm_H} {x1 : Int32} (hd : 2 ≤ d)  : ty_M X ty_Wc d 99 [.ref 0, .int x1] h (ty_pi (-2147483648) 2147483647) := by
  intro J H hJ
  obtain ⟨d, rfl⟩ : ∃ e, d = e + 1 := ⟨d - 1, by omega⟩
  have I := H.1 h hJ
  have ax1 := nm_lo x1
  have bx1 := nm_hi x1
  refine hq_M.enter (q := (⟨"TrainBearers", "force", "(I)I"⟩, _, 3, some .int, 10, 2, pm_c99)) rfl rfl ?_
  show hq_W X d 10 false (some .int) pm_c99 (0, [some (.ref 0), some (.int x1), none], [], h) (fun h' v => J h' ∧ (ty_pi (-2147483648) 2147483647) h' v)
  refine hq_p rfl rfl ?_
  refine hq_p rfl rfl (ty_ge (n := -1) nk_im1 (fun z1 ez1 => ?_))
  refine ty_ieq rfl (fun c2 => ?_) (fun c2 => ?_)
  · refine hq_p rfl rfl ?_
    obtain ⟨t3, kt3⟩ : ∃ q, hs_fR h 0 0 = q := ⟨_, rfl⟩
    refine ty_gT I rfl rfl (by decide) (by decide) rfl kt3 (fun ot3 => ?_)
    have pt3 : ty_tr t3 := by rcases ot3 with rfl | rfl; exact Or.inl rfl; exact Or.inr (Or.inl rfl)
    have lt3 := ty_trl pt3
    clear ot3
    refine ty_gI I rfl (ty_trs pt3) (by omega) (by decide) rfl (ty_trf pt3 16) (fun z4 ez4 az4 bz4 => ?_)
    refine hq_p (ls' := [some (.ref 0), some (.int x1), some (.int z4)]) rfl rfl ?_
    refine hq_p rfl rfl ?_
    refine ty_gT I rfl rfl (by decide) (by decide) rfl kt3 (fun ot3 => ?_)
    clear ot3
    refine hq_p rfl rfl ?_
    refine ty_pI (W := ty_Wc) H hJ rfl (ty_trs pt3) (by omega) rfl rfl (by unfold ty_Wc; omega) (ty_trf pt3 16) (by omega) (by omega) (fun h5 eh5 Jh5 => ?_)
    have wh5 : (hs_fI h5 t3 16).toInt = x1.toInt := by rw [eh5]; exact congrArg Int32.toInt (ty_fI_eq I.1 (ty_trs pt3) (by omega) rfl)
    have Ih5 := H.1 h5 Jh5
    refine hq_p rfl rfl ?_
    refine hq_p rfl rfl ?_
    refine ty_callj 0 (W := ty_Wc) H Jh5 rfl (fun _ => rfl) rfl rfl rfl (hq_pre_o Ih5.1 (x := 0) (ci := 10) rfl (by decide) rfl rfl rfl rfl) (fun _ _ w => w) (fun _ w => w) (ct_126 (x1 := z4) (by omega)) (fun h7 _ Jh7 P6 => ?_)
    have Ih7 := H.1 h7 Jh7
    obtain ⟨z8, rfl, fz8⟩ := P6
    exact hq_W.ret rfl rfl rfl ⟨Jh7, _, rfl, by omega, by omega⟩
  · clear c2
    refine hq_p rfl rfl ?_
    obtain ⟨t9, kt9⟩ : ∃ q, hs_fR h 0 0 = q := ⟨_, rfl⟩
    refine ty_gT I rfl rfl (by decide) (by decide) rfl kt9 (fun ot9 => ?_)
    have pt9 : ty_tr t9 := by rcases ot9 with rfl | rfl; exact Or.inl rfl; exact Or.inr (Or.inl rfl)
    have lt9 := ty_trl pt9
    clear ot9
    refine hq_p rfl rfl ?_
    refine ty_callp 0 I rfl (fun _ => rfl) rfl rfl rfl (hq_pre_o I.1 (x := t9) (ci := 8) (ty_trs pt9) (by omega) rfl rfl rfl rfl) (ct_71 (t0 := t9) (x1 := x1) (by omega) pt9) (fun _ P10 => ?_)
    obtain ⟨z11, rfl, az11, bz11, iz11⟩ := P10
    refine ty_zne rfl (fun c12 => ?_) (fun c12 => ?_)
    · replace c12 : 1 ≤ z11.toInt ∧ z11.toInt ≤ 1 := by omega
      have f13 := iz11 (by omega)
      clear iz11
      refine hq_p rfl rfl ?_
      refine ty_gT I rfl rfl (by decide) (by decide) rfl kt9 (fun ot9 => ?_)
      clear ot9
      refine ty_gI I rfl (ty_trs pt9) (by omega) (by decide) rfl (ty_trf pt9 16) (fun z14 ez14 az14 bz14 => ?_)
      refine hq_p (ls' := [some (.ref 0), some (.int x1), some (.int z14)]) rfl rfl ?_
      refine hq_p rfl rfl ?_
      refine ty_gT I rfl rfl (by decide) (by decide) rfl kt9 (fun ot9 => ?_)
      clear ot9
      refine hq_p rfl rfl ?_
      refine ty_pI (W := ty_Wc) H hJ rfl (ty_trs pt9) (by omega) rfl rfl (by unfold ty_Wc; omega) (ty_trf pt9 16) (by omega) (by omega) (fun h15 eh15 Jh15 => ?_)
      have wh15 : (hs_fI h15 t9 16).toInt = x1.toInt := by rw [eh15]; exact congrArg Int32.toInt (ty_fI_eq I.1 (ty_trs pt9) (by omega) rfl)
      have Ih15 := H.1 h15 Jh15
      refine hq_p rfl rfl ?_
      refine hq_p rfl rfl ?_
      refine ty_callj 0 (W := ty_Wc) H Jh15 rfl (fun _ => rfl) rfl rfl rfl (hq_pre_o Ih15.1 (x := 0) (ci := 10) rfl (by decide) rfl rfl rfl rfl) (fun _ _ w => w) (fun _ w => w) (ct_126 (x1 := z14) (by omega)) (fun h17 _ Jh17 P16 => ?_)
      have Ih17 := H.1 h17 Jh17
      obtain ⟨z18, rfl, fz18⟩ := P16
      exact hq_W.ret rfl rfl rfl ⟨Jh17, _, rfl, by omega, by omega⟩
    · clear iz11
      refine hq_p rfl rfl ?_
      refine hq_p rfl rfl (ty_ge (n := -2) nk_bm2 (fun z19 ez19 => ?_))
      refine ty_callj 0 (W := ty_Wc) H hJ rfl (fun _ => rfl) rfl rfl rfl (hq_pre_o I.1 (x := 0) (ci := 10) rfl (by decide) rfl rfl rfl rfl) (fun _ _ w => w) (fun _ w => w) (ct_125 (x1 := z19) (by omega)) (fun h21 _ Jh21 P20 => ?_)
      have Ih21 := H.1 h21 Jh21
      obtain ⟨z22, rfl, fz22⟩ := P20
      exact hq_W.ret rfl rfl rfl ⟨Jh21, _, rfl, by omega, by omega⟩
theorem ct_100 {X : pm_X} {d : Nat} {h : pm_H} {x1 : Int32} {x2 : Int32} (hd : 7 ≤ d)  : ty_M X ty_Wc d 100 [.ref 0, .int x1, .int x2] h (ty_pi (-3) 2147483647) := by
  intro J H hJ
  obtain ⟨d, rfl⟩ : ∃ e, d = e + 1 := ⟨d - 1, by omega⟩
  have I := H.1 h hJ
  have ax1 := nm_lo x1
  have bx1 := nm_hi x1
  have ax2 := nm_lo x2
  have bx2 := nm_hi x2
  refine hq_M.enter (q := (⟨"TrainBearers", "hold", "(II)I"⟩, _, 3, some .int, 10, 3, pm_c100)) rfl rfl ?_
  show hq_W X d 10 false (some .int) pm_c100 (0, [some (.ref 0), some (.int x1), some (.int x2)], [], h) (fun h' v => J h' ∧ (ty_pi (-3) 2147483647) h' v)
  refine hq_p rfl rfl ?_
  refine hq_p rfl rfl ?_
  refine hq_gR I.1 rfl rfl (by decide) (by decide) rfl ?_
  refine hq_p rfl rfl ?_
  obtain ⟨t1, kt1⟩ : ∃ q, hs_fR h 0 0 = q := ⟨_, rfl⟩
  refine ty_gT I rfl rfl (by decide) (by decide) rfl kt1 (fun ot1 => ?_)
  have pt1 : ty_tr t1 := by rcases ot1 with rfl | rfl; exact Or.inl rfl; exact Or.inr (Or.inl rfl)
  have lt1 := ty_trl pt1
  clear ot1
  refine hq_p rfl rfl ?_
  obtain ⟨t2, kt2⟩ : ∃ q, hs_fR h 0 5 = q := ⟨_, rfl⟩
  refine ty_gS I rfl rfl (by decide) (by decide) rfl kt2 (fun ot2 => ?_)
  have pt2 : ty_sp t2 := ot2
  have lt2 := ty_spl pt2
  clear ot2
  refine hq_p rfl rfl ?_
  refine hq_p rfl rfl ?_
  refine ty_callj 0 (W := ty_Wc) H hJ rfl (fun _ => rfl) rfl rfl rfl (hq_pre_o I.1 (x := 76) (ci := 1) rfl (by decide) rfl rfl rfl rfl) (fun _ _ w => w) (fun _ w => w) (ct_9 (t1 := t1) (t2 := t2) (x3 := x1) (x4 := x2) (by omega) pt1 pt2) (fun h4 _ Jh4 P3 => ?_)
  have Ih4 := H.1 h4 Jh4
  obtain ⟨z5, rfl, az5, bz5⟩ := P3
  refine ty_callj 0 (W := ty_Wc) H Jh4 rfl (fun _ => rfl) rfl rfl rfl (hq_pre_o Ih4.1 (x := 0) (ci := 10) rfl (by decide) rfl rfl rfl rfl) (fun _ _ w => w) (fun _ w => w) (ct_127 (x1 := z5) (by omega)) (fun h7 _ Jh7 P6 => ?_)
  have Ih7 := H.1 h7 Jh7
  obtain ⟨z8, rfl, fz8⟩ := P6
  exact hq_W.ret rfl rfl rfl ⟨Jh7, _, rfl, by omega, by omega⟩
theorem ct_101 {X : pm_X} {d : Nat} {h : pm_H} {x1 : Int32} (hd : 3 ≤ d)  : ty_M X ty_Wc d 101 [.ref 0, .int x1] h (ty_pi (-2147483648) 2147483647) := by
  intro J H hJ
  obtain ⟨d, rfl⟩ : ∃ e, d = e + 1 := ⟨d - 1, by omega⟩
  have I := H.1 h hJ
  have ax1 := nm_lo x1
  have bx1 := nm_hi x1
  refine hq_M.enter (q := (⟨"TrainBearers", "drop", "(I)I"⟩, _, 2, some .int, 10, 2, pm_c101)) rfl rfl ?_
  show hq_W X d 10 false (some .int) pm_c101 (0, [some (.ref 0), some (.int x1)], [], h) (fun h' v => J h' ∧ (ty_pi (-2147483648) 2147483647) h' v)
  refine hq_p rfl rfl ?_
  refine hq_p rfl rfl ?_
  refine hq_gR I.1 rfl rfl (by decide) (by decide) rfl ?_
  refine hq_p rfl rfl ?_
  obtain ⟨t1, kt1⟩ : ∃ q, hs_fR h 0 0 = q := ⟨_, rfl⟩
  refine ty_gT I rfl rfl (by decide) (by decide) rfl kt1 (fun ot1 => ?_)
  have pt1 : ty_tr t1 := by rcases ot1 with rfl | rfl; exact Or.inl rfl; exact Or.inr (Or.inl rfl)
  have lt1 := ty_trl pt1
  clear ot1
  refine hq_p rfl rfl ?_
  obtain ⟨t2, kt2⟩ : ∃ q, hs_fR h 0 5 = q := ⟨_, rfl⟩
  refine ty_gS I rfl rfl (by decide) (by decide) rfl kt2 (fun ot2 => ?_)
  have pt2 : ty_sp t2 := ot2
  have lt2 := ty_spl pt2
  clear ot2
  refine hq_p rfl rfl ?_
  refine ty_callj 0 (W := ty_Wc) H hJ rfl (fun _ => rfl) rfl rfl rfl (hq_pre_o I.1 (x := 76) (ci := 1) rfl (by decide) rfl rfl rfl rfl) (fun _ _ w => w) (fun _ w => w) (ct_10 (t1 := t1) (t2 := t2) (x3 := x1) (by omega) pt1 pt2) (fun h4 _ Jh4 P3 => ?_)
  have Ih4 := H.1 h4 Jh4
  obtain ⟨z5, rfl, az5, bz5⟩ := P3
  refine ty_callj 0 (W := ty_Wc) H Jh4 rfl (fun _ => rfl) rfl rfl rfl (hq_pre_o Ih4.1 (x := 0) (ci := 10) rfl (by decide) rfl rfl rfl rfl) (fun _ _ w => w) (fun _ w => w) (ct_127 (x1 := z5) (by omega)) (fun h7 _ Jh7 P6 => ?_)
  have Ih7 := H.1 h7 Jh7
  obtain ⟨z8, rfl, fz8⟩ := P6
  exact hq_W.ret rfl rfl rfl ⟨Jh7, _, rfl, by omega, by omega⟩
theorem ct_102 {X : pm_X} {d : Nat} {h : pm_H} {x1 : Int32} (hd : 7 ≤ d)  : ty_M X ty_Wc d 102 [.ref 0, .int x1] h (ty_pi (-2147483648) 2147483647) := by
  intro J H hJ
  obtain ⟨d, rfl⟩ : ∃ e, d = e + 1 := ⟨d - 1, by omega⟩
  have I := H.1 h hJ
  have ax1 := nm_lo x1
  have bx1 := nm_hi x1
  refine hq_M.enter (q := (⟨"TrainBearers", "walk", "(I)I"⟩, _, 2, some .int, 10, 2, pm_c102)) rfl rfl ?_
  show hq_W X d 10 false (some .int) pm_c102 (0, [some (.ref 0), some (.int x1)], [], h) (fun h' v => J h' ∧ (ty_pi (-2147483648) 2147483647) h' v)
  refine hq_p rfl rfl ?_
  refine hq_p rfl rfl ?_
  refine hq_gR I.1 rfl rfl (by decide) (by decide) rfl ?_
  refine hq_p rfl rfl ?_
  obtain ⟨t1, kt1⟩ : ∃ q, hs_fR h 0 0 = q := ⟨_, rfl⟩
  refine ty_gT I rfl rfl (by decide) (by decide) rfl kt1 (fun ot1 => ?_)
  have pt1 : ty_tr t1 := by rcases ot1 with rfl | rfl; exact Or.inl rfl; exact Or.inr (Or.inl rfl)
  have lt1 := ty_trl pt1
  clear ot1
  refine hq_p rfl rfl ?_
  obtain ⟨t2, kt2⟩ : ∃ q, hs_fR h 0 5 = q := ⟨_, rfl⟩
  refine ty_gS I rfl rfl (by decide) (by decide) rfl kt2 (fun ot2 => ?_)
  have pt2 : ty_sp t2 := ot2
  have lt2 := ty_spl pt2
  clear ot2
  refine hq_p rfl rfl ?_
  refine ty_callj 0 (W := ty_Wc) H hJ rfl (fun _ => rfl) rfl rfl rfl (hq_pre_o I.1 (x := 76) (ci := 1) rfl (by decide) rfl rfl rfl rfl) (fun _ _ w => w) (fun _ w => w) (ct_11 (t1 := t1) (t2 := t2) (x3 := x1) (by omega) pt1 pt2) (fun h4 _ Jh4 P3 => ?_)
  have Ih4 := H.1 h4 Jh4
  obtain ⟨z5, rfl, az5, bz5⟩ := P3
  refine ty_callj 0 (W := ty_Wc) H Jh4 rfl (fun _ => rfl) rfl rfl rfl (hq_pre_o Ih4.1 (x := 0) (ci := 10) rfl (by decide) rfl rfl rfl rfl) (fun _ _ w => w) (fun _ w => w) (ct_127 (x1 := z5) (by omega)) (fun h7 _ Jh7 P6 => ?_)
  have Ih7 := H.1 h7 Jh7
  obtain ⟨z8, rfl, fz8⟩ := P6
  exact hq_W.ret rfl rfl rfl ⟨Jh7, _, rfl, by omega, by omega⟩
theorem ct_103 {X : pm_X} {d : Nat} {h : pm_H}  (hd : 3 ≤ d)  : ty_M X ty_Wc d 103 [.ref 0] h (ty_pi (-2147483648) 2147483647) := by
  intro J H hJ
  obtain ⟨d, rfl⟩ : ∃ e, d = e + 1 := ⟨d - 1, by omega⟩
  have I := H.1 h hJ
  refine hq_M.enter (q := (⟨"TrainBearers", "rest", "()I"⟩, _, 1, some .int, 10, 1, pm_c103)) rfl rfl ?_
  show hq_W X d 10 false (some .int) pm_c103 (0, [some (.ref 0)], [], h) (fun h' v => J h' ∧ (ty_pi (-2147483648) 2147483647) h' v)
  refine hq_p rfl rfl ?_
  refine hq_p rfl rfl ?_
  refine hq_gR I.1 rfl rfl (by decide) (by decide) rfl ?_
  refine hq_p rfl rfl ?_
  obtain ⟨t1, kt1⟩ : ∃ q, hs_fR h 0 0 = q := ⟨_, rfl⟩
  refine ty_gT I rfl rfl (by decide) (by decide) rfl kt1 (fun ot1 => ?_)
  have pt1 : ty_tr t1 := by rcases ot1 with rfl | rfl; exact Or.inl rfl; exact Or.inr (Or.inl rfl)
  have lt1 := ty_trl pt1
  clear ot1
  refine hq_p rfl rfl ?_
  obtain ⟨t2, kt2⟩ : ∃ q, hs_fR h 0 5 = q := ⟨_, rfl⟩
  refine ty_gS I rfl rfl (by decide) (by decide) rfl kt2 (fun ot2 => ?_)
  have pt2 : ty_sp t2 := ot2
  have lt2 := ty_spl pt2
  clear ot2
  refine ty_callj 0 (W := ty_Wc) H hJ rfl (fun _ => rfl) rfl rfl rfl (hq_pre_o I.1 (x := 76) (ci := 1) rfl (by decide) rfl rfl rfl rfl) (fun _ _ w => w) (fun _ w => w) (ct_13 (t1 := t1) (t2 := t2) (by omega) pt1 pt2) (fun h4 _ Jh4 P3 => ?_)
  have Ih4 := H.1 h4 Jh4
  obtain ⟨z5, rfl, az5, bz5⟩ := P3
  refine ty_callj 0 (W := ty_Wc) H Jh4 rfl (fun _ => rfl) rfl rfl rfl (hq_pre_o Ih4.1 (x := 0) (ci := 10) rfl (by decide) rfl rfl rfl rfl) (fun _ _ w => w) (fun _ w => w) (ct_127 (x1 := z5) (by omega)) (fun h7 _ Jh7 P6 => ?_)
  have Ih7 := H.1 h7 Jh7
  obtain ⟨z8, rfl, fz8⟩ := P6
  exact hq_W.ret rfl rfl rfl ⟨Jh7, _, rfl, by omega, by omega⟩
theorem ct_104 {X : pm_X} {d : Nat} {h : pm_H}  (hd : 3 ≤ d)  : ty_M X ty_Wc d 104 [.ref 0] h (ty_pi (-2147483648) 2147483647) := by
  intro J H hJ
  obtain ⟨d, rfl⟩ : ∃ e, d = e + 1 := ⟨d - 1, by omega⟩
  have I := H.1 h hJ
  refine hq_M.enter (q := (⟨"TrainBearers", "undo", "()I"⟩, _, 1, some .int, 10, 1, pm_c104)) rfl rfl ?_
  show hq_W X d 10 false (some .int) pm_c104 (0, [some (.ref 0)], [], h) (fun h' v => J h' ∧ (ty_pi (-2147483648) 2147483647) h' v)
  refine hq_p rfl rfl ?_
  refine hq_p rfl rfl ?_
  obtain ⟨t1, kt1⟩ : ∃ q, hs_fR h 0 5 = q := ⟨_, rfl⟩
  refine ty_gS I rfl rfl (by decide) (by decide) rfl kt1 (fun ot1 => ?_)
  have pt1 : ty_sp t1 := ot1
  have lt1 := ty_spl pt1
  clear ot1
  refine hq_p rfl rfl ?_
  obtain ⟨t2, kt2⟩ : ∃ q, hs_fR h 0 0 = q := ⟨_, rfl⟩
  refine ty_gT I rfl rfl (by decide) (by decide) rfl kt2 (fun ot2 => ?_)
  have pt2 : ty_tr t2 := by rcases ot2 with rfl | rfl; exact Or.inl rfl; exact Or.inr (Or.inl rfl)
  have lt2 := ty_trl pt2
  clear ot2
  refine ty_callj 0 (W := ty_Wc) H hJ rfl (fun _ => rfl) rfl rfl rfl (hq_pre_o I.1 (x := t1) (ci := 5) (ty_sps pt1) (by omega) rfl rfl rfl rfl) (fun _ _ w => w) (fun _ w => w) (ct_55 (t0 := t1) (t1 := t2) (by omega) pt1 pt2) (fun h4 _ Jh4 P3 => ?_)
  have Ih4 := H.1 h4 Jh4
  obtain ⟨z5, rfl, az5, bz5⟩ := P3
  refine ty_callj 0 (W := ty_Wc) H Jh4 rfl (fun _ => rfl) rfl rfl rfl (hq_pre_o Ih4.1 (x := 0) (ci := 10) rfl (by decide) rfl rfl rfl rfl) (fun _ _ w => w) (fun _ w => w) (ct_127 (x1 := z5) (by omega)) (fun h7 _ Jh7 P6 => ?_)
  have Ih7 := H.1 h7 Jh7
  obtain ⟨z8, rfl, fz8⟩ := P6
  exact hq_W.ret rfl rfl rfl ⟨Jh7, _, rfl, by omega, by omega⟩
theorem ct_105 {X : pm_X} {d : Nat} {h : pm_H} {x1 : Int32} (hd : 7 ≤ d)  : ty_M X ty_Wc d 105 [.ref 0, .int x1] h (ty_pi (-2147483648) 2147483647) := by
  intro J H hJ
  obtain ⟨d, rfl⟩ : ∃ e, d = e + 1 := ⟨d - 1, by omega⟩
  have I := H.1 h hJ
  have ax1 := nm_lo x1
  have bx1 := nm_hi x1
  refine hq_M.enter (q := (⟨"TrainBearers", "borne", "(I)I"⟩, _, 2, some .int, 10, 2, pm_c105)) rfl rfl ?_
  show hq_W X d 10 false (some .int) pm_c105 (0, [some (.ref 0), some (.int x1)], [], h) (fun h' v => J h' ∧ (ty_pi (-2147483648) 2147483647) h' v)
  refine hq_p rfl rfl ?_
  refine ty_zlt rfl (fun c1 => ?_) (fun c1 => ?_)
  · refine hq_p rfl rfl (ty_ge (n := -1) nk_im1 (fun z2 ez2 => ?_))
    exact hq_W.ret rfl rfl rfl ⟨hJ, _, rfl, by omega, by omega⟩
  · refine hq_p rfl rfl ?_
    refine hq_p rfl rfl (ty_ge (n := 2) nk_i2 (fun z3 ez3 => ?_))
    refine hq_p rfl rfl (ty_ge (n := x1.toInt - z3.toInt) (nm_sub (by omega) (by omega)) (fun z4 ez4 => ?_))
    refine hq_p rfl rfl ?_
    obtain ⟨t5, kt5⟩ : ∃ q, hs_fR h 0 0 = q := ⟨_, rfl⟩
    refine ty_gT I rfl rfl (by decide) (by decide) rfl kt5 (fun ot5 => ?_)
    have pt5 : ty_tr t5 := by rcases ot5 with rfl | rfl; exact Or.inl rfl; exact Or.inr (Or.inl rfl)
    have lt5 := ty_trl pt5
    clear ot5
    refine ty_gI I rfl (ty_trs pt5) (by omega) (by decide) rfl (ty_trf pt5 0) (fun z6 ez6 az6 bz6 => ?_)
    refine ty_ilt rfl (fun c7 => ?_) (fun c7 => ?_)
    · refine hq_p rfl rfl ?_
      refine hq_gR I.1 rfl rfl (by decide) (by decide) rfl ?_
      refine hq_p rfl rfl ?_
      refine ty_gT I rfl rfl (by decide) (by decide) rfl kt5 (fun ot5 => ?_)
      clear ot5
      refine hq_p rfl rfl ?_
      refine hq_gR I.1 rfl rfl (by decide) (by decide) rfl ?_
      refine ty_callj 0 (W := ty_Wc) H hJ rfl (fun _ => rfl) rfl rfl rfl (hq_pre_o I.1 (x := 86) (ci := 0) rfl (by decide) rfl rfl rfl rfl) (fun _ _ w => w) (fun _ w => w) (ct_3 (t1 := t5) (t2 := 72) (by omega) pt5 (show ty_ru 72 by simp [ty_ru])) (fun h9 _ Jh9 P8 => ?_)
      have Ih9 := H.1 h9 Jh9
      subst P8
      refine hq_p rfl rfl ?_
      refine ty_zne rfl (fun c10 => ?_) (fun c10 => ?_)
      · replace c10 : 1 ≤ x1.toInt ∧ x1.toInt ≤ 9 := by omega
        refine hq_p rfl rfl ?_
        refine hq_p rfl rfl (ty_ge (n := 1) nk_i1 (fun z11 ez11 => ?_))
        refine ty_ine rfl (fun c12 => ?_) (fun c12 => ?_)
        · replace c12 : 2 ≤ x1.toInt ∧ x1.toInt ≤ 9 := by omega
          refine hq_p rfl rfl ?_
          refine hq_gR Ih9.1 rfl rfl (by decide) (by decide) rfl ?_
          refine hq_gR Ih9.1 rfl rfl (by decide) (by decide) rfl ?_
          refine hq_p rfl rfl ?_
          refine hq_p rfl rfl (ty_ge (n := 2) nk_i2 (fun z13 ez13 => ?_))
          refine hq_p rfl rfl (ty_ge (n := x1.toInt - z13.toInt) (nm_sub (by omega) (by omega)) (fun z14 ez14 => ?_))
          refine ty_aL Ih9 rfl rfl (by decide) (by omega) (by omega) (fun _ _ => ty_le rfl) (fun z15 ez15 az15 bz15 => ?_)
          exact hq_W.ret rfl rfl rfl ⟨Jh9, _, rfl, by omega, by omega⟩
        · refine hq_p rfl rfl ?_
          refine hq_gR Ih9.1 rfl rfl (by decide) (by decide) rfl ?_
          refine ty_callp 0 Ih9 rfl (fun _ => rfl) rfl rfl rfl (hq_pre_o Ih9.1 (x := 86) (ci := 0) rfl (by decide) rfl rfl rfl rfl) (ct_2 (by omega)) (fun _ P16 => ?_)
          obtain ⟨z17, rfl, az17, bz17⟩ := P16
          refine hq_p rfl rfl ?_
          exact hq_W.ret rfl rfl rfl ⟨Jh9, _, rfl, by omega, by omega⟩
      · refine hq_p rfl rfl ?_
        refine hq_gR Ih9.1 rfl rfl (by decide) (by decide) rfl ?_
        refine ty_callp 0 Ih9 rfl (fun _ => rfl) rfl rfl rfl (hq_pre_o Ih9.1 (x := 86) (ci := 0) rfl (by decide) rfl rfl rfl rfl) (ct_1 (by omega)) (fun _ P18 => ?_)
        obtain ⟨z19, rfl, az19, bz19⟩ := P18
        exact hq_W.ret rfl rfl rfl ⟨Jh9, _, rfl, by omega, by omega⟩
    · refine hq_p rfl rfl (ty_ge (n := -1) nk_im1 (fun z20 ez20 => ?_))
      exact hq_W.ret rfl rfl rfl ⟨hJ, _, rfl, by omega, by omega⟩
theorem ct_106 {X : pm_X} {d : Nat} {h : pm_H} {x1 : Int32} (hd : 8 ≤ d)  : ty_M X ty_Wc d 106 [.ref 0, .int x1] h (ty_pi (-2147483648) 2147483647) := by
  intro J H hJ
  obtain ⟨d, rfl⟩ : ∃ e, d = e + 1 := ⟨d - 1, by omega⟩
  have I := H.1 h hJ
  have ax1 := nm_lo x1
  have bx1 := nm_hi x1
  refine hq_M.enter (q := (⟨"TrainBearers", "exchanged", "(I)I"⟩, _, 3, some .int, 10, 2, pm_c106)) rfl rfl ?_
  show hq_W X d 10 false (some .int) pm_c106 (0, [some (.ref 0), some (.int x1), none], [], h) (fun h' v => J h' ∧ (ty_pi (-2147483648) 2147483647) h' v)
  refine hq_p rfl rfl ?_
  refine ty_zeq rfl (fun c1 => ?_) (fun c1 => ?_)
  · refine hq_p rfl rfl ?_
    refine ty_callj 0 (W := ty_Wc) H hJ rfl (fun _ => rfl) rfl rfl rfl (hq_pre_o I.1 (x := 0) (ci := 10) rfl (by decide) rfl rfl rfl rfl) (fun _ _ w => w) (fun _ w => w) (ct_133 (by omega)) (fun h3 _ Jh3 P2 => ?_)
    have Ih3 := H.1 h3 Jh3
    obtain ⟨z4, rfl, az4, bz4⟩ := P2
    refine hq_p (ls' := [some (.ref 0), some (.int x1), some (.int z4)]) rfl rfl ?_
    refine hq_p rfl rfl ?_
    refine hq_p rfl rfl (ty_ge (n := -1) nk_im1 (fun z5 ez5 => ?_))
    refine ty_ine rfl (fun c6 => ?_) (fun c6 => ?_)
    · clear c6
      refine hq_p rfl rfl ?_
      refine ty_zne rfl (fun c7 => ?_) (fun c7 => ?_)
      · exfalso; omega
      · refine hq_p rfl rfl ?_
        refine hq_p rfl rfl (ty_ge (n := 100) nk_b100 (fun z8 ez8 => ?_))
        refine hq_irem rfl (nm_nz (by omega)) (ty_ga (fun z9 az9 bz9 => ?_))
        refine hq_p rfl rfl ?_
        exact hq_W.ret rfl rfl rfl ⟨Jh3, _, rfl, by omega, by omega⟩
    · refine hq_p rfl rfl (ty_ge (n := -1) nk_im1 (fun z10 ez10 => ?_))
      exact hq_W.ret rfl rfl rfl ⟨Jh3, _, rfl, by omega, by omega⟩
  · clear c1
    refine hq_p rfl rfl ?_
    refine hq_p rfl rfl (ty_ge (n := 1) nk_i1 (fun z11 ez11 => ?_))
    refine ty_ieq rfl (fun c12 => ?_) (fun c12 => ?_)
    · refine hq_p rfl rfl ?_
      refine ty_callj 0 (W := ty_Wc) H hJ rfl (fun _ => rfl) rfl rfl rfl (hq_pre_o I.1 (x := 0) (ci := 10) rfl (by decide) rfl rfl rfl rfl) (fun _ _ w => w) (fun _ w => w) (ct_133 (by omega)) (fun h14 _ Jh14 P13 => ?_)
      have Ih14 := H.1 h14 Jh14
      obtain ⟨z15, rfl, az15, bz15⟩ := P13
      refine hq_p (ls' := [some (.ref 0), some (.int x1), some (.int z15)]) rfl rfl ?_
      refine hq_p rfl rfl ?_
      refine hq_p rfl rfl (ty_ge (n := -1) nk_im1 (fun z16 ez16 => ?_))
      refine ty_ine rfl (fun c17 => ?_) (fun c17 => ?_)
      · clear c17
        refine hq_p rfl rfl ?_
        refine ty_zne rfl (fun c18 => ?_) (fun c18 => ?_)
        · clear c18
          refine hq_p rfl rfl ?_
          refine hq_p rfl rfl (ty_ge (n := 100) nk_b100 (fun z19 ez19 => ?_))
          refine hq_idiv rfl (nm_nz (by omega)) (ty_ga (fun z20 az20 bz20 => ?_))
          exact hq_W.ret rfl rfl rfl ⟨Jh14, _, rfl, by omega, by omega⟩
        · exfalso; omega
      · refine hq_p rfl rfl (ty_ge (n := -1) nk_im1 (fun z21 ez21 => ?_))
        exact hq_W.ret rfl rfl rfl ⟨Jh14, _, rfl, by omega, by omega⟩
    · clear c12
      refine hq_p rfl rfl (ty_ge (n := -1) nk_im1 (fun z22 ez22 => ?_))
      exact hq_W.ret rfl rfl rfl ⟨hJ, _, rfl, by omega, by omega⟩
theorem ct_107 {X : pm_X} {d : Nat} {h : pm_H} {x1 : Int32} {x2 : Int32} (hd : 2 ≤ d)  : ty_M X ty_Wc d 107 [.ref 0, .int x1, .int x2] h (ty_pi (-5) 6) := by
  intro J H hJ
  obtain ⟨d, rfl⟩ : ∃ e, d = e + 1 := ⟨d - 1, by omega⟩
  have I := H.1 h hJ
  have ax1 := nm_lo x1
  have bx1 := nm_hi x1
  have ax2 := nm_lo x2
  have bx2 := nm_hi x2
  refine hq_M.enter (q := (⟨"TrainBearers", "seen", "(II)I"⟩, _, 3, some .int, 10, 3, pm_c107)) rfl rfl ?_
  show hq_W X d 10 false (some .int) pm_c107 (0, [some (.ref 0), some (.int x1), some (.int x2)], [], h) (fun h' v => J h' ∧ (ty_pi (-5) 6) h' v)
  refine hq_p rfl rfl ?_
  refine ty_zlt rfl (fun c1 => ?_) (fun c1 => ?_)
  · refine hq_p rfl rfl ?_
    refine hq_p rfl rfl (ty_ge (n := -1) nk_im1 (fun z2 ez2 => ?_))
    refine ty_callj 0 (W := ty_Wc) H hJ rfl (fun _ => rfl) rfl rfl rfl (hq_pre_o I.1 (x := 0) (ci := 10) rfl (by decide) rfl rfl rfl rfl) (fun _ _ w => w) (fun _ w => w) (ct_125 (x1 := z2) (by omega)) (fun h4 _ Jh4 P3 => ?_)
    have Ih4 := H.1 h4 Jh4
    obtain ⟨z5, rfl, fz5⟩ := P3
    exact hq_W.ret rfl rfl rfl ⟨Jh4, _, rfl, by omega, by omega⟩
  · refine hq_p rfl rfl ?_
    refine hq_p rfl rfl (ty_ge (n := 40) nk_b40 (fun z6 ez6 => ?_))
    refine ty_ile rfl (fun c7 => ?_) (fun c7 => ?_)
    · refine hq_p rfl rfl ?_
      obtain ⟨t8, kt8⟩ : ∃ q, hs_fR h 0 0 = q := ⟨_, rfl⟩
      refine ty_gT I rfl rfl (by decide) (by decide) rfl kt8 (fun ot8 => ?_)
      have pt8 : ty_tr t8 := by rcases ot8 with rfl | rfl; exact Or.inl rfl; exact Or.inr (Or.inl rfl)
      have lt8 := ty_trl pt8
      clear ot8
      refine hq_p rfl rfl ?_
      refine ty_callp 0 I rfl (fun _ => rfl) rfl rfl rfl (hq_pre_o I.1 (x := t8) (ci := 8) (ty_trs pt8) (by omega) rfl rfl rfl rfl) (ct_69 (t0 := t8) (x1 := x1) (by omega) pt8) (fun _ P9 => ?_)
      obtain ⟨z10, rfl, az10, bz10, iz10⟩ := P9
      refine ty_zne rfl (fun c11 => ?_) (fun c11 => ?_)
      · replace c11 : 1 ≤ z10.toInt ∧ z10.toInt ≤ 1 := by omega
        have f12 := iz10 (by omega)
        clear iz10
        refine hq_p rfl rfl ?_
        refine ty_gT I rfl rfl (by decide) (by decide) rfl kt8 (fun ot8 => ?_)
        clear ot8
        refine ty_gI I rfl (ty_trs pt8) (by omega) (by decide) rfl (ty_trf pt8 10) (fun z13 ez13 az13 bz13 => ?_)
        refine hq_p rfl rfl (ty_ge (n := 6) nk_b6 (fun z14 ez14 => ?_))
        refine ty_ilt rfl (fun c15 => ?_) (fun c15 => ?_)
        · refine hq_p rfl rfl ?_
          refine ty_gT I rfl rfl (by decide) (by decide) rfl kt8 (fun ot8 => ?_)
          clear ot8
          refine hq_gR I.1 rfl (ty_trs pt8) (by omega) (by decide) rfl ?_
          refine hq_p rfl rfl ?_
          refine ty_gT I rfl rfl (by decide) (by decide) rfl kt8 (fun ot8 => ?_)
          clear ot8
          refine ty_gI I rfl (ty_trs pt8) (by omega) (by decide) rfl (ty_trf pt8 10) (fun z16 ez16 az16 bz16 => ?_)
          refine hq_p rfl rfl ?_
          refine ty_aS (W := ty_Wc) H hJ rfl (ty_trs7 pt8) (by omega) (by omega) (by omega) (fun i e => by unfold ty_Wc; omega) (fun i _ => ty_eg (ty_tra7 pt8 i)) (by omega) (by omega) (fun e1 e2 w => by omega) (fun h17 eh17 Jh17 => ?_)
          have Ih17 := H.1 h17 Jh17
          refine hq_p rfl rfl ?_
          have r18 : hs_fR h17 0 0 = t8 := by rw [eh17]; exact (ty_fR_ne (by omega)).trans kt8
          refine ty_gT Ih17 rfl rfl (by decide) (by decide) rfl r18 (fun ot8 => ?_)
          clear ot8
          refine hq_gR Ih17.1 rfl (ty_trs pt8) (by omega) (by decide) rfl ?_
          refine hq_p rfl rfl ?_
          refine ty_gT Ih17 rfl rfl (by decide) (by decide) rfl r18 (fun ot8 => ?_)
          clear ot8
          have r20 : (hs_fI h17 t8 10).toInt = (hs_fI h t8 10).toInt := by rw [eh17]; exact congrArg Int32.toInt (ty_fI_ne (by omega))
          refine ty_gI Ih17 rfl (ty_trs pt8) (by omega) (by decide) rfl (ty_trf pt8 10) (fun z19 ez19 az19 bz19 => ?_)
          refine hq_p rfl rfl ?_
          refine ty_aS (W := ty_Wc) H Jh17 rfl (ty_trs8 pt8) (by omega) (by omega) (by omega) (fun i e => by unfold ty_Wc; omega) (fun i _ => ty_eg (ty_tra8 pt8 i)) (by omega) (by omega) (fun e1 e2 w => by omega) (fun h21 eh21 Jh21 => ?_)
          have Ih21 := H.1 h21 Jh21
          refine hq_p rfl rfl ?_
          have r22 : hs_fR h21 0 0 = t8 := by rw [eh21]; exact (ty_fR_ne (by omega)).trans r18
          refine ty_gT Ih21 rfl rfl (by decide) (by decide) rfl r22 (fun ot8 => ?_)
          clear ot8
          refine hq_p rfl rfl ?_
          have r24 : (hs_fI h21 t8 10).toInt = (hs_fI h17 t8 10).toInt := by rw [eh21]; exact congrArg Int32.toInt (ty_fI_ne (by omega))
          refine ty_gI Ih21 rfl (ty_trs pt8) (by omega) (by decide) rfl (ty_trf pt8 10) (fun z23 ez23 az23 bz23 => ?_)
          refine hq_p rfl rfl (ty_ge (n := 1) nk_i1 (fun z25 ez25 => ?_))
          refine hq_p rfl rfl (ty_ge (n := z23.toInt + z25.toInt) (nm_add (by omega) (by omega)) (fun z26 ez26 => ?_))
          refine ty_pI (W := ty_Wc) H Jh21 rfl (ty_trs pt8) (by omega) rfl rfl (by unfold ty_Wc; omega) (ty_trf pt8 10) (by omega) (by omega) (fun h27 eh27 Jh27 => ?_)
          have wh27 : (hs_fI h27 t8 10).toInt = z26.toInt := by rw [eh27]; exact congrArg Int32.toInt (ty_fI_eq Ih21.1 (ty_trs pt8) (by omega) rfl)
          have Ih27 := H.1 h27 Jh27
          refine hq_p rfl rfl ?_
          refine hq_p rfl rfl ?_
          have r28 : hs_fR h27 0 0 = t8 := by rw [eh27]; exact (ty_fR_ne (by omega)).trans r22
          refine ty_gT Ih27 rfl rfl (by decide) (by decide) rfl r28 (fun ot8 => ?_)
          clear ot8
          refine ty_gI Ih27 rfl (ty_trs pt8) (by omega) (by decide) rfl (ty_trf pt8 10) (fun z29 ez29 az29 bz29 => ?_)
          refine ty_callj 0 (W := ty_Wc) H Jh27 rfl (fun _ => rfl) rfl rfl rfl (hq_pre_o Ih27.1 (x := 0) (ci := 10) rfl (by decide) rfl rfl rfl rfl) (fun _ _ w => w) (fun _ w => w) (ct_126 (x1 := z29) (by omega)) (fun h31 _ Jh31 P30 => ?_)
          have Ih31 := H.1 h31 Jh31
          obtain ⟨z32, rfl, fz32⟩ := P30
          exact hq_W.ret rfl rfl rfl ⟨Jh31, _, rfl, by omega, by omega⟩
        · refine hq_p rfl rfl ?_
          refine hq_p rfl rfl (ty_ge (n := -5) nk_bm5 (fun z33 ez33 => ?_))
          refine ty_callj 0 (W := ty_Wc) H hJ rfl (fun _ => rfl) rfl rfl rfl (hq_pre_o I.1 (x := 0) (ci := 10) rfl (by decide) rfl rfl rfl rfl) (fun _ _ w => w) (fun _ w => w) (ct_125 (x1 := z33) (by omega)) (fun h35 _ Jh35 P34 => ?_)
          have Ih35 := H.1 h35 Jh35
          obtain ⟨z36, rfl, fz36⟩ := P34
          exact hq_W.ret rfl rfl rfl ⟨Jh35, _, rfl, by omega, by omega⟩
      · clear iz10
        refine hq_p rfl rfl ?_
        refine hq_p rfl rfl (ty_ge (n := -2) nk_bm2 (fun z37 ez37 => ?_))
        refine ty_callj 0 (W := ty_Wc) H hJ rfl (fun _ => rfl) rfl rfl rfl (hq_pre_o I.1 (x := 0) (ci := 10) rfl (by decide) rfl rfl rfl rfl) (fun _ _ w => w) (fun _ w => w) (ct_125 (x1 := z37) (by omega)) (fun h39 _ Jh39 P38 => ?_)
        have Ih39 := H.1 h39 Jh39
        obtain ⟨z40, rfl, fz40⟩ := P38
        exact hq_W.ret rfl rfl rfl ⟨Jh39, _, rfl, by omega, by omega⟩
    · refine hq_p rfl rfl ?_
      refine hq_p rfl rfl (ty_ge (n := -1) nk_im1 (fun z41 ez41 => ?_))
      refine ty_callj 0 (W := ty_Wc) H hJ rfl (fun _ => rfl) rfl rfl rfl (hq_pre_o I.1 (x := 0) (ci := 10) rfl (by decide) rfl rfl rfl rfl) (fun _ _ w => w) (fun _ w => w) (ct_125 (x1 := z41) (by omega)) (fun h43 _ Jh43 P42 => ?_)
      have Ih43 := H.1 h43 Jh43
      obtain ⟨z44, rfl, fz44⟩ := P42
      exact hq_W.ret rfl rfl rfl ⟨Jh43, _, rfl, by omega, by omega⟩
theorem ct_108 {X : pm_X} {d : Nat} {h : pm_H}  (hd : 1 ≤ d)  : ty_M X ty_Wc d 108 [.ref 0] h (ty_pi 0 6) := by
  intro J H hJ
  obtain ⟨d, rfl⟩ : ∃ e, d = e + 1 := ⟨d - 1, by omega⟩
  have I := H.1 h hJ
  refine hq_M.enter (q := (⟨"TrainBearers", "forget", "()I"⟩, _, 2, some .int, 10, 1, pm_c108)) rfl rfl ?_
  show hq_W X d 10 false (some .int) pm_c108 (0, [some (.ref 0), none], [], h) (fun h' v => J h' ∧ (ty_pi 0 6) h' v)
  refine hq_p rfl rfl ?_
  obtain ⟨t1, kt1⟩ : ∃ q, hs_fR h 0 0 = q := ⟨_, rfl⟩
  refine ty_gT I rfl rfl (by decide) (by decide) rfl kt1 (fun ot1 => ?_)
  have pt1 : ty_tr t1 := by rcases ot1 with rfl | rfl; exact Or.inl rfl; exact Or.inr (Or.inl rfl)
  have lt1 := ty_trl pt1
  clear ot1
  refine ty_gI I rfl (ty_trs pt1) (by omega) (by decide) rfl (ty_trf pt1 10) (fun z2 ez2 az2 bz2 => ?_)
  refine hq_p (ls' := [some (.ref 0), some (.int z2)]) rfl rfl ?_
  refine hq_p rfl rfl ?_
  refine ty_gT I rfl rfl (by decide) (by decide) rfl kt1 (fun ot1 => ?_)
  clear ot1
  refine hq_p rfl rfl (ty_ge (n := 0) nk_i0 (fun z3 ez3 => ?_))
  refine ty_pI (W := ty_Wc) H hJ rfl (ty_trs pt1) (by omega) rfl rfl (by unfold ty_Wc; omega) (ty_trf pt1 10) (by omega) (by omega) (fun h4 eh4 Jh4 => ?_)
  have wh4 : (hs_fI h4 t1 10).toInt = z3.toInt := by rw [eh4]; exact congrArg Int32.toInt (ty_fI_eq I.1 (ty_trs pt1) (by omega) rfl)
  have Ih4 := H.1 h4 Jh4
  refine hq_p rfl rfl ?_
  exact hq_W.ret rfl rfl rfl ⟨Jh4, _, rfl, by omega, by omega⟩
theorem ct_109 {X : pm_X} {d : Nat} {h : pm_H}  (hd : 7 ≤ d)  : ty_M X ty_Wc d 109 [.ref 0] h (ty_pi (-2147483648) 2147483647) := by
  intro J H hJ
  obtain ⟨d, rfl⟩ : ∃ e, d = e + 1 := ⟨d - 1, by omega⟩
  have I := H.1 h hJ
  refine hq_M.enter (q := (⟨"TrainBearers", "letGo", "()I"⟩, _, 1, some .int, 10, 1, pm_c109)) rfl rfl ?_
  show hq_W X d 10 false (some .int) pm_c109 (0, [some (.ref 0)], [], h) (fun h' v => J h' ∧ (ty_pi (-2147483648) 2147483647) h' v)
  refine hq_p rfl rfl ?_
  obtain ⟨t1, kt1⟩ : ∃ q, hs_fR h 0 1 = q := ⟨_, rfl⟩
  refine ty_gT I rfl rfl (by decide) (by decide) rfl kt1 (fun ot1 => ?_)
  have pt1 : ty_tr t1 := by rcases ot1 with rfl | rfl; exact Or.inl rfl; exact Or.inr (Or.inl rfl)
  have lt1 := ty_trl pt1
  clear ot1
  refine hq_p rfl rfl ?_
  obtain ⟨t2, kt2⟩ : ∃ q, hs_fR h 0 0 = q := ⟨_, rfl⟩
  refine ty_gT I rfl rfl (by decide) (by decide) rfl kt2 (fun ot2 => ?_)
  have pt2 : ty_tr t2 := by rcases ot2 with rfl | rfl; exact Or.inl rfl; exact Or.inr (Or.inl rfl)
  have lt2 := ty_trl pt2
  clear ot2
  refine ty_callj 0 (W := ty_Wc) H hJ rfl (fun _ => rfl) rfl rfl rfl (hq_pre_o I.1 (x := t1) (ci := 8) (ty_trs pt1) (by omega) rfl rfl rfl rfl) (fun _ _ w => w) (fun _ w => w) (ct_68 (t0 := t1) (t1 := t2) (by omega) pt1 pt2) (fun h4 _ Jh4 P3 => ?_)
  have Ih4 := H.1 h4 Jh4
  subst P3
  refine hq_p rfl rfl ?_
  refine hq_gR Ih4.1 rfl rfl (by decide) (by decide) rfl ?_
  refine hq_p rfl rfl ?_
  obtain ⟨t5, kt5⟩ : ∃ q, hs_fR h4 0 1 = q := ⟨_, rfl⟩
  refine ty_gT Ih4 rfl rfl (by decide) (by decide) rfl kt5 (fun ot5 => ?_)
  have pt5 : ty_tr t5 := by rcases ot5 with rfl | rfl; exact Or.inl rfl; exact Or.inr (Or.inl rfl)
  have lt5 := ty_trl pt5
  clear ot5
  refine hq_p rfl rfl ?_
  refine hq_gR Ih4.1 rfl rfl (by decide) (by decide) rfl ?_
  refine ty_callj 0 (W := ty_Wc) H Jh4 rfl (fun _ => rfl) rfl rfl rfl (hq_pre_o Ih4.1 (x := 92) (ci := 2) rfl (by decide) rfl rfl rfl rfl) (fun _ _ w => w) (fun _ w => w) (ct_19 (t1 := t5) (t2 := 72) (by omega) pt5 (show ty_ru 72 by simp [ty_ru])) (fun h7 _ Jh7 P6 => ?_)
  have Ih7 := H.1 h7 Jh7
  obtain ⟨z8, rfl, az8, bz8⟩ := P6
  exact hq_W.ret rfl rfl rfl ⟨Jh7, _, rfl, by omega, by omega⟩
theorem ct_110 {X : pm_X} {d : Nat} {h : pm_H} {x1 : Int32} (hd : 7 ≤ d)  : ty_M X ty_Wc d 110 [.ref 0, .int x1] h (ty_pi (-1) 2147483647) := by
  intro J H hJ
  obtain ⟨d, rfl⟩ : ∃ e, d = e + 1 := ⟨d - 1, by omega⟩
  have I := H.1 h hJ
  have ax1 := nm_lo x1
  have bx1 := nm_hi x1
  refine hq_M.enter (q := (⟨"TrainBearers", "look", "(I)I"⟩, _, 4, some .int, 10, 2, pm_c110)) rfl rfl ?_
  show hq_W X d 10 false (some .int) pm_c110 (0, [some (.ref 0), some (.int x1), none, none], [], h) (fun h' v => J h' ∧ (ty_pi (-1) 2147483647) h' v)
  refine hq_p rfl rfl ?_
  refine ty_zeq rfl (fun c1 => ?_) (fun c1 => ?_)
  · refine hq_p rfl rfl ?_
    obtain ⟨t2, kt2⟩ : ∃ q, hs_fR h 0 1 = q := ⟨_, rfl⟩
    refine ty_gT I rfl rfl (by decide) (by decide) rfl kt2 (fun ot2 => ?_)
    have pt2 : ty_tr t2 := by rcases ot2 with rfl | rfl; exact Or.inl rfl; exact Or.inr (Or.inl rfl)
    have lt2 := ty_trl pt2
    clear ot2
    refine hq_p rfl rfl ?_
    obtain ⟨t3, kt3⟩ : ∃ q, hs_fR h 0 0 = q := ⟨_, rfl⟩
    refine ty_gT I rfl rfl (by decide) (by decide) rfl kt3 (fun ot3 => ?_)
    have pt3 : ty_tr t3 := by rcases ot3 with rfl | rfl; exact Or.inl rfl; exact Or.inr (Or.inl rfl)
    have lt3 := ty_trl pt3
    clear ot3
    refine ty_callj 0 (W := ty_Wc) H hJ rfl (fun _ => rfl) rfl rfl rfl (hq_pre_o I.1 (x := t2) (ci := 8) (ty_trs pt2) (by omega) rfl rfl rfl rfl) (fun _ _ w => w) (fun _ w => w) (ct_68 (t0 := t2) (t1 := t3) (by omega) pt2 pt3) (fun h5 _ Jh5 P4 => ?_)
    have Ih5 := H.1 h5 Jh5
    subst P4
    refine hq_p rfl rfl ?_
    refine hq_gR Ih5.1 rfl rfl (by decide) (by decide) rfl ?_
    refine hq_p rfl rfl ?_
    obtain ⟨t6, kt6⟩ : ∃ q, hs_fR h5 0 1 = q := ⟨_, rfl⟩
    refine ty_gT Ih5 rfl rfl (by decide) (by decide) rfl kt6 (fun ot6 => ?_)
    have pt6 : ty_tr t6 := by rcases ot6 with rfl | rfl; exact Or.inl rfl; exact Or.inr (Or.inl rfl)
    have lt6 := ty_trl pt6
    clear ot6
    refine hq_p rfl rfl ?_
    refine hq_gR Ih5.1 rfl rfl (by decide) (by decide) rfl ?_
    refine ty_callj 0 (W := ty_Wc) H Jh5 rfl (fun _ => rfl) rfl rfl rfl (hq_pre_o Ih5.1 (x := 92) (ci := 2) rfl (by decide) rfl rfl rfl rfl) (fun _ _ w => w) (fun _ w => w) (ct_19 (t1 := t6) (t2 := 72) (by omega) pt6 (show ty_ru 72 by simp [ty_ru])) (fun h8 _ Jh8 P7 => ?_)
    have Ih8 := H.1 h8 Jh8
    obtain ⟨z9, rfl, az9, bz9⟩ := P7
    refine hq_p (ls' := [some (.ref 0), some (.int x1), some (.int z9), none]) rfl rfl ?_
    refine hq_p rfl rfl ?_
    refine hq_gR Ih8.1 rfl rfl (by decide) (by decide) rfl ?_
    refine hq_p rfl rfl ?_
    refine hq_p rfl rfl ?_
    obtain ⟨t10, kt10⟩ : ∃ q, hs_fR h8 0 0 = q := ⟨_, rfl⟩
    refine ty_gT Ih8 rfl rfl (by decide) (by decide) rfl kt10 (fun ot10 => ?_)
    have pt10 : ty_tr t10 := by rcases ot10 with rfl | rfl; exact Or.inl rfl; exact Or.inr (Or.inl rfl)
    have lt10 := ty_trl pt10
    clear ot10
    refine ty_gI Ih8 rfl (ty_trs pt10) (by omega) (by decide) rfl (ty_trf pt10 0) (fun z11 ez11 az11 bz11 => ?_)
    refine ty_callp 0 Ih8 rfl (fun _ => rfl) rfl rfl rfl (hq_pre_o Ih8.1 (x := 92) (ci := 2) rfl (by decide) rfl rfl rfl rfl) (ct_21 (x1 := z9) (x2 := z11) (by omega)) (fun _ P12 => ?_)
    obtain ⟨z13, rfl, az13, bz13⟩ := P12
    refine hq_p (ls' := [some (.ref 0), some (.int x1), some (.int z9), some (.int z13)]) rfl rfl ?_
    refine hq_p rfl rfl ?_
    refine hq_p rfl rfl (ty_ge (n := -1) nk_im1 (fun z14 ez14 => ?_))
    refine ty_ine rfl (fun c15 => ?_) (fun c15 => ?_)
    · replace c15 : 0 ≤ z13.toInt ∧ z13.toInt ≤ 7 := by omega
      refine hq_p rfl rfl ?_
      refine ty_zne rfl (fun c16 => ?_) (fun c16 => ?_)
      · exfalso; omega
      · refine hq_p rfl rfl ?_
        refine hq_p rfl rfl ?_
        exact hq_W.ret rfl rfl rfl ⟨Jh8, _, rfl, by omega, by omega⟩
    · refine hq_p rfl rfl (ty_ge (n := -1) nk_im1 (fun z17 ez17 => ?_))
      exact hq_W.ret rfl rfl rfl ⟨Jh8, _, rfl, by omega, by omega⟩
  · clear c1
    refine hq_p rfl rfl ?_
    refine hq_p rfl rfl (ty_ge (n := 1) nk_i1 (fun z18 ez18 => ?_))
    refine ty_ieq rfl (fun c19 => ?_) (fun c19 => ?_)
    · refine hq_p rfl rfl ?_
      obtain ⟨t20, kt20⟩ : ∃ q, hs_fR h 0 1 = q := ⟨_, rfl⟩
      refine ty_gT I rfl rfl (by decide) (by decide) rfl kt20 (fun ot20 => ?_)
      have pt20 : ty_tr t20 := by rcases ot20 with rfl | rfl; exact Or.inl rfl; exact Or.inr (Or.inl rfl)
      have lt20 := ty_trl pt20
      clear ot20
      refine hq_p rfl rfl ?_
      obtain ⟨t21, kt21⟩ : ∃ q, hs_fR h 0 0 = q := ⟨_, rfl⟩
      refine ty_gT I rfl rfl (by decide) (by decide) rfl kt21 (fun ot21 => ?_)
      have pt21 : ty_tr t21 := by rcases ot21 with rfl | rfl; exact Or.inl rfl; exact Or.inr (Or.inl rfl)
      have lt21 := ty_trl pt21
      clear ot21
      refine ty_callj 0 (W := ty_Wc) H hJ rfl (fun _ => rfl) rfl rfl rfl (hq_pre_o I.1 (x := t20) (ci := 8) (ty_trs pt20) (by omega) rfl rfl rfl rfl) (fun _ _ w => w) (fun _ w => w) (ct_68 (t0 := t20) (t1 := t21) (by omega) pt20 pt21) (fun h23 _ Jh23 P22 => ?_)
      have Ih23 := H.1 h23 Jh23
      subst P22
      refine hq_p rfl rfl ?_
      refine hq_gR Ih23.1 rfl rfl (by decide) (by decide) rfl ?_
      refine hq_p rfl rfl ?_
      obtain ⟨t24, kt24⟩ : ∃ q, hs_fR h23 0 1 = q := ⟨_, rfl⟩
      refine ty_gT Ih23 rfl rfl (by decide) (by decide) rfl kt24 (fun ot24 => ?_)
      have pt24 : ty_tr t24 := by rcases ot24 with rfl | rfl; exact Or.inl rfl; exact Or.inr (Or.inl rfl)
      have lt24 := ty_trl pt24
      clear ot24
      refine hq_p rfl rfl ?_
      refine hq_gR Ih23.1 rfl rfl (by decide) (by decide) rfl ?_
      refine ty_callj 0 (W := ty_Wc) H Jh23 rfl (fun _ => rfl) rfl rfl rfl (hq_pre_o Ih23.1 (x := 92) (ci := 2) rfl (by decide) rfl rfl rfl rfl) (fun _ _ w => w) (fun _ w => w) (ct_19 (t1 := t24) (t2 := 72) (by omega) pt24 (show ty_ru 72 by simp [ty_ru])) (fun h26 _ Jh26 P25 => ?_)
      have Ih26 := H.1 h26 Jh26
      obtain ⟨z27, rfl, az27, bz27⟩ := P25
      refine hq_p (ls' := [some (.ref 0), some (.int x1), some (.int z27), none]) rfl rfl ?_
      refine hq_p rfl rfl ?_
      refine hq_gR Ih26.1 rfl rfl (by decide) (by decide) rfl ?_
      refine hq_p rfl rfl ?_
      refine hq_p rfl rfl ?_
      obtain ⟨t28, kt28⟩ : ∃ q, hs_fR h26 0 0 = q := ⟨_, rfl⟩
      refine ty_gT Ih26 rfl rfl (by decide) (by decide) rfl kt28 (fun ot28 => ?_)
      have pt28 : ty_tr t28 := by rcases ot28 with rfl | rfl; exact Or.inl rfl; exact Or.inr (Or.inl rfl)
      have lt28 := ty_trl pt28
      clear ot28
      refine ty_gI Ih26 rfl (ty_trs pt28) (by omega) (by decide) rfl (ty_trf pt28 0) (fun z29 ez29 az29 bz29 => ?_)
      refine ty_callp 0 Ih26 rfl (fun _ => rfl) rfl rfl rfl (hq_pre_o Ih26.1 (x := 92) (ci := 2) rfl (by decide) rfl rfl rfl rfl) (ct_21 (x1 := z27) (x2 := z29) (by omega)) (fun _ P30 => ?_)
      obtain ⟨z31, rfl, az31, bz31⟩ := P30
      refine hq_p (ls' := [some (.ref 0), some (.int x1), some (.int z27), some (.int z31)]) rfl rfl ?_
      refine hq_p rfl rfl ?_
      refine hq_p rfl rfl (ty_ge (n := -1) nk_im1 (fun z32 ez32 => ?_))
      refine ty_ine rfl (fun c33 => ?_) (fun c33 => ?_)
      · replace c33 : 0 ≤ z31.toInt ∧ z31.toInt ≤ 7 := by omega
        refine hq_p rfl rfl ?_
        refine ty_zne rfl (fun c34 => ?_) (fun c34 => ?_)
        · clear c34
          refine hq_p rfl rfl ?_
          refine hq_gR Ih26.1 rfl rfl (by decide) (by decide) rfl ?_
          refine hq_p rfl rfl ?_
          refine hq_p rfl rfl ?_
          refine ty_callp 0 Ih26 rfl (fun _ => rfl) rfl rfl rfl (hq_pre_o Ih26.1 (x := 92) (ci := 2) rfl (by decide) rfl rfl rfl rfl) (ct_22 (x1 := z27) (x2 := z31) (by omega) (by omega) (by omega)) (fun _ P35 => ?_)
          obtain ⟨z36, rfl, az36, bz36⟩ := P35
          exact hq_W.ret rfl rfl rfl ⟨Jh26, _, rfl, by omega, by omega⟩
        · exfalso; omega
      · refine hq_p rfl rfl (ty_ge (n := -1) nk_im1 (fun z37 ez37 => ?_))
        exact hq_W.ret rfl rfl rfl ⟨Jh26, _, rfl, by omega, by omega⟩
    · clear c19
      refine hq_p rfl rfl (ty_ge (n := -1) nk_im1 (fun z38 ez38 => ?_))
      exact hq_W.ret rfl rfl rfl ⟨hJ, _, rfl, by omega, by omega⟩
end CT13
