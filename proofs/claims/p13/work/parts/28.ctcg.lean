/-! CONTRACTS (printed by wip/pm/cts.py) -/
section CT14
theorem ct_111 {X : pm_X} {d : Nat} {h : pm_H} {x1 : Int32} {x2 : Int32} (hd : 5 ≤ d)  : ty_M X ty_Wc d 111 [.ref 0, .int x1, .int x2] h (ty_pi (-2147483648) 2147483647) := by
  intro J H hJ
  obtain ⟨d, rfl⟩ : ∃ e, d = e + 1 := ⟨d - 1, by omega⟩
  have I := H.1 h hJ
  have ax1 := nm_lo x1
  have bx1 := nm_hi x1
  have ax2 := nm_lo x2
  have bx2 := nm_hi x2
  refine hq_M.enter (q := (⟨"TrainBearers", "way", "(II)I"⟩, _, 5, some .int, 10, 3, pm_c111)) rfl rfl ?_
  show hq_W X d 10 false (some .int) pm_c111 (0, [some (.ref 0), some (.int x1), some (.int x2), none, none], [], h) (fun h' v => J h' ∧ (ty_pi (-2147483648) 2147483647) h' v)
  refine hq_p rfl rfl ?_
  refine hq_p rfl rfl (ty_ge (n := -1) nk_im1 (fun z1 ez1 => ?_))
  refine ty_ilt rfl (fun c2 => ?_) (fun c2 => ?_)
  · refine hq_p rfl rfl (ty_ge (n := -1) nk_im1 (fun z3 ez3 => ?_))
    exact hq_W.ret rfl rfl rfl ⟨hJ, _, rfl, by omega, by omega⟩
  · refine hq_p rfl rfl ?_
    refine hq_gR I.1 rfl rfl (by decide) (by decide) rfl ?_
    refine hq_p rfl rfl ?_
    obtain ⟨t4, kt4⟩ : ∃ q, hs_fR h 0 0 = q := ⟨_, rfl⟩
    refine ty_gT I rfl rfl (by decide) (by decide) rfl kt4 (fun ot4 => ?_)
    have pt4 : ty_tr t4 := by rcases ot4 with rfl | rfl; exact Or.inl rfl; exact Or.inr (Or.inl rfl)
    have lt4 := ty_trl pt4
    clear ot4
    refine hq_p rfl rfl ?_
    refine ty_callj 0 (W := ty_Wc) H hJ rfl (fun _ => rfl) rfl rfl rfl (hq_pre_o I.1 (x := 94) (ci := 9) rfl (by decide) rfl rfl rfl rfl) (fun _ _ w => w) (fun _ w => w) (ct_78 (t1 := t4) (x2 := x1) (by omega) pt4) (fun h6 _ Jh6 P5 => ?_)
    have Ih6 := H.1 h6 Jh6
    obtain ⟨z7, rfl, az7, bz7, iz7⟩ := P5
    refine ty_zne rfl (fun c8 => ?_) (fun c8 => ?_)
    · replace c8 : 1 ≤ z7.toInt ∧ z7.toInt ≤ 1 := by omega
      have f9 := iz7 (by omega)
      clear iz7
      refine hq_p rfl rfl ?_
      refine hq_p rfl rfl (ty_ge (n := -1) nk_im1 (fun z10 ez10 => ?_))
      refine ty_ine rfl (fun c11 => ?_) (fun c11 => ?_)
      · replace c11 : 0 ≤ x2.toInt ∧ x2.toInt ≤ 2147483647 := by omega
        refine hq_p rfl rfl ?_
        obtain ⟨t12, kt12⟩ : ∃ q, hs_fR h6 0 0 = q := ⟨_, rfl⟩
        refine ty_gT Ih6 rfl rfl (by decide) (by decide) rfl kt12 (fun ot12 => ?_)
        have pt12 : ty_tr t12 := by rcases ot12 with rfl | rfl; exact Or.inl rfl; exact Or.inr (Or.inl rfl)
        have lt12 := ty_trl pt12
        clear ot12
        refine ty_gI Ih6 rfl (ty_trs pt12) (by omega) (by decide) rfl (ty_trf pt12 8) (fun z13 ez13 az13 bz13 => ?_)
        refine hq_p (ls' := [some (.ref 0), some (.int x1), some (.int x2), some (.int z13), none]) rfl rfl ?_
        refine hq_p rfl rfl (ty_ge (n := 0) nk_i0 (fun z14 ez14 => ?_))
        refine hq_p (ls' := [some (.ref 0), some (.int x1), some (.int x2), some (.int z13), some (.int z14)]) rfl rfl ?_
        have L53_n33 : ∀ n33 : Nat, ∀ (y29 : Int32) (y30 : Int32), (6 - y30.toInt).toNat = n33 → -1 ≤ y29.toInt → y29.toInt ≤ 5 → 0 ≤ y30.toInt → y30.toInt ≤ 6 → hq_W X d 10 false (some .int) pm_c111 (53, [some (.ref 0), some (.int x1), some (.int x2), some (.int y29), some (.int y30)], [], h6) (fun h' v => J h' ∧ (ty_pi (-2147483648) 2147483647) h' v) := by
          intro n33
          induction n33 using Nat.strongRecOn with
          | ind n33 ihn33 =>
            intro y29 y30 mn33 ay29 by29 ay30 by30
            refine hq_p rfl rfl ?_
            refine hq_p rfl rfl (ty_ge (n := 6) nk_b6 (fun z34 ez34 => ?_))
            refine ty_ige rfl (fun c35 => ?_) (fun c35 => ?_)
            · refine hq_p rfl rfl ?_
              refine hq_p rfl rfl (ty_ge (n := 6) nk_b6 (fun z36 ez36 => ?_))
              refine ty_ige rfl (fun c37 => ?_) (fun c37 => ?_)
              · refine hq_p rfl rfl (ty_ge (n := -1) nk_im1 (fun z38 ez38 => ?_))
                exact hq_W.ret rfl rfl rfl ⟨Jh6, _, rfl, by omega, by omega⟩
              · refine hq_p rfl rfl ?_
                refine hq_p rfl rfl ?_
                exact hq_W.ret rfl rfl rfl ⟨Jh6, _, rfl, by omega, by omega⟩
            · refine hq_p rfl rfl ?_
              refine hq_p rfl rfl ?_
              refine ty_igt rfl (fun c39 => ?_) (fun c39 => ?_)
              · refine hq_p rfl rfl ?_
                refine hq_p rfl rfl (ty_ge (n := 6) nk_b6 (fun z40 ez40 => ?_))
                refine ty_ige rfl (fun c41 => ?_) (fun c41 => ?_)
                · exfalso; omega
                · refine hq_p rfl rfl ?_
                  refine hq_p rfl rfl ?_
                  exact hq_W.ret rfl rfl rfl ⟨Jh6, _, rfl, by omega, by omega⟩
              · refine hq_p rfl rfl ?_
                refine hq_gR Ih6.1 rfl rfl (by decide) (by decide) rfl ?_
                refine hq_p rfl rfl ?_
                refine ty_gT Ih6 rfl rfl (by decide) (by decide) rfl kt12 (fun ot12 => ?_)
                clear ot12
                refine hq_p rfl rfl ?_
                refine ty_callp 0 Ih6 rfl (fun _ => rfl) rfl rfl rfl (hq_pre_o Ih6.1 (x := 94) (ci := 9) rfl (by decide) rfl rfl rfl rfl) (ct_80 (t1 := t12) (x2 := y29) (by omega) pt12) (fun _ P42 => ?_)
                obtain ⟨z43, rfl, az43, bz43⟩ := P42
                refine hq_p (ls' := [some (.ref 0), some (.int x1), some (.int x2), some (.int z43), some (.int y30)]) rfl rfl ?_
                refine ty_inc (ls' := fun z44 => [some (.ref 0), some (.int x1), some (.int x2), some (.int z43), some (.int z44)]) rfl rfl (fun _ => rfl) (nm_addc nk_i1 (by omega) (by omega)) (fun z44 ez44 => ?_)
                refine hq_p rfl rfl ?_
                exact ihn33 ((6 - z44.toInt).toNat) (by omega) z43 z44 rfl (by omega) (by omega) (by omega) (by omega)
        exact L53_n33 _ z13 z14 rfl (by omega) (by omega) (by omega) (by omega)
      · refine hq_p rfl rfl ?_
        refine hq_gR Ih6.1 rfl rfl (by decide) (by decide) rfl ?_
        refine hq_p rfl rfl ?_
        obtain ⟨t45, kt45⟩ : ∃ q, hs_fR h6 0 0 = q := ⟨_, rfl⟩
        refine ty_gT Ih6 rfl rfl (by decide) (by decide) rfl kt45 (fun ot45 => ?_)
        have pt45 : ty_tr t45 := by rcases ot45 with rfl | rfl; exact Or.inl rfl; exact Or.inr (Or.inl rfl)
        have lt45 := ty_trl pt45
        clear ot45
        refine ty_gI Ih6 rfl (ty_trs pt45) (by omega) (by decide) rfl (ty_trf pt45 8) (fun z46 ez46 az46 bz46 => ?_)
        refine ty_callp 0 Ih6 rfl (fun _ => rfl) rfl rfl rfl (hq_pre_o Ih6.1 (x := 94) (ci := 9) rfl (by decide) rfl rfl rfl rfl) (ct_79 (x1 := z46) (by omega)) (fun _ P47 => ?_)
        obtain ⟨z48, rfl, az48, bz48⟩ := P47
        exact hq_W.ret rfl rfl rfl ⟨Jh6, _, rfl, by omega, by omega⟩
    · clear iz7
      refine hq_p rfl rfl (ty_ge (n := -1) nk_im1 (fun z49 ez49 => ?_))
      exact hq_W.ret rfl rfl rfl ⟨Jh6, _, rfl, by omega, by omega⟩
theorem ct_112 {X : pm_X} {d : Nat} {h : pm_H} {x1 : Int32} (hd : 7 ≤ d)  : ty_M X ty_Wc d 112 [.ref 0, .int x1] h (ty_pi (-2147483648) 2147483647) := by
  intro J H hJ
  obtain ⟨d, rfl⟩ : ∃ e, d = e + 1 := ⟨d - 1, by omega⟩
  have I := H.1 h hJ
  have ax1 := nm_lo x1
  have bx1 := nm_hi x1
  refine hq_M.enter (q := (⟨"TrainBearers", "brought", "(I)I"⟩, _, 3, some .int, 10, 2, pm_c112)) rfl rfl ?_
  show hq_W X d 10 false (some .int) pm_c112 (0, [some (.ref 0), some (.int x1), none], [], h) (fun h' v => J h' ∧ (ty_pi (-2147483648) 2147483647) h' v)
  refine hq_p rfl rfl ?_
  refine hq_gR I.1 rfl rfl (by decide) (by decide) rfl ?_
  refine hq_p rfl rfl ?_
  obtain ⟨t1, kt1⟩ : ∃ q, hs_fR h 0 0 = q := ⟨_, rfl⟩
  refine ty_gT I rfl rfl (by decide) (by decide) rfl kt1 (fun ot1 => ?_)
  have pt1 : ty_tr t1 := by rcases ot1 with rfl | rfl; exact Or.inl rfl; exact Or.inr (Or.inl rfl)
  have lt1 := ty_trl pt1
  clear ot1
  refine hq_p rfl rfl ?_
  refine ty_callj 0 (W := ty_Wc) H hJ rfl (fun _ => rfl) rfl rfl rfl (hq_pre_o I.1 (x := 94) (ci := 9) rfl (by decide) rfl rfl rfl rfl) (fun _ _ w => w) (fun _ w => w) (ct_78 (t1 := t1) (x2 := x1) (by omega) pt1) (fun h3 _ Jh3 P2 => ?_)
  have Ih3 := H.1 h3 Jh3
  obtain ⟨z4, rfl, az4, bz4, iz4⟩ := P2
  refine ty_zne rfl (fun c5 => ?_) (fun c5 => ?_)
  · replace c5 : 1 ≤ z4.toInt ∧ z4.toInt ≤ 1 := by omega
    have f6 := iz4 (by omega)
    clear iz4
    refine hq_p rfl rfl ?_
    obtain ⟨t7, kt7⟩ : ∃ q, hs_fR h3 0 1 = q := ⟨_, rfl⟩
    refine ty_gT Ih3 rfl rfl (by decide) (by decide) rfl kt7 (fun ot7 => ?_)
    have pt7 : ty_tr t7 := by rcases ot7 with rfl | rfl; exact Or.inl rfl; exact Or.inr (Or.inl rfl)
    have lt7 := ty_trl pt7
    clear ot7
    refine hq_p rfl rfl ?_
    obtain ⟨t8, kt8⟩ : ∃ q, hs_fR h3 0 0 = q := ⟨_, rfl⟩
    refine ty_gT Ih3 rfl rfl (by decide) (by decide) rfl kt8 (fun ot8 => ?_)
    have pt8 : ty_tr t8 := by rcases ot8 with rfl | rfl; exact Or.inl rfl; exact Or.inr (Or.inl rfl)
    have lt8 := ty_trl pt8
    clear ot8
    refine ty_callj 0 (W := ty_Wc) H Jh3 rfl (fun _ => rfl) rfl rfl rfl (hq_pre_o Ih3.1 (x := t7) (ci := 8) (ty_trs pt7) (by omega) rfl rfl rfl rfl) (fun _ _ w => w) (fun _ w => w) (ct_68 (t0 := t7) (t1 := t8) (by omega) pt7 pt8) (fun h10 _ Jh10 P9 => ?_)
    have Ih10 := H.1 h10 Jh10
    subst P9
    refine hq_p rfl rfl (ty_ge (n := 0) nk_i0 (fun z11 ez11 => ?_))
    refine hq_p (ls' := [some (.ref 0), some (.int x1), some (.int z11)]) rfl rfl ?_
    have L30_n30 : ∀ n30 : Nat, ∀ (y26 : Int32) (h27 : pm_H), (6 - y26.toInt).toNat = n30 → 0 ≤ y26.toInt → y26.toInt ≤ 6 → J h27 → hq_W X d 10 false (some .int) pm_c112 (30, [some (.ref 0), some (.int x1), some (.int y26)], [], h27) (fun h' v => J h' ∧ (ty_pi (-2147483648) 2147483647) h' v) := by
      intro n30
      induction n30 using Nat.strongRecOn with
      | ind n30 ihn30 =>
        intro y26 h27 mn30 ay26 by26 Jh27
        have Ih27 := H.1 h27 Jh27
        refine hq_p rfl rfl ?_
        refine hq_p rfl rfl (ty_ge (n := 6) nk_b6 (fun z31 ez31 => ?_))
        refine ty_ige rfl (fun c32 => ?_) (fun c32 => ?_)
        · refine hq_p rfl rfl ?_
          obtain ⟨t33, kt33⟩ : ∃ q, hs_fR h27 0 1 = q := ⟨_, rfl⟩
          refine ty_gT Ih27 rfl rfl (by decide) (by decide) rfl kt33 (fun ot33 => ?_)
          have pt33 : ty_tr t33 := by rcases ot33 with rfl | rfl; exact Or.inl rfl; exact Or.inr (Or.inl rfl)
          have lt33 := ty_trl pt33
          clear ot33
          refine ty_gI Ih27 rfl (ty_trs pt33) (by omega) (by decide) rfl (ty_trf pt33 9) (fun z34 ez34 az34 bz34 => ?_)
          refine hq_p rfl rfl ?_
          obtain ⟨t35, kt35⟩ : ∃ q, hs_fR h27 0 0 = q := ⟨_, rfl⟩
          refine ty_gT Ih27 rfl rfl (by decide) (by decide) rfl kt35 (fun ot35 => ?_)
          have pt35 : ty_tr t35 := by rcases ot35 with rfl | rfl; exact Or.inl rfl; exact Or.inr (Or.inl rfl)
          have lt35 := ty_trl pt35
          clear ot35
          refine ty_gI Ih27 rfl (ty_trs pt35) (by omega) (by decide) rfl (ty_trf pt35 9) (fun z36 ez36 az36 bz36 => ?_)
          refine hq_p rfl rfl (ty_ga (fun z37 az37 bz37 => ?_))
          exact hq_W.ret rfl rfl rfl ⟨Jh27, _, rfl, by omega, by omega⟩
        · refine hq_p rfl rfl ?_
          obtain ⟨t38, kt38⟩ : ∃ q, hs_fR h27 0 1 = q := ⟨_, rfl⟩
          refine ty_gT Ih27 rfl rfl (by decide) (by decide) rfl kt38 (fun ot38 => ?_)
          have pt38 : ty_tr t38 := by rcases ot38 with rfl | rfl; exact Or.inl rfl; exact Or.inr (Or.inl rfl)
          have lt38 := ty_trl pt38
          clear ot38
          refine ty_gI Ih27 rfl (ty_trs pt38) (by omega) (by decide) rfl (ty_trf pt38 8) (fun z39 ez39 az39 bz39 => ?_)
          refine hq_p rfl rfl ?_
          refine ty_ieq rfl (fun c40 => ?_) (fun c40 => ?_)
          · refine hq_p rfl rfl ?_
            refine ty_gT Ih27 rfl rfl (by decide) (by decide) rfl kt38 (fun ot38 => ?_)
            clear ot38
            refine ty_gI Ih27 rfl (ty_trs pt38) (by omega) (by decide) rfl (ty_trf pt38 9) (fun z41 ez41 az41 bz41 => ?_)
            refine hq_p rfl rfl ?_
            obtain ⟨t42, kt42⟩ : ∃ q, hs_fR h27 0 0 = q := ⟨_, rfl⟩
            refine ty_gT Ih27 rfl rfl (by decide) (by decide) rfl kt42 (fun ot42 => ?_)
            have pt42 : ty_tr t42 := by rcases ot42 with rfl | rfl; exact Or.inl rfl; exact Or.inr (Or.inl rfl)
            have lt42 := ty_trl pt42
            clear ot42
            refine ty_gI Ih27 rfl (ty_trs pt42) (by omega) (by decide) rfl (ty_trf pt42 9) (fun z43 ez43 az43 bz43 => ?_)
            refine hq_p rfl rfl (ty_ga (fun z44 az44 bz44 => ?_))
            exact hq_W.ret rfl rfl rfl ⟨Jh27, _, rfl, by omega, by omega⟩
          · clear c40
            refine hq_p rfl rfl ?_
            refine hq_gR Ih27.1 rfl rfl (by decide) (by decide) rfl ?_
            refine hq_p rfl rfl ?_
            refine ty_gT Ih27 rfl rfl (by decide) (by decide) rfl kt38 (fun ot38 => ?_)
            clear ot38
            refine hq_p rfl rfl ?_
            obtain ⟨t45, kt45⟩ : ∃ q, hs_fR h27 0 6 = q := ⟨_, rfl⟩
            refine ty_gS Ih27 rfl rfl (by decide) (by decide) rfl kt45 (fun ot45 => ?_)
            have pt45 : ty_sp t45 := ot45
            have lt45 := ty_spl pt45
            clear ot45
            refine hq_p rfl rfl ?_
            refine hq_gR Ih27.1 rfl rfl (by decide) (by decide) rfl ?_
            refine hq_p rfl rfl ?_
            refine ty_gT Ih27 rfl rfl (by decide) (by decide) rfl kt38 (fun ot38 => ?_)
            clear ot38
            refine hq_p rfl rfl ?_
            refine ty_gT Ih27 rfl rfl (by decide) (by decide) rfl kt38 (fun ot38 => ?_)
            clear ot38
            refine ty_gI Ih27 rfl (ty_trs pt38) (by omega) (by decide) rfl (ty_trf pt38 8) (fun z46 ez46 az46 bz46 => ?_)
            refine ty_callp 0 Ih27 rfl (fun _ => rfl) rfl rfl rfl (hq_pre_o Ih27.1 (x := 94) (ci := 9) rfl (by decide) rfl rfl rfl rfl) (ct_80 (t1 := t38) (x2 := z46) (by omega) pt38) (fun _ P47 => ?_)
            obtain ⟨z48, rfl, az48, bz48⟩ := P47
            refine ty_callj 0 (W := ty_Wc) H Jh27 rfl (fun _ => rfl) rfl rfl rfl (hq_pre_o Ih27.1 (x := 76) (ci := 1) rfl (by decide) rfl rfl rfl rfl) (fun _ _ w => w) (fun _ w => w) (ct_11 (t1 := t38) (t2 := t45) (x3 := z48) (by omega) pt38 pt45) (fun h50 _ Jh50 P49 => ?_)
            have Ih50 := H.1 h50 Jh50
            obtain ⟨z51, rfl, az51, bz51⟩ := P49
            refine hq_p rfl rfl ?_
            refine ty_inc (ls' := fun z52 => [some (.ref 0), some (.int x1), some (.int z52)]) rfl rfl (fun _ => rfl) (nm_addc nk_i1 (by omega) (by omega)) (fun z52 ez52 => ?_)
            refine hq_p rfl rfl ?_
            exact ihn30 ((6 - z52.toInt).toNat) (by omega) z52 h50 rfl (by omega) (by omega) Jh50
    exact L30_n30 _ z11 h10 rfl (by omega) (by omega) Jh10
  · clear iz4
    refine hq_p rfl rfl (ty_ge (n := -1) nk_im1 (fun z53 ez53 => ?_))
    exact hq_W.ret rfl rfl rfl ⟨Jh3, _, rfl, by omega, by omega⟩
theorem ct_113 {X : pm_X} {d : Nat} {h : pm_H} {x1 : Int32} {x2 : Int32} (hd : 2 ≤ d)  : ty_M X ty_Wc d 113 [.ref 0, .int x1, .int x2] h (ty_pi (-2147483648) 2147483647) := by
  intro J H hJ
  obtain ⟨d, rfl⟩ : ∃ e, d = e + 1 := ⟨d - 1, by omega⟩
  have I := H.1 h hJ
  have ax1 := nm_lo x1
  have bx1 := nm_hi x1
  have ax2 := nm_lo x2
  have bx2 := nm_hi x2
  refine hq_M.enter (q := (⟨"TrainBearers", "folds", "(II)I"⟩, _, 8, some .int, 10, 3, pm_c113)) rfl rfl ?_
  show hq_W X d 10 false (some .int) pm_c113 (0, [some (.ref 0), some (.int x1), some (.int x2), none, none, none, none, none], [], h) (fun h' v => J h' ∧ (ty_pi (-2147483648) 2147483647) h' v)
  refine hq_p rfl rfl ?_
  refine hq_p rfl rfl (ty_ge (n := 1) nk_i1 (fun z1 ez1 => ?_))
  refine ty_ilt rfl (fun c2 => ?_) (fun c2 => ?_)
  · refine hq_p rfl rfl (ty_ge (n := -1) nk_im1 (fun z3 ez3 => ?_))
    exact hq_W.ret rfl rfl rfl ⟨hJ, _, rfl, by omega, by omega⟩
  · refine hq_p rfl rfl ?_
    refine hq_p rfl rfl (ty_ge (n := 60) nk_b60 (fun z4 ez4 => ?_))
    refine ty_igt rfl (fun c5 => ?_) (fun c5 => ?_)
    · refine hq_p rfl rfl (ty_ge (n := -1) nk_im1 (fun z6 ez6 => ?_))
      exact hq_W.ret rfl rfl rfl ⟨hJ, _, rfl, by omega, by omega⟩
    · refine hq_p rfl rfl ?_
      refine hq_p rfl rfl (ty_ge (n := -1) nk_im1 (fun z7 ez7 => ?_))
      refine ty_ieq rfl (fun c8 => ?_) (fun c8 => ?_)
      · refine hq_p rfl rfl (ty_ge (n := 0) nk_i0 (fun z9 ez9 => ?_))
        refine hq_p (ls' := [some (.ref 0), some (.int x1), some (.int x2), some (.int z9), none, none, none, none]) rfl rfl ?_
        refine hq_p rfl rfl (ty_ge (n := 0) nk_i0 (fun z10 ez10 => ?_))
        refine hq_p (ls' := [some (.ref 0), some (.int x1), some (.int x2), some (.int z9), some (.int z10), none, none, none]) rfl rfl ?_
        refine hq_p rfl rfl (ty_ge (n := -1) nk_im1 (fun z11 ez11 => ?_))
        refine hq_p (ls' := [some (.ref 0), some (.int x1), some (.int x2), some (.int z9), some (.int z10), some (.int z11), none, none]) rfl rfl ?_
        refine hq_p rfl rfl (ty_ge (n := 0) nk_i0 (fun z12 ez12 => ?_))
        refine hq_p (ls' := [some (.ref 0), some (.int x1), some (.int x2), some (.int z9), some (.int z10), some (.int z11), some (.int z12), none]) rfl rfl ?_
        have L40_n273 : ∀ n273 : Nat, ∀ (y263 : Int32) (y264 : Int32) (y265 : Int32) (y266 : Int32) (w267 : Option Value), (8 - y266.toInt).toNat = n273 → -2147483648 ≤ y263.toInt → y263.toInt ≤ 2147483647 → -2147483648 ≤ y264.toInt → y264.toInt ≤ 2147483647 → -1 ≤ y265.toInt → y265.toInt ≤ -1 → 0 ≤ y266.toInt → y266.toInt ≤ 8 → pm_two w267 = false → hq_W X d 10 false (some .int) pm_c113 (40, [some (.ref 0), some (.int x1), some (.int x2), some (.int y263), some (.int y264), some (.int y265), some (.int y266), w267], [], h) (fun h' v => J h' ∧ (ty_pi (-2147483648) 2147483647) h' v) := by
          intro n273
          induction n273 using Nat.strongRecOn with
          | ind n273 ihn273 =>
            intro y263 y264 y265 y266 w267 mn273 ay263 by263 ay264 by264 ay265 by265 ay266 by266 kw267
            refine hq_p rfl rfl ?_
            refine hq_p rfl rfl ?_
            obtain ⟨t274, kt274⟩ : ∃ q, hs_fR h 0 0 = q := ⟨_, rfl⟩
            refine ty_gT I rfl rfl (by decide) (by decide) rfl kt274 (fun ot274 => ?_)
            have pt274 : ty_tr t274 := by rcases ot274 with rfl | rfl; exact Or.inl rfl; exact Or.inr (Or.inl rfl)
            have lt274 := ty_trl pt274
            clear ot274
            refine ty_gI I rfl (ty_trs pt274) (by omega) (by decide) rfl (ty_trf pt274 0) (fun z275 ez275 az275 bz275 => ?_)
            refine ty_ige rfl (fun c276 => ?_) (fun c276 => ?_)
            · refine hq_p rfl rfl ?_
              refine hq_p rfl rfl (ty_ge (n := -1) nk_im1 (fun z277 ez277 => ?_))
              refine ty_ine rfl (fun c278 => ?_) (fun c278 => ?_)
              · exfalso; omega
              · refine hq_p rfl rfl ?_
                refine hq_p rfl rfl ?_
                exact hq_W.ret rfl rfl rfl ⟨hJ, _, rfl, by omega, by omega⟩
            · refine hq_p rfl rfl ?_
              refine ty_gT I rfl rfl (by decide) (by decide) rfl kt274 (fun ot274 => ?_)
              clear ot274
              refine hq_gR I.1 rfl (ty_trs pt274) (by omega) (by decide) rfl ?_
              refine hq_p rfl rfl ?_
              refine ty_aL I rfl (ty_trs1 pt274) (by omega) (by omega) (by omega) (fun i _ => ty_le (ty_tra1 pt274 i)) (fun z279 ez279 az279 bz279 => ?_)
              refine hq_p rfl rfl ?_
              refine ty_gT I rfl rfl (by decide) (by decide) rfl kt274 (fun ot274 => ?_)
              clear ot274
              refine hq_gR I.1 rfl (ty_trs pt274) (by omega) (by decide) rfl ?_
              refine hq_p rfl rfl ?_
              refine ty_aL I rfl (ty_trs2 pt274) (by omega) (by omega) (by omega) (fun i _ => ty_le (ty_tra2 pt274 i)) (fun z280 ez280 az280 bz280 => ?_)
              refine hq_p rfl rfl (ty_ga (fun z281 az281 bz281 => ?_))
              refine hq_p (ls' := [some (.ref 0), some (.int x1), some (.int x2), some (.int y263), some (.int y264), some (.int y265), some (.int y266), some (.int z281)]) rfl rfl ?_
              refine hq_p rfl rfl ?_
              refine hq_p rfl rfl ?_
              refine ty_ile rfl (fun c282 => ?_) (fun c282 => ?_)
              · refine hq_p rfl rfl ?_
                refine hq_p rfl rfl ?_
                refine ty_ile rfl (fun c283 => ?_) (fun c283 => ?_)
                · refine hq_p rfl rfl ?_
                  refine hq_p rfl rfl ?_
                  refine hq_p rfl rfl (ty_ga (fun z284 az284 bz284 => ?_))
                  refine hq_p (ls' := [some (.ref 0), some (.int x1), some (.int x2), some (.int y263), some (.int z284), some (.int y265), some (.int y266), some (.int z281)]) rfl rfl ?_
                  refine hq_p rfl rfl ?_
                  refine hq_p rfl rfl ?_
                  refine ty_ine rfl (fun c285 => ?_) (fun c285 => ?_)
                  · clear c285
                    refine ty_inc (ls' := fun z286 => [some (.ref 0), some (.int x1), some (.int x2), some (.int y263), some (.int z284), some (.int y265), some (.int z286), some (.int z281)]) rfl rfl (fun _ => rfl) (nm_addc nk_i1 (by omega) (by omega)) (fun z286 ez286 => ?_)
                    refine hq_p rfl rfl ?_
                    exact ihn273 ((8 - z286.toInt).toNat) (by omega) y263 z284 y265 z286 (some (.int z281)) rfl (by omega) (by omega) (by omega) (by omega) (by omega) (by omega) (by omega) (by omega) rfl
                  · exfalso; omega
                · refine ty_inca (ls' := fun z287 => [some (.ref 0), some (.int x1), some (.int x2), some (.int z287), some (.int y264), some (.int y265), some (.int y266), some (.int z281)]) rfl rfl (fun _ => rfl) (fun z287 az287 bz287 => ?_)
                  refine hq_p rfl rfl ?_
                  refine hq_p (ls' := [some (.ref 0), some (.int x1), some (.int x2), some (.int z287), some (.int x1), some (.int y265), some (.int y266), some (.int z281)]) rfl rfl ?_
                  refine hq_p rfl rfl ?_
                  refine hq_p rfl rfl ?_
                  refine hq_p rfl rfl (ty_ga (fun z288 az288 bz288 => ?_))
                  refine hq_p (ls' := [some (.ref 0), some (.int x1), some (.int x2), some (.int z287), some (.int z288), some (.int y265), some (.int y266), some (.int z281)]) rfl rfl ?_
                  refine hq_p rfl rfl ?_
                  refine hq_p rfl rfl ?_
                  refine ty_ine rfl (fun c289 => ?_) (fun c289 => ?_)
                  · clear c289
                    refine ty_inc (ls' := fun z290 => [some (.ref 0), some (.int x1), some (.int x2), some (.int z287), some (.int z288), some (.int y265), some (.int z290), some (.int z281)]) rfl rfl (fun _ => rfl) (nm_addc nk_i1 (by omega) (by omega)) (fun z290 ez290 => ?_)
                    refine hq_p rfl rfl ?_
                    exact ihn273 ((8 - z290.toInt).toNat) (by omega) z287 z288 y265 z290 (some (.int z281)) rfl (by omega) (by omega) (by omega) (by omega) (by omega) (by omega) (by omega) (by omega) rfl
                  · exfalso; omega
              · refine hq_p rfl rfl (ty_ge (n := -1) nk_im1 (fun z291 ez291 => ?_))
                exact hq_W.ret rfl rfl rfl ⟨hJ, _, rfl, by omega, by omega⟩
        exact L40_n273 _ z9 z10 z11 z12 none rfl (by omega) (by omega) (by omega) (by omega) (by omega) (by omega) (by omega) (by omega) rfl
      · clear c8
        refine hq_p rfl rfl ?_
        obtain ⟨t292, kt292⟩ : ∃ q, hs_fR h 0 0 = q := ⟨_, rfl⟩
        refine ty_gT I rfl rfl (by decide) (by decide) rfl kt292 (fun ot292 => ?_)
        have pt292 : ty_tr t292 := by rcases ot292 with rfl | rfl; exact Or.inl rfl; exact Or.inr (Or.inl rfl)
        have lt292 := ty_trl pt292
        clear ot292
        refine hq_p rfl rfl ?_
        refine ty_callp 0 I rfl (fun _ => rfl) rfl rfl rfl (hq_pre_o I.1 (x := t292) (ci := 8) (ty_trs pt292) (by omega) rfl rfl rfl rfl) (ct_69 (t0 := t292) (x1 := x2) (by omega) pt292) (fun _ P293 => ?_)
        obtain ⟨z294, rfl, az294, bz294, iz294⟩ := P293
        refine ty_zne rfl (fun c295 => ?_) (fun c295 => ?_)
        · replace c295 : 1 ≤ z294.toInt ∧ z294.toInt ≤ 1 := by omega
          have f296 := iz294 (by omega)
          clear iz294
          refine hq_p rfl rfl (ty_ge (n := 0) nk_i0 (fun z297 ez297 => ?_))
          refine hq_p (ls' := [some (.ref 0), some (.int x1), some (.int x2), some (.int z297), none, none, none, none]) rfl rfl ?_
          refine hq_p rfl rfl (ty_ge (n := 0) nk_i0 (fun z298 ez298 => ?_))
          refine hq_p (ls' := [some (.ref 0), some (.int x1), some (.int x2), some (.int z297), some (.int z298), none, none, none]) rfl rfl ?_
          refine hq_p rfl rfl (ty_ge (n := -1) nk_im1 (fun z299 ez299 => ?_))
          refine hq_p (ls' := [some (.ref 0), some (.int x1), some (.int x2), some (.int z297), some (.int z298), some (.int z299), none, none]) rfl rfl ?_
          refine hq_p rfl rfl (ty_ge (n := 0) nk_i0 (fun z300 ez300 => ?_))
          refine hq_p (ls' := [some (.ref 0), some (.int x1), some (.int x2), some (.int z297), some (.int z298), some (.int z299), some (.int z300), none]) rfl rfl ?_
          have L40_n561 : ∀ n561 : Nat, ∀ (y551 : Int32) (y552 : Int32) (y553 : Int32) (y554 : Int32) (w555 : Option Value), (8 - y554.toInt).toNat = n561 → -2147483648 ≤ y551.toInt → y551.toInt ≤ 2147483647 → -2147483648 ≤ y552.toInt → y552.toInt ≤ 2147483647 → -2147483648 ≤ y553.toInt → y553.toInt ≤ 2147483647 → 0 ≤ y554.toInt → y554.toInt ≤ 8 → pm_two w555 = false → hq_W X d 10 false (some .int) pm_c113 (40, [some (.ref 0), some (.int x1), some (.int x2), some (.int y551), some (.int y552), some (.int y553), some (.int y554), w555], [], h) (fun h' v => J h' ∧ (ty_pi (-2147483648) 2147483647) h' v) := by
            intro n561
            induction n561 using Nat.strongRecOn with
            | ind n561 ihn561 =>
              intro y551 y552 y553 y554 w555 mn561 ay551 by551 ay552 by552 ay553 by553 ay554 by554 kw555
              refine hq_p rfl rfl ?_
              refine hq_p rfl rfl ?_
              refine ty_gT I rfl rfl (by decide) (by decide) rfl kt292 (fun ot292 => ?_)
              clear ot292
              refine ty_gI I rfl (ty_trs pt292) (by omega) (by decide) rfl (ty_trf pt292 0) (fun z562 ez562 az562 bz562 => ?_)
              refine ty_ige rfl (fun c563 => ?_) (fun c563 => ?_)
              · refine hq_p rfl rfl ?_
                refine hq_p rfl rfl (ty_ge (n := -1) nk_im1 (fun z564 ez564 => ?_))
                refine ty_ine rfl (fun c565 => ?_) (fun c565 => ?_)
                · clear c565
                  refine hq_p rfl rfl ?_
                  exact hq_W.ret rfl rfl rfl ⟨hJ, _, rfl, by omega, by omega⟩
                · exfalso; omega
              · refine hq_p rfl rfl ?_
                refine ty_gT I rfl rfl (by decide) (by decide) rfl kt292 (fun ot292 => ?_)
                clear ot292
                refine hq_gR I.1 rfl (ty_trs pt292) (by omega) (by decide) rfl ?_
                refine hq_p rfl rfl ?_
                refine ty_aL I rfl (ty_trs1 pt292) (by omega) (by omega) (by omega) (fun i _ => ty_le (ty_tra1 pt292 i)) (fun z566 ez566 az566 bz566 => ?_)
                refine hq_p rfl rfl ?_
                refine ty_gT I rfl rfl (by decide) (by decide) rfl kt292 (fun ot292 => ?_)
                clear ot292
                refine hq_gR I.1 rfl (ty_trs pt292) (by omega) (by decide) rfl ?_
                refine hq_p rfl rfl ?_
                refine ty_aL I rfl (ty_trs2 pt292) (by omega) (by omega) (by omega) (fun i _ => ty_le (ty_tra2 pt292 i)) (fun z567 ez567 az567 bz567 => ?_)
                refine hq_p rfl rfl (ty_ga (fun z568 az568 bz568 => ?_))
                refine hq_p (ls' := [some (.ref 0), some (.int x1), some (.int x2), some (.int y551), some (.int y552), some (.int y553), some (.int y554), some (.int z568)]) rfl rfl ?_
                refine hq_p rfl rfl ?_
                refine hq_p rfl rfl ?_
                refine ty_ile rfl (fun c569 => ?_) (fun c569 => ?_)
                · refine hq_p rfl rfl ?_
                  refine hq_p rfl rfl ?_
                  refine ty_ile rfl (fun c570 => ?_) (fun c570 => ?_)
                  · refine hq_p rfl rfl ?_
                    refine hq_p rfl rfl ?_
                    refine hq_p rfl rfl (ty_ga (fun z571 az571 bz571 => ?_))
                    refine hq_p (ls' := [some (.ref 0), some (.int x1), some (.int x2), some (.int y551), some (.int z571), some (.int y553), some (.int y554), some (.int z568)]) rfl rfl ?_
                    refine hq_p rfl rfl ?_
                    refine hq_p rfl rfl ?_
                    refine ty_ine rfl (fun c572 => ?_) (fun c572 => ?_)
                    · clear c572
                      refine ty_inc (ls' := fun z573 => [some (.ref 0), some (.int x1), some (.int x2), some (.int y551), some (.int z571), some (.int y553), some (.int z573), some (.int z568)]) rfl rfl (fun _ => rfl) (nm_addc nk_i1 (by omega) (by omega)) (fun z573 ez573 => ?_)
                      refine hq_p rfl rfl ?_
                      exact ihn561 ((8 - z573.toInt).toNat) (by omega) y551 z571 y553 z573 (some (.int z568)) rfl (by omega) (by omega) (by omega) (by omega) (by omega) (by omega) (by omega) (by omega) rfl
                    · refine hq_p rfl rfl ?_
                      refine hq_p rfl rfl (ty_ge (n := 1) nk_i1 (fun z574 ez574 => ?_))
                      refine hq_p rfl rfl (ty_ga (fun z575 az575 bz575 => ?_))
                      refine hq_p (ls' := [some (.ref 0), some (.int x1), some (.int x2), some (.int y551), some (.int z571), some (.int z575), some (.int y554), some (.int z568)]) rfl rfl ?_
                      refine ty_inc (ls' := fun z576 => [some (.ref 0), some (.int x1), some (.int x2), some (.int y551), some (.int z571), some (.int z575), some (.int z576), some (.int z568)]) rfl rfl (fun _ => rfl) (nm_addc nk_i1 (by omega) (by omega)) (fun z576 ez576 => ?_)
                      refine hq_p rfl rfl ?_
                      exact ihn561 ((8 - z576.toInt).toNat) (by omega) y551 z571 z575 z576 (some (.int z568)) rfl (by omega) (by omega) (by omega) (by omega) (by omega) (by omega) (by omega) (by omega) rfl
                  · refine ty_inca (ls' := fun z577 => [some (.ref 0), some (.int x1), some (.int x2), some (.int z577), some (.int y552), some (.int y553), some (.int y554), some (.int z568)]) rfl rfl (fun _ => rfl) (fun z577 az577 bz577 => ?_)
                    refine hq_p rfl rfl ?_
                    refine hq_p (ls' := [some (.ref 0), some (.int x1), some (.int x2), some (.int z577), some (.int x1), some (.int y553), some (.int y554), some (.int z568)]) rfl rfl ?_
                    refine hq_p rfl rfl ?_
                    refine hq_p rfl rfl ?_
                    refine hq_p rfl rfl (ty_ga (fun z578 az578 bz578 => ?_))
                    refine hq_p (ls' := [some (.ref 0), some (.int x1), some (.int x2), some (.int z577), some (.int z578), some (.int y553), some (.int y554), some (.int z568)]) rfl rfl ?_
                    refine hq_p rfl rfl ?_
                    refine hq_p rfl rfl ?_
                    refine ty_ine rfl (fun c579 => ?_) (fun c579 => ?_)
                    · clear c579
                      refine ty_inc (ls' := fun z580 => [some (.ref 0), some (.int x1), some (.int x2), some (.int z577), some (.int z578), some (.int y553), some (.int z580), some (.int z568)]) rfl rfl (fun _ => rfl) (nm_addc nk_i1 (by omega) (by omega)) (fun z580 ez580 => ?_)
                      refine hq_p rfl rfl ?_
                      exact ihn561 ((8 - z580.toInt).toNat) (by omega) z577 z578 y553 z580 (some (.int z568)) rfl (by omega) (by omega) (by omega) (by omega) (by omega) (by omega) (by omega) (by omega) rfl
                    · refine hq_p rfl rfl ?_
                      refine hq_p rfl rfl (ty_ge (n := 1) nk_i1 (fun z581 ez581 => ?_))
                      refine hq_p rfl rfl (ty_ga (fun z582 az582 bz582 => ?_))
                      refine hq_p (ls' := [some (.ref 0), some (.int x1), some (.int x2), some (.int z577), some (.int z578), some (.int z582), some (.int y554), some (.int z568)]) rfl rfl ?_
                      refine ty_inc (ls' := fun z583 => [some (.ref 0), some (.int x1), some (.int x2), some (.int z577), some (.int z578), some (.int z582), some (.int z583), some (.int z568)]) rfl rfl (fun _ => rfl) (nm_addc nk_i1 (by omega) (by omega)) (fun z583 ez583 => ?_)
                      refine hq_p rfl rfl ?_
                      exact ihn561 ((8 - z583.toInt).toNat) (by omega) z577 z578 z582 z583 (some (.int z568)) rfl (by omega) (by omega) (by omega) (by omega) (by omega) (by omega) (by omega) (by omega) rfl
                · refine hq_p rfl rfl (ty_ge (n := -1) nk_im1 (fun z584 ez584 => ?_))
                  exact hq_W.ret rfl rfl rfl ⟨hJ, _, rfl, by omega, by omega⟩
          exact L40_n561 _ z297 z298 z299 z300 none rfl (by omega) (by omega) (by omega) (by omega) (by omega) (by omega) (by omega) (by omega) rfl
        · clear iz294
          refine hq_p rfl rfl (ty_ge (n := -1) nk_im1 (fun z585 ez585 => ?_))
          exact hq_W.ret rfl rfl rfl ⟨hJ, _, rfl, by omega, by omega⟩
theorem ct_114 {X : pm_X} {d : Nat} {h : pm_H} {x1 : Int32} (hd : 7 ≤ d)  : ty_M X ty_Wc d 114 [.ref 0, .int x1] h (ty_pi (-1) 20) := by
  intro J H hJ
  obtain ⟨d, rfl⟩ : ∃ e, d = e + 1 := ⟨d - 1, by omega⟩
  have I := H.1 h hJ
  have ax1 := nm_lo x1
  have bx1 := nm_hi x1
  refine hq_M.enter (q := (⟨"TrainBearers", "resting", "(I)I"⟩, _, 3, some .int, 10, 2, pm_c114)) rfl rfl ?_
  show hq_W X d 10 false (some .int) pm_c114 (0, [some (.ref 0), some (.int x1), none], [], h) (fun h' v => J h' ∧ (ty_pi (-1) 20) h' v)
  refine hq_p rfl rfl ?_
  obtain ⟨t1, kt1⟩ : ∃ q, hs_fR h 0 0 = q := ⟨_, rfl⟩
  refine ty_gT I rfl rfl (by decide) (by decide) rfl kt1 (fun ot1 => ?_)
  have pt1 : ty_tr t1 := by rcases ot1 with rfl | rfl; exact Or.inl rfl; exact Or.inr (Or.inl rfl)
  have lt1 := ty_trl pt1
  clear ot1
  refine hq_p rfl rfl ?_
  refine ty_gT I rfl rfl (by decide) (by decide) rfl kt1 (fun ot1 => ?_)
  clear ot1
  refine ty_gI I rfl (ty_trs pt1) (by omega) (by decide) rfl (ty_trf pt1 8) (fun z2 ez2 az2 bz2 => ?_)
  refine hq_p rfl rfl ?_
  refine ty_callp 0 I rfl (fun _ => rfl) rfl rfl rfl (hq_pre_o I.1 (x := t1) (ci := 8) (ty_trs pt1) (by omega) rfl rfl rfl rfl) (ct_75 (t0 := t1) (x1 := z2) (x2 := x1) (by omega) pt1) (fun _ P3 => ?_)
  obtain ⟨z4, rfl, az4, bz4⟩ := P3
  refine hq_p rfl rfl (ty_ge (n := -1) nk_im1 (fun z5 ez5 => ?_))
  refine ty_ine rfl (fun c6 => ?_) (fun c6 => ?_)
  · clear c6
    refine hq_p rfl rfl ?_
    obtain ⟨t7, kt7⟩ : ∃ q, hs_fR h 0 1 = q := ⟨_, rfl⟩
    refine ty_gT I rfl rfl (by decide) (by decide) rfl kt7 (fun ot7 => ?_)
    have pt7 : ty_tr t7 := by rcases ot7 with rfl | rfl; exact Or.inl rfl; exact Or.inr (Or.inl rfl)
    have lt7 := ty_trl pt7
    clear ot7
    refine hq_p rfl rfl ?_
    refine ty_gT I rfl rfl (by decide) (by decide) rfl kt1 (fun ot1 => ?_)
    clear ot1
    refine ty_callj 0 (W := ty_Wc) H hJ rfl (fun _ => rfl) rfl rfl rfl (hq_pre_o I.1 (x := t7) (ci := 8) (ty_trs pt7) (by omega) rfl rfl rfl rfl) (fun _ _ w => w) (fun _ w => w) (ct_68 (t0 := t7) (t1 := t1) (by omega) pt7 pt1) (fun h9 _ Jh9 P8 => ?_)
    have Ih9 := H.1 h9 Jh9
    subst P8
    refine hq_p rfl rfl (ty_ge (n := 0) nk_i0 (fun z10 ez10 => ?_))
    refine hq_p (ls' := [some (.ref 0), some (.int x1), some (.int z10)]) rfl rfl ?_
    have L34_n49 : ∀ n49 : Nat, ∀ (y45 : Int32) (h46 : pm_H), (21 - y45.toInt).toNat = n49 → 0 ≤ y45.toInt → y45.toInt ≤ 21 → J h46 → hq_W X d 10 false (some .int) pm_c114 (34, [some (.ref 0), some (.int x1), some (.int y45)], [], h46) (fun h' v => J h' ∧ (ty_pi (-1) 20) h' v) := by
      intro n49
      induction n49 using Nat.strongRecOn with
      | ind n49 ihn49 =>
        intro y45 h46 mn49 ay45 by45 Jh46
        have Ih46 := H.1 h46 Jh46
        refine hq_p rfl rfl ?_
        refine hq_p rfl rfl (ty_ge (n := 20) nk_b20 (fun z50 ez50 => ?_))
        refine ty_igt rfl (fun c51 => ?_) (fun c51 => ?_)
        · refine hq_p rfl rfl (ty_ge (n := -1) nk_im1 (fun z52 ez52 => ?_))
          exact hq_W.ret rfl rfl rfl ⟨Jh46, _, rfl, by omega, by omega⟩
        · refine hq_p rfl rfl ?_
          refine hq_gR Ih46.1 rfl rfl (by decide) (by decide) rfl ?_
          refine hq_p rfl rfl ?_
          obtain ⟨t53, kt53⟩ : ∃ q, hs_fR h46 0 1 = q := ⟨_, rfl⟩
          refine ty_gT Ih46 rfl rfl (by decide) (by decide) rfl kt53 (fun ot53 => ?_)
          have pt53 : ty_tr t53 := by rcases ot53 with rfl | rfl; exact Or.inl rfl; exact Or.inr (Or.inl rfl)
          have lt53 := ty_trl pt53
          clear ot53
          refine ty_callj 0 (W := ty_Wc) H Jh46 rfl (fun _ => rfl) rfl rfl rfl (hq_pre_o Ih46.1 (x := 72) (ci := 4) rfl (by decide) rfl rfl rfl rfl) (fun a k w => by unfold ty_Wu at w; unfold ty_Wc; omega) (by unfold ty_Wu ty_Wc; omega) (ct_49 (t0 := 72) (t1 := t53) (by omega) (show ty_ru 72 by simp [ty_ru]) pt53) (fun h55 _ Jh55 P54 => ?_)
          have Ih55 := H.1 h55 Jh55
          obtain ⟨z56, rfl, az56, bz56⟩ := P54
          refine ty_zne rfl (fun c57 => ?_) (fun c57 => ?_)
          · clear c57
            refine hq_p rfl rfl ?_
            refine hq_gR Ih55.1 rfl rfl (by decide) (by decide) rfl ?_
            refine hq_p rfl rfl ?_
            obtain ⟨t58, kt58⟩ : ∃ q, hs_fR h55 0 1 = q := ⟨_, rfl⟩
            refine ty_gT Ih55 rfl rfl (by decide) (by decide) rfl kt58 (fun ot58 => ?_)
            have pt58 : ty_tr t58 := by rcases ot58 with rfl | rfl; exact Or.inl rfl; exact Or.inr (Or.inl rfl)
            have lt58 := ty_trl pt58
            clear ot58
            refine hq_p rfl rfl ?_
            obtain ⟨t59, kt59⟩ : ∃ q, hs_fR h55 0 6 = q := ⟨_, rfl⟩
            refine ty_gS Ih55 rfl rfl (by decide) (by decide) rfl kt59 (fun ot59 => ?_)
            have pt59 : ty_sp t59 := ot59
            have lt59 := ty_spl pt59
            clear ot59
            refine ty_callj 0 (W := ty_Wc) H Jh55 rfl (fun _ => rfl) rfl rfl rfl (hq_pre_o Ih55.1 (x := 76) (ci := 1) rfl (by decide) rfl rfl rfl rfl) (fun _ _ w => w) (fun _ w => w) (ct_13 (t1 := t58) (t2 := t59) (by omega) pt58 pt59) (fun h61 _ Jh61 P60 => ?_)
            have Ih61 := H.1 h61 Jh61
            obtain ⟨z62, rfl, az62, bz62⟩ := P60
            refine ty_zge rfl (fun c63 => ?_) (fun c63 => ?_)
            · refine ty_inc (ls' := fun z64 => [some (.ref 0), some (.int x1), some (.int z64)]) rfl rfl (fun _ => rfl) (nm_addc nk_i1 (by omega) (by omega)) (fun z64 ez64 => ?_)
              refine hq_p rfl rfl ?_
              exact ihn49 ((21 - z64.toInt).toNat) (by omega) z64 h61 rfl (by omega) (by omega) Jh61
            · refine hq_p rfl rfl (ty_ge (n := -1) nk_im1 (fun z65 ez65 => ?_))
              exact hq_W.ret rfl rfl rfl ⟨Jh61, _, rfl, by omega, by omega⟩
          · refine hq_p rfl rfl ?_
            exact hq_W.ret rfl rfl rfl ⟨Jh55, _, rfl, by omega, by omega⟩
    exact L34_n49 _ z10 h9 rfl (by omega) (by omega) Jh9
  · refine hq_p rfl rfl (ty_ge (n := -1) nk_im1 (fun z66 ez66 => ?_))
    exact hq_W.ret rfl rfl rfl ⟨hJ, _, rfl, by omega, by omega⟩
theorem ct_115 {X : pm_X} {d : Nat} {h : pm_H}  (hd : 7 ≤ d)  : ty_M X ty_Wc d 115 [.ref 0] h (ty_pi (-2147483648) 2147483647) := by
  intro J H hJ
  obtain ⟨d, rfl⟩ : ∃ e, d = e + 1 := ⟨d - 1, by omega⟩
  have I := H.1 h hJ
  refine hq_M.enter (q := (⟨"TrainBearers", "far", "()I"⟩, _, 3, some .int, 10, 1, pm_c115)) rfl rfl ?_
  show hq_W X d 10 false (some .int) pm_c115 (0, [some (.ref 0), none, none], [], h) (fun h' v => J h' ∧ (ty_pi (-2147483648) 2147483647) h' v)
  refine hq_p rfl rfl ?_
  refine hq_gR I.1 rfl rfl (by decide) (by decide) rfl ?_
  refine hq_p rfl rfl ?_
  obtain ⟨t1, kt1⟩ : ∃ q, hs_fR h 0 0 = q := ⟨_, rfl⟩
  refine ty_gT I rfl rfl (by decide) (by decide) rfl kt1 (fun ot1 => ?_)
  have pt1 : ty_tr t1 := by rcases ot1 with rfl | rfl; exact Or.inl rfl; exact Or.inr (Or.inl rfl)
  have lt1 := ty_trl pt1
  clear ot1
  refine ty_callj 0 (W := ty_Wc) H hJ rfl (fun _ => rfl) rfl rfl rfl (hq_pre_o I.1 (x := 72) (ci := 4) rfl (by decide) rfl rfl rfl rfl) (fun a k w => by unfold ty_Wu at w; unfold ty_Wc; omega) (by unfold ty_Wu ty_Wc; omega) (ct_49 (t0 := 72) (t1 := t1) (by omega) (show ty_ru 72 by simp [ty_ru]) pt1) (fun h3 _ Jh3 P2 => ?_)
  have Ih3 := H.1 h3 Jh3
  obtain ⟨z4, rfl, az4, bz4⟩ := P2
  refine ty_zeq rfl (fun c5 => ?_) (fun c5 => ?_)
  · refine hq_p rfl rfl (ty_ge (n := 0) nk_i0 (fun z6 ez6 => ?_))
    refine hq_p (ls' := [some (.ref 0), some (.int z6), none]) rfl rfl ?_
    refine hq_p rfl rfl (ty_ge (n := 0) nk_i0 (fun z7 ez7 => ?_))
    refine hq_p (ls' := [some (.ref 0), some (.int z6), some (.int z7)]) rfl rfl ?_
    have L20_n26 : ∀ n26 : Nat, ∀ (y22 : Int32) (y23 : Int32), (6 - y23.toInt).toNat = n26 → -2147483648 ≤ y22.toInt → y22.toInt ≤ 2147483647 → 0 ≤ y23.toInt → y23.toInt ≤ 6 → hq_W X d 10 false (some .int) pm_c115 (20, [some (.ref 0), some (.int y22), some (.int y23)], [], h3) (fun h' v => J h' ∧ (ty_pi (-2147483648) 2147483647) h' v) := by
      intro n26
      induction n26 using Nat.strongRecOn with
      | ind n26 ihn26 =>
        intro y22 y23 mn26 ay22 by22 ay23 by23
        refine hq_p rfl rfl ?_
        refine hq_p rfl rfl (ty_ge (n := 6) nk_b6 (fun z27 ez27 => ?_))
        refine ty_ige rfl (fun c28 => ?_) (fun c28 => ?_)
        · refine hq_p rfl rfl ?_
          exact hq_W.ret rfl rfl rfl ⟨Jh3, _, rfl, by omega, by omega⟩
        · refine hq_p rfl rfl ?_
          obtain ⟨t29, kt29⟩ : ∃ q, hs_fR h3 0 0 = q := ⟨_, rfl⟩
          refine ty_gT Ih3 rfl rfl (by decide) (by decide) rfl kt29 (fun ot29 => ?_)
          have pt29 : ty_tr t29 := by rcases ot29 with rfl | rfl; exact Or.inl rfl; exact Or.inr (Or.inl rfl)
          have lt29 := ty_trl pt29
          clear ot29
          refine hq_p rfl rfl ?_
          refine ty_gT Ih3 rfl rfl (by decide) (by decide) rfl kt29 (fun ot29 => ?_)
          clear ot29
          refine ty_gI Ih3 rfl (ty_trs pt29) (by omega) (by decide) rfl (ty_trf pt29 8) (fun z30 ez30 az30 bz30 => ?_)
          refine hq_p rfl rfl ?_
          refine ty_callp 0 Ih3 rfl (fun _ => rfl) rfl rfl rfl (hq_pre_o Ih3.1 (x := t29) (ci := 8) (ty_trs pt29) (by omega) rfl rfl rfl rfl) (ct_75 (t0 := t29) (x1 := z30) (x2 := y23) (by omega) pt29) (fun _ P31 => ?_)
          obtain ⟨z32, rfl, az32, bz32⟩ := P31
          refine hq_p rfl rfl (ty_ge (n := -1) nk_im1 (fun z33 ez33 => ?_))
          refine ty_ieq rfl (fun c34 => ?_) (fun c34 => ?_)
          · refine ty_inc (ls' := fun z35 => [some (.ref 0), some (.int y22), some (.int z35)]) rfl rfl (fun _ => rfl) (nm_addc nk_i1 (by omega) (by omega)) (fun z35 ez35 => ?_)
            refine hq_p rfl rfl ?_
            exact ihn26 ((6 - z35.toInt).toNat) (by omega) y22 z35 rfl (by omega) (by omega) (by omega) (by omega)
          · clear c34
            refine hq_p rfl rfl ?_
            refine hq_p rfl rfl (ty_ge (n := 1) nk_i1 (fun z36 ez36 => ?_))
            refine hq_p rfl rfl ?_
            refine hq_p rfl rfl (ty_gb (c := z36 <<< (y23 &&& 31)) (lo := 1) (hi := 256) (by have q := nm_shl1 (x := z36) (y := y23) (by omega) (by omega) (by omega); omega) (fun z37 az37 bz37 => ?_))
            refine hq_p rfl rfl (ty_ga (fun z38 az38 bz38 => ?_))
            refine hq_p (ls' := [some (.ref 0), some (.int z38), some (.int y23)]) rfl rfl ?_
            refine ty_inc (ls' := fun z39 => [some (.ref 0), some (.int z38), some (.int z39)]) rfl rfl (fun _ => rfl) (nm_addc nk_i1 (by omega) (by omega)) (fun z39 ez39 => ?_)
            refine hq_p rfl rfl ?_
            exact ihn26 ((6 - z39.toInt).toNat) (by omega) z38 z39 rfl (by omega) (by omega) (by omega) (by omega)
    exact L20_n26 _ z6 z7 rfl (by omega) (by omega) (by omega) (by omega)
  · clear c5
    refine hq_p rfl rfl (ty_ge (n := 0) nk_i0 (fun z40 ez40 => ?_))
    exact hq_W.ret rfl rfl rfl ⟨Jh3, _, rfl, by omega, by omega⟩
theorem ct_116 {X : pm_X} {d : Nat} {h : pm_H}  (hd : 1 ≤ d)  : ty_M X ty_Wc d 116 [.ref 0] h ty_pl := by
  intro J H hJ
  obtain ⟨d, rfl⟩ : ∃ e, d = e + 1 := ⟨d - 1, by omega⟩
  have I := H.1 h hJ
  refine hq_M.enter (q := (⟨"TrainBearers", "steady", "()J"⟩, _, 5, some .long, 10, 1, pm_c116)) rfl rfl ?_
  show hq_W X d 10 false (some .long) pm_c116 (0, [some (.ref 0), none, none, none, none], [], h) (fun h' v => J h' ∧ ty_pl h' v)
  refine hq_p rfl rfl (ty_gle (n := 1000000000000) (by decide) (fun z1 ez1 => ?_))
  refine hq_p (ls' := [some (.ref 0), some (.long z1), none, none, none]) rfl rfl ?_
  refine hq_p rfl rfl (ty_ge (n := 0) nk_i0 (fun z2 ez2 => ?_))
  refine hq_p (ls' := [some (.ref 0), some (.long z1), none, some (.int z2), none]) rfl rfl ?_
  have L6_n36 : ∀ n36 : Nat, ∀ (y30 : Int64) (y31 : Int32) (w32 : Option Value), (8 - y31.toInt).toNat = n36 → -9223372036854775808 ≤ y30.toInt → y30.toInt ≤ 9223372036854775807 → 0 ≤ y31.toInt → y31.toInt ≤ 8 → pm_two w32 = false → hq_W X d 10 false (some .long) pm_c116 (6, [some (.ref 0), some (.long y30), none, some (.int y31), w32], [], h) (fun h' v => J h' ∧ ty_pl h' v) := by
    intro n36
    induction n36 using Nat.strongRecOn with
    | ind n36 ihn36 =>
      intro y30 y31 w32 mn36 ay30 by30 ay31 by31 kw32
      refine hq_p rfl rfl ?_
      refine hq_p rfl rfl ?_
      obtain ⟨t37, kt37⟩ : ∃ q, hs_fR h 0 0 = q := ⟨_, rfl⟩
      refine ty_gT I rfl rfl (by decide) (by decide) rfl kt37 (fun ot37 => ?_)
      have pt37 : ty_tr t37 := by rcases ot37 with rfl | rfl; exact Or.inl rfl; exact Or.inr (Or.inl rfl)
      have lt37 := ty_trl pt37
      clear ot37
      refine ty_gI I rfl (ty_trs pt37) (by omega) (by decide) rfl (ty_trf pt37 3) (fun z38 ez38 az38 bz38 => ?_)
      refine ty_ige rfl (fun c39 => ?_) (fun c39 => ?_)
      · refine hq_p rfl rfl ?_
        exact hq_W.ret rfl rfl rfl ⟨hJ, _, rfl⟩
      · refine hq_p rfl rfl ?_
        refine ty_gT I rfl rfl (by decide) (by decide) rfl kt37 (fun ot37 => ?_)
        clear ot37
        refine hq_gR I.1 rfl (ty_trs pt37) (by omega) (by decide) rfl ?_
        refine hq_p rfl rfl ?_
        refine ty_aL I rfl (ty_trs5 pt37) (by omega) (by omega) (by omega) (fun i _ => ty_le (ty_tra5 pt37 i)) (fun z40 ez40 az40 bz40 => ?_)
        refine hq_p rfl rfl (ty_ge (n := -1) nk_im1 (fun z41 ez41 => ?_))
        refine ty_ieq rfl (fun c42 => ?_) (fun c42 => ?_)
        · refine ty_inc (ls' := fun z43 => [some (.ref 0), some (.long y30), none, some (.int z43), w32]) rfl rfl (fun _ => rfl) (nm_addc nk_i1 (by omega) (by omega)) (fun z43 ez43 => ?_)
          refine hq_p rfl rfl ?_
          exact ihn36 ((8 - z43.toInt).toNat) (by omega) y30 z43 (w32) rfl (by omega) (by omega) (by omega) (by omega) kw32
        · clear c42
          refine hq_p rfl rfl (ty_ge (n := 10) nk_b10 (fun z44 ez44 => ?_))
          refine hq_p rfl rfl ?_
          refine ty_gT I rfl rfl (by decide) (by decide) rfl kt37 (fun ot37 => ?_)
          clear ot37
          refine hq_gR I.1 rfl (ty_trs pt37) (by omega) (by decide) rfl ?_
          refine hq_p rfl rfl (ty_ge (n := 1) nk_i1 (fun z45 ez45 => ?_))
          refine ty_aL I rfl (ty_trs9 pt37) (by omega) (by omega) (by omega) (fun i _ => ty_le (ty_tra9 pt37 i)) (fun z46 ez46 az46 bz46 => ?_)
          rw [show z45.toInt.toNat = 1 by omega] at ez46
          refine hq_p rfl rfl ?_
          refine ty_gT I rfl rfl (by decide) (by decide) rfl kt37 (fun ot37 => ?_)
          clear ot37
          refine hq_gR I.1 rfl (ty_trs pt37) (by omega) (by decide) rfl ?_
          refine hq_p rfl rfl ?_
          refine ty_aL I rfl (ty_trs4 pt37) (by omega) (by omega) (by omega) (fun i _ => ty_le (ty_tra4 pt37 i)) (fun z47 ez47 az47 bz47 => ?_)
          refine hq_p rfl rfl (ty_ga (fun z48 az48 bz48 => ?_))
          refine hq_p rfl rfl (ty_ge (n := 9) nk_b9 (fun z49 ez49 => ?_))
          refine hq_idiv rfl (nm_nz (by omega)) (ty_ga (fun z50 az50 bz50 => ?_))
          refine hq_p rfl rfl (ty_ga (fun z51 az51 bz51 => ?_))
          refine hq_p (ls' := [some (.ref 0), some (.long y30), none, some (.int y31), some (.int z51)]) rfl rfl ?_
          refine hq_p rfl rfl ?_
          refine hq_p rfl rfl ?_
          refine hq_p rfl rfl (ty_gle (n := z51.toInt) (nm_i2l _) (fun z52 ez52 => ?_))
          refine hq_p rfl rfl (ty_gla (fun z53 az53 bz53 => ?_))
          refine hq_p rfl rfl (ty_gle (n := 10) (by decide) (fun z54 ez54 => ?_))
          refine hq_ldiv rfl (nm_lnz (by omega)) (ty_gla (fun z55 az55 bz55 => ?_))
          refine hq_p (ls' := [some (.ref 0), some (.long z55), none, some (.int y31), some (.int z51)]) rfl rfl ?_
          refine ty_inc (ls' := fun z56 => [some (.ref 0), some (.long z55), none, some (.int z56), some (.int z51)]) rfl rfl (fun _ => rfl) (nm_addc nk_i1 (by omega) (by omega)) (fun z56 ez56 => ?_)
          refine hq_p rfl rfl ?_
          exact ihn36 ((8 - z56.toInt).toNat) (by omega) z55 z56 (some (.int z51)) rfl (by omega) (by omega) (by omega) (by omega) rfl
  exact L6_n36 _ z1 z2 none rfl (by omega) (by omega) (by omega) (by omega) rfl
theorem ct_117 {X : pm_X} {d : Nat} {h : pm_H} {x1 : Int32} (hd : 7 ≤ d)  : ty_M X ty_Wc d 117 [.ref 0, .int x1] h (ty_pi (-2147483648) 2147483647) := by
  intro J H hJ
  obtain ⟨d, rfl⟩ : ∃ e, d = e + 1 := ⟨d - 1, by omega⟩
  have I := H.1 h hJ
  have ax1 := nm_lo x1
  have bx1 := nm_hi x1
  refine hq_M.enter (q := (⟨"TrainBearers", "compare", "(I)I"⟩, _, 2, some .int, 10, 2, pm_c117)) rfl rfl ?_
  show hq_W X d 10 false (some .int) pm_c117 (0, [some (.ref 0), some (.int x1)], [], h) (fun h' v => J h' ∧ (ty_pi (-2147483648) 2147483647) h' v)
  refine hq_p rfl rfl ?_
  refine hq_p rfl rfl (ty_ge (n := -1) nk_im1 (fun z1 ez1 => ?_))
  refine ty_ieq rfl (fun c2 => ?_) (fun c2 => ?_)
  · refine hq_p rfl rfl ?_
    obtain ⟨t3, kt3⟩ : ∃ q, hs_fR h 0 1 = q := ⟨_, rfl⟩
    refine ty_gT I rfl rfl (by decide) (by decide) rfl kt3 (fun ot3 => ?_)
    have pt3 : ty_tr t3 := by rcases ot3 with rfl | rfl; exact Or.inl rfl; exact Or.inr (Or.inl rfl)
    have lt3 := ty_trl pt3
    clear ot3
    refine hq_p rfl rfl ?_
    obtain ⟨t4, kt4⟩ : ∃ q, hs_fR h 0 0 = q := ⟨_, rfl⟩
    refine ty_gT I rfl rfl (by decide) (by decide) rfl kt4 (fun ot4 => ?_)
    have pt4 : ty_tr t4 := by rcases ot4 with rfl | rfl; exact Or.inl rfl; exact Or.inr (Or.inl rfl)
    have lt4 := ty_trl pt4
    clear ot4
    refine ty_callj 0 (W := ty_Wc) H hJ rfl (fun _ => rfl) rfl rfl rfl (hq_pre_o I.1 (x := t3) (ci := 8) (ty_trs pt3) (by omega) rfl rfl rfl rfl) (fun _ _ w => w) (fun _ w => w) (ct_68 (t0 := t3) (t1 := t4) (by omega) pt3 pt4) (fun h6 _ Jh6 P5 => ?_)
    have Ih6 := H.1 h6 Jh6
    subst P5
    refine hq_p rfl rfl ?_
    obtain ⟨t7, kt7⟩ : ∃ q, hs_fR h6 0 1 = q := ⟨_, rfl⟩
    refine ty_gT Ih6 rfl rfl (by decide) (by decide) rfl kt7 (fun ot7 => ?_)
    have pt7 : ty_tr t7 := by rcases ot7 with rfl | rfl; exact Or.inl rfl; exact Or.inr (Or.inl rfl)
    have lt7 := ty_trl pt7
    clear ot7
    refine hq_p rfl rfl ?_
    refine ty_pI (W := ty_Wc) H Jh6 rfl (ty_trs pt7) (by omega) rfl rfl (by unfold ty_Wc; omega) (ty_trf pt7 16) (by omega) (by omega) (fun h8 eh8 Jh8 => ?_)
    have wh8 : (hs_fI h8 t7 16).toInt = x1.toInt := by rw [eh8]; exact congrArg Int32.toInt (ty_fI_eq Ih6.1 (ty_trs pt7) (by omega) rfl)
    have Ih8 := H.1 h8 Jh8
    refine hq_p rfl rfl ?_
    refine hq_gR Ih8.1 rfl rfl (by decide) (by decide) rfl ?_
    refine hq_p rfl rfl ?_
    have r9 : hs_fR h8 0 1 = t7 := by rw [eh8]; exact (ty_fR_ne (by omega)).trans kt7
    refine ty_gT Ih8 rfl rfl (by decide) (by decide) rfl r9 (fun ot7 => ?_)
    clear ot7
    refine ty_callj 0 (W := ty_Wc) H Jh8 rfl (fun _ => rfl) rfl rfl rfl (hq_pre_o Ih8.1 (x := 72) (ci := 4) rfl (by decide) rfl rfl rfl rfl) (fun a k w => by unfold ty_Wu at w; unfold ty_Wc; omega) (by unfold ty_Wu ty_Wc; omega) (ct_49 (t0 := 72) (t1 := t7) (by omega) (show ty_ru 72 by simp [ty_ru]) pt7) (fun h11 _ Jh11 P10 => ?_)
    have Ih11 := H.1 h11 Jh11
    obtain ⟨z12, rfl, az12, bz12⟩ := P10
    exact hq_W.ret rfl rfl rfl ⟨Jh11, _, rfl, by omega, by omega⟩
  · clear c2
    refine hq_p rfl rfl ?_
    obtain ⟨t13, kt13⟩ : ∃ q, hs_fR h 0 0 = q := ⟨_, rfl⟩
    refine ty_gT I rfl rfl (by decide) (by decide) rfl kt13 (fun ot13 => ?_)
    have pt13 : ty_tr t13 := by rcases ot13 with rfl | rfl; exact Or.inl rfl; exact Or.inr (Or.inl rfl)
    have lt13 := ty_trl pt13
    clear ot13
    refine hq_p rfl rfl ?_
    refine ty_callp 0 I rfl (fun _ => rfl) rfl rfl rfl (hq_pre_o I.1 (x := t13) (ci := 8) (ty_trs pt13) (by omega) rfl rfl rfl rfl) (ct_71 (t0 := t13) (x1 := x1) (by omega) pt13) (fun _ P14 => ?_)
    obtain ⟨z15, rfl, az15, bz15, iz15⟩ := P14
    refine ty_zne rfl (fun c16 => ?_) (fun c16 => ?_)
    · replace c16 : 1 ≤ z15.toInt ∧ z15.toInt ≤ 1 := by omega
      have f17 := iz15 (by omega)
      clear iz15
      refine hq_p rfl rfl ?_
      obtain ⟨t18, kt18⟩ : ∃ q, hs_fR h 0 1 = q := ⟨_, rfl⟩
      refine ty_gT I rfl rfl (by decide) (by decide) rfl kt18 (fun ot18 => ?_)
      have pt18 : ty_tr t18 := by rcases ot18 with rfl | rfl; exact Or.inl rfl; exact Or.inr (Or.inl rfl)
      have lt18 := ty_trl pt18
      clear ot18
      refine hq_p rfl rfl ?_
      refine ty_gT I rfl rfl (by decide) (by decide) rfl kt13 (fun ot13 => ?_)
      clear ot13
      refine ty_callj 0 (W := ty_Wc) H hJ rfl (fun _ => rfl) rfl rfl rfl (hq_pre_o I.1 (x := t18) (ci := 8) (ty_trs pt18) (by omega) rfl rfl rfl rfl) (fun _ _ w => w) (fun _ w => w) (ct_68 (t0 := t18) (t1 := t13) (by omega) pt18 pt13) (fun h20 _ Jh20 P19 => ?_)
      have Ih20 := H.1 h20 Jh20
      subst P19
      refine hq_p rfl rfl ?_
      obtain ⟨t21, kt21⟩ : ∃ q, hs_fR h20 0 1 = q := ⟨_, rfl⟩
      refine ty_gT Ih20 rfl rfl (by decide) (by decide) rfl kt21 (fun ot21 => ?_)
      have pt21 : ty_tr t21 := by rcases ot21 with rfl | rfl; exact Or.inl rfl; exact Or.inr (Or.inl rfl)
      have lt21 := ty_trl pt21
      clear ot21
      refine hq_p rfl rfl ?_
      refine ty_pI (W := ty_Wc) H Jh20 rfl (ty_trs pt21) (by omega) rfl rfl (by unfold ty_Wc; omega) (ty_trf pt21 16) (by omega) (by omega) (fun h22 eh22 Jh22 => ?_)
      have wh22 : (hs_fI h22 t21 16).toInt = x1.toInt := by rw [eh22]; exact congrArg Int32.toInt (ty_fI_eq Ih20.1 (ty_trs pt21) (by omega) rfl)
      have Ih22 := H.1 h22 Jh22
      refine hq_p rfl rfl ?_
      refine hq_gR Ih22.1 rfl rfl (by decide) (by decide) rfl ?_
      refine hq_p rfl rfl ?_
      have r23 : hs_fR h22 0 1 = t21 := by rw [eh22]; exact (ty_fR_ne (by omega)).trans kt21
      refine ty_gT Ih22 rfl rfl (by decide) (by decide) rfl r23 (fun ot21 => ?_)
      clear ot21
      refine ty_callj 0 (W := ty_Wc) H Jh22 rfl (fun _ => rfl) rfl rfl rfl (hq_pre_o Ih22.1 (x := 72) (ci := 4) rfl (by decide) rfl rfl rfl rfl) (fun a k w => by unfold ty_Wu at w; unfold ty_Wc; omega) (by unfold ty_Wu ty_Wc; omega) (ct_49 (t0 := 72) (t1 := t21) (by omega) (show ty_ru 72 by simp [ty_ru]) pt21) (fun h25 _ Jh25 P24 => ?_)
      have Ih25 := H.1 h25 Jh25
      obtain ⟨z26, rfl, az26, bz26⟩ := P24
      exact hq_W.ret rfl rfl rfl ⟨Jh25, _, rfl, by omega, by omega⟩
    · clear iz15
      refine hq_p rfl rfl (ty_ge (n := -1) nk_im1 (fun z27 ez27 => ?_))
      exact hq_W.ret rfl rfl rfl ⟨hJ, _, rfl, by omega, by omega⟩
theorem ct_118 {X : pm_X} {d : Nat} {h : pm_H} {x1 : Int32} {x2 : Int32} (hd : 8 ≤ d)  : ty_M X ty_Wc d 118 [.ref 0, .int x1, .int x2] h (ty_pi (-2147483648) 2147483647) := by
  intro J H hJ
  obtain ⟨d, rfl⟩ : ∃ e, d = e + 1 := ⟨d - 1, by omega⟩
  have I := H.1 h hJ
  have ax1 := nm_lo x1
  have bx1 := nm_hi x1
  have ax2 := nm_lo x2
  have bx2 := nm_hi x2
  refine hq_M.enter (q := (⟨"TrainBearers", "generations", "(II)I"⟩, _, 3, some .int, 10, 3, pm_c118)) rfl rfl ?_
  show hq_W X d 10 false (some .int) pm_c118 (0, [some (.ref 0), some (.int x1), some (.int x2)], [], h) (fun h' v => J h' ∧ (ty_pi (-2147483648) 2147483647) h' v)
  refine hq_p rfl rfl ?_
  refine ty_zlt rfl (fun c1 => ?_) (fun c1 => ?_)
  · refine hq_p rfl rfl ?_
    refine hq_p rfl rfl (ty_ge (n := -1) nk_im1 (fun z2 ez2 => ?_))
    refine ty_callj 0 (W := ty_Wc) H hJ rfl (fun _ => rfl) rfl rfl rfl (hq_pre_o I.1 (x := 0) (ci := 10) rfl (by decide) rfl rfl rfl rfl) (fun _ _ w => w) (fun _ w => w) (ct_125 (x1 := z2) (by omega)) (fun h4 _ Jh4 P3 => ?_)
    have Ih4 := H.1 h4 Jh4
    obtain ⟨z5, rfl, fz5⟩ := P3
    exact hq_W.ret rfl rfl rfl ⟨Jh4, _, rfl, by omega, by omega⟩
  · refine hq_p rfl rfl ?_
    refine hq_p rfl rfl (ty_ge (n := 1000000) nk_d1000000 (fun z6 ez6 => ?_))
    refine ty_igt rfl (fun c7 => ?_) (fun c7 => ?_)
    · refine hq_p rfl rfl ?_
      refine hq_p rfl rfl (ty_ge (n := -1) nk_im1 (fun z8 ez8 => ?_))
      refine ty_callj 0 (W := ty_Wc) H hJ rfl (fun _ => rfl) rfl rfl rfl (hq_pre_o I.1 (x := 0) (ci := 10) rfl (by decide) rfl rfl rfl rfl) (fun _ _ w => w) (fun _ w => w) (ct_125 (x1 := z8) (by omega)) (fun h10 _ Jh10 P9 => ?_)
      have Ih10 := H.1 h10 Jh10
      obtain ⟨z11, rfl, fz11⟩ := P9
      exact hq_W.ret rfl rfl rfl ⟨Jh10, _, rfl, by omega, by omega⟩
    · refine hq_p rfl rfl ?_
      refine hq_p rfl rfl (ty_ge (n := 1) nk_i1 (fun z12 ez12 => ?_))
      refine ty_ilt rfl (fun c13 => ?_) (fun c13 => ?_)
      · refine hq_p rfl rfl ?_
        refine hq_p rfl rfl (ty_ge (n := -1) nk_im1 (fun z14 ez14 => ?_))
        refine ty_callj 0 (W := ty_Wc) H hJ rfl (fun _ => rfl) rfl rfl rfl (hq_pre_o I.1 (x := 0) (ci := 10) rfl (by decide) rfl rfl rfl rfl) (fun _ _ w => w) (fun _ w => w) (ct_125 (x1 := z14) (by omega)) (fun h16 _ Jh16 P15 => ?_)
        have Ih16 := H.1 h16 Jh16
        obtain ⟨z17, rfl, fz17⟩ := P15
        exact hq_W.ret rfl rfl rfl ⟨Jh16, _, rfl, by omega, by omega⟩
      · refine hq_p rfl rfl ?_
        refine hq_p rfl rfl (ty_ge (n := 60) nk_b60 (fun z18 ez18 => ?_))
        refine ty_ile rfl (fun c19 => ?_) (fun c19 => ?_)
        · refine hq_p rfl rfl ?_
          obtain ⟨t20, kt20⟩ : ∃ q, hs_fR h 0 0 = q := ⟨_, rfl⟩
          refine ty_gT I rfl rfl (by decide) (by decide) rfl kt20 (fun ot20 => ?_)
          have pt20 : ty_tr t20 := by rcases ot20 with rfl | rfl; exact Or.inl rfl; exact Or.inr (Or.inl rfl)
          have lt20 := ty_trl pt20
          clear ot20
          refine ty_gI I rfl (ty_trs pt20) (by omega) (by decide) rfl (ty_trf pt20 3) (fun z21 ez21 az21 bz21 => ?_)
          refine ty_zeq rfl (fun c22 => ?_) (fun c22 => ?_)
          · refine hq_p rfl rfl ?_
            refine hq_p rfl rfl (ty_ge (n := -3) nk_bm3 (fun z23 ez23 => ?_))
            refine ty_callj 0 (W := ty_Wc) H hJ rfl (fun _ => rfl) rfl rfl rfl (hq_pre_o I.1 (x := 0) (ci := 10) rfl (by decide) rfl rfl rfl rfl) (fun _ _ w => w) (fun _ w => w) (ct_125 (x1 := z23) (by omega)) (fun h25 _ Jh25 P24 => ?_)
            have Ih25 := H.1 h25 Jh25
            obtain ⟨z26, rfl, fz26⟩ := P24
            exact hq_W.ret rfl rfl rfl ⟨Jh25, _, rfl, by omega, by omega⟩
          · replace c22 : 1 ≤ z21.toInt ∧ z21.toInt ≤ 8 := by omega
            refine hq_p rfl rfl ?_
            refine ty_gT I rfl rfl (by decide) (by decide) rfl kt20 (fun ot20 => ?_)
            clear ot20
            refine ty_gI I rfl (ty_trs pt20) (by omega) (by decide) rfl (ty_trf pt20 0) (fun z27 ez27 az27 bz27 => ?_)
            refine ty_zne rfl (fun c28 => ?_) (fun c28 => ?_)
            · replace c28 : 1 ≤ z27.toInt ∧ z27.toInt ≤ 8 := by omega
              refine hq_p rfl rfl ?_
              obtain ⟨t29, kt29⟩ : ∃ q, hs_fR h 0 1 = q := ⟨_, rfl⟩
              refine ty_gT I rfl rfl (by decide) (by decide) rfl kt29 (fun ot29 => ?_)
              have pt29 : ty_tr t29 := by rcases ot29 with rfl | rfl; exact Or.inl rfl; exact Or.inr (Or.inl rfl)
              have lt29 := ty_trl pt29
              clear ot29
              refine hq_p rfl rfl ?_
              refine ty_gT I rfl rfl (by decide) (by decide) rfl kt20 (fun ot20 => ?_)
              clear ot20
              refine ty_callj 0 (W := ty_Wc) H hJ rfl (fun _ => rfl) rfl rfl rfl (hq_pre_o I.1 (x := t29) (ci := 8) (ty_trs pt29) (by omega) rfl rfl rfl rfl) (fun _ _ w => w) (fun _ w => w) (ct_68 (t0 := t29) (t1 := t20) (by omega) pt29 pt20) (fun h31 _ Jh31 P30 => ?_)
              have Ih31 := H.1 h31 Jh31
              subst P30
              refine hq_p rfl rfl ?_
              refine hq_gR Ih31.1 rfl rfl (by decide) (by decide) rfl ?_
              refine hq_p rfl rfl ?_
              obtain ⟨t32, kt32⟩ : ∃ q, hs_fR h31 0 1 = q := ⟨_, rfl⟩
              refine ty_gT Ih31 rfl rfl (by decide) (by decide) rfl kt32 (fun ot32 => ?_)
              have pt32 : ty_tr t32 := by rcases ot32 with rfl | rfl; exact Or.inl rfl; exact Or.inr (Or.inl rfl)
              have lt32 := ty_trl pt32
              clear ot32
              refine hq_p rfl rfl ?_
              obtain ⟨t33, kt33⟩ : ∃ q, hs_fR h31 0 6 = q := ⟨_, rfl⟩
              refine ty_gS Ih31 rfl rfl (by decide) (by decide) rfl kt33 (fun ot33 => ?_)
              have pt33 : ty_sp t33 := ot33
              have lt33 := ty_spl pt33
              clear ot33
              refine hq_p rfl rfl ?_
              refine hq_p rfl rfl ?_
              refine ty_callj 0 (W := ty_Wc) H Jh31 rfl (fun _ => rfl) rfl rfl rfl (hq_pre_o Ih31.1 (x := 76) (ci := 1) rfl (by decide) rfl rfl rfl rfl) (fun _ _ w => w) (fun _ w => w) (ct_16 (t1 := t32) (t2 := t33) (x3 := x1) (x4 := x2) (by omega) pt32 pt33) (fun h35 _ Jh35 P34 => ?_)
              have Ih35 := H.1 h35 Jh35
              subst P34
              refine hq_p rfl rfl ?_
              refine hq_gR Ih35.1 rfl rfl (by decide) (by decide) rfl ?_
              refine hq_p rfl rfl ?_
              obtain ⟨t36, kt36⟩ : ∃ q, hs_fR h35 0 1 = q := ⟨_, rfl⟩
              refine ty_gT Ih35 rfl rfl (by decide) (by decide) rfl kt36 (fun ot36 => ?_)
              have pt36 : ty_tr t36 := by rcases ot36 with rfl | rfl; exact Or.inl rfl; exact Or.inr (Or.inl rfl)
              have lt36 := ty_trl pt36
              clear ot36
              refine ty_callj 0 (W := ty_Wc) H Jh35 rfl (fun _ => rfl) rfl rfl rfl (hq_pre_o Ih35.1 (x := 23) (ci := 8) rfl (by decide) rfl rfl rfl rfl) (fun _ _ w => w) (fun _ w => w) (ct_68 (t0 := 23) (t1 := t36) (by omega) (show ty_tr 23 by simp [ty_tr]) pt36) (fun h38 _ Jh38 P37 => ?_)
              have Ih38 := H.1 h38 Jh38
              subst P37
              refine hq_p rfl rfl ?_
              refine hq_p rfl rfl ?_
              obtain ⟨t39, kt39⟩ : ∃ q, hs_fR h38 0 1 = q := ⟨_, rfl⟩
              refine ty_gT Ih38 rfl rfl (by decide) (by decide) rfl kt39 (fun ot39 => ?_)
              have pt39 : ty_tr t39 := by rcases ot39 with rfl | rfl; exact Or.inl rfl; exact Or.inr (Or.inl rfl)
              have lt39 := ty_trl pt39
              clear ot39
              refine ty_gI Ih38 rfl (ty_trs pt39) (by omega) (by decide) rfl (ty_trf pt39 9) (fun z40 ez40 az40 bz40 => ?_)
              refine hq_p rfl rfl ?_
              obtain ⟨t41, kt41⟩ : ∃ q, hs_fR h38 0 0 = q := ⟨_, rfl⟩
              refine ty_gT Ih38 rfl rfl (by decide) (by decide) rfl kt41 (fun ot41 => ?_)
              have pt41 : ty_tr t41 := by rcases ot41 with rfl | rfl; exact Or.inl rfl; exact Or.inr (Or.inl rfl)
              have lt41 := ty_trl pt41
              clear ot41
              refine ty_gI Ih38 rfl (ty_trs pt41) (by omega) (by decide) rfl (ty_trf pt41 9) (fun z42 ez42 az42 bz42 => ?_)
              refine hq_p rfl rfl (ty_ga (fun z43 az43 bz43 => ?_))
              refine ty_callj 0 (W := ty_Wc) H Jh38 rfl (fun _ => rfl) rfl rfl rfl (hq_pre_o Ih38.1 (x := 0) (ci := 10) rfl (by decide) rfl rfl rfl rfl) (fun _ _ w => w) (fun _ w => w) (ct_126 (x1 := z43) (by omega)) (fun h45 _ Jh45 P44 => ?_)
              have Ih45 := H.1 h45 Jh45
              obtain ⟨z46, rfl, fz46⟩ := P44
              exact hq_W.ret rfl rfl rfl ⟨Jh45, _, rfl, by omega, by omega⟩
            · refine hq_p rfl rfl ?_
              refine hq_p rfl rfl (ty_ge (n := -3) nk_bm3 (fun z47 ez47 => ?_))
              refine ty_callj 0 (W := ty_Wc) H hJ rfl (fun _ => rfl) rfl rfl rfl (hq_pre_o I.1 (x := 0) (ci := 10) rfl (by decide) rfl rfl rfl rfl) (fun _ _ w => w) (fun _ w => w) (ct_125 (x1 := z47) (by omega)) (fun h49 _ Jh49 P48 => ?_)
              have Ih49 := H.1 h49 Jh49
              obtain ⟨z50, rfl, fz50⟩ := P48
              exact hq_W.ret rfl rfl rfl ⟨Jh49, _, rfl, by omega, by omega⟩
        · refine hq_p rfl rfl ?_
          refine hq_p rfl rfl (ty_ge (n := -1) nk_im1 (fun z51 ez51 => ?_))
          refine ty_callj 0 (W := ty_Wc) H hJ rfl (fun _ => rfl) rfl rfl rfl (hq_pre_o I.1 (x := 0) (ci := 10) rfl (by decide) rfl rfl rfl rfl) (fun _ _ w => w) (fun _ w => w) (ct_125 (x1 := z51) (by omega)) (fun h53 _ Jh53 P52 => ?_)
          have Ih53 := H.1 h53 Jh53
          obtain ⟨z54, rfl, fz54⟩ := P52
          exact hq_W.ret rfl rfl rfl ⟨Jh53, _, rfl, by omega, by omega⟩
theorem ct_119 {X : pm_X} {d : Nat} {h : pm_H} {x1 : Int32} {x2 : Int32} (hd : 2 ≤ d)  : ty_M X ty_Wc d 119 [.ref 0, .int x1, .int x2] h (ty_pi (-2147483648) 2147483647) := by
  intro J H hJ
  obtain ⟨d, rfl⟩ : ∃ e, d = e + 1 := ⟨d - 1, by omega⟩
  have I := H.1 h hJ
  have ax1 := nm_lo x1
  have bx1 := nm_hi x1
  have ax2 := nm_lo x2
  have bx2 := nm_hi x2
  refine hq_M.enter (q := (⟨"TrainBearers", "drawn", "(II)I"⟩, _, 3, some .int, 10, 3, pm_c119)) rfl rfl ?_
  show hq_W X d 10 false (some .int) pm_c119 (0, [some (.ref 0), some (.int x1), some (.int x2)], [], h) (fun h' v => J h' ∧ (ty_pi (-2147483648) 2147483647) h' v)
  refine hq_p rfl rfl ?_
  refine ty_zne rfl (fun c1 => ?_) (fun c1 => ?_)
  · clear c1
    refine hq_p rfl rfl ?_
    refine hq_p rfl rfl (ty_ge (n := 1) nk_i1 (fun z2 ez2 => ?_))
    refine ty_ine rfl (fun c3 => ?_) (fun c3 => ?_)
    · clear c3
      refine hq_p rfl rfl ?_
      refine hq_p rfl rfl (ty_ge (n := 2) nk_i2 (fun z4 ez4 => ?_))
      refine ty_ine rfl (fun c5 => ?_) (fun c5 => ?_)
      · clear c5
        refine hq_p rfl rfl (ty_ge (n := -1) nk_im1 (fun z6 ez6 => ?_))
        exact hq_W.ret rfl rfl rfl ⟨hJ, _, rfl, by omega, by omega⟩
      · refine hq_p rfl rfl ?_
        refine hq_gR I.1 rfl rfl (by decide) (by decide) rfl ?_
        refine hq_p rfl rfl ?_
        refine ty_callp 0 I rfl (fun _ => rfl) rfl rfl rfl (hq_pre_o I.1 (x := 23) (ci := 8) rfl (by decide) rfl rfl rfl rfl) (ct_69 (t0 := 23) (x1 := x1) (by omega) (show ty_tr 23 by simp [ty_tr])) (fun _ P7 => ?_)
        obtain ⟨z8, rfl, az8, bz8, iz8⟩ := P7
        refine ty_zeq rfl (fun c9 => ?_) (fun c9 => ?_)
        · clear iz8
          refine hq_p rfl rfl (ty_ge (n := -1) nk_im1 (fun z10 ez10 => ?_))
          exact hq_W.ret rfl rfl rfl ⟨hJ, _, rfl, by omega, by omega⟩
        · replace c9 : 1 ≤ z8.toInt ∧ z8.toInt ≤ 1 := by omega
          have f11 := iz8 (by omega)
          clear iz8
          refine hq_p rfl rfl ?_
          refine hq_gR I.1 rfl rfl (by decide) (by decide) rfl ?_
          refine hq_gR I.1 rfl rfl (by decide) (by decide) rfl ?_
          refine hq_p rfl rfl ?_
          refine ty_aL I rfl rfl (by decide) (by omega) (by omega) (fun _ _ => ty_le rfl) (fun z12 ez12 az12 bz12 => ?_)
          exact hq_W.ret rfl rfl rfl ⟨hJ, _, rfl, by omega, by omega⟩
    · refine hq_p rfl rfl ?_
      refine hq_gR I.1 rfl rfl (by decide) (by decide) rfl ?_
      refine hq_p rfl rfl ?_
      refine ty_callp 0 I rfl (fun _ => rfl) rfl rfl rfl (hq_pre_o I.1 (x := 23) (ci := 8) rfl (by decide) rfl rfl rfl rfl) (ct_70 (t0 := 23) (x1 := x1) (by omega) (show ty_tr 23 by simp [ty_tr])) (fun _ P13 => ?_)
      obtain ⟨z14, rfl, az14, bz14, iz14⟩ := P13
      refine ty_zeq rfl (fun c15 => ?_) (fun c15 => ?_)
      · clear iz14
        refine hq_p rfl rfl ?_
        refine hq_p rfl rfl (ty_ge (n := 2) nk_i2 (fun z16 ez16 => ?_))
        refine ty_ine rfl (fun c17 => ?_) (fun c17 => ?_)
        · clear c17
          refine hq_p rfl rfl (ty_ge (n := -1) nk_im1 (fun z18 ez18 => ?_))
          exact hq_W.ret rfl rfl rfl ⟨hJ, _, rfl, by omega, by omega⟩
        · exfalso; omega
      · replace c15 : 1 ≤ z14.toInt ∧ z14.toInt ≤ 1 := by omega
        have f19 := iz14 (by omega)
        clear iz14
        refine hq_p rfl rfl ?_
        refine hq_gR I.1 rfl rfl (by decide) (by decide) rfl ?_
        refine hq_gR I.1 rfl rfl (by decide) (by decide) rfl ?_
        refine hq_p rfl rfl ?_
        refine ty_aL I rfl rfl (by decide) (by omega) (by omega) (fun _ _ => ty_le rfl) (fun z20 ez20 az20 bz20 => ?_)
        exact hq_W.ret rfl rfl rfl ⟨hJ, _, rfl, by omega, by omega⟩
  · refine hq_p rfl rfl ?_
    refine hq_gR I.1 rfl rfl (by decide) (by decide) rfl ?_
    refine hq_p rfl rfl ?_
    refine ty_callp 0 I rfl (fun _ => rfl) rfl rfl rfl (hq_pre_o I.1 (x := 23) (ci := 8) rfl (by decide) rfl rfl rfl rfl) (ct_70 (t0 := 23) (x1 := x1) (by omega) (show ty_tr 23 by simp [ty_tr])) (fun _ P21 => ?_)
    obtain ⟨z22, rfl, az22, bz22, iz22⟩ := P21
    refine ty_zeq rfl (fun c23 => ?_) (fun c23 => ?_)
    · clear iz22
      refine hq_p rfl rfl ?_
      refine hq_p rfl rfl (ty_ge (n := 1) nk_i1 (fun z24 ez24 => ?_))
      refine ty_ine rfl (fun c25 => ?_) (fun c25 => ?_)
      · clear c25
        refine hq_p rfl rfl ?_
        refine hq_p rfl rfl (ty_ge (n := 2) nk_i2 (fun z26 ez26 => ?_))
        refine ty_ine rfl (fun c27 => ?_) (fun c27 => ?_)
        · clear c27
          refine hq_p rfl rfl (ty_ge (n := -1) nk_im1 (fun z28 ez28 => ?_))
          exact hq_W.ret rfl rfl rfl ⟨hJ, _, rfl, by omega, by omega⟩
        · exfalso; omega
      · exfalso; omega
    · replace c23 : 1 ≤ z22.toInt ∧ z22.toInt ≤ 1 := by omega
      have f29 := iz22 (by omega)
      clear iz22
      refine hq_p rfl rfl ?_
      refine hq_gR I.1 rfl rfl (by decide) (by decide) rfl ?_
      refine hq_gR I.1 rfl rfl (by decide) (by decide) rfl ?_
      refine hq_p rfl rfl ?_
      refine ty_aL I rfl rfl (by decide) (by omega) (by omega) (fun _ _ => ty_le rfl) (fun z30 ez30 az30 bz30 => ?_)
      exact hq_W.ret rfl rfl rfl ⟨hJ, _, rfl, by omega, by omega⟩
theorem ct_120 {X : pm_X} {d : Nat} {h : pm_H} {x1 : Int32} (hd : 2 ≤ d)  : ty_M X ty_Wc d 120 [.ref 0, .int x1] h (ty_pi (-1) 0) := by
  intro J H hJ
  obtain ⟨d, rfl⟩ : ∃ e, d = e + 1 := ⟨d - 1, by omega⟩
  have I := H.1 h hJ
  have ax1 := nm_lo x1
  have bx1 := nm_hi x1
  refine hq_M.enter (q := (⟨"TrainBearers", "image", "(I)I"⟩, _, 2, some .int, 10, 2, pm_c120)) rfl rfl ?_
  show hq_W X d 10 false (some .int) pm_c120 (0, [some (.ref 0), some (.int x1)], [], h) (fun h' v => J h' ∧ (ty_pi (-1) 0) h' v)
  refine hq_p rfl rfl ?_
  refine ty_zlt rfl (fun c1 => ?_) (fun c1 => ?_)
  · refine hq_p rfl rfl ?_
    refine hq_p rfl rfl (ty_ge (n := -1) nk_im1 (fun z2 ez2 => ?_))
    refine ty_callj 0 (W := ty_Wc) H hJ rfl (fun _ => rfl) rfl rfl rfl (hq_pre_o I.1 (x := 0) (ci := 10) rfl (by decide) rfl rfl rfl rfl) (fun _ _ w => w) (fun _ w => w) (ct_125 (x1 := z2) (by omega)) (fun h4 _ Jh4 P3 => ?_)
    have Ih4 := H.1 h4 Jh4
    obtain ⟨z5, rfl, fz5⟩ := P3
    exact hq_W.ret rfl rfl rfl ⟨Jh4, _, rfl, by omega, by omega⟩
  · refine hq_p rfl rfl ?_
    refine hq_p rfl rfl (ty_ge (n := 2) nk_i2 (fun z6 ez6 => ?_))
    refine ty_ilt rfl (fun c7 => ?_) (fun c7 => ?_)
    · refine hq_p rfl rfl ?_
      refine hq_gR I.1 rfl rfl (by decide) (by decide) rfl ?_
      refine hq_p rfl rfl ?_
      refine ty_im I rfl (by omega) (by omega) (fun t8 ot8 => ?_)
      have pt8 : ty_tr t8 := by rcases ot8 with rfl | rfl; exact Or.inr (Or.inr (Or.inr (Or.inl rfl))); exact Or.inr (Or.inr (Or.inr (Or.inr rfl)))
      have lt8 := ty_trl pt8
      clear ot8
      refine hq_p rfl rfl ?_
      obtain ⟨t9, kt9⟩ : ∃ q, hs_fR h 0 0 = q := ⟨_, rfl⟩
      refine ty_gT I rfl rfl (by decide) (by decide) rfl kt9 (fun ot9 => ?_)
      have pt9 : ty_tr t9 := by rcases ot9 with rfl | rfl; exact Or.inl rfl; exact Or.inr (Or.inl rfl)
      have lt9 := ty_trl pt9
      clear ot9
      refine ty_callj 0 (W := ty_Wc) H hJ rfl (fun _ => rfl) rfl rfl rfl (hq_pre_o I.1 (x := t8) (ci := 8) (ty_trs pt8) (by omega) rfl rfl rfl rfl) (fun _ _ w => w) (fun _ w => w) (ct_68 (t0 := t8) (t1 := t9) (by omega) pt8 pt9) (fun h11 _ Jh11 P10 => ?_)
      have Ih11 := H.1 h11 Jh11
      subst P10
      refine hq_p rfl rfl ?_
      refine hq_gR Ih11.1 rfl rfl (by decide) (by decide) rfl ?_
      refine hq_p rfl rfl ?_
      refine hq_p rfl rfl (ty_ge (n := 1) nk_i1 (fun z12 ez12 => ?_))
      refine ty_bS (W := ty_Wc) H Jh11 rfl rfl (by decide) (by omega) (by omega) (fun i e => by unfold ty_Wc; omega) (fun _ => rfl) (by omega) (fun h13 eh13 Jh13 => ?_)
      have Ih13 := H.1 h13 Jh13
      refine hq_p rfl rfl ?_
      refine hq_p rfl rfl (ty_ge (n := 0) nk_i0 (fun z14 ez14 => ?_))
      refine ty_callj 0 (W := ty_Wc) H Jh13 rfl (fun _ => rfl) rfl rfl rfl (hq_pre_o Ih13.1 (x := 0) (ci := 10) rfl (by decide) rfl rfl rfl rfl) (fun _ _ w => w) (fun _ w => w) (ct_126 (x1 := z14) (by omega)) (fun h16 _ Jh16 P15 => ?_)
      have Ih16 := H.1 h16 Jh16
      obtain ⟨z17, rfl, fz17⟩ := P15
      exact hq_W.ret rfl rfl rfl ⟨Jh16, _, rfl, by omega, by omega⟩
    · refine hq_p rfl rfl ?_
      refine hq_p rfl rfl (ty_ge (n := -1) nk_im1 (fun z18 ez18 => ?_))
      refine ty_callj 0 (W := ty_Wc) H hJ rfl (fun _ => rfl) rfl rfl rfl (hq_pre_o I.1 (x := 0) (ci := 10) rfl (by decide) rfl rfl rfl rfl) (fun _ _ w => w) (fun _ w => w) (ct_125 (x1 := z18) (by omega)) (fun h20 _ Jh20 P19 => ?_)
      have Ih20 := H.1 h20 Jh20
      obtain ⟨z21, rfl, fz21⟩ := P19
      exact hq_W.ret rfl rfl rfl ⟨Jh20, _, rfl, by omega, by omega⟩
theorem ct_121 {X : pm_X} {d : Nat} {h : pm_H} {x1 : Int32} (hd : 2 ≤ d)  : ty_M X ty_Wc d 121 [.ref 0, .int x1] h (ty_pi (-2) 0) := by
  intro J H hJ
  obtain ⟨d, rfl⟩ : ∃ e, d = e + 1 := ⟨d - 1, by omega⟩
  have I := H.1 h hJ
  have ax1 := nm_lo x1
  have bx1 := nm_hi x1
  refine hq_M.enter (q := (⟨"TrainBearers", "back", "(I)I"⟩, _, 2, some .int, 10, 2, pm_c121)) rfl rfl ?_
  show hq_W X d 10 false (some .int) pm_c121 (0, [some (.ref 0), some (.int x1)], [], h) (fun h' v => J h' ∧ (ty_pi (-2) 0) h' v)
  refine hq_p rfl rfl ?_
  refine ty_zlt rfl (fun c1 => ?_) (fun c1 => ?_)
  · refine hq_p rfl rfl ?_
    refine hq_p rfl rfl (ty_ge (n := -1) nk_im1 (fun z2 ez2 => ?_))
    refine ty_callj 0 (W := ty_Wc) H hJ rfl (fun _ => rfl) rfl rfl rfl (hq_pre_o I.1 (x := 0) (ci := 10) rfl (by decide) rfl rfl rfl rfl) (fun _ _ w => w) (fun _ w => w) (ct_125 (x1 := z2) (by omega)) (fun h4 _ Jh4 P3 => ?_)
    have Ih4 := H.1 h4 Jh4
    obtain ⟨z5, rfl, fz5⟩ := P3
    exact hq_W.ret rfl rfl rfl ⟨Jh4, _, rfl, by omega, by omega⟩
  · refine hq_p rfl rfl ?_
    refine hq_p rfl rfl (ty_ge (n := 2) nk_i2 (fun z6 ez6 => ?_))
    refine ty_ilt rfl (fun c7 => ?_) (fun c7 => ?_)
    · refine hq_p rfl rfl ?_
      refine hq_gR I.1 rfl rfl (by decide) (by decide) rfl ?_
      refine hq_p rfl rfl ?_
      refine ty_bL I rfl rfl (by decide) (by omega) (by omega) (fun z8 az8 bz8 => ?_)
      refine ty_zne rfl (fun c9 => ?_) (fun c9 => ?_)
      · clear c9
        refine hq_p rfl rfl ?_
        obtain ⟨t10, kt10⟩ : ∃ q, hs_fR h 0 0 = q := ⟨_, rfl⟩
        refine ty_gT I rfl rfl (by decide) (by decide) rfl kt10 (fun ot10 => ?_)
        have pt10 : ty_tr t10 := by rcases ot10 with rfl | rfl; exact Or.inl rfl; exact Or.inr (Or.inl rfl)
        have lt10 := ty_trl pt10
        clear ot10
        refine hq_p rfl rfl ?_
        refine hq_gR I.1 rfl rfl (by decide) (by decide) rfl ?_
        refine hq_p rfl rfl ?_
        refine ty_im I rfl (by omega) (by omega) (fun t11 ot11 => ?_)
        have pt11 : ty_tr t11 := by rcases ot11 with rfl | rfl; exact Or.inr (Or.inr (Or.inr (Or.inl rfl))); exact Or.inr (Or.inr (Or.inr (Or.inr rfl)))
        have lt11 := ty_trl pt11
        clear ot11
        refine ty_callj 0 (W := ty_Wc) H hJ rfl (fun _ => rfl) rfl rfl rfl (hq_pre_o I.1 (x := t10) (ci := 8) (ty_trs pt10) (by omega) rfl rfl rfl rfl) (fun _ _ w => w) (fun _ w => w) (ct_68 (t0 := t10) (t1 := t11) (by omega) pt10 pt11) (fun h13 _ Jh13 P12 => ?_)
        have Ih13 := H.1 h13 Jh13
        subst P12
        refine hq_p rfl rfl ?_
        obtain ⟨t14, kt14⟩ : ∃ q, hs_fR h13 0 5 = q := ⟨_, rfl⟩
        refine ty_gS Ih13 rfl rfl (by decide) (by decide) rfl kt14 (fun ot14 => ?_)
        have pt14 : ty_sp t14 := ot14
        have lt14 := ty_spl pt14
        clear ot14
        refine ty_callj 0 (W := ty_Wc) H Jh13 rfl (fun _ => rfl) rfl rfl rfl (hq_pre_o Ih13.1 (x := t14) (ci := 5) (ty_sps pt14) (by omega) rfl rfl rfl rfl) (fun _ _ w => w) (fun _ w => w) (ct_53 (t0 := t14) (by omega) pt14) (fun h16 _ Jh16 P15 => ?_)
        have Ih16 := H.1 h16 Jh16
        subst P15
        refine hq_p rfl rfl ?_
        refine hq_p rfl rfl (ty_ge (n := 0) nk_i0 (fun z17 ez17 => ?_))
        refine ty_callj 0 (W := ty_Wc) H Jh16 rfl (fun _ => rfl) rfl rfl rfl (hq_pre_o Ih16.1 (x := 0) (ci := 10) rfl (by decide) rfl rfl rfl rfl) (fun _ _ w => w) (fun _ w => w) (ct_126 (x1 := z17) (by omega)) (fun h19 _ Jh19 P18 => ?_)
        have Ih19 := H.1 h19 Jh19
        obtain ⟨z20, rfl, fz20⟩ := P18
        exact hq_W.ret rfl rfl rfl ⟨Jh19, _, rfl, by omega, by omega⟩
      · refine hq_p rfl rfl ?_
        refine hq_p rfl rfl (ty_ge (n := -2) nk_bm2 (fun z21 ez21 => ?_))
        refine ty_callj 0 (W := ty_Wc) H hJ rfl (fun _ => rfl) rfl rfl rfl (hq_pre_o I.1 (x := 0) (ci := 10) rfl (by decide) rfl rfl rfl rfl) (fun _ _ w => w) (fun _ w => w) (ct_125 (x1 := z21) (by omega)) (fun h23 _ Jh23 P22 => ?_)
        have Ih23 := H.1 h23 Jh23
        obtain ⟨z24, rfl, fz24⟩ := P22
        exact hq_W.ret rfl rfl rfl ⟨Jh23, _, rfl, by omega, by omega⟩
    · refine hq_p rfl rfl ?_
      refine hq_p rfl rfl (ty_ge (n := -1) nk_im1 (fun z25 ez25 => ?_))
      refine ty_callj 0 (W := ty_Wc) H hJ rfl (fun _ => rfl) rfl rfl rfl (hq_pre_o I.1 (x := 0) (ci := 10) rfl (by decide) rfl rfl rfl rfl) (fun _ _ w => w) (fun _ w => w) (ct_125 (x1 := z25) (by omega)) (fun h27 _ Jh27 P26 => ?_)
      have Ih27 := H.1 h27 Jh27
      obtain ⟨z28, rfl, fz28⟩ := P26
      exact hq_W.ret rfl rfl rfl ⟨Jh27, _, rfl, by omega, by omega⟩
theorem ct_124 {X : pm_X} {d : Nat} {h : pm_H} {x1 : Int32} (hd : 1 ≤ d)  : ty_M X ty_Wc d 124 [.ref 0, .int x1] h (ty_pi (-2147483648) 2147483647) := by
  intro J H hJ
  obtain ⟨d, rfl⟩ : ∃ e, d = e + 1 := ⟨d - 1, by omega⟩
  have I := H.1 h hJ
  have ax1 := nm_lo x1
  have bx1 := nm_hi x1
  refine hq_M.enter (q := (⟨"TrainBearers", "countRefusedOrTerm", "(I)I"⟩, _, 2, some .int, 10, 2, pm_c124)) rfl rfl ?_
  show hq_W X d 10 false (some .int) pm_c124 (0, [some (.ref 0), some (.int x1)], [], h) (fun h' v => J h' ∧ (ty_pi (-2147483648) 2147483647) h' v)
  refine hq_p rfl rfl ?_
  rcases (show x1.toInt = 9 ∨ x1.toInt = 10 ∨ x1.toInt = 11 ∨ x1.toInt = 12 ∨ x1.toInt = 13 ∨ x1.toInt = 14 ∨ x1.toInt = 15 ∨ x1.toInt = 16 ∨ x1.toInt = 17 ∨ (x1.toInt < 9 ∨ 17 < x1.toInt) by omega) with c1 | c1 | c1 | c1 | c1 | c1 | c1 | c1 | c1 | c1
  · refine ty_ts (n := 9) rfl c1 rfl rfl (by decide) ?_
    refine hq_p rfl rfl ?_
    refine hq_gR I.1 rfl rfl (by decide) (by decide) rfl ?_
    refine hq_p rfl rfl (ty_ge (n := 1) nk_i1 (fun z2 ez2 => ?_))
    refine ty_aL I rfl rfl (by decide) (by omega) (by omega) (fun _ _ => ty_le rfl) (fun z3 ez3 az3 bz3 => ?_)
    rw [show z2.toInt.toNat = 1 by omega] at ez3
    exact hq_W.ret rfl rfl rfl ⟨hJ, _, rfl, by omega, by omega⟩
  · refine ty_ts (n := 10) rfl c1 rfl rfl (by decide) ?_
    refine hq_p rfl rfl ?_
    refine hq_gR I.1 rfl rfl (by decide) (by decide) rfl ?_
    refine hq_p rfl rfl (ty_ge (n := 2) nk_i2 (fun z4 ez4 => ?_))
    refine ty_aL I rfl rfl (by decide) (by omega) (by omega) (fun _ _ => ty_le rfl) (fun z5 ez5 az5 bz5 => ?_)
    rw [show z4.toInt.toNat = 2 by omega] at ez5
    exact hq_W.ret rfl rfl rfl ⟨hJ, _, rfl, by omega, by omega⟩
  · refine ty_ts (n := 11) rfl c1 rfl rfl (by decide) ?_
    refine hq_p rfl rfl ?_
    refine hq_gR I.1 rfl rfl (by decide) (by decide) rfl ?_
    refine hq_p rfl rfl (ty_ge (n := 3) nk_i3 (fun z6 ez6 => ?_))
    refine ty_aL I rfl rfl (by decide) (by omega) (by omega) (fun _ _ => ty_le rfl) (fun z7 ez7 az7 bz7 => ?_)
    rw [show z6.toInt.toNat = 3 by omega] at ez7
    exact hq_W.ret rfl rfl rfl ⟨hJ, _, rfl, by omega, by omega⟩
  · refine ty_ts (n := 12) rfl c1 rfl rfl (by decide) ?_
    refine hq_p rfl rfl ?_
    refine hq_gR I.1 rfl rfl (by decide) (by decide) rfl ?_
    refine hq_p rfl rfl (ty_ge (n := 5) nk_i5 (fun z8 ez8 => ?_))
    refine ty_aL I rfl rfl (by decide) (by omega) (by omega) (fun _ _ => ty_le rfl) (fun z9 ez9 az9 bz9 => ?_)
    rw [show z8.toInt.toNat = 5 by omega] at ez9
    exact hq_W.ret rfl rfl rfl ⟨hJ, _, rfl, by omega, by omega⟩
  · refine ty_ts (n := 13) rfl c1 rfl rfl (by decide) ?_
    refine hq_p rfl rfl ?_
    refine hq_gR I.1 rfl rfl (by decide) (by decide) rfl ?_
    refine hq_p rfl rfl (ty_ge (n := 6) nk_b6 (fun z10 ez10 => ?_))
    refine ty_aL I rfl rfl (by decide) (by omega) (by omega) (fun _ _ => ty_le rfl) (fun z11 ez11 az11 bz11 => ?_)
    rw [show z10.toInt.toNat = 6 by omega] at ez11
    exact hq_W.ret rfl rfl rfl ⟨hJ, _, rfl, by omega, by omega⟩
  · refine ty_ts (n := 14) rfl c1 rfl rfl (by decide) ?_
    refine hq_p rfl rfl (ty_ge (n := -1) nk_im1 (fun z12 ez12 => ?_))
    exact hq_W.ret rfl rfl rfl ⟨hJ, _, rfl, by omega, by omega⟩
  · refine ty_ts (n := 15) rfl c1 rfl rfl (by decide) ?_
    refine hq_p rfl rfl ?_
    obtain ⟨t13, kt13⟩ : ∃ q, hs_fR h 0 0 = q := ⟨_, rfl⟩
    refine ty_gT I rfl rfl (by decide) (by decide) rfl kt13 (fun ot13 => ?_)
    have pt13 : ty_tr t13 := by rcases ot13 with rfl | rfl; exact Or.inl rfl; exact Or.inr (Or.inl rfl)
    have lt13 := ty_trl pt13
    clear ot13
    refine hq_gR I.1 rfl (ty_trs pt13) (by omega) (by decide) rfl ?_
    refine hq_p rfl rfl (ty_ge (n := 0) nk_i0 (fun z14 ez14 => ?_))
    refine ty_aL I rfl (ty_trs9 pt13) (by omega) (by omega) (by omega) (fun i _ => ty_le (ty_tra9 pt13 i)) (fun z15 ez15 az15 bz15 => ?_)
    rw [show z14.toInt.toNat = 0 by omega] at ez15
    exact hq_W.ret rfl rfl rfl ⟨hJ, _, rfl, by omega, by omega⟩
  · refine ty_ts (n := 16) rfl c1 rfl rfl (by decide) ?_
    refine hq_p rfl rfl ?_
    obtain ⟨t16, kt16⟩ : ∃ q, hs_fR h 0 0 = q := ⟨_, rfl⟩
    refine ty_gT I rfl rfl (by decide) (by decide) rfl kt16 (fun ot16 => ?_)
    have pt16 : ty_tr t16 := by rcases ot16 with rfl | rfl; exact Or.inl rfl; exact Or.inr (Or.inl rfl)
    have lt16 := ty_trl pt16
    clear ot16
    refine hq_gR I.1 rfl (ty_trs pt16) (by omega) (by decide) rfl ?_
    refine hq_p rfl rfl (ty_ge (n := 1) nk_i1 (fun z17 ez17 => ?_))
    refine ty_aL I rfl (ty_trs9 pt16) (by omega) (by omega) (by omega) (fun i _ => ty_le (ty_tra9 pt16 i)) (fun z18 ez18 az18 bz18 => ?_)
    rw [show z17.toInt.toNat = 1 by omega] at ez18
    exact hq_W.ret rfl rfl rfl ⟨hJ, _, rfl, by omega, by omega⟩
  · refine ty_ts (n := 17) rfl c1 rfl rfl (by decide) ?_
    refine hq_p rfl rfl ?_
    obtain ⟨t19, kt19⟩ : ∃ q, hs_fR h 0 0 = q := ⟨_, rfl⟩
    refine ty_gT I rfl rfl (by decide) (by decide) rfl kt19 (fun ot19 => ?_)
    have pt19 : ty_tr t19 := by rcases ot19 with rfl | rfl; exact Or.inl rfl; exact Or.inr (Or.inl rfl)
    have lt19 := ty_trl pt19
    clear ot19
    refine hq_gR I.1 rfl (ty_trs pt19) (by omega) (by decide) rfl ?_
    refine hq_p rfl rfl (ty_ge (n := 2) nk_i2 (fun z20 ez20 => ?_))
    refine ty_aL I rfl (ty_trs9 pt19) (by omega) (by omega) (by omega) (fun i _ => ty_le (ty_tra9 pt19 i)) (fun z21 ez21 az21 bz21 => ?_)
    rw [show z20.toInt.toNat = 2 by omega] at ez21
    exact hq_W.ret rfl rfl rfl ⟨hJ, _, rfl, by omega, by omega⟩
  · refine ty_td rfl c1 (by decide) ?_
    refine hq_p rfl rfl (ty_ge (n := -1) nk_im1 (fun z22 ez22 => ?_))
    exact hq_W.ret rfl rfl rfl ⟨hJ, _, rfl, by omega, by omega⟩
theorem ct_122 {X : pm_X} {d : Nat} {h : pm_H} {x1 : Int32} (hd : 2 ≤ d)  : ty_M X ty_Wc d 122 [.ref 0, .int x1] h (ty_pi (-2147483648) 2147483647) := by
  intro J H hJ
  obtain ⟨d, rfl⟩ : ∃ e, d = e + 1 := ⟨d - 1, by omega⟩
  have I := H.1 h hJ
  have ax1 := nm_lo x1
  have bx1 := nm_hi x1
  refine hq_M.enter (q := (⟨"TrainBearers", "count", "(I)I"⟩, _, 2, some .int, 10, 2, pm_c122)) rfl rfl ?_
  show hq_W X d 10 false (some .int) pm_c122 (0, [some (.ref 0), some (.int x1)], [], h) (fun h' v => J h' ∧ (ty_pi (-2147483648) 2147483647) h' v)
  refine hq_p rfl rfl ?_
  rcases (show x1.toInt = 0 ∨ x1.toInt = 1 ∨ x1.toInt = 2 ∨ x1.toInt = 3 ∨ x1.toInt = 4 ∨ x1.toInt = 5 ∨ x1.toInt = 6 ∨ x1.toInt = 7 ∨ x1.toInt = 8 ∨ x1.toInt = 9 ∨ x1.toInt = 10 ∨ x1.toInt = 11 ∨ x1.toInt = 12 ∨ x1.toInt = 13 ∨ x1.toInt = 14 ∨ (x1.toInt < 0 ∨ 14 < x1.toInt) by omega) with c1 | c1 | c1 | c1 | c1 | c1 | c1 | c1 | c1 | c1 | c1 | c1 | c1 | c1 | c1 | c1
  · refine ty_ts (n := 0) rfl c1 rfl rfl (by decide) ?_
    refine hq_p rfl rfl ?_
    obtain ⟨t2, kt2⟩ : ∃ q, hs_fR h 0 0 = q := ⟨_, rfl⟩
    refine ty_gT I rfl rfl (by decide) (by decide) rfl kt2 (fun ot2 => ?_)
    have pt2 : ty_tr t2 := by rcases ot2 with rfl | rfl; exact Or.inl rfl; exact Or.inr (Or.inl rfl)
    have lt2 := ty_trl pt2
    clear ot2
    refine ty_gI I rfl (ty_trs pt2) (by omega) (by decide) rfl (ty_trf pt2 0) (fun z3 ez3 az3 bz3 => ?_)
    exact hq_W.ret rfl rfl rfl ⟨hJ, _, rfl, by omega, by omega⟩
  · refine ty_ts (n := 1) rfl c1 rfl rfl (by decide) ?_
    refine hq_p rfl rfl ?_
    obtain ⟨t4, kt4⟩ : ∃ q, hs_fR h 0 0 = q := ⟨_, rfl⟩
    refine ty_gT I rfl rfl (by decide) (by decide) rfl kt4 (fun ot4 => ?_)
    have pt4 : ty_tr t4 := by rcases ot4 with rfl | rfl; exact Or.inl rfl; exact Or.inr (Or.inl rfl)
    have lt4 := ty_trl pt4
    clear ot4
    refine ty_gI I rfl (ty_trs pt4) (by omega) (by decide) rfl (ty_trf pt4 3) (fun z5 ez5 az5 bz5 => ?_)
    exact hq_W.ret rfl rfl rfl ⟨hJ, _, rfl, by omega, by omega⟩
  · refine ty_ts (n := 2) rfl c1 rfl rfl (by decide) ?_
    refine hq_p rfl rfl ?_
    obtain ⟨t6, kt6⟩ : ∃ q, hs_fR h 0 0 = q := ⟨_, rfl⟩
    refine ty_gT I rfl rfl (by decide) (by decide) rfl kt6 (fun ot6 => ?_)
    have pt6 : ty_tr t6 := by rcases ot6 with rfl | rfl; exact Or.inl rfl; exact Or.inr (Or.inl rfl)
    have lt6 := ty_trl pt6
    clear ot6
    refine ty_callp 0 I rfl (fun _ => rfl) rfl rfl rfl (hq_pre_o I.1 (x := t6) (ci := 8) (ty_trs pt6) (by omega) rfl rfl rfl rfl) (ct_74 (t0 := t6) (by omega) pt6) (fun _ P7 => ?_)
    obtain ⟨z8, rfl, az8, bz8⟩ := P7
    exact hq_W.ret rfl rfl rfl ⟨hJ, _, rfl, by omega, by omega⟩
  · refine ty_ts (n := 3) rfl c1 rfl rfl (by decide) ?_
    refine hq_p rfl rfl ?_
    obtain ⟨t9, kt9⟩ : ∃ q, hs_fR h 0 0 = q := ⟨_, rfl⟩
    refine ty_gT I rfl rfl (by decide) (by decide) rfl kt9 (fun ot9 => ?_)
    have pt9 : ty_tr t9 := by rcases ot9 with rfl | rfl; exact Or.inl rfl; exact Or.inr (Or.inl rfl)
    have lt9 := ty_trl pt9
    clear ot9
    refine ty_gI I rfl (ty_trs pt9) (by omega) (by decide) rfl (ty_trf pt9 9) (fun z10 ez10 az10 bz10 => ?_)
    exact hq_W.ret rfl rfl rfl ⟨hJ, _, rfl, by omega, by omega⟩
  · refine ty_ts (n := 4) rfl c1 rfl rfl (by decide) ?_
    refine hq_p rfl rfl ?_
    obtain ⟨t11, kt11⟩ : ∃ q, hs_fR h 0 0 = q := ⟨_, rfl⟩
    refine ty_gT I rfl rfl (by decide) (by decide) rfl kt11 (fun ot11 => ?_)
    have pt11 : ty_tr t11 := by rcases ot11 with rfl | rfl; exact Or.inl rfl; exact Or.inr (Or.inl rfl)
    have lt11 := ty_trl pt11
    clear ot11
    refine ty_gI I rfl (ty_trs pt11) (by omega) (by decide) rfl (ty_trf pt11 8) (fun z12 ez12 az12 bz12 => ?_)
    exact hq_W.ret rfl rfl rfl ⟨hJ, _, rfl, by omega, by omega⟩
  · refine ty_ts (n := 5) rfl c1 rfl rfl (by decide) ?_
    refine hq_p rfl rfl ?_
    obtain ⟨t13, kt13⟩ : ∃ q, hs_fR h 0 0 = q := ⟨_, rfl⟩
    refine ty_gT I rfl rfl (by decide) (by decide) rfl kt13 (fun ot13 => ?_)
    have pt13 : ty_tr t13 := by rcases ot13 with rfl | rfl; exact Or.inl rfl; exact Or.inr (Or.inl rfl)
    have lt13 := ty_trl pt13
    clear ot13
    refine ty_gI I rfl (ty_trs pt13) (by omega) (by decide) rfl (ty_trf pt13 10) (fun z14 ez14 az14 bz14 => ?_)
    exact hq_W.ret rfl rfl rfl ⟨hJ, _, rfl, by omega, by omega⟩
  · refine ty_ts (n := 6) rfl c1 rfl rfl (by decide) ?_
    refine hq_p rfl rfl ?_
    obtain ⟨t15, kt15⟩ : ∃ q, hs_fR h 0 0 = q := ⟨_, rfl⟩
    refine ty_gT I rfl rfl (by decide) (by decide) rfl kt15 (fun ot15 => ?_)
    have pt15 : ty_tr t15 := by rcases ot15 with rfl | rfl; exact Or.inl rfl; exact Or.inr (Or.inl rfl)
    have lt15 := ty_trl pt15
    clear ot15
    refine ty_gI I rfl (ty_trs pt15) (by omega) (by decide) rfl (ty_trf pt15 14) (fun z16 ez16 az16 bz16 => ?_)
    exact hq_W.ret rfl rfl rfl ⟨hJ, _, rfl, by omega, by omega⟩
  · refine ty_ts (n := 7) rfl c1 rfl rfl (by decide) ?_
    refine hq_p rfl rfl ?_
    obtain ⟨t17, kt17⟩ : ∃ q, hs_fR h 0 5 = q := ⟨_, rfl⟩
    refine ty_gS I rfl rfl (by decide) (by decide) rfl kt17 (fun ot17 => ?_)
    have pt17 : ty_sp t17 := ot17
    have lt17 := ty_spl pt17
    clear ot17
    refine ty_gI I rfl (ty_sps pt17) (by omega) (by decide) rfl (ty_spf2 pt17) (fun z18 ez18 az18 bz18 => ?_)
    exact hq_W.ret rfl rfl rfl ⟨hJ, _, rfl, by omega, by omega⟩
  · refine ty_ts (n := 8) rfl c1 rfl rfl (by decide) ?_
    refine hq_p rfl rfl ?_
    refine hq_gR I.1 rfl rfl (by decide) (by decide) rfl ?_
    refine ty_gI I rfl rfl (by decide) (by decide) rfl rfl (fun z19 ez19 az19 bz19 => ?_)
    exact hq_W.ret rfl rfl rfl ⟨hJ, _, rfl, by omega, by omega⟩
  · refine ty_ts (n := 9) rfl c1 rfl rfl (by decide) ?_
    refine hq_p rfl rfl ?_
    refine hq_p rfl rfl ?_
    refine ty_callj 0 (W := ty_Wc) H hJ rfl (fun _ => rfl) rfl rfl rfl (hq_pre_o I.1 (x := 0) (ci := 10) rfl (by decide) rfl rfl rfl rfl) (fun _ _ w => w) (fun _ w => w) (ct_124 (x1 := x1) (by omega)) (fun h21 _ Jh21 P20 => ?_)
    have Ih21 := H.1 h21 Jh21
    obtain ⟨z22, rfl, az22, bz22⟩ := P20
    exact hq_W.ret rfl rfl rfl ⟨Jh21, _, rfl, by omega, by omega⟩
  · refine ty_ts (n := 10) rfl c1 rfl rfl (by decide) ?_
    refine hq_p rfl rfl ?_
    refine hq_p rfl rfl ?_
    refine ty_callj 0 (W := ty_Wc) H hJ rfl (fun _ => rfl) rfl rfl rfl (hq_pre_o I.1 (x := 0) (ci := 10) rfl (by decide) rfl rfl rfl rfl) (fun _ _ w => w) (fun _ w => w) (ct_124 (x1 := x1) (by omega)) (fun h24 _ Jh24 P23 => ?_)
    have Ih24 := H.1 h24 Jh24
    obtain ⟨z25, rfl, az25, bz25⟩ := P23
    exact hq_W.ret rfl rfl rfl ⟨Jh24, _, rfl, by omega, by omega⟩
  · refine ty_ts (n := 11) rfl c1 rfl rfl (by decide) ?_
    refine hq_p rfl rfl ?_
    refine hq_p rfl rfl ?_
    refine ty_callj 0 (W := ty_Wc) H hJ rfl (fun _ => rfl) rfl rfl rfl (hq_pre_o I.1 (x := 0) (ci := 10) rfl (by decide) rfl rfl rfl rfl) (fun _ _ w => w) (fun _ w => w) (ct_124 (x1 := x1) (by omega)) (fun h27 _ Jh27 P26 => ?_)
    have Ih27 := H.1 h27 Jh27
    obtain ⟨z28, rfl, az28, bz28⟩ := P26
    exact hq_W.ret rfl rfl rfl ⟨Jh27, _, rfl, by omega, by omega⟩
  · refine ty_ts (n := 12) rfl c1 rfl rfl (by decide) ?_
    refine hq_p rfl rfl ?_
    refine hq_p rfl rfl ?_
    refine ty_callj 0 (W := ty_Wc) H hJ rfl (fun _ => rfl) rfl rfl rfl (hq_pre_o I.1 (x := 0) (ci := 10) rfl (by decide) rfl rfl rfl rfl) (fun _ _ w => w) (fun _ w => w) (ct_124 (x1 := x1) (by omega)) (fun h30 _ Jh30 P29 => ?_)
    have Ih30 := H.1 h30 Jh30
    obtain ⟨z31, rfl, az31, bz31⟩ := P29
    exact hq_W.ret rfl rfl rfl ⟨Jh30, _, rfl, by omega, by omega⟩
  · refine ty_ts (n := 13) rfl c1 rfl rfl (by decide) ?_
    refine hq_p rfl rfl ?_
    refine hq_p rfl rfl ?_
    refine ty_callj 0 (W := ty_Wc) H hJ rfl (fun _ => rfl) rfl rfl rfl (hq_pre_o I.1 (x := 0) (ci := 10) rfl (by decide) rfl rfl rfl rfl) (fun _ _ w => w) (fun _ w => w) (ct_124 (x1 := x1) (by omega)) (fun h33 _ Jh33 P32 => ?_)
    have Ih33 := H.1 h33 Jh33
    obtain ⟨z34, rfl, az34, bz34⟩ := P32
    exact hq_W.ret rfl rfl rfl ⟨Jh33, _, rfl, by omega, by omega⟩
  · refine ty_ts (n := 14) rfl c1 rfl rfl (by decide) ?_
    refine hq_p rfl rfl ?_
    obtain ⟨t35, kt35⟩ : ∃ q, hs_fR h 0 0 = q := ⟨_, rfl⟩
    refine ty_gT I rfl rfl (by decide) (by decide) rfl kt35 (fun ot35 => ?_)
    have pt35 : ty_tr t35 := by rcases ot35 with rfl | rfl; exact Or.inl rfl; exact Or.inr (Or.inl rfl)
    have lt35 := ty_trl pt35
    clear ot35
    refine ty_gI I rfl (ty_trs pt35) (by omega) (by decide) rfl (ty_trf pt35 16) (fun z36 ez36 az36 bz36 => ?_)
    exact hq_W.ret rfl rfl rfl ⟨hJ, _, rfl, by omega, by omega⟩
  · refine ty_td rfl c1 (by decide) ?_
    refine hq_p rfl rfl ?_
    refine hq_p rfl rfl ?_
    refine ty_callj 0 (W := ty_Wc) H hJ rfl (fun _ => rfl) rfl rfl rfl (hq_pre_o I.1 (x := 0) (ci := 10) rfl (by decide) rfl rfl rfl rfl) (fun _ _ w => w) (fun _ w => w) (ct_124 (x1 := x1) (by omega)) (fun h38 _ Jh38 P37 => ?_)
    have Ih38 := H.1 h38 Jh38
    obtain ⟨z39, rfl, az39, bz39⟩ := P37
    exact hq_W.ret rfl rfl rfl ⟨Jh38, _, rfl, by omega, by omega⟩
theorem ct_123 {X : pm_X} {d : Nat} {h : pm_H}  (hd : 1 ≤ d)  : ty_M X ty_Wc d 123 [.ref 0] h (ty_pi (-2147483648) 2147483647) := by
  intro J H hJ
  obtain ⟨d, rfl⟩ : ∃ e, d = e + 1 := ⟨d - 1, by omega⟩
  have I := H.1 h hJ
  refine hq_M.enter (q := (⟨"TrainBearers", "status", "()I"⟩, _, 1, some .int, 10, 1, pm_c123)) rfl rfl ?_
  show hq_W X d 10 false (some .int) pm_c123 (0, [some (.ref 0)], [], h) (fun h' v => J h' ∧ (ty_pi (-2147483648) 2147483647) h' v)
  refine hq_p rfl rfl ?_
  refine ty_gI I rfl rfl (by decide) (by decide) rfl rfl (fun z1 ez1 az1 bz1 => ?_)
  exact hq_W.ret rfl rfl rfl ⟨hJ, _, rfl, by omega, by omega⟩
end CT14
