/-! CONTRACTS (printed by wip/pm/cts.py) -/
section CT12
theorem ct_76 {X : pm_X} {d : Nat} {h : pm_H} {t0 : Nat} {x1 : Int32} {x2 : Int32} {x3 : Int32} (hd : 2 ≤ d) (ht0 : ty_tr t0) : ty_M X ty_Wc d 76 [.ref t0, .int x1, .int x2, .int x3] h ty_pv := by
  intro J H hJ
  obtain ⟨d, rfl⟩ : ∃ e, d = e + 1 := ⟨d - 1, by omega⟩
  have I := H.1 h hJ
  have lt0 := ty_trl ht0
  have ax1 := nm_lo x1
  have bx1 := nm_hi x1
  have ax2 := nm_lo x2
  have bx2 := nm_hi x2
  have ax3 := nm_lo x3
  have bx3 := nm_hi x3
  refine hq_M.enter (q := (⟨"TrainBearers$Train", "layLane", "(III)V"⟩, _, 4, none, 8, 4, pm_c76)) rfl rfl ?_
  show hq_W X d 8 false (none) pm_c76 (0, [some (.ref t0), some (.int x1), some (.int x2), some (.int x3)], [], h) (fun h' v => J h' ∧ ty_pv h' v)
  refine hq_p rfl rfl ?_
  refine ty_callp 1 I rfl (fun _ => rfl) rfl rfl rfl rfl (ct_128 (x0 := x1) (by omega)) (fun _ P1 => ?_)
  obtain ⟨z2, rfl, az2, bz2, iz2⟩ := P1
  refine ty_zeq rfl (fun c3 => ?_) (fun c3 => ?_)
  · clear iz2
    exact hq_W.ret rfl rfl rfl ⟨hJ, rfl⟩
  · replace c3 : 1 ≤ z2.toInt ∧ z2.toInt ≤ 1 := by omega
    have f4 := iz2 (by omega)
    clear iz2
    refine hq_p rfl rfl ?_
    refine ty_callp 1 I rfl (fun _ => rfl) rfl rfl rfl rfl (ct_128 (x0 := x2) (by omega)) (fun _ P5 => ?_)
    obtain ⟨z6, rfl, az6, bz6, iz6⟩ := P5
    refine ty_zeq rfl (fun c7 => ?_) (fun c7 => ?_)
    · clear iz6
      exact hq_W.ret rfl rfl rfl ⟨hJ, rfl⟩
    · replace c7 : 1 ≤ z6.toInt ∧ z6.toInt ≤ 1 := by omega
      have f8 := iz6 (by omega)
      clear iz6
      refine hq_p rfl rfl ?_
      refine hq_gR I.1 rfl (ty_trs ht0) (by omega) (by decide) rfl ?_
      refine hq_p rfl rfl ?_
      refine hq_p rfl rfl (ty_ge (n := 6) nk_b6 (fun z9 ez9 => ?_))
      refine hq_p rfl rfl (ty_ge (n := 6 * x1.toInt) (nm_mulc ez9 (by omega) (by omega)) (fun z10 ez10 => ?_))
      refine hq_p rfl rfl ?_
      refine hq_p rfl rfl (ty_ge (n := z10.toInt + x2.toInt) (nm_add (by omega) (by omega)) (fun z11 ez11 => ?_))
      refine hq_p rfl rfl ?_
      refine ty_aS (W := ty_Wc) H hJ rfl (ty_trs6 ht0) (by omega) (by omega) (by omega) (fun i e => by unfold ty_Wc; omega) (fun i _ => ty_eg (ty_tra6 ht0 i)) (by omega) (by omega) (fun e1 e2 w => by omega) (fun h12 eh12 Jh12 => ?_)
      have Ih12 := H.1 h12 Jh12
      refine hq_p rfl rfl ?_
      refine hq_gR Ih12.1 rfl (ty_trs ht0) (by omega) (by decide) rfl ?_
      refine hq_p rfl rfl ?_
      refine hq_p rfl rfl (ty_ge (n := 6) nk_b6 (fun z13 ez13 => ?_))
      refine hq_p rfl rfl (ty_ge (n := 6 * x2.toInt) (nm_mulc ez13 (by omega) (by omega)) (fun z14 ez14 => ?_))
      refine hq_p rfl rfl ?_
      refine hq_p rfl rfl (ty_ge (n := z14.toInt + x1.toInt) (nm_add (by omega) (by omega)) (fun z15 ez15 => ?_))
      refine hq_p rfl rfl ?_
      refine ty_aS (W := ty_Wc) H Jh12 rfl (ty_trs6 ht0) (by omega) (by omega) (by omega) (fun i e => by unfold ty_Wc; omega) (fun i _ => ty_eg (ty_tra6 ht0 i)) (by omega) (by omega) (fun e1 e2 w => by omega) (fun h16 eh16 Jh16 => ?_)
      have Ih16 := H.1 h16 Jh16
      exact hq_W.ret rfl rfl rfl ⟨Jh16, rfl⟩
theorem ct_134 {X : pm_X} {d : Nat} {h : pm_H} {x1 : Int32} {x2 : Int32} (hd : 5 ≤ d)  : ty_M X ty_Wc d 134 [.ref 0, .int x1, .int x2] h (ty_pi 0 1) := by
  intro J H hJ
  obtain ⟨d, rfl⟩ : ∃ e, d = e + 1 := ⟨d - 1, by omega⟩
  have I := H.1 h hJ
  have ax1 := nm_lo x1
  have bx1 := nm_hi x1
  have ax2 := nm_lo x2
  have bx2 := nm_hi x2
  refine hq_M.enter (q := (⟨"TrainBearers", "mayTake", "(II)Z"⟩, _, 3, some .boolean, 10, 3, pm_c134)) rfl rfl ?_
  show hq_W X d 10 false (some .boolean) pm_c134 (0, [some (.ref 0), some (.int x1), some (.int x2)], [], h) (fun h' v => J h' ∧ (ty_pi 0 1) h' v)
  refine hq_p rfl rfl ?_
  refine hq_p rfl rfl (ty_ge (n := -1) nk_im1 (fun z1 ez1 => ?_))
  refine ty_ieq rfl (fun c2 => ?_) (fun c2 => ?_)
  · refine hq_p rfl rfl (ty_ge (n := 1) nk_i1 (fun z3 ez3 => ?_))
    refine hq_p rfl rfl ?_
    exact ty_rB rfl rfl (by omega) (by omega) ⟨hJ, _, rfl, by omega, by omega⟩
  · clear c2
    refine hq_p rfl rfl ?_
    refine hq_gR I.1 rfl rfl (by decide) (by decide) rfl ?_
    refine hq_p rfl rfl ?_
    obtain ⟨t4, kt4⟩ : ∃ q, hs_fR h 0 0 = q := ⟨_, rfl⟩
    refine ty_gT I rfl rfl (by decide) (by decide) rfl kt4 (fun ot4 => ?_)
    have pt4 : ty_tr t4 := by rcases ot4 with rfl | rfl; exact Or.inl rfl; exact Or.inr (Or.inl rfl)
    have lt4 := ty_trl pt4
    clear ot4
    refine hq_p rfl rfl ?_
    refine hq_p rfl rfl ?_
    refine ty_callj 0 (W := ty_Wc) H hJ rfl (fun _ => rfl) rfl rfl rfl (hq_pre_o I.1 (x := 72) (ci := 4) rfl (by decide) rfl rfl rfl rfl) (fun a k w => by unfold ty_Wu at w; unfold ty_Wc; omega) (by unfold ty_Wu ty_Wc; omega) (ct_45 (t0 := 72) (t1 := t4) (x2 := x1) (x3 := x2) (by omega) (show ty_ru 72 by simp [ty_ru]) pt4) (fun h6 _ Jh6 P5 => ?_)
    have Ih6 := H.1 h6 Jh6
    obtain ⟨z7, rfl, az7, bz7⟩ := P5
    refine ty_zne rfl (fun c8 => ?_) (fun c8 => ?_)
    · replace c8 : 1 ≤ z7.toInt ∧ z7.toInt ≤ 1 := by omega
      refine hq_p rfl rfl (ty_ge (n := 0) nk_i0 (fun z9 ez9 => ?_))
      exact ty_rB rfl rfl (by omega) (by omega) ⟨Jh6, _, rfl, by omega, by omega⟩
    · refine hq_p rfl rfl (ty_ge (n := 1) nk_i1 (fun z10 ez10 => ?_))
      refine hq_p rfl rfl ?_
      exact ty_rB rfl rfl (by omega) (by omega) ⟨Jh6, _, rfl, by omega, by omega⟩
set_option maxRecDepth 8000 in
theorem ct_133 {X : pm_X} {d : Nat} {h : pm_H}  (hd : 7 ≤ d)  : ty_M X ty_Wc d 133 [.ref 0] h (ty_pi (-2147483648) 2147483646) := by
  intro J H hJ
  obtain ⟨d, rfl⟩ : ∃ e, d = e + 1 := ⟨d - 1, by omega⟩
  have I := H.1 h hJ
  refine hq_M.enter (q := (⟨"TrainBearers", "bestExchange", "()I"⟩, _, 5, some .int, 10, 1, pm_c133)) rfl rfl ?_
  show hq_W X d 10 false (some .int) pm_c133 (0, [some (.ref 0), none, none, none, none], [], h) (fun h' v => J h' ∧ (ty_pi (-2147483648) 2147483646) h' v)
  refine hq_p rfl rfl ?_
  obtain ⟨t1, kt1⟩ : ∃ q, hs_fR h 0 1 = q := ⟨_, rfl⟩
  refine ty_gT I rfl rfl (by decide) (by decide) rfl kt1 (fun ot1 => ?_)
  have pt1 : ty_tr t1 := by rcases ot1 with rfl | rfl; exact Or.inl rfl; exact Or.inr (Or.inl rfl)
  have lt1 := ty_trl pt1
  clear ot1
  refine hq_p rfl rfl ?_
  obtain ⟨t2, kt2⟩ : ∃ q, hs_fR h 0 0 = q := ⟨_, rfl⟩
  refine ty_gT I rfl rfl (by decide) (by decide) rfl kt2 (fun ot2 => ?_)
  have pt2 : ty_tr t2 := by rcases ot2 with rfl | rfl; exact Or.inl rfl; exact Or.inr (Or.inl rfl)
  have lt2 := ty_trl pt2
  clear ot2
  refine ty_callj 0 (W := ty_Wc) H hJ rfl (fun _ => rfl) rfl rfl rfl (hq_pre_o I.1 (x := t1) (ci := 8) (ty_trs pt1) (by omega) rfl rfl rfl rfl) (fun _ _ w => w) (fun _ w => w) (ct_68 (t0 := t1) (t1 := t2) (by omega) pt1 pt2) (fun h4 _ Jh4 P3 => ?_)
  have Ih4 := H.1 h4 Jh4
  subst P3
  refine hq_p rfl rfl ?_
  refine hq_gR Ih4.1 rfl rfl (by decide) (by decide) rfl ?_
  refine hq_p rfl rfl ?_
  obtain ⟨t5, kt5⟩ : ∃ q, hs_fR h4 0 0 = q := ⟨_, rfl⟩
  refine ty_gT Ih4 rfl rfl (by decide) (by decide) rfl kt5 (fun ot5 => ?_)
  have pt5 : ty_tr t5 := by rcases ot5 with rfl | rfl; exact Or.inl rfl; exact Or.inr (Or.inl rfl)
  have lt5 := ty_trl pt5
  clear ot5
  refine ty_callj 0 (W := ty_Wc) H Jh4 rfl (fun _ => rfl) rfl rfl rfl (hq_pre_o Ih4.1 (x := 72) (ci := 4) rfl (by decide) rfl rfl rfl rfl) (fun a k w => by unfold ty_Wu at w; unfold ty_Wc; omega) (by unfold ty_Wu ty_Wc; omega) (ct_49 (t0 := 72) (t1 := t5) (by omega) (show ty_ru 72 by simp [ty_ru]) pt5) (fun h7 _ Jh7 P6 => ?_)
  have Ih7 := H.1 h7 Jh7
  obtain ⟨z8, rfl, az8, bz8⟩ := P6
  refine hq_p rfl rfl (ty_ge (n := 100) nk_b100 (fun z9 ez9 => ?_))
  refine hq_p rfl rfl (ty_ga (fun z10 az10 bz10 => ?_))
  refine hq_p (ls' := [some (.ref 0), some (.int z10), none, none, none]) rfl rfl ?_
  refine hq_p rfl rfl ?_
  refine hq_p (ls' := [some (.ref 0), some (.int z10), some (.int z10), none, none]) rfl rfl ?_
  refine hq_p rfl rfl (ty_ge (n := 0) nk_i0 (fun z11 ez11 => ?_))
  refine hq_p (ls' := [some (.ref 0), some (.int z10), some (.int z10), some (.int z11), none]) rfl rfl ?_
  have L30_n56 : ∀ n56 : Nat, ∀ (y48 : Int32) (y49 : Int32) (w50 : Option Value) (h51 : pm_H), (8 - y49.toInt).toNat = n56 → -2147483648 ≤ y48.toInt → y48.toInt ≤ 2147483647 → 0 ≤ y49.toInt → y49.toInt ≤ 8 → pm_two w50 = false → J h51 → hq_W X d 10 false (some .int) pm_c133 (30, [some (.ref 0), some (.int z10), some (.int y48), some (.int y49), w50], [], h51) (fun h' v => J h' ∧ (ty_pi (-2147483648) 2147483646) h' v) := by
    intro n56
    induction n56 using Nat.strongRecOn with
    | ind n56 ihn56 =>
      intro y48 y49 w50 h51 mn56 ay48 by48 ay49 by49 kw50 Jh51
      have Ih51 := H.1 h51 Jh51
      refine hq_p rfl rfl ?_
      refine hq_p rfl rfl ?_
      obtain ⟨t57, kt57⟩ : ∃ q, hs_fR h51 0 0 = q := ⟨_, rfl⟩
      refine ty_gT Ih51 rfl rfl (by decide) (by decide) rfl kt57 (fun ot57 => ?_)
      have pt57 : ty_tr t57 := by rcases ot57 with rfl | rfl; exact Or.inl rfl; exact Or.inr (Or.inl rfl)
      have lt57 := ty_trl pt57
      clear ot57
      refine ty_gI Ih51 rfl (ty_trs pt57) (by omega) (by decide) rfl (ty_trf pt57 3) (fun z58 ez58 az58 bz58 => ?_)
      refine ty_ige rfl (fun c59 => ?_) (fun c59 => ?_)
      · refine hq_p rfl rfl ?_
        refine hq_p rfl rfl ?_
        refine ty_ige rfl (fun c60 => ?_) (fun c60 => ?_)
        · refine hq_p rfl rfl (ty_ge (n := -1) nk_im1 (fun z61 ez61 => ?_))
          exact hq_W.ret rfl rfl rfl ⟨Jh51, _, rfl, by omega, by omega⟩
        · refine hq_p rfl rfl ?_
          refine hq_p rfl rfl ?_
          exact hq_W.ret rfl rfl rfl ⟨Jh51, _, rfl, by omega, by omega⟩
      · refine hq_p rfl rfl ?_
        refine hq_p rfl rfl (ty_ge (n := 1) nk_i1 (fun z62 ez62 => ?_))
        refine hq_p rfl rfl (ty_ge (n := y49.toInt + z62.toInt) (nm_add (by omega) (by omega)) (fun z63 ez63 => ?_))
        refine hq_p (ls' := [some (.ref 0), some (.int z10), some (.int y48), some (.int y49), some (.int z63)]) rfl rfl ?_
        have L46_n73 : ∀ n73 : Nat, ∀ (y67 : Int32) (y68 : Int32) (h69 : pm_H), (8 - y68.toInt).toNat = n73 → -2147483648 ≤ y67.toInt → y67.toInt ≤ 2147483647 → 1 ≤ y68.toInt → y68.toInt ≤ 8 → J h69 → hq_W X d 10 false (some .int) pm_c133 (46, [some (.ref 0), some (.int z10), some (.int y67), some (.int y49), some (.int y68)], [], h69) (fun h' v => J h' ∧ (ty_pi (-2147483648) 2147483646) h' v) := by
          intro n73
          induction n73 using Nat.strongRecOn with
          | ind n73 ihn73 =>
            intro y67 y68 h69 mn73 ay67 by67 ay68 by68 Jh69
            have Ih69 := H.1 h69 Jh69
            refine hq_p rfl rfl ?_
            refine hq_p rfl rfl ?_
            obtain ⟨t74, kt74⟩ : ∃ q, hs_fR h69 0 0 = q := ⟨_, rfl⟩
            refine ty_gT Ih69 rfl rfl (by decide) (by decide) rfl kt74 (fun ot74 => ?_)
            have pt74 : ty_tr t74 := by rcases ot74 with rfl | rfl; exact Or.inl rfl; exact Or.inr (Or.inl rfl)
            have lt74 := ty_trl pt74
            clear ot74
            refine ty_gI Ih69 rfl (ty_trs pt74) (by omega) (by decide) rfl (ty_trf pt74 3) (fun z75 ez75 az75 bz75 => ?_)
            refine ty_ige rfl (fun c76 => ?_) (fun c76 => ?_)
            · refine ty_inc (ls' := fun z77 => [some (.ref 0), some (.int z10), some (.int y67), some (.int z77), some (.int y68)]) rfl rfl (fun _ => rfl) (nm_addc nk_i1 (by omega) (by omega)) (fun z77 ez77 => ?_)
              refine hq_p rfl rfl ?_
              exact ihn56 ((8 - z77.toInt).toNat) (by omega) y67 z77 (some (.int y68)) h69 rfl (by omega) (by omega) (by omega) (by omega) rfl Jh69
            · refine hq_p rfl rfl ?_
              refine ty_gT Ih69 rfl rfl (by decide) (by decide) rfl kt74 (fun ot74 => ?_)
              clear ot74
              refine hq_gR Ih69.1 rfl (ty_trs pt74) (by omega) (by decide) rfl ?_
              refine hq_p rfl rfl ?_
              refine ty_aL Ih69 rfl (ty_trs5 pt74) (by omega) (by omega) (by omega) (fun i _ => ty_le (ty_tra5 pt74 i)) (fun z78 ez78 az78 bz78 => ?_)
              refine hq_p rfl rfl ?_
              refine ty_gT Ih69 rfl rfl (by decide) (by decide) rfl kt74 (fun ot74 => ?_)
              clear ot74
              refine hq_gR Ih69.1 rfl (ty_trs pt74) (by omega) (by decide) rfl ?_
              refine hq_p rfl rfl ?_
              refine ty_aL Ih69 rfl (ty_trs5 pt74) (by omega) (by omega) (by omega) (fun i _ => ty_le (ty_tra5 pt74 i)) (fun z79 ez79 az79 bz79 => ?_)
              refine ty_ieq rfl (fun c80 => ?_) (fun c80 => ?_)
              · refine ty_inc (ls' := fun z81 => [some (.ref 0), some (.int z10), some (.int y67), some (.int y49), some (.int z81)]) rfl rfl (fun _ => rfl) (nm_addc nk_i1 (by omega) (by omega)) (fun z81 ez81 => ?_)
                refine hq_p rfl rfl ?_
                exact ihn73 ((8 - z81.toInt).toNat) (by omega) y67 z81 h69 rfl (by omega) (by omega) (by omega) (by omega) Jh69
              · clear c80
                refine hq_p rfl rfl ?_
                refine hq_p rfl rfl ?_
                refine hq_p rfl rfl ?_
                refine ty_gT Ih69 rfl rfl (by decide) (by decide) rfl kt74 (fun ot74 => ?_)
                clear ot74
                refine hq_gR Ih69.1 rfl (ty_trs pt74) (by omega) (by decide) rfl ?_
                refine hq_p rfl rfl ?_
                refine ty_aL Ih69 rfl (ty_trs5 pt74) (by omega) (by omega) (by omega) (fun i _ => ty_le (ty_tra5 pt74 i)) (fun z82 ez82 az82 bz82 => ?_)
                refine ty_callj 0 (W := ty_Wc) H Jh69 rfl (fun _ => rfl) rfl rfl rfl (hq_pre_o Ih69.1 (x := 0) (ci := 10) rfl (by decide) rfl rfl rfl rfl) (fun _ _ w => w) (fun _ w => w) (ct_134 (x1 := y49) (x2 := z82) (by omega)) (fun h84 _ Jh84 P83 => ?_)
                have Ih84 := H.1 h84 Jh84
                obtain ⟨z85, rfl, az85, bz85⟩ := P83
                refine ty_zeq rfl (fun c86 => ?_) (fun c86 => ?_)
                · refine ty_inc (ls' := fun z87 => [some (.ref 0), some (.int z10), some (.int y67), some (.int y49), some (.int z87)]) rfl rfl (fun _ => rfl) (nm_addc nk_i1 (by omega) (by omega)) (fun z87 ez87 => ?_)
                  refine hq_p rfl rfl ?_
                  exact ihn73 ((8 - z87.toInt).toNat) (by omega) y67 z87 h84 rfl (by omega) (by omega) (by omega) (by omega) Jh84
                · replace c86 : 1 ≤ z85.toInt ∧ z85.toInt ≤ 1 := by omega
                  refine hq_p rfl rfl ?_
                  refine hq_p rfl rfl ?_
                  refine hq_p rfl rfl ?_
                  obtain ⟨t88, kt88⟩ : ∃ q, hs_fR h84 0 0 = q := ⟨_, rfl⟩
                  refine ty_gT Ih84 rfl rfl (by decide) (by decide) rfl kt88 (fun ot88 => ?_)
                  have pt88 : ty_tr t88 := by rcases ot88 with rfl | rfl; exact Or.inl rfl; exact Or.inr (Or.inl rfl)
                  have lt88 := ty_trl pt88
                  clear ot88
                  refine hq_gR Ih84.1 rfl (ty_trs pt88) (by omega) (by decide) rfl ?_
                  refine hq_p rfl rfl ?_
                  refine ty_aL Ih84 rfl (ty_trs5 pt88) (by omega) (by omega) (by omega) (fun i _ => ty_le (ty_tra5 pt88 i)) (fun z89 ez89 az89 bz89 => ?_)
                  refine ty_callj 0 (W := ty_Wc) H Jh84 rfl (fun _ => rfl) rfl rfl rfl (hq_pre_o Ih84.1 (x := 0) (ci := 10) rfl (by decide) rfl rfl rfl rfl) (fun _ _ w => w) (fun _ w => w) (ct_134 (x1 := y68) (x2 := z89) (by omega)) (fun h91 _ Jh91 P90 => ?_)
                  have Ih91 := H.1 h91 Jh91
                  obtain ⟨z92, rfl, az92, bz92⟩ := P90
                  refine ty_zeq rfl (fun c93 => ?_) (fun c93 => ?_)
                  · refine ty_inc (ls' := fun z94 => [some (.ref 0), some (.int z10), some (.int y67), some (.int y49), some (.int z94)]) rfl rfl (fun _ => rfl) (nm_addc nk_i1 (by omega) (by omega)) (fun z94 ez94 => ?_)
                    refine hq_p rfl rfl ?_
                    exact ihn73 ((8 - z94.toInt).toNat) (by omega) y67 z94 h91 rfl (by omega) (by omega) (by omega) (by omega) Jh91
                  · replace c93 : 1 ≤ z92.toInt ∧ z92.toInt ≤ 1 := by omega
                    refine hq_p rfl rfl ?_
                    obtain ⟨t95, kt95⟩ : ∃ q, hs_fR h91 0 1 = q := ⟨_, rfl⟩
                    refine ty_gT Ih91 rfl rfl (by decide) (by decide) rfl kt95 (fun ot95 => ?_)
                    have pt95 : ty_tr t95 := by rcases ot95 with rfl | rfl; exact Or.inl rfl; exact Or.inr (Or.inl rfl)
                    have lt95 := ty_trl pt95
                    clear ot95
                    refine hq_gR Ih91.1 rfl (ty_trs pt95) (by omega) (by decide) rfl ?_
                    refine hq_p rfl rfl ?_
                    refine hq_p rfl rfl ?_
                    obtain ⟨t96, kt96⟩ : ∃ q, hs_fR h91 0 0 = q := ⟨_, rfl⟩
                    refine ty_gT Ih91 rfl rfl (by decide) (by decide) rfl kt96 (fun ot96 => ?_)
                    have pt96 : ty_tr t96 := by rcases ot96 with rfl | rfl; exact Or.inl rfl; exact Or.inr (Or.inl rfl)
                    have lt96 := ty_trl pt96
                    clear ot96
                    refine hq_gR Ih91.1 rfl (ty_trs pt96) (by omega) (by decide) rfl ?_
                    refine hq_p rfl rfl ?_
                    refine ty_aL Ih91 rfl (ty_trs5 pt96) (by omega) (by omega) (by omega) (fun i _ => ty_le (ty_tra5 pt96 i)) (fun z97 ez97 az97 bz97 => ?_)
                    refine ty_aS (W := ty_Wc) H Jh91 rfl (ty_trs5 pt95) (by omega) (by omega) (by omega) (fun i e => by unfold ty_Wc; omega) (fun i _ => ty_eg (ty_tra5 pt95 i)) (by omega) (by omega) (fun e1 e2 w => by omega) (fun h98 eh98 Jh98 => ?_)
                    have Ih98 := H.1 h98 Jh98
                    refine hq_p rfl rfl ?_
                    have r99 : hs_fR h98 0 1 = t95 := by rw [eh98]; exact (ty_fR_ne (by omega)).trans kt95
                    refine ty_gT Ih98 rfl rfl (by decide) (by decide) rfl r99 (fun ot95 => ?_)
                    clear ot95
                    refine hq_gR Ih98.1 rfl (ty_trs pt95) (by omega) (by decide) rfl ?_
                    refine hq_p rfl rfl ?_
                    refine hq_p rfl rfl ?_
                    have r100 : hs_fR h98 0 0 = t96 := by rw [eh98]; exact (ty_fR_ne (by omega)).trans kt96
                    refine ty_gT Ih98 rfl rfl (by decide) (by decide) rfl r100 (fun ot96 => ?_)
                    clear ot96
                    refine hq_gR Ih98.1 rfl (ty_trs pt96) (by omega) (by decide) rfl ?_
                    refine hq_p rfl rfl ?_
                    refine ty_aL Ih98 rfl (ty_trs5 pt96) (by omega) (by omega) (by omega) (fun i _ => ty_le (ty_tra5 pt96 i)) (fun z101 ez101 az101 bz101 => ?_)
                    refine ty_aS (W := ty_Wc) H Jh98 rfl (ty_trs5 pt95) (by omega) (by omega) (by omega) (fun i e => by unfold ty_Wc; omega) (fun i _ => ty_eg (ty_tra5 pt95 i)) (by omega) (by omega) (fun e1 e2 w => by omega) (fun h102 eh102 Jh102 => ?_)
                    have Ih102 := H.1 h102 Jh102
                    refine hq_p rfl rfl ?_
                    refine hq_p rfl rfl ?_
                    refine hq_gR Ih102.1 rfl rfl (by decide) (by decide) rfl ?_
                    refine hq_p rfl rfl ?_
                    have r103 : hs_fR h102 0 1 = t95 := by rw [eh102]; exact (ty_fR_ne (by omega)).trans r99
                    refine ty_gT Ih102 rfl rfl (by decide) (by decide) rfl r103 (fun ot95 => ?_)
                    clear ot95
                    refine ty_callj 0 (W := ty_Wc) H Jh102 rfl (fun _ => rfl) rfl rfl rfl (hq_pre_o Ih102.1 (x := 72) (ci := 4) rfl (by decide) rfl rfl rfl rfl) (fun a k w => by unfold ty_Wu at w; unfold ty_Wc; omega) (by unfold ty_Wu ty_Wc; omega) (ct_49 (t0 := 72) (t1 := t95) (by omega) (show ty_ru 72 by simp [ty_ru]) pt95) (fun h105 _ Jh105 P104 => ?_)
                    have Ih105 := H.1 h105 Jh105
                    obtain ⟨z106, rfl, az106, bz106⟩ := P104
                    refine hq_p rfl rfl (ty_ge (n := 100) nk_b100 (fun z107 ez107 => ?_))
                    refine hq_p rfl rfl (ty_ga (fun z108 az108 bz108 => ?_))
                    refine hq_p rfl rfl (ty_ge (n := 10) nk_b10 (fun z109 ez109 => ?_))
                    refine hq_p rfl rfl ?_
                    refine hq_p rfl rfl (ty_ge (n := 10 * y49.toInt) (nm_cmul ez109 (by omega) (by omega)) (fun z110 ez110 => ?_))
                    refine hq_p rfl rfl (ty_ga (fun z111 az111 bz111 => ?_))
                    refine hq_p rfl rfl ?_
                    refine hq_p rfl rfl (ty_ga (fun z112 az112 bz112 => ?_))
                    refine ty_callp 1 Ih105 rfl (fun _ => rfl) rfl rfl rfl rfl (ct_259 (x0 := y67) (x1 := z112) (by omega)) (fun _ P113 => ?_)
                    obtain ⟨z114, rfl, fz114, dz114, oz114⟩ := P113
                    have iz114 : -2147483648 ≤ z114.toInt ∧ z114.toInt ≤ 2147483647 := by omega
                    clear oz114
                    refine hq_p (ls' := [some (.ref 0), some (.int z10), some (.int z114), some (.int y49), some (.int y68)]) rfl rfl ?_
                    refine hq_p rfl rfl ?_
                    obtain ⟨t115, kt115⟩ : ∃ q, hs_fR h105 0 1 = q := ⟨_, rfl⟩
                    refine ty_gT Ih105 rfl rfl (by decide) (by decide) rfl kt115 (fun ot115 => ?_)
                    have pt115 : ty_tr t115 := by rcases ot115 with rfl | rfl; exact Or.inl rfl; exact Or.inr (Or.inl rfl)
                    have lt115 := ty_trl pt115
                    clear ot115
                    refine hq_gR Ih105.1 rfl (ty_trs pt115) (by omega) (by decide) rfl ?_
                    refine hq_p rfl rfl ?_
                    refine hq_p rfl rfl ?_
                    obtain ⟨t116, kt116⟩ : ∃ q, hs_fR h105 0 0 = q := ⟨_, rfl⟩
                    refine ty_gT Ih105 rfl rfl (by decide) (by decide) rfl kt116 (fun ot116 => ?_)
                    have pt116 : ty_tr t116 := by rcases ot116 with rfl | rfl; exact Or.inl rfl; exact Or.inr (Or.inl rfl)
                    have lt116 := ty_trl pt116
                    clear ot116
                    refine hq_gR Ih105.1 rfl (ty_trs pt116) (by omega) (by decide) rfl ?_
                    refine hq_p rfl rfl ?_
                    refine ty_aL Ih105 rfl (ty_trs5 pt116) (by omega) (by omega) (by omega) (fun i _ => ty_le (ty_tra5 pt116 i)) (fun z117 ez117 az117 bz117 => ?_)
                    refine ty_aS (W := ty_Wc) H Jh105 rfl (ty_trs5 pt115) (by omega) (by omega) (by omega) (fun i e => by unfold ty_Wc; omega) (fun i _ => ty_eg (ty_tra5 pt115 i)) (by omega) (by omega) (fun e1 e2 w => by omega) (fun h118 eh118 Jh118 => ?_)
                    have Ih118 := H.1 h118 Jh118
                    refine hq_p rfl rfl ?_
                    have r119 : hs_fR h118 0 1 = t115 := by rw [eh118]; exact (ty_fR_ne (by omega)).trans kt115
                    refine ty_gT Ih118 rfl rfl (by decide) (by decide) rfl r119 (fun ot115 => ?_)
                    clear ot115
                    refine hq_gR Ih118.1 rfl (ty_trs pt115) (by omega) (by decide) rfl ?_
                    refine hq_p rfl rfl ?_
                    refine hq_p rfl rfl ?_
                    have r120 : hs_fR h118 0 0 = t116 := by rw [eh118]; exact (ty_fR_ne (by omega)).trans kt116
                    refine ty_gT Ih118 rfl rfl (by decide) (by decide) rfl r120 (fun ot116 => ?_)
                    clear ot116
                    refine hq_gR Ih118.1 rfl (ty_trs pt116) (by omega) (by decide) rfl ?_
                    refine hq_p rfl rfl ?_
                    refine ty_aL Ih118 rfl (ty_trs5 pt116) (by omega) (by omega) (by omega) (fun i _ => ty_le (ty_tra5 pt116 i)) (fun z121 ez121 az121 bz121 => ?_)
                    refine ty_aS (W := ty_Wc) H Jh118 rfl (ty_trs5 pt115) (by omega) (by omega) (by omega) (fun i e => by unfold ty_Wc; omega) (fun i _ => ty_eg (ty_tra5 pt115 i)) (by omega) (by omega) (fun e1 e2 w => by omega) (fun h122 eh122 Jh122 => ?_)
                    have Ih122 := H.1 h122 Jh122
                    refine ty_inc (ls' := fun z123 => [some (.ref 0), some (.int z10), some (.int z114), some (.int y49), some (.int z123)]) rfl rfl (fun _ => rfl) (nm_addc nk_i1 (by omega) (by omega)) (fun z123 ez123 => ?_)
                    refine hq_p rfl rfl ?_
                    exact ihn73 ((8 - z123.toInt).toNat) (by omega) z114 z123 h122 rfl (by omega) (by omega) (by omega) (by omega) Jh122
        exact L46_n73 _ y48 z63 h51 rfl (by omega) (by omega) (by omega) (by omega) Jh51
  exact L30_n56 _ z10 z11 none h7 rfl (by omega) (by omega) (by omega) (by omega) rfl Jh7
theorem ct_131 {X : pm_X} {d : Nat} {h : pm_H} {x1 : Int32} (hd : 3 ≤ d) (ax1 : 0 ≤ x1.toInt) (bx1 : x1.toInt ≤ 400) : ty_M X ty_Wc d 131 [.ref 0, .int x1] h (ty_pi 0 1) := by
  intro J H hJ
  obtain ⟨d, rfl⟩ : ∃ e, d = e + 1 := ⟨d - 1, by omega⟩
  have I := H.1 h hJ
  refine hq_M.enter (q := (⟨"TrainBearers", "layTold", "(I)Z"⟩, _, 3, some .boolean, 10, 2, pm_c131)) rfl rfl ?_
  show hq_W X d 10 false (some .boolean) pm_c131 (0, [some (.ref 0), some (.int x1), none], [], h) (fun h' v => J h' ∧ (ty_pi 0 1) h' v)
  refine hq_p rfl rfl ?_
  refine hq_p rfl rfl (ty_ge (n := 2) nk_i2 (fun z1 ez1 => ?_))
  refine hq_p rfl rfl (ty_ge (n := x1.toInt + z1.toInt) (nm_add (by omega) (by omega)) (fun z2 ez2 => ?_))
  refine hq_p rfl rfl ?_
  refine hq_gR I.1 rfl rfl (by decide) (by decide) rfl ?_
  refine ty_gI I rfl rfl (by decide) (by decide) rfl rfl (fun z3 ez3 az3 bz3 => ?_)
  refine ty_ilt rfl (fun c4 => ?_) (fun c4 => ?_)
  · refine hq_p rfl rfl ?_
    refine hq_gR I.1 rfl rfl (by decide) (by decide) rfl ?_
    refine hq_gR I.1 rfl rfl (by decide) (by decide) rfl ?_
    refine hq_p rfl rfl ?_
    refine hq_p rfl rfl (ty_ge (n := 2) nk_i2 (fun z5 ez5 => ?_))
    refine hq_p rfl rfl (ty_ge (n := x1.toInt + z5.toInt) (nm_add (by omega) (by omega)) (fun z6 ez6 => ?_))
    refine ty_aL I rfl rfl (by decide) (by omega) (by omega) (fun _ _ => ty_le rfl) (fun z7 ez7 az7 bz7 => ?_)
    refine hq_p rfl rfl (ty_ge (n := 255) nk_s255 (fun z8 ez8 => ?_))
    refine ty_ine rfl (fun c9 => ?_) (fun c9 => ?_)
    · clear c9
      refine hq_p rfl rfl ?_
      refine hq_gR I.1 rfl rfl (by decide) (by decide) rfl ?_
      refine hq_gR I.1 rfl rfl (by decide) (by decide) rfl ?_
      refine hq_p rfl rfl ?_
      refine hq_p rfl rfl (ty_ge (n := 2) nk_i2 (fun z10 ez10 => ?_))
      refine hq_p rfl rfl (ty_ge (n := x1.toInt + z10.toInt) (nm_add (by omega) (by omega)) (fun z11 ez11 => ?_))
      refine ty_aL I rfl rfl (by decide) (by omega) (by omega) (fun _ _ => ty_le rfl) (fun z12 ez12 az12 bz12 => ?_)
      refine hq_p (ls' := [some (.ref 0), some (.int x1), some (.int z12)]) rfl rfl ?_
      refine hq_p rfl rfl ?_
      refine hq_gR I.1 rfl rfl (by decide) (by decide) rfl ?_
      refine hq_gR I.1 rfl rfl (by decide) (by decide) rfl ?_
      refine hq_p rfl rfl ?_
      refine ty_aL I rfl rfl (by decide) (by omega) (by omega) (fun _ _ => ty_le rfl) (fun z13 ez13 az13 bz13 => ?_)
      refine hq_p rfl rfl ?_
      refine hq_gR I.1 rfl rfl (by decide) (by decide) rfl ?_
      refine hq_gR I.1 rfl rfl (by decide) (by decide) rfl ?_
      refine hq_p rfl rfl ?_
      refine hq_p rfl rfl (ty_ge (n := 1) nk_i1 (fun z14 ez14 => ?_))
      refine hq_p rfl rfl (ty_ge (n := x1.toInt + z14.toInt) (nm_add (by omega) (by omega)) (fun z15 ez15 => ?_))
      refine ty_aL I rfl rfl (by decide) (by omega) (by omega) (fun _ _ => ty_le rfl) (fun z16 ez16 az16 bz16 => ?_)
      refine hq_p rfl rfl ?_
      refine ty_callp 1 I rfl (fun _ => rfl) rfl rfl rfl rfl (ct_129 (x0 := z13) (x1 := z16) (x2 := z12) (by omega)) (fun _ P17 => ?_)
      obtain ⟨z18, rfl, az18, bz18, iz18⟩ := P17
      refine ty_zne rfl (fun c19 => ?_) (fun c19 => ?_)
      · replace c19 : 1 ≤ z18.toInt ∧ z18.toInt ≤ 1 := by omega
        have f20 := iz18 (by omega)
        clear iz18
        refine hq_p rfl rfl ?_
        obtain ⟨t21, kt21⟩ : ∃ q, hs_fR h 0 0 = q := ⟨_, rfl⟩
        refine ty_gT I rfl rfl (by decide) (by decide) rfl kt21 (fun ot21 => ?_)
        have pt21 : ty_tr t21 := by rcases ot21 with rfl | rfl; exact Or.inl rfl; exact Or.inr (Or.inl rfl)
        have lt21 := ty_trl pt21
        clear ot21
        refine hq_p rfl rfl ?_
        refine hq_gR I.1 rfl rfl (by decide) (by decide) rfl ?_
        refine hq_gR I.1 rfl rfl (by decide) (by decide) rfl ?_
        refine hq_p rfl rfl ?_
        refine ty_aL I rfl rfl (by decide) (by omega) (by omega) (fun _ _ => ty_le rfl) (fun z22 ez22 az22 bz22 => ?_)
        refine hq_p rfl rfl ?_
        refine hq_gR I.1 rfl rfl (by decide) (by decide) rfl ?_
        refine hq_gR I.1 rfl rfl (by decide) (by decide) rfl ?_
        refine hq_p rfl rfl ?_
        refine hq_p rfl rfl (ty_ge (n := 1) nk_i1 (fun z23 ez23 => ?_))
        refine hq_p rfl rfl (ty_ge (n := x1.toInt + z23.toInt) (nm_add (by omega) (by omega)) (fun z24 ez24 => ?_))
        refine ty_aL I rfl rfl (by decide) (by omega) (by omega) (fun _ _ => ty_le rfl) (fun z25 ez25 az25 bz25 => ?_)
        refine hq_p rfl rfl ?_
        refine ty_callj 0 (W := ty_Wc) H hJ rfl (fun _ => rfl) rfl rfl rfl (hq_pre_o I.1 (x := t21) (ci := 8) (ty_trs pt21) (by omega) rfl rfl rfl rfl) (fun _ _ w => w) (fun _ w => w) (ct_76 (t0 := t21) (x1 := z22) (x2 := z25) (x3 := z12) (by omega) pt21) (fun h27 _ Jh27 P26 => ?_)
        have Ih27 := H.1 h27 Jh27
        subst P26
        refine hq_p rfl rfl (ty_ge (n := 1) nk_i1 (fun z28 ez28 => ?_))
        exact ty_rB rfl rfl (by omega) (by omega) ⟨Jh27, _, rfl, by omega, by omega⟩
      · clear iz18
        refine hq_p rfl rfl (ty_ge (n := 0) nk_i0 (fun z29 ez29 => ?_))
        exact ty_rB rfl rfl (by omega) (by omega) ⟨hJ, _, rfl, by omega, by omega⟩
    · refine hq_p rfl rfl (ty_ge (n := -1) nk_im1 (fun z30 ez30 => ?_))
      refine hq_p rfl rfl ?_
      refine hq_p (ls' := [some (.ref 0), some (.int x1), some (.int z30)]) rfl rfl ?_
      refine hq_p rfl rfl ?_
      refine hq_gR I.1 rfl rfl (by decide) (by decide) rfl ?_
      refine hq_gR I.1 rfl rfl (by decide) (by decide) rfl ?_
      refine hq_p rfl rfl ?_
      refine ty_aL I rfl rfl (by decide) (by omega) (by omega) (fun _ _ => ty_le rfl) (fun z31 ez31 az31 bz31 => ?_)
      refine hq_p rfl rfl ?_
      refine hq_gR I.1 rfl rfl (by decide) (by decide) rfl ?_
      refine hq_gR I.1 rfl rfl (by decide) (by decide) rfl ?_
      refine hq_p rfl rfl ?_
      refine hq_p rfl rfl (ty_ge (n := 1) nk_i1 (fun z32 ez32 => ?_))
      refine hq_p rfl rfl (ty_ge (n := x1.toInt + z32.toInt) (nm_add (by omega) (by omega)) (fun z33 ez33 => ?_))
      refine ty_aL I rfl rfl (by decide) (by omega) (by omega) (fun _ _ => ty_le rfl) (fun z34 ez34 az34 bz34 => ?_)
      refine hq_p rfl rfl ?_
      refine ty_callp 1 I rfl (fun _ => rfl) rfl rfl rfl rfl (ct_129 (x0 := z31) (x1 := z34) (x2 := z30) (by omega)) (fun _ P35 => ?_)
      obtain ⟨z36, rfl, az36, bz36, iz36⟩ := P35
      refine ty_zne rfl (fun c37 => ?_) (fun c37 => ?_)
      · replace c37 : 1 ≤ z36.toInt ∧ z36.toInt ≤ 1 := by omega
        have f38 := iz36 (by omega)
        clear iz36
        refine hq_p rfl rfl ?_
        obtain ⟨t39, kt39⟩ : ∃ q, hs_fR h 0 0 = q := ⟨_, rfl⟩
        refine ty_gT I rfl rfl (by decide) (by decide) rfl kt39 (fun ot39 => ?_)
        have pt39 : ty_tr t39 := by rcases ot39 with rfl | rfl; exact Or.inl rfl; exact Or.inr (Or.inl rfl)
        have lt39 := ty_trl pt39
        clear ot39
        refine hq_p rfl rfl ?_
        refine hq_gR I.1 rfl rfl (by decide) (by decide) rfl ?_
        refine hq_gR I.1 rfl rfl (by decide) (by decide) rfl ?_
        refine hq_p rfl rfl ?_
        refine ty_aL I rfl rfl (by decide) (by omega) (by omega) (fun _ _ => ty_le rfl) (fun z40 ez40 az40 bz40 => ?_)
        refine hq_p rfl rfl ?_
        refine hq_gR I.1 rfl rfl (by decide) (by decide) rfl ?_
        refine hq_gR I.1 rfl rfl (by decide) (by decide) rfl ?_
        refine hq_p rfl rfl ?_
        refine hq_p rfl rfl (ty_ge (n := 1) nk_i1 (fun z41 ez41 => ?_))
        refine hq_p rfl rfl (ty_ge (n := x1.toInt + z41.toInt) (nm_add (by omega) (by omega)) (fun z42 ez42 => ?_))
        refine ty_aL I rfl rfl (by decide) (by omega) (by omega) (fun _ _ => ty_le rfl) (fun z43 ez43 az43 bz43 => ?_)
        refine hq_p rfl rfl ?_
        refine ty_callj 0 (W := ty_Wc) H hJ rfl (fun _ => rfl) rfl rfl rfl (hq_pre_o I.1 (x := t39) (ci := 8) (ty_trs pt39) (by omega) rfl rfl rfl rfl) (fun _ _ w => w) (fun _ w => w) (ct_76 (t0 := t39) (x1 := z40) (x2 := z43) (x3 := z30) (by omega) pt39) (fun h45 _ Jh45 P44 => ?_)
        have Ih45 := H.1 h45 Jh45
        subst P44
        refine hq_p rfl rfl (ty_ge (n := 1) nk_i1 (fun z46 ez46 => ?_))
        exact ty_rB rfl rfl (by omega) (by omega) ⟨Jh45, _, rfl, by omega, by omega⟩
      · clear iz36
        refine hq_p rfl rfl (ty_ge (n := 0) nk_i0 (fun z47 ez47 => ?_))
        exact ty_rB rfl rfl (by omega) (by omega) ⟨hJ, _, rfl, by omega, by omega⟩
  · refine hq_p rfl rfl (ty_ge (n := 0) nk_i0 (fun z48 ez48 => ?_))
    exact ty_rB rfl rfl (by omega) (by omega) ⟨hJ, _, rfl, by omega, by omega⟩
theorem ct_83 {X : pm_X} {d : Nat} {h : pm_H} {x1 : Int32} (hd : 2 ≤ d)  : ty_M X ty_Wc d 83 [.ref 0, .int x1] h (ty_pi (-5) 7) := by
  intro J H hJ
  obtain ⟨d, rfl⟩ : ∃ e, d = e + 1 := ⟨d - 1, by omega⟩
  have I := H.1 h hJ
  have ax1 := nm_lo x1
  have bx1 := nm_hi x1
  refine hq_M.enter (q := (⟨"TrainBearers", "yard", "(I)I"⟩, _, 2, some .int, 10, 2, pm_c83)) rfl rfl ?_
  show hq_W X d 10 false (some .int) pm_c83 (0, [some (.ref 0), some (.int x1)], [], h) (fun h' v => J h' ∧ (ty_pi (-5) 7) h' v)
  refine hq_p rfl rfl ?_
  refine hq_p rfl rfl (ty_ge (n := 1) nk_i1 (fun z1 ez1 => ?_))
  refine ty_ilt rfl (fun c2 => ?_) (fun c2 => ?_)
  · refine hq_p rfl rfl ?_
    refine hq_p rfl rfl (ty_ge (n := -1) nk_im1 (fun z3 ez3 => ?_))
    refine ty_callj 0 (W := ty_Wc) H hJ rfl (fun _ => rfl) rfl rfl rfl (hq_pre_o I.1 (x := 0) (ci := 10) rfl (by decide) rfl rfl rfl rfl) (fun _ _ w => w) (fun _ w => w) (ct_125 (x1 := z3) (by omega)) (fun h5 _ Jh5 P4 => ?_)
    have Ih5 := H.1 h5 Jh5
    obtain ⟨z6, rfl, fz6⟩ := P4
    exact hq_W.ret rfl rfl rfl ⟨Jh5, _, rfl, by omega, by omega⟩
  · refine hq_p rfl rfl ?_
    refine hq_p rfl rfl (ty_ge (n := 20) nk_b20 (fun z7 ez7 => ?_))
    refine ty_ile rfl (fun c8 => ?_) (fun c8 => ?_)
    · refine hq_p rfl rfl ?_
      obtain ⟨t9, kt9⟩ : ∃ q, hs_fR h 0 0 = q := ⟨_, rfl⟩
      refine ty_gT I rfl rfl (by decide) (by decide) rfl kt9 (fun ot9 => ?_)
      have pt9 : ty_tr t9 := by rcases ot9 with rfl | rfl; exact Or.inl rfl; exact Or.inr (Or.inl rfl)
      have lt9 := ty_trl pt9
      clear ot9
      refine ty_gI I rfl (ty_trs pt9) (by omega) (by decide) rfl (ty_trf pt9 0) (fun z10 ez10 az10 bz10 => ?_)
      refine hq_p rfl rfl (ty_ge (n := 8) nk_b8 (fun z11 ez11 => ?_))
      refine ty_ilt rfl (fun c12 => ?_) (fun c12 => ?_)
      · refine hq_p rfl rfl ?_
        refine ty_gT I rfl rfl (by decide) (by decide) rfl kt9 (fun ot9 => ?_)
        clear ot9
        refine hq_gR I.1 rfl (ty_trs pt9) (by omega) (by decide) rfl ?_
        refine hq_p rfl rfl ?_
        refine ty_gT I rfl rfl (by decide) (by decide) rfl kt9 (fun ot9 => ?_)
        clear ot9
        refine ty_gI I rfl (ty_trs pt9) (by omega) (by decide) rfl (ty_trf pt9 0) (fun z13 ez13 az13 bz13 => ?_)
        refine hq_p rfl rfl ?_
        refine ty_aS (W := ty_Wc) H hJ rfl (ty_trs1 pt9) (by omega) (by omega) (by omega) (fun i e => by unfold ty_Wc; omega) (fun i _ => ty_eg (ty_tra1 pt9 i)) (by omega) (by omega) (fun e1 e2 w => by omega) (fun h14 eh14 Jh14 => ?_)
        have Ih14 := H.1 h14 Jh14
        refine hq_p rfl rfl ?_
        have r15 : hs_fR h14 0 0 = t9 := by rw [eh14]; exact (ty_fR_ne (by omega)).trans kt9
        refine ty_gT Ih14 rfl rfl (by decide) (by decide) rfl r15 (fun ot9 => ?_)
        clear ot9
        refine hq_gR Ih14.1 rfl (ty_trs pt9) (by omega) (by decide) rfl ?_
        refine hq_p rfl rfl ?_
        refine ty_gT Ih14 rfl rfl (by decide) (by decide) rfl r15 (fun ot9 => ?_)
        clear ot9
        have r17 : (hs_fI h14 t9 0).toInt = (hs_fI h t9 0).toInt := by rw [eh14]; exact congrArg Int32.toInt (ty_fI_ne (by omega))
        refine ty_gI Ih14 rfl (ty_trs pt9) (by omega) (by decide) rfl (ty_trf pt9 0) (fun z16 ez16 az16 bz16 => ?_)
        refine hq_p rfl rfl (ty_ge (n := 0) nk_i0 (fun z18 ez18 => ?_))
        refine ty_aS (W := ty_Wc) H Jh14 rfl (ty_trs2 pt9) (by omega) (by omega) (by omega) (fun i e => by unfold ty_Wc; omega) (fun i _ => ty_eg (ty_tra2 pt9 i)) (by omega) (by omega) (fun e1 e2 w => by omega) (fun h19 eh19 Jh19 => ?_)
        have Ih19 := H.1 h19 Jh19
        refine hq_p rfl rfl ?_
        have r20 : hs_fR h19 0 0 = t9 := by rw [eh19]; exact (ty_fR_ne (by omega)).trans r15
        refine ty_gT Ih19 rfl rfl (by decide) (by decide) rfl r20 (fun ot9 => ?_)
        clear ot9
        refine hq_p rfl rfl ?_
        have r22 : (hs_fI h19 t9 0).toInt = (hs_fI h14 t9 0).toInt := by rw [eh19]; exact congrArg Int32.toInt (ty_fI_ne (by omega))
        refine ty_gI Ih19 rfl (ty_trs pt9) (by omega) (by decide) rfl (ty_trf pt9 0) (fun z21 ez21 az21 bz21 => ?_)
        refine hq_p rfl rfl (ty_ge (n := 1) nk_i1 (fun z23 ez23 => ?_))
        refine hq_p rfl rfl (ty_ge (n := z21.toInt + z23.toInt) (nm_add (by omega) (by omega)) (fun z24 ez24 => ?_))
        refine ty_pI (W := ty_Wc) H Jh19 rfl (ty_trs pt9) (by omega) rfl rfl (by unfold ty_Wc; omega) (ty_trf pt9 0) (by omega) (by omega) (fun h25 eh25 Jh25 => ?_)
        have wh25 : (hs_fI h25 t9 0).toInt = z24.toInt := by rw [eh25]; exact congrArg Int32.toInt (ty_fI_eq Ih19.1 (ty_trs pt9) (by omega) rfl)
        have Ih25 := H.1 h25 Jh25
        refine hq_p rfl rfl ?_
        obtain ⟨t26, kt26⟩ : ∃ q, hs_fR h25 0 5 = q := ⟨_, rfl⟩
        refine ty_gS Ih25 rfl rfl (by decide) (by decide) rfl kt26 (fun ot26 => ?_)
        have pt26 : ty_sp t26 := ot26
        have lt26 := ty_spl pt26
        clear ot26
        refine ty_callj 0 (W := ty_Wc) H Jh25 rfl (fun _ => rfl) rfl rfl rfl (hq_pre_o Ih25.1 (x := t26) (ci := 5) (ty_sps pt26) (by omega) rfl rfl rfl rfl) (fun _ _ w => w) (fun _ w => w) (ct_53 (t0 := t26) (by omega) pt26) (fun h28 _ Jh28 P27 => ?_)
        have Ih28 := H.1 h28 Jh28
        subst P27
        refine hq_p rfl rfl ?_
        refine hq_p rfl rfl ?_
        obtain ⟨t29, kt29⟩ : ∃ q, hs_fR h28 0 0 = q := ⟨_, rfl⟩
        refine ty_gT Ih28 rfl rfl (by decide) (by decide) rfl kt29 (fun ot29 => ?_)
        have pt29 : ty_tr t29 := by rcases ot29 with rfl | rfl; exact Or.inl rfl; exact Or.inr (Or.inl rfl)
        have lt29 := ty_trl pt29
        clear ot29
        refine ty_gI Ih28 rfl (ty_trs pt29) (by omega) (by decide) rfl (ty_trf pt29 0) (fun z30 ez30 az30 bz30 => ?_)
        refine hq_p rfl rfl (ty_ge (n := 1) nk_i1 (fun z31 ez31 => ?_))
        refine hq_p rfl rfl (ty_ge (n := z30.toInt - z31.toInt) (nm_sub (by omega) (by omega)) (fun z32 ez32 => ?_))
        refine ty_callj 0 (W := ty_Wc) H Jh28 rfl (fun _ => rfl) rfl rfl rfl (hq_pre_o Ih28.1 (x := 0) (ci := 10) rfl (by decide) rfl rfl rfl rfl) (fun _ _ w => w) (fun _ w => w) (ct_126 (x1 := z32) (by omega)) (fun h34 _ Jh34 P33 => ?_)
        have Ih34 := H.1 h34 Jh34
        obtain ⟨z35, rfl, fz35⟩ := P33
        exact hq_W.ret rfl rfl rfl ⟨Jh34, _, rfl, by omega, by omega⟩
      · refine hq_p rfl rfl ?_
        refine hq_p rfl rfl (ty_ge (n := -5) nk_bm5 (fun z36 ez36 => ?_))
        refine ty_callj 0 (W := ty_Wc) H hJ rfl (fun _ => rfl) rfl rfl rfl (hq_pre_o I.1 (x := 0) (ci := 10) rfl (by decide) rfl rfl rfl rfl) (fun _ _ w => w) (fun _ w => w) (ct_125 (x1 := z36) (by omega)) (fun h38 _ Jh38 P37 => ?_)
        have Ih38 := H.1 h38 Jh38
        obtain ⟨z39, rfl, fz39⟩ := P37
        exact hq_W.ret rfl rfl rfl ⟨Jh38, _, rfl, by omega, by omega⟩
    · refine hq_p rfl rfl ?_
      refine hq_p rfl rfl (ty_ge (n := -1) nk_im1 (fun z40 ez40 => ?_))
      refine ty_callj 0 (W := ty_Wc) H hJ rfl (fun _ => rfl) rfl rfl rfl (hq_pre_o I.1 (x := 0) (ci := 10) rfl (by decide) rfl rfl rfl rfl) (fun _ _ w => w) (fun _ w => w) (ct_125 (x1 := z40) (by omega)) (fun h42 _ Jh42 P41 => ?_)
      have Ih42 := H.1 h42 Jh42
      obtain ⟨z43, rfl, fz43⟩ := P41
      exact hq_W.ret rfl rfl rfl ⟨Jh42, _, rfl, by omega, by omega⟩
theorem ct_85 {X : pm_X} {d : Nat} {h : pm_H} {x1 : Int32} (hd : 2 ≤ d)  : ty_M X ty_Wc d 85 [.ref 0, .int x1] h (ty_pi (-5) 7) := by
  intro J H hJ
  obtain ⟨d, rfl⟩ : ∃ e, d = e + 1 := ⟨d - 1, by omega⟩
  have I := H.1 h hJ
  have ax1 := nm_lo x1
  have bx1 := nm_hi x1
  refine hq_M.enter (q := (⟨"TrainBearers", "girl", "(I)I"⟩, _, 2, some .int, 10, 2, pm_c85)) rfl rfl ?_
  show hq_W X d 10 false (some .int) pm_c85 (0, [some (.ref 0), some (.int x1)], [], h) (fun h' v => J h' ∧ (ty_pi (-5) 7) h' v)
  refine hq_p rfl rfl ?_
  refine ty_zlt rfl (fun c1 => ?_) (fun c1 => ?_)
  · refine hq_p rfl rfl ?_
    refine hq_p rfl rfl (ty_ge (n := -1) nk_im1 (fun z2 ez2 => ?_))
    refine ty_callj 0 (W := ty_Wc) H hJ rfl (fun _ => rfl) rfl rfl rfl (hq_pre_o I.1 (x := 0) (ci := 10) rfl (by decide) rfl rfl rfl rfl) (fun _ _ w => w) (fun _ w => w) (ct_125 (x1 := z2) (by omega)) (fun h4 _ Jh4 P3 => ?_)
    have Ih4 := H.1 h4 Jh4
    obtain ⟨z5, rfl, fz5⟩ := P3
    exact hq_W.ret rfl rfl rfl ⟨Jh4, _, rfl, by omega, by omega⟩
  · refine hq_p rfl rfl ?_
    refine hq_p rfl rfl (ty_ge (n := 9) nk_b9 (fun z6 ez6 => ?_))
    refine ty_ile rfl (fun c7 => ?_) (fun c7 => ?_)
    · refine hq_p rfl rfl ?_
      obtain ⟨t8, kt8⟩ : ∃ q, hs_fR h 0 0 = q := ⟨_, rfl⟩
      refine ty_gT I rfl rfl (by decide) (by decide) rfl kt8 (fun ot8 => ?_)
      have pt8 : ty_tr t8 := by rcases ot8 with rfl | rfl; exact Or.inl rfl; exact Or.inr (Or.inl rfl)
      have lt8 := ty_trl pt8
      clear ot8
      refine ty_gI I rfl (ty_trs pt8) (by omega) (by decide) rfl (ty_trf pt8 3) (fun z9 ez9 az9 bz9 => ?_)
      refine hq_p rfl rfl (ty_ge (n := 8) nk_b8 (fun z10 ez10 => ?_))
      refine ty_ilt rfl (fun c11 => ?_) (fun c11 => ?_)
      · refine hq_p rfl rfl ?_
        refine ty_gT I rfl rfl (by decide) (by decide) rfl kt8 (fun ot8 => ?_)
        clear ot8
        refine hq_gR I.1 rfl (ty_trs pt8) (by omega) (by decide) rfl ?_
        refine hq_p rfl rfl ?_
        refine ty_gT I rfl rfl (by decide) (by decide) rfl kt8 (fun ot8 => ?_)
        clear ot8
        refine ty_gI I rfl (ty_trs pt8) (by omega) (by decide) rfl (ty_trf pt8 3) (fun z12 ez12 az12 bz12 => ?_)
        refine hq_p rfl rfl ?_
        refine ty_aS (W := ty_Wc) H hJ rfl (ty_trs3 pt8) (by omega) (by omega) (by omega) (fun i e => by unfold ty_Wc; omega) (fun i _ => ty_eg (ty_tra3 pt8 i)) (by omega) (by omega) (fun e1 e2 w => by omega) (fun h13 eh13 Jh13 => ?_)
        have Ih13 := H.1 h13 Jh13
        refine hq_p rfl rfl ?_
        have r14 : hs_fR h13 0 0 = t8 := by rw [eh13]; exact (ty_fR_ne (by omega)).trans kt8
        refine ty_gT Ih13 rfl rfl (by decide) (by decide) rfl r14 (fun ot8 => ?_)
        clear ot8
        refine hq_gR Ih13.1 rfl (ty_trs pt8) (by omega) (by decide) rfl ?_
        refine hq_p rfl rfl ?_
        refine ty_gT Ih13 rfl rfl (by decide) (by decide) rfl r14 (fun ot8 => ?_)
        clear ot8
        have r16 : (hs_fI h13 t8 3).toInt = (hs_fI h t8 3).toInt := by rw [eh13]; exact congrArg Int32.toInt (ty_fI_ne (by omega))
        refine ty_gI Ih13 rfl (ty_trs pt8) (by omega) (by decide) rfl (ty_trf pt8 3) (fun z15 ez15 az15 bz15 => ?_)
        refine hq_p rfl rfl (ty_ge (n := 0) nk_i0 (fun z17 ez17 => ?_))
        refine ty_aS (W := ty_Wc) H Jh13 rfl (ty_trs4 pt8) (by omega) (by omega) (by omega) (fun i e => by unfold ty_Wc; omega) (fun i _ => ty_eg (ty_tra4 pt8 i)) (by omega) (by omega) (fun e1 e2 w => by omega) (fun h18 eh18 Jh18 => ?_)
        have Ih18 := H.1 h18 Jh18
        refine hq_p rfl rfl ?_
        have r19 : hs_fR h18 0 0 = t8 := by rw [eh18]; exact (ty_fR_ne (by omega)).trans r14
        refine ty_gT Ih18 rfl rfl (by decide) (by decide) rfl r19 (fun ot8 => ?_)
        clear ot8
        refine hq_gR Ih18.1 rfl (ty_trs pt8) (by omega) (by decide) rfl ?_
        refine hq_p rfl rfl ?_
        refine ty_gT Ih18 rfl rfl (by decide) (by decide) rfl r19 (fun ot8 => ?_)
        clear ot8
        have r21 : (hs_fI h18 t8 3).toInt = (hs_fI h13 t8 3).toInt := by rw [eh18]; exact congrArg Int32.toInt (ty_fI_ne (by omega))
        refine ty_gI Ih18 rfl (ty_trs pt8) (by omega) (by decide) rfl (ty_trf pt8 3) (fun z20 ez20 az20 bz20 => ?_)
        refine hq_p rfl rfl (ty_ge (n := -1) nk_im1 (fun z22 ez22 => ?_))
        refine ty_aS (W := ty_Wc) H Jh18 rfl (ty_trs5 pt8) (by omega) (by omega) (by omega) (fun i e => by unfold ty_Wc; omega) (fun i _ => ty_eg (ty_tra5 pt8 i)) (by omega) (by omega) (fun e1 e2 w => by omega) (fun h23 eh23 Jh23 => ?_)
        have Ih23 := H.1 h23 Jh23
        refine hq_p rfl rfl ?_
        have r24 : hs_fR h23 0 0 = t8 := by rw [eh23]; exact (ty_fR_ne (by omega)).trans r19
        refine ty_gT Ih23 rfl rfl (by decide) (by decide) rfl r24 (fun ot8 => ?_)
        clear ot8
        refine hq_p rfl rfl ?_
        have r26 : (hs_fI h23 t8 3).toInt = (hs_fI h18 t8 3).toInt := by rw [eh23]; exact congrArg Int32.toInt (ty_fI_ne (by omega))
        refine ty_gI Ih23 rfl (ty_trs pt8) (by omega) (by decide) rfl (ty_trf pt8 3) (fun z25 ez25 az25 bz25 => ?_)
        refine hq_p rfl rfl (ty_ge (n := 1) nk_i1 (fun z27 ez27 => ?_))
        refine hq_p rfl rfl (ty_ge (n := z25.toInt + z27.toInt) (nm_add (by omega) (by omega)) (fun z28 ez28 => ?_))
        refine ty_pI (W := ty_Wc) H Jh23 rfl (ty_trs pt8) (by omega) rfl rfl (by unfold ty_Wc; omega) (ty_trf pt8 3) (by omega) (by omega) (fun h29 eh29 Jh29 => ?_)
        have wh29 : (hs_fI h29 t8 3).toInt = z28.toInt := by rw [eh29]; exact congrArg Int32.toInt (ty_fI_eq Ih23.1 (ty_trs pt8) (by omega) rfl)
        have Ih29 := H.1 h29 Jh29
        refine hq_p rfl rfl ?_
        obtain ⟨t30, kt30⟩ : ∃ q, hs_fR h29 0 5 = q := ⟨_, rfl⟩
        refine ty_gS Ih29 rfl rfl (by decide) (by decide) rfl kt30 (fun ot30 => ?_)
        have pt30 : ty_sp t30 := ot30
        have lt30 := ty_spl pt30
        clear ot30
        refine ty_callj 0 (W := ty_Wc) H Jh29 rfl (fun _ => rfl) rfl rfl rfl (hq_pre_o Ih29.1 (x := t30) (ci := 5) (ty_sps pt30) (by omega) rfl rfl rfl rfl) (fun _ _ w => w) (fun _ w => w) (ct_53 (t0 := t30) (by omega) pt30) (fun h32 _ Jh32 P31 => ?_)
        have Ih32 := H.1 h32 Jh32
        subst P31
        refine hq_p rfl rfl ?_
        refine hq_p rfl rfl ?_
        obtain ⟨t33, kt33⟩ : ∃ q, hs_fR h32 0 0 = q := ⟨_, rfl⟩
        refine ty_gT Ih32 rfl rfl (by decide) (by decide) rfl kt33 (fun ot33 => ?_)
        have pt33 : ty_tr t33 := by rcases ot33 with rfl | rfl; exact Or.inl rfl; exact Or.inr (Or.inl rfl)
        have lt33 := ty_trl pt33
        clear ot33
        refine ty_gI Ih32 rfl (ty_trs pt33) (by omega) (by decide) rfl (ty_trf pt33 3) (fun z34 ez34 az34 bz34 => ?_)
        refine hq_p rfl rfl (ty_ge (n := 1) nk_i1 (fun z35 ez35 => ?_))
        refine hq_p rfl rfl (ty_ge (n := z34.toInt - z35.toInt) (nm_sub (by omega) (by omega)) (fun z36 ez36 => ?_))
        refine ty_callj 0 (W := ty_Wc) H Jh32 rfl (fun _ => rfl) rfl rfl rfl (hq_pre_o Ih32.1 (x := 0) (ci := 10) rfl (by decide) rfl rfl rfl rfl) (fun _ _ w => w) (fun _ w => w) (ct_126 (x1 := z36) (by omega)) (fun h38 _ Jh38 P37 => ?_)
        have Ih38 := H.1 h38 Jh38
        obtain ⟨z39, rfl, fz39⟩ := P37
        exact hq_W.ret rfl rfl rfl ⟨Jh38, _, rfl, by omega, by omega⟩
      · refine hq_p rfl rfl ?_
        refine hq_p rfl rfl (ty_ge (n := -5) nk_bm5 (fun z40 ez40 => ?_))
        refine ty_callj 0 (W := ty_Wc) H hJ rfl (fun _ => rfl) rfl rfl rfl (hq_pre_o I.1 (x := 0) (ci := 10) rfl (by decide) rfl rfl rfl rfl) (fun _ _ w => w) (fun _ w => w) (ct_125 (x1 := z40) (by omega)) (fun h42 _ Jh42 P41 => ?_)
        have Ih42 := H.1 h42 Jh42
        obtain ⟨z43, rfl, fz43⟩ := P41
        exact hq_W.ret rfl rfl rfl ⟨Jh42, _, rfl, by omega, by omega⟩
    · refine hq_p rfl rfl ?_
      refine hq_p rfl rfl (ty_ge (n := -1) nk_im1 (fun z44 ez44 => ?_))
      refine ty_callj 0 (W := ty_Wc) H hJ rfl (fun _ => rfl) rfl rfl rfl (hq_pre_o I.1 (x := 0) (ci := 10) rfl (by decide) rfl rfl rfl rfl) (fun _ _ w => w) (fun _ w => w) (ct_125 (x1 := z44) (by omega)) (fun h46 _ Jh46 P45 => ?_)
      have Ih46 := H.1 h46 Jh46
      obtain ⟨z47, rfl, fz47⟩ := P45
      exact hq_W.ret rfl rfl rfl ⟨Jh46, _, rfl, by omega, by omega⟩
theorem ct_90 {X : pm_X} {d : Nat} {h : pm_H} {x1 : Int32} {x2 : Int32} (hd : 2 ≤ d) (hX : ty_SX X)  : ty_M X ty_Wc d 90 [.ref 0, .int x1, .int x2] h (ty_pi (-2147483648) 2147483647) := by
  intro J H hJ
  obtain ⟨d, rfl⟩ : ∃ e, d = e + 1 := ⟨d - 1, by omega⟩
  have I := H.1 h hJ
  have ax1 := nm_lo x1
  have bx1 := nm_hi x1
  have ax2 := nm_lo x2
  have bx2 := nm_hi x2
  refine hq_M.enter (q := (⟨"TrainBearers", "terms", "(II)I"⟩, _, 4, some .int, 10, 3, pm_c90)) rfl rfl ?_
  show hq_W X d 10 false (some .int) pm_c90 (0, [some (.ref 0), some (.int x1), some (.int x2), none], [], h) (fun h' v => J h' ∧ (ty_pi (-2147483648) 2147483647) h' v)
  refine hq_p rfl rfl ?_
  refine ty_zlt rfl (fun c1 => ?_) (fun c1 => ?_)
  · refine hq_p rfl rfl ?_
    refine hq_p rfl rfl (ty_ge (n := -1) nk_im1 (fun z2 ez2 => ?_))
    refine ty_callj 0 (W := ty_Wc) H hJ rfl (fun _ => rfl) rfl rfl rfl (hq_pre_o I.1 (x := 0) (ci := 10) rfl (by decide) rfl rfl rfl rfl) (fun _ _ w => w) (fun _ w => w) (ct_125 (x1 := z2) (by omega)) (fun h4 _ Jh4 P3 => ?_)
    have Ih4 := H.1 h4 Jh4
    obtain ⟨z5, rfl, fz5⟩ := P3
    exact hq_W.ret rfl rfl rfl ⟨Jh4, _, rfl, by omega, by omega⟩
  · refine hq_p rfl rfl ?_
    refine hq_p rfl rfl ?_
    refine hq_alen rfl (ty_x201 hX) rfl (ty_ge (c := Int32.ofNat 3) (n := 3) (by decide) (fun z6 ez6 => ?_))
    refine ty_ige rfl (fun c7 => ?_) (fun c7 => ?_)
    · refine hq_p rfl rfl ?_
      refine hq_p rfl rfl (ty_ge (n := -1) nk_im1 (fun z8 ez8 => ?_))
      refine ty_callj 0 (W := ty_Wc) H hJ rfl (fun _ => rfl) rfl rfl rfl (hq_pre_o I.1 (x := 0) (ci := 10) rfl (by decide) rfl rfl rfl rfl) (fun _ _ w => w) (fun _ w => w) (ct_125 (x1 := z8) (by omega)) (fun h10 _ Jh10 P9 => ?_)
      have Ih10 := H.1 h10 Jh10
      obtain ⟨z11, rfl, fz11⟩ := P9
      exact hq_W.ret rfl rfl rfl ⟨Jh10, _, rfl, by omega, by omega⟩
    · refine hq_p rfl rfl ?_
      refine ty_zlt rfl (fun c12 => ?_) (fun c12 => ?_)
      · refine hq_p rfl rfl ?_
        refine hq_p rfl rfl (ty_ge (n := -1) nk_im1 (fun z13 ez13 => ?_))
        refine ty_callj 0 (W := ty_Wc) H hJ rfl (fun _ => rfl) rfl rfl rfl (hq_pre_o I.1 (x := 0) (ci := 10) rfl (by decide) rfl rfl rfl rfl) (fun _ _ w => w) (fun _ w => w) (ct_125 (x1 := z13) (by omega)) (fun h15 _ Jh15 P14 => ?_)
        have Ih15 := H.1 h15 Jh15
        obtain ⟨z16, rfl, fz16⟩ := P14
        exact hq_W.ret rfl rfl rfl ⟨Jh15, _, rfl, by omega, by omega⟩
      · refine hq_p rfl rfl ?_
        refine hq_p rfl rfl ?_
        refine hq_p rfl rfl ?_
        refine hq_iald rfl (ty_x201 hX) (hs_in (by omega) (by omega)) (ty_ga (fun z17 az17 bz17 => ?_))
        refine ty_ile rfl (fun c18 => ?_) (fun c18 => ?_)
        · refine hq_p rfl rfl ?_
          obtain ⟨t19, kt19⟩ : ∃ q, hs_fR h 0 0 = q := ⟨_, rfl⟩
          refine ty_gT I rfl rfl (by decide) (by decide) rfl kt19 (fun ot19 => ?_)
          have pt19 : ty_tr t19 := by rcases ot19 with rfl | rfl; exact Or.inl rfl; exact Or.inr (Or.inl rfl)
          have lt19 := ty_trl pt19
          clear ot19
          refine hq_gR I.1 rfl (ty_trs pt19) (by omega) (by decide) rfl ?_
          refine hq_p rfl rfl ?_
          refine ty_aL I rfl (ty_trs9 pt19) (by omega) (by omega) (by omega) (fun i _ => ty_le (ty_tra9 pt19 i)) (fun z20 ez20 az20 bz20 => ?_)
          refine hq_p (ls' := [some (.ref 0), some (.int x1), some (.int x2), some (.int z20)]) rfl rfl ?_
          refine hq_p rfl rfl ?_
          refine ty_gT I rfl rfl (by decide) (by decide) rfl kt19 (fun ot19 => ?_)
          clear ot19
          refine hq_gR I.1 rfl (ty_trs pt19) (by omega) (by decide) rfl ?_
          refine hq_p rfl rfl ?_
          refine hq_p rfl rfl ?_
          refine ty_aS (W := ty_Wc) H hJ rfl (ty_trs9 pt19) (by omega) (by omega) (by omega) (fun i e => by unfold ty_Wc; omega) (fun i _ => ty_eg (ty_tra9 pt19 i)) (by omega) (by omega) (fun e1 e2 w => by omega) (fun h21 eh21 Jh21 => ?_)
          have Ih21 := H.1 h21 Jh21
          refine hq_p rfl rfl ?_
          obtain ⟨t22, kt22⟩ : ∃ q, hs_fR h21 0 5 = q := ⟨_, rfl⟩
          refine ty_gS Ih21 rfl rfl (by decide) (by decide) rfl kt22 (fun ot22 => ?_)
          have pt22 : ty_sp t22 := ot22
          have lt22 := ty_spl pt22
          clear ot22
          refine ty_callj 0 (W := ty_Wc) H Jh21 rfl (fun _ => rfl) rfl rfl rfl (hq_pre_o Ih21.1 (x := t22) (ci := 5) (ty_sps pt22) (by omega) rfl rfl rfl rfl) (fun _ _ w => w) (fun _ w => w) (ct_53 (t0 := t22) (by omega) pt22) (fun h24 _ Jh24 P23 => ?_)
          have Ih24 := H.1 h24 Jh24
          subst P23
          refine hq_p rfl rfl ?_
          refine hq_p rfl rfl ?_
          refine ty_callj 0 (W := ty_Wc) H Jh24 rfl (fun _ => rfl) rfl rfl rfl (hq_pre_o Ih24.1 (x := 0) (ci := 10) rfl (by decide) rfl rfl rfl rfl) (fun _ _ w => w) (fun _ w => w) (ct_126 (x1 := z20) (by omega)) (fun h26 _ Jh26 P25 => ?_)
          have Ih26 := H.1 h26 Jh26
          obtain ⟨z27, rfl, fz27⟩ := P25
          exact hq_W.ret rfl rfl rfl ⟨Jh26, _, rfl, by omega, by omega⟩
        · refine hq_p rfl rfl ?_
          refine hq_p rfl rfl (ty_ge (n := -1) nk_im1 (fun z28 ez28 => ?_))
          refine ty_callj 0 (W := ty_Wc) H hJ rfl (fun _ => rfl) rfl rfl rfl (hq_pre_o I.1 (x := 0) (ci := 10) rfl (by decide) rfl rfl rfl rfl) (fun _ _ w => w) (fun _ w => w) (ct_125 (x1 := z28) (by omega)) (fun h30 _ Jh30 P29 => ?_)
          have Ih30 := H.1 h30 Jh30
          obtain ⟨z31, rfl, fz31⟩ := P29
          exact hq_W.ret rfl rfl rfl ⟨Jh30, _, rfl, by omega, by omega⟩
end CT12
