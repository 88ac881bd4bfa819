/-! CONTRACTS (printed by wip/pm/cts.py) -/
section CT50
set_option maxRecDepth 8000 in
theorem ct_133b {X : pm_X} {d : Nat} {h : pm_H}  (hd : 7 ≤ d)  (hn : hs_fR h 0 0 = 12) (hp : hs_fR h 0 1 = 1) : ty_M X (ty_Wpl 18) d 133 [.ref 0] h (ty_pi (-2147483648) 2147483647) := by
  intro J0 H0 hJ0
  obtain ⟨J, eJ⟩ : ∃ J : pm_H → Prop, J = fun h' => J0 h' ∧ hs_fR h' 0 0 = 12 ∧ hs_fR h' 0 1 = 1 := ⟨_, rfl⟩
  have H : ty_C (ty_Wpl 18) J := by rw [eJ]; exact H0.refs 12 1
  have hJ : J h := by rw [eJ]; exact ⟨hJ0, hn, hp⟩
  refine hq_M.mono (Nat.le_refl _) (Q := fun h' v => J h' ∧ (ty_pi (-2147483648) 2147483647) h' v) (fun h' v q => ⟨by have q1 := q.1; rw [eJ] at q1; exact q1.1, q.2⟩) ?_
  have p1 : ty_tr 1 := by simp [ty_tr]
  have l1 := ty_trl p1
  have p12 : ty_tr 12 := by simp [ty_tr]
  have l12 := ty_trl p12
  obtain ⟨d, rfl⟩ : ∃ e, d = e + 1 := ⟨d - 1, by omega⟩
  have I := H.1 h hJ
  refine hq_M.enter (q := (⟨"TrainBearers", "bestExchange", "()I"⟩, _, 5, some .int, 10, 1, pm_c133)) rfl rfl ?_
  show hq_W X d 10 false (some .int) pm_c133 (0, [some (.ref 0), none, none, none, none], [], h) (fun h' v => J h' ∧ (ty_pi (-2147483648) 2147483647) h' v)
  refine hq_p rfl rfl ?_
  refine ty_gT (t := 1) I rfl rfl (by decide) (by decide) rfl (by have q := hJ; rw [eJ] at q; exact q.2.2) (fun _ => ?_)
  refine hq_p rfl rfl ?_
  refine ty_gT (t := 12) I rfl rfl (by decide) (by decide) rfl (by have q := hJ; rw [eJ] at q; exact q.2.1) (fun _ => ?_)
  refine ty_callj 0 (W := (ty_Wpl 18)) H hJ rfl (fun _ => rfl) rfl rfl rfl (hq_pre_o I.1 (x := 1) (ci := 8) (ty_trs p1) (by omega) rfl rfl rfl rfl) (fun a k w => by unfold ty_Wtr at w; unfold ty_Wpl; omega) (by unfold ty_Wtr ty_Wpl; omega) (ct_68 (t0 := 1) (t1 := 12) (by omega) p1 p12 (by decide)) (fun h2 _ Jh2 P1 => ?_)
  have Ih2 := H.1 h2 Jh2
  obtain ⟨rfl, c3⟩ := P1
  clear c3
  refine hq_p rfl rfl ?_
  refine hq_gR Ih2.1 rfl rfl (by decide) (by decide) rfl ?_
  refine hq_p rfl rfl ?_
  refine ty_gT (t := 12) Ih2 rfl rfl (by decide) (by decide) rfl (by have q := Jh2; rw [eJ] at q; exact q.2.1) (fun _ => ?_)
  refine ty_callj 0 (W := (ty_Wpl 18)) H Jh2 rfl (fun _ => rfl) rfl rfl rfl (hq_pre_o Ih2.1 (x := 72) (ci := 4) rfl (by decide) rfl rfl rfl rfl) (fun a k w => by unfold ty_Wu at w; unfold ty_Wpl; omega) (by unfold ty_Wu ty_Wpl; omega) (ct_49 (t0 := 72) (t1 := 12) (by omega) (show ty_ru 72 by simp [ty_ru]) p12) (fun h5 _ Jh5 P4 => ?_)
  have Ih5 := H.1 h5 Jh5
  obtain ⟨z6, rfl, az6, bz6⟩ := P4
  refine hq_p rfl rfl (ty_ge (n := 100) nk_b100 (fun z7 ez7 => ?_))
  refine hq_p rfl rfl (ty_ga (fun z8 az8 bz8 => ?_))
  refine hq_p (ls' := [some (.ref 0), some (.int z8), none, none, none]) rfl rfl ?_
  refine hq_p rfl rfl ?_
  refine hq_p (ls' := [some (.ref 0), some (.int z8), some (.int z8), none, none]) rfl rfl ?_
  refine hq_p rfl rfl (ty_ge (n := 0) nk_i0 (fun z9 ez9 => ?_))
  refine hq_p (ls' := [some (.ref 0), some (.int z8), some (.int z8), some (.int z9), none]) rfl rfl ?_
  have L30_n54 : ∀ n54 : Nat, ∀ (y46 : Int32) (y47 : Int32) (w48 : Option Value) (h49 : pm_H), (8 - y47.toInt).toNat = n54 → -2147483648 ≤ y46.toInt → y46.toInt ≤ 2147483647 → 0 ≤ y47.toInt → y47.toInt ≤ 8 → pm_two w48 = false → J h49 → hq_W X d 10 false (some .int) pm_c133 (30, [some (.ref 0), some (.int z8), some (.int y46), some (.int y47), w48], [], h49) (fun h' v => J h' ∧ (ty_pi (-2147483648) 2147483647) h' v) := by
    intro n54
    induction n54 using Nat.strongRecOn with
    | ind n54 ihn54 =>
      intro y46 y47 w48 h49 mn54 ay46 by46 ay47 by47 kw48 Jh49
      have Ih49 := H.1 h49 Jh49
      refine hq_p rfl rfl ?_
      refine hq_p rfl rfl ?_
      refine ty_gT (t := 12) Ih49 rfl rfl (by decide) (by decide) rfl (by have q := Jh49; rw [eJ] at q; exact q.2.1) (fun _ => ?_)
      refine ty_gI Ih49 rfl (ty_trs p12) (by omega) (by decide) rfl (ty_trf p12 3) (fun z55 ez55 az55 bz55 => ?_)
      refine ty_ige rfl (fun c56 => ?_) (fun c56 => ?_)
      · refine hq_p rfl rfl ?_
        refine hq_p rfl rfl ?_
        refine ty_ige rfl (fun c57 => ?_) (fun c57 => ?_)
        · refine hq_p rfl rfl (ty_ge (n := -1) nk_im1 (fun z58 ez58 => ?_))
          exact hq_W.ret rfl rfl rfl ⟨Jh49, _, rfl, by omega, by omega⟩
        · refine hq_p rfl rfl ?_
          refine hq_p rfl rfl ?_
          exact hq_W.ret rfl rfl rfl ⟨Jh49, _, rfl, by omega, by omega⟩
      · refine hq_p rfl rfl ?_
        refine hq_p rfl rfl (ty_ge (n := 1) nk_i1 (fun z59 ez59 => ?_))
        refine hq_p rfl rfl (ty_ge (n := y47.toInt + z59.toInt) (nm_add (by omega) (by omega)) (fun z60 ez60 => ?_))
        refine hq_p (ls' := [some (.ref 0), some (.int z8), some (.int y46), some (.int y47), some (.int z60)]) rfl rfl ?_
        have L46_n70 : ∀ n70 : Nat, ∀ (y64 : Int32) (y65 : Int32) (h66 : pm_H), (8 - y65.toInt).toNat = n70 → -2147483648 ≤ y64.toInt → y64.toInt ≤ 2147483647 → 1 ≤ y65.toInt → y65.toInt ≤ 8 → J h66 → hq_W X d 10 false (some .int) pm_c133 (46, [some (.ref 0), some (.int z8), some (.int y64), some (.int y47), some (.int y65)], [], h66) (fun h' v => J h' ∧ (ty_pi (-2147483648) 2147483647) h' v) := by
          intro n70
          induction n70 using Nat.strongRecOn with
          | ind n70 ihn70 =>
            intro y64 y65 h66 mn70 ay64 by64 ay65 by65 Jh66
            have Ih66 := H.1 h66 Jh66
            refine hq_p rfl rfl ?_
            refine hq_p rfl rfl ?_
            refine ty_gT (t := 12) Ih66 rfl rfl (by decide) (by decide) rfl (by have q := Jh66; rw [eJ] at q; exact q.2.1) (fun _ => ?_)
            refine ty_gI Ih66 rfl (ty_trs p12) (by omega) (by decide) rfl (ty_trf p12 3) (fun z71 ez71 az71 bz71 => ?_)
            refine ty_ige rfl (fun c72 => ?_) (fun c72 => ?_)
            · refine ty_inc (ls' := fun z73 => [some (.ref 0), some (.int z8), some (.int y64), some (.int z73), some (.int y65)]) rfl rfl (fun _ => rfl) (nm_addc nk_i1 (by omega) (by omega)) (fun z73 ez73 => ?_)
              refine hq_p rfl rfl ?_
              exact ihn54 ((8 - z73.toInt).toNat) (by omega) y64 z73 (some (.int y65)) h66 rfl (by omega) (by omega) (by omega) (by omega) rfl Jh66
            · refine hq_p rfl rfl ?_
              refine ty_gT (t := 12) Ih66 rfl rfl (by decide) (by decide) rfl (by have q := Jh66; rw [eJ] at q; exact q.2.1) (fun _ => ?_)
              refine hq_gR Ih66.1 rfl (ty_trs p12) (by omega) (by decide) rfl ?_
              refine hq_p rfl rfl ?_
              refine ty_aL Ih66 rfl (ty_trs5 p12) (by omega) (by omega) (by omega) (fun i _ => ty_le (ty_tra5 p12 i)) (fun z74 ez74 az74 bz74 => ?_)
              refine hq_p rfl rfl ?_
              refine ty_gT (t := 12) Ih66 rfl rfl (by decide) (by decide) rfl (by have q := Jh66; rw [eJ] at q; exact q.2.1) (fun _ => ?_)
              refine hq_gR Ih66.1 rfl (ty_trs p12) (by omega) (by decide) rfl ?_
              refine hq_p rfl rfl ?_
              refine ty_aL Ih66 rfl (ty_trs5 p12) (by omega) (by omega) (by omega) (fun i _ => ty_le (ty_tra5 p12 i)) (fun z75 ez75 az75 bz75 => ?_)
              refine ty_ieq rfl (fun c76 => ?_) (fun c76 => ?_)
              · refine ty_inc (ls' := fun z77 => [some (.ref 0), some (.int z8), some (.int y64), some (.int y47), some (.int z77)]) rfl rfl (fun _ => rfl) (nm_addc nk_i1 (by omega) (by omega)) (fun z77 ez77 => ?_)
                refine hq_p rfl rfl ?_
                exact ihn70 ((8 - z77.toInt).toNat) (by omega) y64 z77 h66 rfl (by omega) (by omega) (by omega) (by omega) Jh66
              · clear c76
                refine hq_p rfl rfl ?_
                refine hq_p rfl rfl ?_
                refine hq_p rfl rfl ?_
                refine ty_gT (t := 12) Ih66 rfl rfl (by decide) (by decide) rfl (by have q := Jh66; rw [eJ] at q; exact q.2.1) (fun _ => ?_)
                refine hq_gR Ih66.1 rfl (ty_trs p12) (by omega) (by decide) rfl ?_
                refine hq_p rfl rfl ?_
                refine ty_aL Ih66 rfl (ty_trs5 p12) (by omega) (by omega) (by omega) (fun i _ => ty_le (ty_tra5 p12 i)) (fun z78 ez78 az78 bz78 => ?_)
                refine ty_callj 0 (W := (ty_Wpl 18)) H Jh66 rfl (fun _ => rfl) rfl rfl rfl (hq_pre_o Ih66.1 (x := 0) (ci := 10) rfl (by decide) rfl rfl rfl rfl) (fun a k w => by unfold ty_Wc at w; unfold ty_Wpl; omega) (by unfold ty_Wc ty_Wpl; omega) (ct_134 (x1 := y47) (x2 := z78) (by omega)) (fun h80 _ Jh80 P79 => ?_)
                have Ih80 := H.1 h80 Jh80
                obtain ⟨z81, rfl, az81, bz81⟩ := P79
                refine ty_zeq rfl (fun c82 => ?_) (fun c82 => ?_)
                · refine ty_inc (ls' := fun z83 => [some (.ref 0), some (.int z8), some (.int y64), some (.int y47), some (.int z83)]) rfl rfl (fun _ => rfl) (nm_addc nk_i1 (by omega) (by omega)) (fun z83 ez83 => ?_)
                  refine hq_p rfl rfl ?_
                  exact ihn70 ((8 - z83.toInt).toNat) (by omega) y64 z83 h80 rfl (by omega) (by omega) (by omega) (by omega) Jh80
                · replace c82 : 1 ≤ z81.toInt ∧ z81.toInt ≤ 1 := by omega
                  refine hq_p rfl rfl ?_
                  refine hq_p rfl rfl ?_
                  refine hq_p rfl rfl ?_
                  refine ty_gT (t := 12) Ih80 rfl rfl (by decide) (by decide) rfl (by have q := Jh80; rw [eJ] at q; exact q.2.1) (fun _ => ?_)
                  refine hq_gR Ih80.1 rfl (ty_trs p12) (by omega) (by decide) rfl ?_
                  refine hq_p rfl rfl ?_
                  refine ty_aL Ih80 rfl (ty_trs5 p12) (by omega) (by omega) (by omega) (fun i _ => ty_le (ty_tra5 p12 i)) (fun z84 ez84 az84 bz84 => ?_)
                  refine ty_callj 0 (W := (ty_Wpl 18)) H Jh80 rfl (fun _ => rfl) rfl rfl rfl (hq_pre_o Ih80.1 (x := 0) (ci := 10) rfl (by decide) rfl rfl rfl rfl) (fun a k w => by unfold ty_Wc at w; unfold ty_Wpl; omega) (by unfold ty_Wc ty_Wpl; omega) (ct_134 (x1 := y65) (x2 := z84) (by omega)) (fun h86 _ Jh86 P85 => ?_)
                  have Ih86 := H.1 h86 Jh86
                  obtain ⟨z87, rfl, az87, bz87⟩ := P85
                  refine ty_zeq rfl (fun c88 => ?_) (fun c88 => ?_)
                  · refine ty_inc (ls' := fun z89 => [some (.ref 0), some (.int z8), some (.int y64), some (.int y47), some (.int z89)]) rfl rfl (fun _ => rfl) (nm_addc nk_i1 (by omega) (by omega)) (fun z89 ez89 => ?_)
                    refine hq_p rfl rfl ?_
                    exact ihn70 ((8 - z89.toInt).toNat) (by omega) y64 z89 h86 rfl (by omega) (by omega) (by omega) (by omega) Jh86
                  · replace c88 : 1 ≤ z87.toInt ∧ z87.toInt ≤ 1 := by omega
                    refine hq_p rfl rfl ?_
                    refine ty_gT (t := 1) Ih86 rfl rfl (by decide) (by decide) rfl (by have q := Jh86; rw [eJ] at q; exact q.2.2) (fun _ => ?_)
                    refine hq_gR Ih86.1 rfl (ty_trs p1) (by omega) (by decide) rfl ?_
                    refine hq_p rfl rfl ?_
                    refine hq_p rfl rfl ?_
                    refine ty_gT (t := 12) Ih86 rfl rfl (by decide) (by decide) rfl (by have q := Jh86; rw [eJ] at q; exact q.2.1) (fun _ => ?_)
                    refine hq_gR Ih86.1 rfl (ty_trs p12) (by omega) (by decide) rfl ?_
                    refine hq_p rfl rfl ?_
                    refine ty_aL Ih86 rfl (ty_trs5 p12) (by omega) (by omega) (by omega) (fun i _ => ty_le (ty_tra5 p12 i)) (fun z90 ez90 az90 bz90 => ?_)
                    refine ty_aS (W := (ty_Wpl 18)) H Jh86 rfl (ty_trs5 p1) (by omega) (by omega) (by omega) (fun i e => by unfold ty_Wpl; omega) (fun i _ => ty_eg (ty_tra5 p1 i)) (by omega) (by omega) (fun e1 e2 w => by omega) (fun h91 eh91 Jh91 => ?_)
                    have Ih91 := H.1 h91 Jh91
                    refine hq_p rfl rfl ?_
                    refine ty_gT (t := 1) Ih91 rfl rfl (by decide) (by decide) rfl (by have q := Jh91; rw [eJ] at q; exact q.2.2) (fun _ => ?_)
                    refine hq_gR Ih91.1 rfl (ty_trs p1) (by omega) (by decide) rfl ?_
                    refine hq_p rfl rfl ?_
                    refine hq_p rfl rfl ?_
                    refine ty_gT (t := 12) Ih91 rfl rfl (by decide) (by decide) rfl (by have q := Jh91; rw [eJ] at q; exact q.2.1) (fun _ => ?_)
                    refine hq_gR Ih91.1 rfl (ty_trs p12) (by omega) (by decide) rfl ?_
                    refine hq_p rfl rfl ?_
                    refine ty_aL Ih91 rfl (ty_trs5 p12) (by omega) (by omega) (by omega) (fun i _ => ty_le (ty_tra5 p12 i)) (fun z92 ez92 az92 bz92 => ?_)
                    refine ty_aS (W := (ty_Wpl 18)) H Jh91 rfl (ty_trs5 p1) (by omega) (by omega) (by omega) (fun i e => by unfold ty_Wpl; omega) (fun i _ => ty_eg (ty_tra5 p1 i)) (by omega) (by omega) (fun e1 e2 w => by omega) (fun h93 eh93 Jh93 => ?_)
                    have Ih93 := H.1 h93 Jh93
                    refine hq_p rfl rfl ?_
                    refine hq_p rfl rfl ?_
                    refine hq_gR Ih93.1 rfl rfl (by decide) (by decide) rfl ?_
                    refine hq_p rfl rfl ?_
                    refine ty_gT (t := 1) Ih93 rfl rfl (by decide) (by decide) rfl (by have q := Jh93; rw [eJ] at q; exact q.2.2) (fun _ => ?_)
                    refine ty_callj 0 (W := (ty_Wpl 18)) H Jh93 rfl (fun _ => rfl) rfl rfl rfl (hq_pre_o Ih93.1 (x := 72) (ci := 4) rfl (by decide) rfl rfl rfl rfl) (fun a k w => by unfold ty_Wu at w; unfold ty_Wpl; omega) (by unfold ty_Wu ty_Wpl; omega) (ct_49 (t0 := 72) (t1 := 1) (by omega) (show ty_ru 72 by simp [ty_ru]) p1) (fun h95 _ Jh95 P94 => ?_)
                    have Ih95 := H.1 h95 Jh95
                    obtain ⟨z96, rfl, az96, bz96⟩ := P94
                    refine hq_p rfl rfl (ty_ge (n := 100) nk_b100 (fun z97 ez97 => ?_))
                    refine hq_p rfl rfl (ty_ga (fun z98 az98 bz98 => ?_))
                    refine hq_p rfl rfl (ty_ge (n := 10) nk_b10 (fun z99 ez99 => ?_))
                    refine hq_p rfl rfl ?_
                    refine hq_p rfl rfl (ty_ge (n := 10 * y47.toInt) (nm_cmul ez99 (by omega) (by omega)) (fun z100 ez100 => ?_))
                    refine hq_p rfl rfl (ty_ga (fun z101 az101 bz101 => ?_))
                    refine hq_p rfl rfl ?_
                    refine hq_p rfl rfl (ty_ga (fun z102 az102 bz102 => ?_))
                    refine ty_callp 1 Ih95 rfl (fun _ => rfl) rfl rfl rfl rfl (ct_259 (x0 := y64) (x1 := z102) (by omega)) (fun _ P103 => ?_)
                    obtain ⟨z104, rfl, fz104, dz104, oz104⟩ := P103
                    have iz104 : -2147483648 ≤ z104.toInt ∧ z104.toInt ≤ 2147483647 := by omega
                    clear oz104
                    refine hq_p (ls' := [some (.ref 0), some (.int z8), some (.int z104), some (.int y47), some (.int y65)]) rfl rfl ?_
                    refine hq_p rfl rfl ?_
                    refine ty_gT (t := 1) Ih95 rfl rfl (by decide) (by decide) rfl (by have q := Jh95; rw [eJ] at q; exact q.2.2) (fun _ => ?_)
                    refine hq_gR Ih95.1 rfl (ty_trs p1) (by omega) (by decide) rfl ?_
                    refine hq_p rfl rfl ?_
                    refine hq_p rfl rfl ?_
                    refine ty_gT (t := 12) Ih95 rfl rfl (by decide) (by decide) rfl (by have q := Jh95; rw [eJ] at q; exact q.2.1) (fun _ => ?_)
                    refine hq_gR Ih95.1 rfl (ty_trs p12) (by omega) (by decide) rfl ?_
                    refine hq_p rfl rfl ?_
                    refine ty_aL Ih95 rfl (ty_trs5 p12) (by omega) (by omega) (by omega) (fun i _ => ty_le (ty_tra5 p12 i)) (fun z105 ez105 az105 bz105 => ?_)
                    refine ty_aS (W := (ty_Wpl 18)) H Jh95 rfl (ty_trs5 p1) (by omega) (by omega) (by omega) (fun i e => by unfold ty_Wpl; omega) (fun i _ => ty_eg (ty_tra5 p1 i)) (by omega) (by omega) (fun e1 e2 w => by omega) (fun h106 eh106 Jh106 => ?_)
                    have Ih106 := H.1 h106 Jh106
                    refine hq_p rfl rfl ?_
                    refine ty_gT (t := 1) Ih106 rfl rfl (by decide) (by decide) rfl (by have q := Jh106; rw [eJ] at q; exact q.2.2) (fun _ => ?_)
                    refine hq_gR Ih106.1 rfl (ty_trs p1) (by omega) (by decide) rfl ?_
                    refine hq_p rfl rfl ?_
                    refine hq_p rfl rfl ?_
                    refine ty_gT (t := 12) Ih106 rfl rfl (by decide) (by decide) rfl (by have q := Jh106; rw [eJ] at q; exact q.2.1) (fun _ => ?_)
                    refine hq_gR Ih106.1 rfl (ty_trs p12) (by omega) (by decide) rfl ?_
                    refine hq_p rfl rfl ?_
                    refine ty_aL Ih106 rfl (ty_trs5 p12) (by omega) (by omega) (by omega) (fun i _ => ty_le (ty_tra5 p12 i)) (fun z107 ez107 az107 bz107 => ?_)
                    refine ty_aS (W := (ty_Wpl 18)) H Jh106 rfl (ty_trs5 p1) (by omega) (by omega) (by omega) (fun i e => by unfold ty_Wpl; omega) (fun i _ => ty_eg (ty_tra5 p1 i)) (by omega) (by omega) (fun e1 e2 w => by omega) (fun h108 eh108 Jh108 => ?_)
                    have Ih108 := H.1 h108 Jh108
                    refine ty_inc (ls' := fun z109 => [some (.ref 0), some (.int z8), some (.int z104), some (.int y47), some (.int z109)]) rfl rfl (fun _ => rfl) (nm_addc nk_i1 (by omega) (by omega)) (fun z109 ez109 => ?_)
                    refine hq_p rfl rfl ?_
                    exact ihn70 ((8 - z109.toInt).toNat) (by omega) z104 z109 h108 rfl (by omega) (by omega) (by omega) (by omega) Jh108
        exact L46_n70 _ y46 z60 h49 rfl (by omega) (by omega) (by omega) (by omega) Jh49
  exact L30_n54 _ z8 z9 none h5 rfl (by omega) (by omega) (by omega) (by omega) rfl Jh5
theorem ct_106b {X : pm_X} {d : Nat} {h : pm_H} {x1 : Int32} (hd : 8 ≤ d)  (hn : hs_fR h 0 0 = 12) (hp : hs_fR h 0 1 = 1) : ty_M X (ty_Wpl 18) d 106 [.ref 0, .int x1] h (ty_pi (-2147483648) 2147483647) := by
  intro J0 H0 hJ0
  obtain ⟨J, eJ⟩ : ∃ J : pm_H → Prop, J = fun h' => J0 h' ∧ hs_fR h' 0 0 = 12 ∧ hs_fR h' 0 1 = 1 := ⟨_, rfl⟩
  have H : ty_C (ty_Wpl 18) J := by rw [eJ]; exact H0.refs 12 1
  have hJ : J h := by rw [eJ]; exact ⟨hJ0, hn, hp⟩
  refine hq_M.mono (Nat.le_refl _) (Q := fun h' v => J h' ∧ (ty_pi (-2147483648) 2147483647) h' v) (fun h' v q => ⟨by have q1 := q.1; rw [eJ] at q1; exact q1.1, q.2⟩) ?_
  have p1 : ty_tr 1 := by simp [ty_tr]
  have l1 := ty_trl p1
  have p12 : ty_tr 12 := by simp [ty_tr]
  have l12 := ty_trl p12
  obtain ⟨d, rfl⟩ : ∃ e, d = e + 1 := ⟨d - 1, by omega⟩
  have I := H.1 h hJ
  have ax1 := nm_lo x1
  have bx1 := nm_hi x1
  refine hq_M.enter (q := (⟨"TrainBearers", "exchanged", "(I)I"⟩, _, 3, some .int, 10, 2, pm_c106)) rfl rfl ?_
  show hq_W X d 10 false (some .int) pm_c106 (0, [some (.ref 0), some (.int x1), none], [], h) (fun h' v => J h' ∧ (ty_pi (-2147483648) 2147483647) h' v)
  refine hq_p rfl rfl ?_
  refine ty_zeq rfl (fun c1 => ?_) (fun c1 => ?_)
  · refine hq_p rfl rfl ?_
    refine ty_callj 0 (W := (ty_Wpl 18)) H hJ rfl (fun _ => rfl) rfl rfl rfl (hq_pre_o I.1 (x := 0) (ci := 10) rfl (by decide) rfl rfl rfl rfl) (fun _ _ w => w) (fun _ w => w) (ct_133b (by omega) (by have q := hJ; rw [eJ] at q; exact q.2.1) (by have q := hJ; rw [eJ] at q; exact q.2.2)) (fun h3 _ Jh3 P2 => ?_)
    have Ih3 := H.1 h3 Jh3
    obtain ⟨z4, rfl, az4, bz4⟩ := P2
    refine hq_p (ls' := [some (.ref 0), some (.int x1), some (.int z4)]) rfl rfl ?_
    refine hq_p rfl rfl ?_
    refine hq_p rfl rfl (ty_ge (n := -1) nk_im1 (fun z5 ez5 => ?_))
    refine ty_ine rfl (fun c6 => ?_) (fun c6 => ?_)
    · clear c6
      refine hq_p rfl rfl ?_
      refine ty_zne rfl (fun c7 => ?_) (fun c7 => ?_)
      · exfalso; omega
      · refine hq_p rfl rfl ?_
        refine hq_p rfl rfl (ty_ge (n := 100) nk_b100 (fun z8 ez8 => ?_))
        refine hq_irem rfl (nm_nz (by omega)) (ty_ga (fun z9 az9 bz9 => ?_))
        refine hq_p rfl rfl ?_
        exact hq_W.ret rfl rfl rfl ⟨Jh3, _, rfl, by omega, by omega⟩
    · refine hq_p rfl rfl (ty_ge (n := -1) nk_im1 (fun z10 ez10 => ?_))
      exact hq_W.ret rfl rfl rfl ⟨Jh3, _, rfl, by omega, by omega⟩
  · clear c1
    refine hq_p rfl rfl ?_
    refine hq_p rfl rfl (ty_ge (n := 1) nk_i1 (fun z11 ez11 => ?_))
    refine ty_ieq rfl (fun c12 => ?_) (fun c12 => ?_)
    · refine hq_p rfl rfl ?_
      refine ty_callj 0 (W := (ty_Wpl 18)) H hJ rfl (fun _ => rfl) rfl rfl rfl (hq_pre_o I.1 (x := 0) (ci := 10) rfl (by decide) rfl rfl rfl rfl) (fun _ _ w => w) (fun _ w => w) (ct_133b (by omega) (by have q := hJ; rw [eJ] at q; exact q.2.1) (by have q := hJ; rw [eJ] at q; exact q.2.2)) (fun h14 _ Jh14 P13 => ?_)
      have Ih14 := H.1 h14 Jh14
      obtain ⟨z15, rfl, az15, bz15⟩ := P13
      refine hq_p (ls' := [some (.ref 0), some (.int x1), some (.int z15)]) rfl rfl ?_
      refine hq_p rfl rfl ?_
      refine hq_p rfl rfl (ty_ge (n := -1) nk_im1 (fun z16 ez16 => ?_))
      refine ty_ine rfl (fun c17 => ?_) (fun c17 => ?_)
      · clear c17
        refine hq_p rfl rfl ?_
        refine ty_zne rfl (fun c18 => ?_) (fun c18 => ?_)
        · clear c18
          refine hq_p rfl rfl ?_
          refine hq_p rfl rfl (ty_ge (n := 100) nk_b100 (fun z19 ez19 => ?_))
          refine hq_idiv rfl (nm_nz (by omega)) (ty_ga (fun z20 az20 bz20 => ?_))
          exact hq_W.ret rfl rfl rfl ⟨Jh14, _, rfl, by omega, by omega⟩
        · exfalso; omega
      · refine hq_p rfl rfl (ty_ge (n := -1) nk_im1 (fun z21 ez21 => ?_))
        exact hq_W.ret rfl rfl rfl ⟨Jh14, _, rfl, by omega, by omega⟩
    · clear c12
      refine hq_p rfl rfl (ty_ge (n := -1) nk_im1 (fun z22 ez22 => ?_))
      exact hq_W.ret rfl rfl rfl ⟨hJ, _, rfl, by omega, by omega⟩
theorem ct_109b {X : pm_X} {d : Nat} {h : pm_H}  (hd : 7 ≤ d)  (hn : hs_fR h 0 0 = 12) (hp : hs_fR h 0 1 = 1) : ty_M X (ty_Wpl 18) d 109 [.ref 0] h (ty_pi (-2147483648) 2147483647) := by
  intro J0 H0 hJ0
  obtain ⟨J, eJ⟩ : ∃ J : pm_H → Prop, J = fun h' => J0 h' ∧ hs_fR h' 0 0 = 12 ∧ hs_fR h' 0 1 = 1 := ⟨_, rfl⟩
  have H : ty_C (ty_Wpl 18) J := by rw [eJ]; exact H0.refs 12 1
  have hJ : J h := by rw [eJ]; exact ⟨hJ0, hn, hp⟩
  refine hq_M.mono (Nat.le_refl _) (Q := fun h' v => J h' ∧ (ty_pi (-2147483648) 2147483647) h' v) (fun h' v q => ⟨by have q1 := q.1; rw [eJ] at q1; exact q1.1, q.2⟩) ?_
  have p1 : ty_tr 1 := by simp [ty_tr]
  have l1 := ty_trl p1
  have p12 : ty_tr 12 := by simp [ty_tr]
  have l12 := ty_trl p12
  obtain ⟨d, rfl⟩ : ∃ e, d = e + 1 := ⟨d - 1, by omega⟩
  have I := H.1 h hJ
  refine hq_M.enter (q := (⟨"TrainBearers", "letGo", "()I"⟩, _, 1, some .int, 10, 1, pm_c109)) rfl rfl ?_
  show hq_W X d 10 false (some .int) pm_c109 (0, [some (.ref 0)], [], h) (fun h' v => J h' ∧ (ty_pi (-2147483648) 2147483647) h' v)
  refine hq_p rfl rfl ?_
  refine ty_gT (t := 1) I rfl rfl (by decide) (by decide) rfl (by have q := hJ; rw [eJ] at q; exact q.2.2) (fun _ => ?_)
  refine hq_p rfl rfl ?_
  refine ty_gT (t := 12) I rfl rfl (by decide) (by decide) rfl (by have q := hJ; rw [eJ] at q; exact q.2.1) (fun _ => ?_)
  refine ty_callj 0 (W := (ty_Wpl 18)) H hJ rfl (fun _ => rfl) rfl rfl rfl (hq_pre_o I.1 (x := 1) (ci := 8) (ty_trs p1) (by omega) rfl rfl rfl rfl) (fun a k w => by unfold ty_Wtr at w; unfold ty_Wpl; omega) (by unfold ty_Wtr ty_Wpl; omega) (ct_68 (t0 := 1) (t1 := 12) (by omega) p1 p12 (by decide)) (fun h2 _ Jh2 P1 => ?_)
  have Ih2 := H.1 h2 Jh2
  obtain ⟨rfl, c3⟩ := P1
  clear c3
  refine hq_p rfl rfl ?_
  refine hq_gR Ih2.1 rfl rfl (by decide) (by decide) rfl ?_
  refine hq_p rfl rfl ?_
  refine ty_gT (t := 1) Ih2 rfl rfl (by decide) (by decide) rfl (by have q := Jh2; rw [eJ] at q; exact q.2.2) (fun _ => ?_)
  refine hq_p rfl rfl ?_
  refine hq_gR Ih2.1 rfl rfl (by decide) (by decide) rfl ?_
  refine ty_callj 0 (W := (ty_Wpl 18)) H Jh2 rfl (fun _ => rfl) rfl rfl rfl (hq_pre_o Ih2.1 (x := 92) (ci := 2) rfl (by decide) rfl rfl rfl rfl) (fun a k w => by unfold ty_Wc at w; unfold ty_Wpl; omega) (by unfold ty_Wc ty_Wpl; omega) (ct_19 (t1 := 1) (t2 := 72) (by omega) p1 (show ty_ru 72 by simp [ty_ru])) (fun h5 _ Jh5 P4 => ?_)
  have Ih5 := H.1 h5 Jh5
  obtain ⟨z6, rfl, az6, bz6⟩ := P4
  exact hq_W.ret rfl rfl rfl ⟨Jh5, _, rfl, by omega, by omega⟩
theorem ct_110b {X : pm_X} {d : Nat} {h : pm_H} {x1 : Int32} (hd : 7 ≤ d)  (hn : hs_fR h 0 0 = 12) (hp : hs_fR h 0 1 = 1) : ty_M X (ty_Wpl 18) d 110 [.ref 0, .int x1] h (ty_pi (-2147483648) 2147483647) := by
  intro J0 H0 hJ0
  obtain ⟨J, eJ⟩ : ∃ J : pm_H → Prop, J = fun h' => J0 h' ∧ hs_fR h' 0 0 = 12 ∧ hs_fR h' 0 1 = 1 := ⟨_, rfl⟩
  have H : ty_C (ty_Wpl 18) J := by rw [eJ]; exact H0.refs 12 1
  have hJ : J h := by rw [eJ]; exact ⟨hJ0, hn, hp⟩
  refine hq_M.mono (Nat.le_refl _) (Q := fun h' v => J h' ∧ (ty_pi (-2147483648) 2147483647) h' v) (fun h' v q => ⟨by have q1 := q.1; rw [eJ] at q1; exact q1.1, q.2⟩) ?_
  have p1 : ty_tr 1 := by simp [ty_tr]
  have l1 := ty_trl p1
  have p12 : ty_tr 12 := by simp [ty_tr]
  have l12 := ty_trl p12
  obtain ⟨d, rfl⟩ : ∃ e, d = e + 1 := ⟨d - 1, by omega⟩
  have I := H.1 h hJ
  have ax1 := nm_lo x1
  have bx1 := nm_hi x1
  refine hq_M.enter (q := (⟨"TrainBearers", "look", "(I)I"⟩, _, 4, some .int, 10, 2, pm_c110)) rfl rfl ?_
  show hq_W X d 10 false (some .int) pm_c110 (0, [some (.ref 0), some (.int x1), none, none], [], h) (fun h' v => J h' ∧ (ty_pi (-2147483648) 2147483647) h' v)
  refine hq_p rfl rfl ?_
  refine ty_zeq rfl (fun c1 => ?_) (fun c1 => ?_)
  · refine hq_p rfl rfl ?_
    refine ty_gT (t := 1) I rfl rfl (by decide) (by decide) rfl (by have q := hJ; rw [eJ] at q; exact q.2.2) (fun _ => ?_)
    refine hq_p rfl rfl ?_
    refine ty_gT (t := 12) I rfl rfl (by decide) (by decide) rfl (by have q := hJ; rw [eJ] at q; exact q.2.1) (fun _ => ?_)
    refine ty_callj 0 (W := (ty_Wpl 18)) H hJ rfl (fun _ => rfl) rfl rfl rfl (hq_pre_o I.1 (x := 1) (ci := 8) (ty_trs p1) (by omega) rfl rfl rfl rfl) (fun a k w => by unfold ty_Wtr at w; unfold ty_Wpl; omega) (by unfold ty_Wtr ty_Wpl; omega) (ct_68 (t0 := 1) (t1 := 12) (by omega) p1 p12 (by decide)) (fun h3 _ Jh3 P2 => ?_)
    have Ih3 := H.1 h3 Jh3
    obtain ⟨rfl, c4⟩ := P2
    clear c4
    refine hq_p rfl rfl ?_
    refine hq_gR Ih3.1 rfl rfl (by decide) (by decide) rfl ?_
    refine hq_p rfl rfl ?_
    refine ty_gT (t := 1) Ih3 rfl rfl (by decide) (by decide) rfl (by have q := Jh3; rw [eJ] at q; exact q.2.2) (fun _ => ?_)
    refine hq_p rfl rfl ?_
    refine hq_gR Ih3.1 rfl rfl (by decide) (by decide) rfl ?_
    refine ty_callj 0 (W := (ty_Wpl 18)) H Jh3 rfl (fun _ => rfl) rfl rfl rfl (hq_pre_o Ih3.1 (x := 92) (ci := 2) rfl (by decide) rfl rfl rfl rfl) (fun a k w => by unfold ty_Wc at w; unfold ty_Wpl; omega) (by unfold ty_Wc ty_Wpl; omega) (ct_19 (t1 := 1) (t2 := 72) (by omega) p1 (show ty_ru 72 by simp [ty_ru])) (fun h6 _ Jh6 P5 => ?_)
    have Ih6 := H.1 h6 Jh6
    obtain ⟨z7, rfl, az7, bz7⟩ := P5
    refine hq_p (ls' := [some (.ref 0), some (.int x1), some (.int z7), none]) rfl rfl ?_
    refine hq_p rfl rfl ?_
    refine hq_gR Ih6.1 rfl rfl (by decide) (by decide) rfl ?_
    refine hq_p rfl rfl ?_
    refine hq_p rfl rfl ?_
    refine ty_gT (t := 12) Ih6 rfl rfl (by decide) (by decide) rfl (by have q := Jh6; rw [eJ] at q; exact q.2.1) (fun _ => ?_)
    refine ty_gI Ih6 rfl (ty_trs p12) (by omega) (by decide) rfl (ty_trf p12 0) (fun z8 ez8 az8 bz8 => ?_)
    refine ty_callp 0 Ih6 rfl (fun _ => rfl) rfl rfl rfl (hq_pre_o Ih6.1 (x := 92) (ci := 2) rfl (by decide) rfl rfl rfl rfl) (ct_21 (x1 := z7) (x2 := z8) (by omega)) (fun _ P9 => ?_)
    obtain ⟨z10, rfl, az10, bz10⟩ := P9
    refine hq_p (ls' := [some (.ref 0), some (.int x1), some (.int z7), some (.int z10)]) rfl rfl ?_
    refine hq_p rfl rfl ?_
    refine hq_p rfl rfl (ty_ge (n := -1) nk_im1 (fun z11 ez11 => ?_))
    refine ty_ine rfl (fun c12 => ?_) (fun c12 => ?_)
    · replace c12 : 0 ≤ z10.toInt ∧ z10.toInt ≤ 7 := by omega
      refine hq_p rfl rfl ?_
      refine ty_zne rfl (fun c13 => ?_) (fun c13 => ?_)
      · exfalso; omega
      · refine hq_p rfl rfl ?_
        refine hq_p rfl rfl ?_
        exact hq_W.ret rfl rfl rfl ⟨Jh6, _, rfl, by omega, by omega⟩
    · refine hq_p rfl rfl (ty_ge (n := -1) nk_im1 (fun z14 ez14 => ?_))
      exact hq_W.ret rfl rfl rfl ⟨Jh6, _, rfl, by omega, by omega⟩
  · clear c1
    refine hq_p rfl rfl ?_
    refine hq_p rfl rfl (ty_ge (n := 1) nk_i1 (fun z15 ez15 => ?_))
    refine ty_ieq rfl (fun c16 => ?_) (fun c16 => ?_)
    · refine hq_p rfl rfl ?_
      refine ty_gT (t := 1) I rfl rfl (by decide) (by decide) rfl (by have q := hJ; rw [eJ] at q; exact q.2.2) (fun _ => ?_)
      refine hq_p rfl rfl ?_
      refine ty_gT (t := 12) I rfl rfl (by decide) (by decide) rfl (by have q := hJ; rw [eJ] at q; exact q.2.1) (fun _ => ?_)
      refine ty_callj 0 (W := (ty_Wpl 18)) H hJ rfl (fun _ => rfl) rfl rfl rfl (hq_pre_o I.1 (x := 1) (ci := 8) (ty_trs p1) (by omega) rfl rfl rfl rfl) (fun a k w => by unfold ty_Wtr at w; unfold ty_Wpl; omega) (by unfold ty_Wtr ty_Wpl; omega) (ct_68 (t0 := 1) (t1 := 12) (by omega) p1 p12 (by decide)) (fun h18 _ Jh18 P17 => ?_)
      have Ih18 := H.1 h18 Jh18
      obtain ⟨rfl, c19⟩ := P17
      clear c19
      refine hq_p rfl rfl ?_
      refine hq_gR Ih18.1 rfl rfl (by decide) (by decide) rfl ?_
      refine hq_p rfl rfl ?_
      refine ty_gT (t := 1) Ih18 rfl rfl (by decide) (by decide) rfl (by have q := Jh18; rw [eJ] at q; exact q.2.2) (fun _ => ?_)
      refine hq_p rfl rfl ?_
      refine hq_gR Ih18.1 rfl rfl (by decide) (by decide) rfl ?_
      refine ty_callj 0 (W := (ty_Wpl 18)) H Jh18 rfl (fun _ => rfl) rfl rfl rfl (hq_pre_o Ih18.1 (x := 92) (ci := 2) rfl (by decide) rfl rfl rfl rfl) (fun a k w => by unfold ty_Wc at w; unfold ty_Wpl; omega) (by unfold ty_Wc ty_Wpl; omega) (ct_19 (t1 := 1) (t2 := 72) (by omega) p1 (show ty_ru 72 by simp [ty_ru])) (fun h21 _ Jh21 P20 => ?_)
      have Ih21 := H.1 h21 Jh21
      obtain ⟨z22, rfl, az22, bz22⟩ := P20
      refine hq_p (ls' := [some (.ref 0), some (.int x1), some (.int z22), none]) rfl rfl ?_
      refine hq_p rfl rfl ?_
      refine hq_gR Ih21.1 rfl rfl (by decide) (by decide) rfl ?_
      refine hq_p rfl rfl ?_
      refine hq_p rfl rfl ?_
      refine ty_gT (t := 12) Ih21 rfl rfl (by decide) (by decide) rfl (by have q := Jh21; rw [eJ] at q; exact q.2.1) (fun _ => ?_)
      refine ty_gI Ih21 rfl (ty_trs p12) (by omega) (by decide) rfl (ty_trf p12 0) (fun z23 ez23 az23 bz23 => ?_)
      refine ty_callp 0 Ih21 rfl (fun _ => rfl) rfl rfl rfl (hq_pre_o Ih21.1 (x := 92) (ci := 2) rfl (by decide) rfl rfl rfl rfl) (ct_21 (x1 := z22) (x2 := z23) (by omega)) (fun _ P24 => ?_)
      obtain ⟨z25, rfl, az25, bz25⟩ := P24
      refine hq_p (ls' := [some (.ref 0), some (.int x1), some (.int z22), some (.int z25)]) rfl rfl ?_
      refine hq_p rfl rfl ?_
      refine hq_p rfl rfl (ty_ge (n := -1) nk_im1 (fun z26 ez26 => ?_))
      refine ty_ine rfl (fun c27 => ?_) (fun c27 => ?_)
      · replace c27 : 0 ≤ z25.toInt ∧ z25.toInt ≤ 7 := by omega
        refine hq_p rfl rfl ?_
        refine ty_zne rfl (fun c28 => ?_) (fun c28 => ?_)
        · clear c28
          refine hq_p rfl rfl ?_
          refine hq_gR Ih21.1 rfl rfl (by decide) (by decide) rfl ?_
          refine hq_p rfl rfl ?_
          refine hq_p rfl rfl ?_
          refine ty_callp 0 Ih21 rfl (fun _ => rfl) rfl rfl rfl (hq_pre_o Ih21.1 (x := 92) (ci := 2) rfl (by decide) rfl rfl rfl rfl) (ct_22 (x1 := z22) (x2 := z25) (by omega) (by omega) (by omega)) (fun _ P29 => ?_)
          obtain ⟨z30, rfl, az30, bz30⟩ := P29
          exact hq_W.ret rfl rfl rfl ⟨Jh21, _, rfl, by omega, by omega⟩
        · exfalso; omega
      · refine hq_p rfl rfl (ty_ge (n := -1) nk_im1 (fun z31 ez31 => ?_))
        exact hq_W.ret rfl rfl rfl ⟨Jh21, _, rfl, by omega, by omega⟩
    · clear c16
      refine hq_p rfl rfl (ty_ge (n := -1) nk_im1 (fun z32 ez32 => ?_))
      exact hq_W.ret rfl rfl rfl ⟨hJ, _, rfl, by omega, by omega⟩
theorem ct_112b {X : pm_X} {d : Nat} {h : pm_H} {x1 : Int32} (hd : 7 ≤ d)  (hn : hs_fR h 0 0 = 12) (hp : hs_fR h 0 1 = 1) : ty_M X (ty_Wpl 18) d 112 [.ref 0, .int x1] h (ty_pi (-2147483648) 2147483647) := by
  intro J0 H0 hJ0
  obtain ⟨J, eJ⟩ : ∃ J : pm_H → Prop, J = fun h' => J0 h' ∧ hs_fR h' 0 0 = 12 ∧ hs_fR h' 0 1 = 1 := ⟨_, rfl⟩
  have H : ty_C (ty_Wpl 18) J := by rw [eJ]; exact H0.refs 12 1
  have hJ : J h := by rw [eJ]; exact ⟨hJ0, hn, hp⟩
  refine hq_M.mono (Nat.le_refl _) (Q := fun h' v => J h' ∧ (ty_pi (-2147483648) 2147483647) h' v) (fun h' v q => ⟨by have q1 := q.1; rw [eJ] at q1; exact q1.1, q.2⟩) ?_
  have p1 : ty_tr 1 := by simp [ty_tr]
  have l1 := ty_trl p1
  have p12 : ty_tr 12 := by simp [ty_tr]
  have l12 := ty_trl p12
  obtain ⟨d, rfl⟩ : ∃ e, d = e + 1 := ⟨d - 1, by omega⟩
  have I := H.1 h hJ
  have ax1 := nm_lo x1
  have bx1 := nm_hi x1
  refine hq_M.enter (q := (⟨"TrainBearers", "brought", "(I)I"⟩, _, 3, some .int, 10, 2, pm_c112)) rfl rfl ?_
  show hq_W X d 10 false (some .int) pm_c112 (0, [some (.ref 0), some (.int x1), none], [], h) (fun h' v => J h' ∧ (ty_pi (-2147483648) 2147483647) h' v)
  refine hq_p rfl rfl ?_
  refine hq_gR I.1 rfl rfl (by decide) (by decide) rfl ?_
  refine hq_p rfl rfl ?_
  refine ty_gT (t := 12) I rfl rfl (by decide) (by decide) rfl (by have q := hJ; rw [eJ] at q; exact q.2.1) (fun _ => ?_)
  refine hq_p rfl rfl ?_
  refine ty_callj 0 (W := (ty_Wpl 18)) H hJ rfl (fun _ => rfl) rfl rfl rfl (hq_pre_o I.1 (x := 94) (ci := 9) rfl (by decide) rfl rfl rfl rfl) (fun a k w => by unfold ty_Wc at w; unfold ty_Wpl; omega) (by unfold ty_Wc ty_Wpl; omega) (ct_78 (t1 := 12) (x2 := x1) (by omega) p12) (fun h2 _ Jh2 P1 => ?_)
  have Ih2 := H.1 h2 Jh2
  obtain ⟨z3, rfl, az3, bz3, iz3⟩ := P1
  refine ty_zne rfl (fun c4 => ?_) (fun c4 => ?_)
  · replace c4 : 1 ≤ z3.toInt ∧ z3.toInt ≤ 1 := by omega
    have f5 := iz3 (by omega)
    clear iz3
    refine hq_p rfl rfl ?_
    refine ty_gT (t := 1) Ih2 rfl rfl (by decide) (by decide) rfl (by have q := Jh2; rw [eJ] at q; exact q.2.2) (fun _ => ?_)
    refine hq_p rfl rfl ?_
    refine ty_gT (t := 12) Ih2 rfl rfl (by decide) (by decide) rfl (by have q := Jh2; rw [eJ] at q; exact q.2.1) (fun _ => ?_)
    refine ty_callj 0 (W := (ty_Wpl 18)) H Jh2 rfl (fun _ => rfl) rfl rfl rfl (hq_pre_o Ih2.1 (x := 1) (ci := 8) (ty_trs p1) (by omega) rfl rfl rfl rfl) (fun a k w => by unfold ty_Wtr at w; unfold ty_Wpl; omega) (by unfold ty_Wtr ty_Wpl; omega) (ct_68 (t0 := 1) (t1 := 12) (by omega) p1 p12 (by decide)) (fun h7 _ Jh7 P6 => ?_)
    have Ih7 := H.1 h7 Jh7
    obtain ⟨rfl, c8⟩ := P6
    clear c8
    refine hq_p rfl rfl (ty_ge (n := 0) nk_i0 (fun z9 ez9 => ?_))
    refine hq_p (ls' := [some (.ref 0), some (.int x1), some (.int z9)]) rfl rfl ?_
    have L30_n28 : ∀ n28 : Nat, ∀ (y24 : Int32) (h25 : pm_H), (6 - y24.toInt).toNat = n28 → 0 ≤ y24.toInt → y24.toInt ≤ 6 → J h25 → hq_W X d 10 false (some .int) pm_c112 (30, [some (.ref 0), some (.int x1), some (.int y24)], [], h25) (fun h' v => J h' ∧ (ty_pi (-2147483648) 2147483647) h' v) := by
      intro n28
      induction n28 using Nat.strongRecOn with
      | ind n28 ihn28 =>
        intro y24 h25 mn28 ay24 by24 Jh25
        have Ih25 := H.1 h25 Jh25
        refine hq_p rfl rfl ?_
        refine hq_p rfl rfl (ty_ge (n := 6) nk_b6 (fun z29 ez29 => ?_))
        refine ty_ige rfl (fun c30 => ?_) (fun c30 => ?_)
        · refine hq_p rfl rfl ?_
          refine ty_gT (t := 1) Ih25 rfl rfl (by decide) (by decide) rfl (by have q := Jh25; rw [eJ] at q; exact q.2.2) (fun _ => ?_)
          refine ty_gI Ih25 rfl (ty_trs p1) (by omega) (by decide) rfl (ty_trf p1 9) (fun z31 ez31 az31 bz31 => ?_)
          refine hq_p rfl rfl ?_
          refine ty_gT (t := 12) Ih25 rfl rfl (by decide) (by decide) rfl (by have q := Jh25; rw [eJ] at q; exact q.2.1) (fun _ => ?_)
          refine ty_gI Ih25 rfl (ty_trs p12) (by omega) (by decide) rfl (ty_trf p12 9) (fun z32 ez32 az32 bz32 => ?_)
          refine hq_p rfl rfl (ty_ga (fun z33 az33 bz33 => ?_))
          exact hq_W.ret rfl rfl rfl ⟨Jh25, _, rfl, by omega, by omega⟩
        · refine hq_p rfl rfl ?_
          refine ty_gT (t := 1) Ih25 rfl rfl (by decide) (by decide) rfl (by have q := Jh25; rw [eJ] at q; exact q.2.2) (fun _ => ?_)
          refine ty_gI Ih25 rfl (ty_trs p1) (by omega) (by decide) rfl (ty_trf p1 8) (fun z34 ez34 az34 bz34 => ?_)
          refine hq_p rfl rfl ?_
          refine ty_ieq rfl (fun c35 => ?_) (fun c35 => ?_)
          · refine hq_p rfl rfl ?_
            refine ty_gT (t := 1) Ih25 rfl rfl (by decide) (by decide) rfl (by have q := Jh25; rw [eJ] at q; exact q.2.2) (fun _ => ?_)
            refine ty_gI Ih25 rfl (ty_trs p1) (by omega) (by decide) rfl (ty_trf p1 9) (fun z36 ez36 az36 bz36 => ?_)
            refine hq_p rfl rfl ?_
            refine ty_gT (t := 12) Ih25 rfl rfl (by decide) (by decide) rfl (by have q := Jh25; rw [eJ] at q; exact q.2.1) (fun _ => ?_)
            refine ty_gI Ih25 rfl (ty_trs p12) (by omega) (by decide) rfl (ty_trf p12 9) (fun z37 ez37 az37 bz37 => ?_)
            refine hq_p rfl rfl (ty_ga (fun z38 az38 bz38 => ?_))
            exact hq_W.ret rfl rfl rfl ⟨Jh25, _, rfl, by omega, by omega⟩
          · clear c35
            refine hq_p rfl rfl ?_
            refine hq_gR Ih25.1 rfl rfl (by decide) (by decide) rfl ?_
            refine hq_p rfl rfl ?_
            refine ty_gT (t := 1) Ih25 rfl rfl (by decide) (by decide) rfl (by have q := Jh25; rw [eJ] at q; exact q.2.2) (fun _ => ?_)
            refine hq_p rfl rfl ?_
            obtain ⟨t39, kt39⟩ : ∃ q, hs_fR h25 0 6 = q := ⟨_, rfl⟩
            refine ty_gS Ih25 rfl rfl (by decide) (by decide) rfl kt39 (fun ot39 => ?_)
            have pt39 : ty_sp t39 := ot39
            have lt39 := ty_spl pt39
            clear ot39
            refine hq_p rfl rfl ?_
            refine hq_gR Ih25.1 rfl rfl (by decide) (by decide) rfl ?_
            refine hq_p rfl rfl ?_
            refine ty_gT (t := 1) Ih25 rfl rfl (by decide) (by decide) rfl (by have q := Jh25; rw [eJ] at q; exact q.2.2) (fun _ => ?_)
            refine hq_p rfl rfl ?_
            refine ty_gT (t := 1) Ih25 rfl rfl (by decide) (by decide) rfl (by have q := Jh25; rw [eJ] at q; exact q.2.2) (fun _ => ?_)
            refine ty_gI Ih25 rfl (ty_trs p1) (by omega) (by decide) rfl (ty_trf p1 8) (fun z40 ez40 az40 bz40 => ?_)
            refine ty_callp 0 Ih25 rfl (fun _ => rfl) rfl rfl rfl (hq_pre_o Ih25.1 (x := 94) (ci := 9) rfl (by decide) rfl rfl rfl rfl) (ct_80 (t1 := 1) (x2 := z40) (by omega) p1) (fun _ P41 => ?_)
            obtain ⟨z42, rfl, az42, bz42⟩ := P41
            refine ty_callj 0 (W := (ty_Wpl 18)) H Jh25 rfl (fun _ => rfl) rfl rfl rfl (hq_pre_o Ih25.1 (x := 76) (ci := 1) rfl (by decide) rfl rfl rfl rfl) (fun a k w => by unfold ty_Wc at w; unfold ty_Wpl; omega) (by unfold ty_Wc ty_Wpl; omega) (ct_11 (t1 := 1) (t2 := t39) (x3 := z42) (by omega) p1 pt39) (fun h44 _ Jh44 P43 => ?_)
            have Ih44 := H.1 h44 Jh44
            obtain ⟨z45, rfl, az45, bz45⟩ := P43
            refine hq_p rfl rfl ?_
            refine ty_inc (ls' := fun z46 => [some (.ref 0), some (.int x1), some (.int z46)]) rfl rfl (fun _ => rfl) (nm_addc nk_i1 (by omega) (by omega)) (fun z46 ez46 => ?_)
            refine hq_p rfl rfl ?_
            exact ihn28 ((6 - z46.toInt).toNat) (by omega) z46 h44 rfl (by omega) (by omega) Jh44
    exact L30_n28 _ z9 h7 rfl (by omega) (by omega) Jh7
  · clear iz3
    refine hq_p rfl rfl (ty_ge (n := -1) nk_im1 (fun z47 ez47 => ?_))
    exact hq_W.ret rfl rfl rfl ⟨Jh2, _, rfl, by omega, by omega⟩
theorem ct_114b {X : pm_X} {d : Nat} {h : pm_H} {x1 : Int32} (hd : 7 ≤ d)  (hn : hs_fR h 0 0 = 12) (hp : hs_fR h 0 1 = 1) : ty_M X (ty_Wpl 18) d 114 [.ref 0, .int x1] h (ty_pi (-2147483648) 2147483647) := by
  intro J0 H0 hJ0
  obtain ⟨J, eJ⟩ : ∃ J : pm_H → Prop, J = fun h' => J0 h' ∧ hs_fR h' 0 0 = 12 ∧ hs_fR h' 0 1 = 1 := ⟨_, rfl⟩
  have H : ty_C (ty_Wpl 18) J := by rw [eJ]; exact H0.refs 12 1
  have hJ : J h := by rw [eJ]; exact ⟨hJ0, hn, hp⟩
  refine hq_M.mono (Nat.le_refl _) (Q := fun h' v => J h' ∧ (ty_pi (-2147483648) 2147483647) h' v) (fun h' v q => ⟨by have q1 := q.1; rw [eJ] at q1; exact q1.1, q.2⟩) ?_
  have p1 : ty_tr 1 := by simp [ty_tr]
  have l1 := ty_trl p1
  have p12 : ty_tr 12 := by simp [ty_tr]
  have l12 := ty_trl p12
  obtain ⟨d, rfl⟩ : ∃ e, d = e + 1 := ⟨d - 1, by omega⟩
  have I := H.1 h hJ
  have ax1 := nm_lo x1
  have bx1 := nm_hi x1
  refine hq_M.enter (q := (⟨"TrainBearers", "resting", "(I)I"⟩, _, 3, some .int, 10, 2, pm_c114)) rfl rfl ?_
  show hq_W X d 10 false (some .int) pm_c114 (0, [some (.ref 0), some (.int x1), none], [], h) (fun h' v => J h' ∧ (ty_pi (-2147483648) 2147483647) h' v)
  refine hq_p rfl rfl ?_
  refine ty_gT (t := 12) I rfl rfl (by decide) (by decide) rfl (by have q := hJ; rw [eJ] at q; exact q.2.1) (fun _ => ?_)
  refine hq_p rfl rfl ?_
  refine ty_gT (t := 12) I rfl rfl (by decide) (by decide) rfl (by have q := hJ; rw [eJ] at q; exact q.2.1) (fun _ => ?_)
  refine ty_gI I rfl (ty_trs p12) (by omega) (by decide) rfl (ty_trf p12 8) (fun z1 ez1 az1 bz1 => ?_)
  refine hq_p rfl rfl ?_
  refine ty_callp 0 I rfl (fun _ => rfl) rfl rfl rfl (hq_pre_o I.1 (x := 12) (ci := 8) (ty_trs p12) (by omega) rfl rfl rfl rfl) (ct_75 (t0 := 12) (x1 := z1) (x2 := x1) (by omega) p12) (fun _ P2 => ?_)
  obtain ⟨z3, rfl, az3, bz3⟩ := P2
  refine hq_p rfl rfl (ty_ge (n := -1) nk_im1 (fun z4 ez4 => ?_))
  refine ty_ine rfl (fun c5 => ?_) (fun c5 => ?_)
  · clear c5
    refine hq_p rfl rfl ?_
    refine ty_gT (t := 1) I rfl rfl (by decide) (by decide) rfl (by have q := hJ; rw [eJ] at q; exact q.2.2) (fun _ => ?_)
    refine hq_p rfl rfl ?_
    refine ty_gT (t := 12) I rfl rfl (by decide) (by decide) rfl (by have q := hJ; rw [eJ] at q; exact q.2.1) (fun _ => ?_)
    refine ty_callj 0 (W := (ty_Wpl 18)) H hJ rfl (fun _ => rfl) rfl rfl rfl (hq_pre_o I.1 (x := 1) (ci := 8) (ty_trs p1) (by omega) rfl rfl rfl rfl) (fun a k w => by unfold ty_Wtr at w; unfold ty_Wpl; omega) (by unfold ty_Wtr ty_Wpl; omega) (ct_68 (t0 := 1) (t1 := 12) (by omega) p1 p12 (by decide)) (fun h7 _ Jh7 P6 => ?_)
    have Ih7 := H.1 h7 Jh7
    obtain ⟨rfl, c8⟩ := P6
    clear c8
    refine hq_p rfl rfl (ty_ge (n := 0) nk_i0 (fun z9 ez9 => ?_))
    refine hq_p (ls' := [some (.ref 0), some (.int x1), some (.int z9)]) rfl rfl ?_
    have L34_n48 : ∀ n48 : Nat, ∀ (y44 : Int32) (h45 : pm_H), (21 - y44.toInt).toNat = n48 → 0 ≤ y44.toInt → y44.toInt ≤ 21 → J h45 → hq_W X d 10 false (some .int) pm_c114 (34, [some (.ref 0), some (.int x1), some (.int y44)], [], h45) (fun h' v => J h' ∧ (ty_pi (-2147483648) 2147483647) h' v) := by
      intro n48
      induction n48 using Nat.strongRecOn with
      | ind n48 ihn48 =>
        intro y44 h45 mn48 ay44 by44 Jh45
        have Ih45 := H.1 h45 Jh45
        refine hq_p rfl rfl ?_
        refine hq_p rfl rfl (ty_ge (n := 20) nk_b20 (fun z49 ez49 => ?_))
        refine ty_igt rfl (fun c50 => ?_) (fun c50 => ?_)
        · refine hq_p rfl rfl (ty_ge (n := -1) nk_im1 (fun z51 ez51 => ?_))
          exact hq_W.ret rfl rfl rfl ⟨Jh45, _, rfl, by omega, by omega⟩
        · refine hq_p rfl rfl ?_
          refine hq_gR Ih45.1 rfl rfl (by decide) (by decide) rfl ?_
          refine hq_p rfl rfl ?_
          refine ty_gT (t := 1) Ih45 rfl rfl (by decide) (by decide) rfl (by have q := Jh45; rw [eJ] at q; exact q.2.2) (fun _ => ?_)
          refine ty_callj 0 (W := (ty_Wpl 18)) H Jh45 rfl (fun _ => rfl) rfl rfl rfl (hq_pre_o Ih45.1 (x := 72) (ci := 4) rfl (by decide) rfl rfl rfl rfl) (fun a k w => by unfold ty_Wu at w; unfold ty_Wpl; omega) (by unfold ty_Wu ty_Wpl; omega) (ct_49 (t0 := 72) (t1 := 1) (by omega) (show ty_ru 72 by simp [ty_ru]) p1) (fun h53 _ Jh53 P52 => ?_)
          have Ih53 := H.1 h53 Jh53
          obtain ⟨z54, rfl, az54, bz54⟩ := P52
          refine ty_zne rfl (fun c55 => ?_) (fun c55 => ?_)
          · clear c55
            refine hq_p rfl rfl ?_
            refine hq_gR Ih53.1 rfl rfl (by decide) (by decide) rfl ?_
            refine hq_p rfl rfl ?_
            refine ty_gT (t := 1) Ih53 rfl rfl (by decide) (by decide) rfl (by have q := Jh53; rw [eJ] at q; exact q.2.2) (fun _ => ?_)
            refine hq_p rfl rfl ?_
            obtain ⟨t56, kt56⟩ : ∃ q, hs_fR h53 0 6 = q := ⟨_, rfl⟩
            refine ty_gS Ih53 rfl rfl (by decide) (by decide) rfl kt56 (fun ot56 => ?_)
            have pt56 : ty_sp t56 := ot56
            have lt56 := ty_spl pt56
            clear ot56
            refine ty_callj 0 (W := (ty_Wpl 18)) H Jh53 rfl (fun _ => rfl) rfl rfl rfl (hq_pre_o Ih53.1 (x := 76) (ci := 1) rfl (by decide) rfl rfl rfl rfl) (fun a k w => by unfold ty_Wc at w; unfold ty_Wpl; omega) (by unfold ty_Wc ty_Wpl; omega) (ct_13 (t1 := 1) (t2 := t56) (by omega) p1 pt56) (fun h58 _ Jh58 P57 => ?_)
            have Ih58 := H.1 h58 Jh58
            obtain ⟨z59, rfl, az59, bz59⟩ := P57
            refine ty_zge rfl (fun c60 => ?_) (fun c60 => ?_)
            · refine ty_inc (ls' := fun z61 => [some (.ref 0), some (.int x1), some (.int z61)]) rfl rfl (fun _ => rfl) (nm_addc nk_i1 (by omega) (by omega)) (fun z61 ez61 => ?_)
              refine hq_p rfl rfl ?_
              exact ihn48 ((21 - z61.toInt).toNat) (by omega) z61 h58 rfl (by omega) (by omega) Jh58
            · refine hq_p rfl rfl (ty_ge (n := -1) nk_im1 (fun z62 ez62 => ?_))
              exact hq_W.ret rfl rfl rfl ⟨Jh58, _, rfl, by omega, by omega⟩
          · refine hq_p rfl rfl ?_
            exact hq_W.ret rfl rfl rfl ⟨Jh53, _, rfl, by omega, by omega⟩
    exact L34_n48 _ z9 h7 rfl (by omega) (by omega) Jh7
  · refine hq_p rfl rfl (ty_ge (n := -1) nk_im1 (fun z63 ez63 => ?_))
    exact hq_W.ret rfl rfl rfl ⟨hJ, _, rfl, by omega, by omega⟩
theorem ct_117b {X : pm_X} {d : Nat} {h : pm_H} {x1 : Int32} (hd : 7 ≤ d)  (hn : hs_fR h 0 0 = 12) (hp : hs_fR h 0 1 = 1) : ty_M X (ty_Wpl 18) d 117 [.ref 0, .int x1] h (ty_pi (-2147483648) 2147483647) := by
  intro J0 H0 hJ0
  obtain ⟨J, eJ⟩ : ∃ J : pm_H → Prop, J = fun h' => J0 h' ∧ hs_fR h' 0 0 = 12 ∧ hs_fR h' 0 1 = 1 := ⟨_, rfl⟩
  have H : ty_C (ty_Wpl 18) J := by rw [eJ]; exact H0.refs 12 1
  have hJ : J h := by rw [eJ]; exact ⟨hJ0, hn, hp⟩
  refine hq_M.mono (Nat.le_refl _) (Q := fun h' v => J h' ∧ (ty_pi (-2147483648) 2147483647) h' v) (fun h' v q => ⟨by have q1 := q.1; rw [eJ] at q1; exact q1.1, q.2⟩) ?_
  have p1 : ty_tr 1 := by simp [ty_tr]
  have l1 := ty_trl p1
  have p12 : ty_tr 12 := by simp [ty_tr]
  have l12 := ty_trl p12
  obtain ⟨d, rfl⟩ : ∃ e, d = e + 1 := ⟨d - 1, by omega⟩
  have I := H.1 h hJ
  have ax1 := nm_lo x1
  have bx1 := nm_hi x1
  refine hq_M.enter (q := (⟨"TrainBearers", "compare", "(I)I"⟩, _, 2, some .int, 10, 2, pm_c117)) rfl rfl ?_
  show hq_W X d 10 false (some .int) pm_c117 (0, [some (.ref 0), some (.int x1)], [], h) (fun h' v => J h' ∧ (ty_pi (-2147483648) 2147483647) h' v)
  refine hq_p rfl rfl ?_
  refine hq_p rfl rfl (ty_ge (n := -1) nk_im1 (fun z1 ez1 => ?_))
  refine ty_ieq rfl (fun c2 => ?_) (fun c2 => ?_)
  · refine hq_p rfl rfl ?_
    refine ty_gT (t := 1) I rfl rfl (by decide) (by decide) rfl (by have q := hJ; rw [eJ] at q; exact q.2.2) (fun _ => ?_)
    refine hq_p rfl rfl ?_
    refine ty_gT (t := 12) I rfl rfl (by decide) (by decide) rfl (by have q := hJ; rw [eJ] at q; exact q.2.1) (fun _ => ?_)
    refine ty_callj 0 (W := (ty_Wpl 18)) H hJ rfl (fun _ => rfl) rfl rfl rfl (hq_pre_o I.1 (x := 1) (ci := 8) (ty_trs p1) (by omega) rfl rfl rfl rfl) (fun a k w => by unfold ty_Wtr at w; unfold ty_Wpl; omega) (by unfold ty_Wtr ty_Wpl; omega) (ct_68 (t0 := 1) (t1 := 12) (by omega) p1 p12 (by decide)) (fun h4 _ Jh4 P3 => ?_)
    have Ih4 := H.1 h4 Jh4
    obtain ⟨rfl, c5⟩ := P3
    clear c5
    refine hq_p rfl rfl ?_
    refine ty_gT (t := 1) Ih4 rfl rfl (by decide) (by decide) rfl (by have q := Jh4; rw [eJ] at q; exact q.2.2) (fun _ => ?_)
    refine hq_p rfl rfl ?_
    refine ty_pI (W := (ty_Wpl 18)) H Jh4 rfl (ty_trs p1) (by omega) rfl rfl (by unfold ty_Wpl; omega) (ty_trf p1 16) (by omega) (by omega) (fun h6 eh6 Jh6 => ?_)
    have wh6 : (hs_fI h6 1 16).toInt = x1.toInt := by rw [eh6]; exact congrArg Int32.toInt (ty_fI_eq Ih4.1 (ty_trs p1) (by omega) rfl)
    have Ih6 := H.1 h6 Jh6
    refine hq_p rfl rfl ?_
    refine hq_gR Ih6.1 rfl rfl (by decide) (by decide) rfl ?_
    refine hq_p rfl rfl ?_
    refine ty_gT (t := 1) Ih6 rfl rfl (by decide) (by decide) rfl (by have q := Jh6; rw [eJ] at q; exact q.2.2) (fun _ => ?_)
    refine ty_callj 0 (W := (ty_Wpl 18)) H Jh6 rfl (fun _ => rfl) rfl rfl rfl (hq_pre_o Ih6.1 (x := 72) (ci := 4) rfl (by decide) rfl rfl rfl rfl) (fun a k w => by unfold ty_Wu at w; unfold ty_Wpl; omega) (by unfold ty_Wu ty_Wpl; omega) (ct_49 (t0 := 72) (t1 := 1) (by omega) (show ty_ru 72 by simp [ty_ru]) p1) (fun h8 _ Jh8 P7 => ?_)
    have Ih8 := H.1 h8 Jh8
    obtain ⟨z9, rfl, az9, bz9⟩ := P7
    exact hq_W.ret rfl rfl rfl ⟨Jh8, _, rfl, by omega, by omega⟩
  · clear c2
    refine hq_p rfl rfl ?_
    refine ty_gT (t := 12) I rfl rfl (by decide) (by decide) rfl (by have q := hJ; rw [eJ] at q; exact q.2.1) (fun _ => ?_)
    refine hq_p rfl rfl ?_
    refine ty_callp 0 I rfl (fun _ => rfl) rfl rfl rfl (hq_pre_o I.1 (x := 12) (ci := 8) (ty_trs p12) (by omega) rfl rfl rfl rfl) (ct_71 (t0 := 12) (x1 := x1) (by omega) p12) (fun _ P10 => ?_)
    obtain ⟨z11, rfl, az11, bz11, iz11⟩ := P10
    refine ty_zne rfl (fun c12 => ?_) (fun c12 => ?_)
    · replace c12 : 1 ≤ z11.toInt ∧ z11.toInt ≤ 1 := by omega
      have f13 := iz11 (by omega)
      clear iz11
      refine hq_p rfl rfl ?_
      refine ty_gT (t := 1) I rfl rfl (by decide) (by decide) rfl (by have q := hJ; rw [eJ] at q; exact q.2.2) (fun _ => ?_)
      refine hq_p rfl rfl ?_
      refine ty_gT (t := 12) I rfl rfl (by decide) (by decide) rfl (by have q := hJ; rw [eJ] at q; exact q.2.1) (fun _ => ?_)
      refine ty_callj 0 (W := (ty_Wpl 18)) H hJ rfl (fun _ => rfl) rfl rfl rfl (hq_pre_o I.1 (x := 1) (ci := 8) (ty_trs p1) (by omega) rfl rfl rfl rfl) (fun a k w => by unfold ty_Wtr at w; unfold ty_Wpl; omega) (by unfold ty_Wtr ty_Wpl; omega) (ct_68 (t0 := 1) (t1 := 12) (by omega) p1 p12 (by decide)) (fun h15 _ Jh15 P14 => ?_)
      have Ih15 := H.1 h15 Jh15
      obtain ⟨rfl, c16⟩ := P14
      clear c16
      refine hq_p rfl rfl ?_
      refine ty_gT (t := 1) Ih15 rfl rfl (by decide) (by decide) rfl (by have q := Jh15; rw [eJ] at q; exact q.2.2) (fun _ => ?_)
      refine hq_p rfl rfl ?_
      refine ty_pI (W := (ty_Wpl 18)) H Jh15 rfl (ty_trs p1) (by omega) rfl rfl (by unfold ty_Wpl; omega) (ty_trf p1 16) (by omega) (by omega) (fun h17 eh17 Jh17 => ?_)
      have wh17 : (hs_fI h17 1 16).toInt = x1.toInt := by rw [eh17]; exact congrArg Int32.toInt (ty_fI_eq Ih15.1 (ty_trs p1) (by omega) rfl)
      have Ih17 := H.1 h17 Jh17
      refine hq_p rfl rfl ?_
      refine hq_gR Ih17.1 rfl rfl (by decide) (by decide) rfl ?_
      refine hq_p rfl rfl ?_
      refine ty_gT (t := 1) Ih17 rfl rfl (by decide) (by decide) rfl (by have q := Jh17; rw [eJ] at q; exact q.2.2) (fun _ => ?_)
      refine ty_callj 0 (W := (ty_Wpl 18)) H Jh17 rfl (fun _ => rfl) rfl rfl rfl (hq_pre_o Ih17.1 (x := 72) (ci := 4) rfl (by decide) rfl rfl rfl rfl) (fun a k w => by unfold ty_Wu at w; unfold ty_Wpl; omega) (by unfold ty_Wu ty_Wpl; omega) (ct_49 (t0 := 72) (t1 := 1) (by omega) (show ty_ru 72 by simp [ty_ru]) p1) (fun h19 _ Jh19 P18 => ?_)
      have Ih19 := H.1 h19 Jh19
      obtain ⟨z20, rfl, az20, bz20⟩ := P18
      exact hq_W.ret rfl rfl rfl ⟨Jh19, _, rfl, by omega, by omega⟩
    · clear iz11
      refine hq_p rfl rfl (ty_ge (n := -1) nk_im1 (fun z21 ez21 => ?_))
      exact hq_W.ret rfl rfl rfl ⟨hJ, _, rfl, by omega, by omega⟩
theorem ct_118b {X : pm_X} {d : Nat} {h : pm_H} {x1 : Int32} {x2 : Int32} (hd : 8 ≤ d)  (hn : hs_fR h 0 0 = 12) (hp : hs_fR h 0 1 = 1) : ty_M X (ty_Wpl 18) d 118 [.ref 0, .int x1, .int x2] h (ty_pi (-2147483648) 2147483647) := by
  intro J0 H0 hJ0
  obtain ⟨J, eJ⟩ : ∃ J : pm_H → Prop, J = fun h' => J0 h' ∧ hs_fR h' 0 0 = 12 ∧ hs_fR h' 0 1 = 1 := ⟨_, rfl⟩
  have H : ty_C (ty_Wpl 18) J := by rw [eJ]; exact H0.refs 12 1
  have hJ : J h := by rw [eJ]; exact ⟨hJ0, hn, hp⟩
  refine hq_M.mono (Nat.le_refl _) (Q := fun h' v => J h' ∧ (ty_pi (-2147483648) 2147483647) h' v) (fun h' v q => ⟨by have q1 := q.1; rw [eJ] at q1; exact q1.1, q.2⟩) ?_
  have p1 : ty_tr 1 := by simp [ty_tr]
  have l1 := ty_trl p1
  have p12 : ty_tr 12 := by simp [ty_tr]
  have l12 := ty_trl p12
  obtain ⟨d, rfl⟩ : ∃ e, d = e + 1 := ⟨d - 1, by omega⟩
  have I := H.1 h hJ
  have ax1 := nm_lo x1
  have bx1 := nm_hi x1
  have ax2 := nm_lo x2
  have bx2 := nm_hi x2
  refine hq_M.enter (q := (⟨"TrainBearers", "generations", "(II)I"⟩, _, 3, some .int, 10, 3, pm_c118)) rfl rfl ?_
  show hq_W X d 10 false (some .int) pm_c118 (0, [some (.ref 0), some (.int x1), some (.int x2)], [], h) (fun h' v => J h' ∧ (ty_pi (-2147483648) 2147483647) h' v)
  refine hq_p rfl rfl ?_
  refine ty_zlt rfl (fun c1 => ?_) (fun c1 => ?_)
  · refine hq_p rfl rfl ?_
    refine hq_p rfl rfl (ty_ge (n := -1) nk_im1 (fun z2 ez2 => ?_))
    refine ty_callj 0 (W := (ty_Wpl 18)) H hJ rfl (fun _ => rfl) rfl rfl rfl (hq_pre_o I.1 (x := 0) (ci := 10) rfl (by decide) rfl rfl rfl rfl) (fun a k w => by unfold ty_Wc at w; unfold ty_Wpl; omega) (by unfold ty_Wc ty_Wpl; omega) (ct_125 (x1 := z2) (by omega)) (fun h4 _ Jh4 P3 => ?_)
    have Ih4 := H.1 h4 Jh4
    obtain ⟨z5, rfl, fz5⟩ := P3
    exact hq_W.ret rfl rfl rfl ⟨Jh4, _, rfl, by omega, by omega⟩
  · refine hq_p rfl rfl ?_
    refine hq_p rfl rfl (ty_ge (n := 1000000) nk_d1000000 (fun z6 ez6 => ?_))
    refine ty_igt rfl (fun c7 => ?_) (fun c7 => ?_)
    · refine hq_p rfl rfl ?_
      refine hq_p rfl rfl (ty_ge (n := -1) nk_im1 (fun z8 ez8 => ?_))
      refine ty_callj 0 (W := (ty_Wpl 18)) H hJ rfl (fun _ => rfl) rfl rfl rfl (hq_pre_o I.1 (x := 0) (ci := 10) rfl (by decide) rfl rfl rfl rfl) (fun a k w => by unfold ty_Wc at w; unfold ty_Wpl; omega) (by unfold ty_Wc ty_Wpl; omega) (ct_125 (x1 := z8) (by omega)) (fun h10 _ Jh10 P9 => ?_)
      have Ih10 := H.1 h10 Jh10
      obtain ⟨z11, rfl, fz11⟩ := P9
      exact hq_W.ret rfl rfl rfl ⟨Jh10, _, rfl, by omega, by omega⟩
    · refine hq_p rfl rfl ?_
      refine hq_p rfl rfl (ty_ge (n := 1) nk_i1 (fun z12 ez12 => ?_))
      refine ty_ilt rfl (fun c13 => ?_) (fun c13 => ?_)
      · refine hq_p rfl rfl ?_
        refine hq_p rfl rfl (ty_ge (n := -1) nk_im1 (fun z14 ez14 => ?_))
        refine ty_callj 0 (W := (ty_Wpl 18)) H hJ rfl (fun _ => rfl) rfl rfl rfl (hq_pre_o I.1 (x := 0) (ci := 10) rfl (by decide) rfl rfl rfl rfl) (fun a k w => by unfold ty_Wc at w; unfold ty_Wpl; omega) (by unfold ty_Wc ty_Wpl; omega) (ct_125 (x1 := z14) (by omega)) (fun h16 _ Jh16 P15 => ?_)
        have Ih16 := H.1 h16 Jh16
        obtain ⟨z17, rfl, fz17⟩ := P15
        exact hq_W.ret rfl rfl rfl ⟨Jh16, _, rfl, by omega, by omega⟩
      · refine hq_p rfl rfl ?_
        refine hq_p rfl rfl (ty_ge (n := 60) nk_b60 (fun z18 ez18 => ?_))
        refine ty_ile rfl (fun c19 => ?_) (fun c19 => ?_)
        · refine hq_p rfl rfl ?_
          refine ty_gT (t := 12) I rfl rfl (by decide) (by decide) rfl (by have q := hJ; rw [eJ] at q; exact q.2.1) (fun _ => ?_)
          refine ty_gI I rfl (ty_trs p12) (by omega) (by decide) rfl (ty_trf p12 3) (fun z20 ez20 az20 bz20 => ?_)
          refine ty_zeq rfl (fun c21 => ?_) (fun c21 => ?_)
          · refine hq_p rfl rfl ?_
            refine hq_p rfl rfl (ty_ge (n := -3) nk_bm3 (fun z22 ez22 => ?_))
            refine ty_callj 0 (W := (ty_Wpl 18)) H hJ rfl (fun _ => rfl) rfl rfl rfl (hq_pre_o I.1 (x := 0) (ci := 10) rfl (by decide) rfl rfl rfl rfl) (fun a k w => by unfold ty_Wc at w; unfold ty_Wpl; omega) (by unfold ty_Wc ty_Wpl; omega) (ct_125 (x1 := z22) (by omega)) (fun h24 _ Jh24 P23 => ?_)
            have Ih24 := H.1 h24 Jh24
            obtain ⟨z25, rfl, fz25⟩ := P23
            exact hq_W.ret rfl rfl rfl ⟨Jh24, _, rfl, by omega, by omega⟩
          · replace c21 : 1 ≤ z20.toInt ∧ z20.toInt ≤ 8 := by omega
            refine hq_p rfl rfl ?_
            refine ty_gT (t := 12) I rfl rfl (by decide) (by decide) rfl (by have q := hJ; rw [eJ] at q; exact q.2.1) (fun _ => ?_)
            refine ty_gI I rfl (ty_trs p12) (by omega) (by decide) rfl (ty_trf p12 0) (fun z26 ez26 az26 bz26 => ?_)
            refine ty_zne rfl (fun c27 => ?_) (fun c27 => ?_)
            · replace c27 : 1 ≤ z26.toInt ∧ z26.toInt ≤ 8 := by omega
              refine hq_p rfl rfl ?_
              refine ty_gT (t := 1) I rfl rfl (by decide) (by decide) rfl (by have q := hJ; rw [eJ] at q; exact q.2.2) (fun _ => ?_)
              refine hq_p rfl rfl ?_
              refine ty_gT (t := 12) I rfl rfl (by decide) (by decide) rfl (by have q := hJ; rw [eJ] at q; exact q.2.1) (fun _ => ?_)
              refine ty_callj 0 (W := (ty_Wpl 18)) H hJ rfl (fun _ => rfl) rfl rfl rfl (hq_pre_o I.1 (x := 1) (ci := 8) (ty_trs p1) (by omega) rfl rfl rfl rfl) (fun a k w => by unfold ty_Wtr at w; unfold ty_Wpl; omega) (by unfold ty_Wtr ty_Wpl; omega) (ct_68 (t0 := 1) (t1 := 12) (by omega) p1 p12 (by decide)) (fun h29 _ Jh29 P28 => ?_)
              have Ih29 := H.1 h29 Jh29
              obtain ⟨rfl, c30⟩ := P28
              clear c30
              refine hq_p rfl rfl ?_
              refine hq_gR Ih29.1 rfl rfl (by decide) (by decide) rfl ?_
              refine hq_p rfl rfl ?_
              refine ty_gT (t := 1) Ih29 rfl rfl (by decide) (by decide) rfl (by have q := Jh29; rw [eJ] at q; exact q.2.2) (fun _ => ?_)
              refine hq_p rfl rfl ?_
              obtain ⟨t31, kt31⟩ : ∃ q, hs_fR h29 0 6 = q := ⟨_, rfl⟩
              refine ty_gS Ih29 rfl rfl (by decide) (by decide) rfl kt31 (fun ot31 => ?_)
              have pt31 : ty_sp t31 := ot31
              have lt31 := ty_spl pt31
              clear ot31
              refine hq_p rfl rfl ?_
              refine hq_p rfl rfl ?_
              refine ty_callj 0 (W := (ty_Wpl 18)) H Jh29 rfl (fun _ => rfl) rfl rfl rfl (hq_pre_o Ih29.1 (x := 76) (ci := 1) rfl (by decide) rfl rfl rfl rfl) (fun a k w => by unfold ty_Wc at w; unfold ty_Wpl; omega) (by unfold ty_Wc ty_Wpl; omega) (ct_16 (t1 := 1) (t2 := t31) (x3 := x1) (x4 := x2) (by omega) p1 pt31) (fun h33 _ Jh33 P32 => ?_)
              have Ih33 := H.1 h33 Jh33
              subst P32
              refine hq_p rfl rfl ?_
              refine hq_gR Ih33.1 rfl rfl (by decide) (by decide) rfl ?_
              refine hq_p rfl rfl ?_
              refine ty_gT (t := 1) Ih33 rfl rfl (by decide) (by decide) rfl (by have q := Jh33; rw [eJ] at q; exact q.2.2) (fun _ => ?_)
              refine ty_callj 0 (W := (ty_Wpl 18)) H Jh33 rfl (fun _ => rfl) rfl rfl rfl (hq_pre_o Ih33.1 (x := 23) (ci := 8) rfl (by decide) rfl rfl rfl rfl) (fun a k w => by unfold ty_Wtr at w; unfold ty_Wpl; omega) (by unfold ty_Wtr ty_Wpl; omega) (ct_68 (t0 := 23) (t1 := 1) (by omega) (show ty_tr 23 by simp [ty_tr]) p1 (by decide)) (fun h35 _ Jh35 P34 => ?_)
              have Ih35 := H.1 h35 Jh35
              obtain ⟨rfl, c36⟩ := P34
              clear c36
              refine hq_p rfl rfl ?_
              refine hq_p rfl rfl ?_
              refine ty_gT (t := 1) Ih35 rfl rfl (by decide) (by decide) rfl (by have q := Jh35; rw [eJ] at q; exact q.2.2) (fun _ => ?_)
              refine ty_gI Ih35 rfl (ty_trs p1) (by omega) (by decide) rfl (ty_trf p1 9) (fun z37 ez37 az37 bz37 => ?_)
              refine hq_p rfl rfl ?_
              refine ty_gT (t := 12) Ih35 rfl rfl (by decide) (by decide) rfl (by have q := Jh35; rw [eJ] at q; exact q.2.1) (fun _ => ?_)
              refine ty_gI Ih35 rfl (ty_trs p12) (by omega) (by decide) rfl (ty_trf p12 9) (fun z38 ez38 az38 bz38 => ?_)
              refine hq_p rfl rfl (ty_ga (fun z39 az39 bz39 => ?_))
              refine ty_callj 0 (W := (ty_Wpl 18)) H Jh35 rfl (fun _ => rfl) rfl rfl rfl (hq_pre_o Ih35.1 (x := 0) (ci := 10) rfl (by decide) rfl rfl rfl rfl) (fun a k w => by unfold ty_Wc at w; unfold ty_Wpl; omega) (by unfold ty_Wc ty_Wpl; omega) (ct_126 (x1 := z39) (by omega)) (fun h41 _ Jh41 P40 => ?_)
              have Ih41 := H.1 h41 Jh41
              obtain ⟨z42, rfl, fz42⟩ := P40
              exact hq_W.ret rfl rfl rfl ⟨Jh41, _, rfl, by omega, by omega⟩
            · refine hq_p rfl rfl ?_
              refine hq_p rfl rfl (ty_ge (n := -3) nk_bm3 (fun z43 ez43 => ?_))
              refine ty_callj 0 (W := (ty_Wpl 18)) H hJ rfl (fun _ => rfl) rfl rfl rfl (hq_pre_o I.1 (x := 0) (ci := 10) rfl (by decide) rfl rfl rfl rfl) (fun a k w => by unfold ty_Wc at w; unfold ty_Wpl; omega) (by unfold ty_Wc ty_Wpl; omega) (ct_125 (x1 := z43) (by omega)) (fun h45 _ Jh45 P44 => ?_)
              have Ih45 := H.1 h45 Jh45
              obtain ⟨z46, rfl, fz46⟩ := P44
              exact hq_W.ret rfl rfl rfl ⟨Jh45, _, rfl, by omega, by omega⟩
        · refine hq_p rfl rfl ?_
          refine hq_p rfl rfl (ty_ge (n := -1) nk_im1 (fun z47 ez47 => ?_))
          refine ty_callj 0 (W := (ty_Wpl 18)) H hJ rfl (fun _ => rfl) rfl rfl rfl (hq_pre_o I.1 (x := 0) (ci := 10) rfl (by decide) rfl rfl rfl rfl) (fun a k w => by unfold ty_Wc at w; unfold ty_Wpl; omega) (by unfold ty_Wc ty_Wpl; omega) (ct_125 (x1 := z47) (by omega)) (fun h49 _ Jh49 P48 => ?_)
          have Ih49 := H.1 h49 Jh49
          obtain ⟨z50, rfl, fz50⟩ := P48
          exact hq_W.ret rfl rfl rfl ⟨Jh49, _, rfl, by omega, by omega⟩
end CT50
