/-! CONTRACTS (printed by wip/pm/cts.py) -/
section CT17
set_option maxHeartbeats 20000000 in
theorem ct_38a {X : pm_X} {d : Nat} {h : pm_H}  (hd : 1 ≤ d)  : ty_M X ty_Wa d 38 [.ref 62] h (fun h1 v => v = none ∧ (hs_fI h1 62 3).toInt ≤ (hs_fI h1 62 4).toInt ∧ ty_dg h (hs_fI h1 62 3).toInt (hs_fI h1 62 4).toInt) := by
  intro J0 H0 hJ0
  obtain ⟨R, eR⟩ : ∃ R, hs_aI h 63 = R := ⟨_, rfl⟩
  obtain ⟨J, eJ⟩ : ∃ J : pm_H → Prop, J = fun h' => J0 h' ∧ hs_aI h' 63 = R := ⟨_, rfl⟩
  have H : ty_C ty_Wa J := by rw [eJ]; exact H0.arr 63 (by decide) (fun k => by unfold ty_Wa; omega) R
  have hJ : J h := by rw [eJ]; exact ⟨hJ0, eR⟩
  refine hq_M.mono (Nat.le_refl _) (Q := fun h' v => J h' ∧ (fun h1 v => v = none ∧ (hs_fI h1 62 3).toInt ≤ (hs_fI h1 62 4).toInt ∧ ty_dg h (hs_fI h1 62 3).toInt (hs_fI h1 62 4).toInt) h' v) (fun h' v q => ⟨by have q1 := q.1; rw [eJ] at q1; exact q1.1, q.2⟩) ?_
  obtain ⟨d, rfl⟩ : ∃ e, d = e + 1 := ⟨d - 1, by omega⟩
  have I := H.1 h hJ
  refine hq_M.enter (q := (⟨"TrainBearers$Reader", "advance", "()V"⟩, _, 1, none, 3, 1, pm_c38)) rfl rfl ?_
  show hq_W X d 3 false (none) pm_c38 (0, [some (.ref 62)], [], h) (fun h' v => J h' ∧ (fun h1 v => v = none ∧ (hs_fI h1 62 3).toInt ≤ (hs_fI h1 62 4).toInt ∧ ty_dg h (hs_fI h1 62 3).toInt (hs_fI h1 62 4).toInt) h' v)
  refine hq_p rfl rfl ?_
  refine hq_p rfl rfl ?_
  refine ty_gI I rfl rfl (by decide) (by decide) rfl rfl (fun z1 ez1 az1 bz1 => ?_)
  refine ty_pI (W := ty_Wa) H hJ rfl rfl (by decide) rfl rfl (by unfold ty_Wa; omega) rfl (by omega) (by omega) (fun h2 eh2 Jh2 => ?_)
  have wh2 : (hs_fI h2 62 3).toInt = z1.toInt := by rw [eh2]; exact congrArg Int32.toInt (ty_fI_eq I.1 rfl (by decide) rfl)
  have Ih2 := H.1 h2 Jh2
  have L8_n5 : ∀ n5 : Nat, ∀ (h4 : pm_H), (400 - (hs_fI h4 62 3).toInt).toNat = n5 → J h4 → hq_W X d 3 false (none) pm_c38 (8, [some (.ref 62)], [], h4) (fun h' v => J h' ∧ (fun h1 v => v = none ∧ (hs_fI h1 62 3).toInt ≤ (hs_fI h1 62 4).toInt ∧ ty_dg h (hs_fI h1 62 3).toInt (hs_fI h1 62 4).toInt) h' v) := by
    intro n5
    induction n5 using Nat.strongRecOn with
    | ind n5 ihn5 =>
      intro h4 mn5  Jh4
      have Ih4 := H.1 h4 Jh4
      refine hq_p rfl rfl ?_
      refine ty_gI Ih4 rfl rfl (by decide) (by decide) rfl rfl (fun z6 ez6 az6 bz6 => ?_)
      refine hq_p rfl rfl ?_
      refine ty_gI Ih4 rfl rfl (by decide) (by decide) rfl rfl (fun z7 ez7 az7 bz7 => ?_)
      refine ty_ige rfl (fun c8 => ?_) (fun c8 => ?_)
      · refine hq_p rfl rfl ?_
        refine hq_p rfl rfl ?_
        refine ty_gI Ih4 rfl rfl (by decide) (by decide) rfl rfl (fun z9 ez9 az9 bz9 => ?_)
        refine ty_pI (W := ty_Wa) H Jh4 rfl rfl (by decide) rfl rfl (by unfold ty_Wa; omega) rfl (by omega) (by omega) (fun h10 eh10 Jh10 => ?_)
        have wh10 : (hs_fI h10 62 4).toInt = z9.toInt := by rw [eh10]; exact congrArg Int32.toInt (ty_fI_eq Ih4.1 rfl (by decide) rfl)
        have Ih10 := H.1 h10 Jh10
        have r11 : (hs_fI h10 62 3).toInt = (hs_fI h4 62 3).toInt := by rw [eh10]; exact congrArg Int32.toInt (ty_fI_sF (by decide))
        have L54_n14 : ∀ n14 : Nat, ∀ (h13 : pm_H), (400 - (hs_fI h13 62 4).toInt).toNat = n14 → (hs_fI h13 62 3).toInt ≤ (hs_fI h13 62 4).toInt → (hs_fI h13 62 4).toInt = z9.toInt ∨ 97 ≤ (R z9.toInt.toNat).toInt → (hs_fI h13 62 3).toInt = (hs_fI h10 62 3).toInt → J h13 → hq_W X d 3 false (none) pm_c38 (54, [some (.ref 62)], [], h13) (fun h' v => J h' ∧ (fun h1 v => v = none ∧ (hs_fI h1 62 3).toInt ≤ (hs_fI h1 62 4).toInt ∧ ty_dg h (hs_fI h1 62 3).toInt (hs_fI h1 62 4).toInt) h' v) := by
          intro n14
          induction n14 using Nat.strongRecOn with
          | ind n14 ihn14 =>
            intro h13 mn14 x0n14 x1n14 x2n14 Jh13
            have Ih13 := H.1 h13 Jh13
            refine hq_p rfl rfl ?_
            refine ty_gI Ih13 rfl rfl (by decide) (by decide) rfl rfl (fun z15 ez15 az15 bz15 => ?_)
            refine hq_p rfl rfl ?_
            refine ty_gI Ih13 rfl rfl (by decide) (by decide) rfl rfl (fun z16 ez16 az16 bz16 => ?_)
            refine ty_ige rfl (fun c17 => ?_) (fun c17 => ?_)
            · refine hq_p rfl rfl ?_
              refine ty_gI Ih13 rfl rfl (by decide) (by decide) rfl rfl (fun z18 ez18 az18 bz18 => ?_)
              refine hq_p rfl rfl ?_
              refine ty_gI Ih13 rfl rfl (by decide) (by decide) rfl rfl (fun z19 ez19 az19 bz19 => ?_)
              refine ty_ile rfl (fun c20 => ?_) (fun c20 => ?_)
              · have L118_n23 : ∀ n23 : Nat, ∀ (h22 : pm_H), (400 - (hs_fI h22 62 4).toInt).toNat = n23 → (hs_fI h22 62 3).toInt ≤ (hs_fI h22 62 4).toInt → (∀ i : Nat, z9.toInt ≤ i → (i : Int) < (hs_fI h22 62 4).toInt → 48 ≤ (R i).toInt ∧ (R i).toInt ≤ 57) → (hs_fI h22 62 3).toInt = (hs_fI h13 62 3).toInt → J h22 → hq_W X d 3 false (none) pm_c38 (118, [some (.ref 62)], [], h22) (fun h' v => J h' ∧ (fun h1 v => v = none ∧ (hs_fI h1 62 3).toInt ≤ (hs_fI h1 62 4).toInt ∧ ty_dg h (hs_fI h1 62 3).toInt (hs_fI h1 62 4).toInt) h' v) := by
                  intro n23
                  induction n23 using Nat.strongRecOn with
                  | ind n23 ihn23 =>
                    intro h22 mn23 x0n23 x1n23 x2n23 Jh22
                    have Ih22 := H.1 h22 Jh22
                    refine hq_p rfl rfl ?_
                    refine ty_gI Ih22 rfl rfl (by decide) (by decide) rfl rfl (fun z24 ez24 az24 bz24 => ?_)
                    refine hq_p rfl rfl ?_
                    refine ty_gI Ih22 rfl rfl (by decide) (by decide) rfl rfl (fun z25 ez25 az25 bz25 => ?_)
                    refine ty_ige rfl (fun c26 => ?_) (fun c26 => ?_)
                    · refine hq_p rfl rfl ?_
                      refine ty_gI Ih22 rfl rfl (by decide) (by decide) rfl rfl (fun z27 ez27 az27 bz27 => ?_)
                      refine hq_p rfl rfl ?_
                      refine ty_gI Ih22 rfl rfl (by decide) (by decide) rfl rfl (fun z28 ez28 az28 bz28 => ?_)
                      refine ty_ine rfl (fun c29 => ?_) (fun c29 => ?_)
                      · clear c29
                        exact hq_W.ret rfl rfl rfl ⟨Jh22, rfl, by omega, (fun d1 d2 i a b => if q : (i : Int) = z9.toInt then (by rw [eR] at d1 d2 ⊢; rw [show (hs_fI h22 62 3).toInt.toNat = i by omega] at d1 d2; exact ⟨d1, d2⟩) else (by rw [eR]; exact x1n23 i (by omega) (by omega)))⟩
                      · refine hq_p rfl rfl ?_
                        refine ty_gI Ih22 rfl rfl (by decide) (by decide) rfl rfl (fun z30 ez30 az30 bz30 => ?_)
                        refine hq_p rfl rfl ?_
                        refine ty_gI Ih22 rfl rfl (by decide) (by decide) rfl rfl (fun z31 ez31 az31 bz31 => ?_)
                        refine ty_ige rfl (fun c32 => ?_) (fun c32 => ?_)
                        · exact hq_W.ret rfl rfl rfl ⟨Jh22, rfl, by omega, (fun d1 d2 i a b => if q : (i : Int) = z9.toInt then (by rw [eR] at d1 d2 ⊢; rw [show (hs_fI h22 62 3).toInt.toNat = i by omega] at d1 d2; exact ⟨d1, d2⟩) else (by rw [eR]; exact x1n23 i (by omega) (by omega)))⟩
                        · refine hq_p rfl rfl ?_
                          refine hq_p rfl rfl ?_
                          refine ty_gI Ih22 rfl rfl (by decide) (by decide) rfl rfl (fun z33 ez33 az33 bz33 => ?_)
                          refine hq_p rfl rfl (ty_ge (n := 1) nk_i1 (fun z34 ez34 => ?_))
                          refine hq_p rfl rfl (ty_ge (n := z33.toInt + z34.toInt) (nm_add (by omega) (by omega)) (fun z35 ez35 => ?_))
                          refine ty_pI (W := ty_Wa) H Jh22 rfl rfl (by decide) rfl rfl (by unfold ty_Wa; omega) rfl (by omega) (by omega) (fun h36 eh36 Jh36 => ?_)
                          have wh36 : (hs_fI h36 62 4).toInt = z35.toInt := by rw [eh36]; exact congrArg Int32.toInt (ty_fI_eq Ih22.1 rfl (by decide) rfl)
                          have Ih36 := H.1 h36 Jh36
                          have r37 : (hs_fI h36 62 3).toInt = (hs_fI h22 62 3).toInt := by rw [eh36]; exact congrArg Int32.toInt (ty_fI_sF (by decide))
                          exact hq_W.ret rfl rfl rfl ⟨Jh36, rfl, by omega, (fun d1 d2 i a b => if q : (i : Int) = z9.toInt then (by rw [eR] at d1 d2 ⊢; rw [show (hs_fI h36 62 3).toInt.toNat = i by omega] at d1 d2; exact ⟨d1, d2⟩) else (by rw [eR]; exact x1n23 i (by omega) (by omega)))⟩
                    · refine hq_p rfl rfl ?_
                      refine hq_gR Ih22.1 rfl rfl (by decide) (by decide) rfl ?_
                      refine hq_p rfl rfl ?_
                      refine ty_gI Ih22 rfl rfl (by decide) (by decide) rfl rfl (fun z38 ez38 az38 bz38 => ?_)
                      refine ty_aL Ih22 rfl rfl (by decide) (by omega) (by omega) (fun _ _ => ty_le rfl) (fun z39 ez39 az39 bz39 => ?_)
                      refine hq_p rfl rfl (ty_ge (n := 48) nk_b48 (fun z40 ez40 => ?_))
                      refine ty_ilt rfl (fun c41 => ?_) (fun c41 => ?_)
                      · refine hq_p rfl rfl ?_
                        refine ty_gI Ih22 rfl rfl (by decide) (by decide) rfl rfl (fun z42 ez42 az42 bz42 => ?_)
                        refine hq_p rfl rfl ?_
                        refine ty_gI Ih22 rfl rfl (by decide) (by decide) rfl rfl (fun z43 ez43 az43 bz43 => ?_)
                        refine ty_ine rfl (fun c44 => ?_) (fun c44 => ?_)
                        · clear c44
                          exact hq_W.ret rfl rfl rfl ⟨Jh22, rfl, by omega, (fun d1 d2 i a b => if q : (i : Int) = z9.toInt then (by rw [eR] at d1 d2 ⊢; rw [show (hs_fI h22 62 3).toInt.toNat = i by omega] at d1 d2; exact ⟨d1, d2⟩) else (by rw [eR]; exact x1n23 i (by omega) (by omega)))⟩
                        · refine hq_p rfl rfl ?_
                          refine ty_gI Ih22 rfl rfl (by decide) (by decide) rfl rfl (fun z45 ez45 az45 bz45 => ?_)
                          refine hq_p rfl rfl ?_
                          refine ty_gI Ih22 rfl rfl (by decide) (by decide) rfl rfl (fun z46 ez46 az46 bz46 => ?_)
                          refine ty_ige rfl (fun c47 => ?_) (fun c47 => ?_)
                          · exact hq_W.ret rfl rfl rfl ⟨Jh22, rfl, by omega, (fun d1 d2 i a b => if q : (i : Int) = z9.toInt then (by rw [eR] at d1 d2 ⊢; rw [show (hs_fI h22 62 3).toInt.toNat = i by omega] at d1 d2; exact ⟨d1, d2⟩) else (by rw [eR]; exact x1n23 i (by omega) (by omega)))⟩
                          · refine hq_p rfl rfl ?_
                            refine hq_p rfl rfl ?_
                            refine ty_gI Ih22 rfl rfl (by decide) (by decide) rfl rfl (fun z48 ez48 az48 bz48 => ?_)
                            refine hq_p rfl rfl (ty_ge (n := 1) nk_i1 (fun z49 ez49 => ?_))
                            refine hq_p rfl rfl (ty_ge (n := z48.toInt + z49.toInt) (nm_add (by omega) (by omega)) (fun z50 ez50 => ?_))
                            refine ty_pI (W := ty_Wa) H Jh22 rfl rfl (by decide) rfl rfl (by unfold ty_Wa; omega) rfl (by omega) (by omega) (fun h51 eh51 Jh51 => ?_)
                            have wh51 : (hs_fI h51 62 4).toInt = z50.toInt := by rw [eh51]; exact congrArg Int32.toInt (ty_fI_eq Ih22.1 rfl (by decide) rfl)
                            have Ih51 := H.1 h51 Jh51
                            have r52 : (hs_fI h51 62 3).toInt = (hs_fI h22 62 3).toInt := by rw [eh51]; exact congrArg Int32.toInt (ty_fI_sF (by decide))
                            exact hq_W.ret rfl rfl rfl ⟨Jh51, rfl, by omega, (fun d1 d2 i a b => if q : (i : Int) = z9.toInt then (by rw [eR] at d1 d2 ⊢; rw [show (hs_fI h51 62 3).toInt.toNat = i by omega] at d1 d2; exact ⟨d1, d2⟩) else (by rw [eR]; exact x1n23 i (by omega) (by omega)))⟩
                      · refine hq_p rfl rfl ?_
                        refine hq_gR Ih22.1 rfl rfl (by decide) (by decide) rfl ?_
                        refine hq_p rfl rfl ?_
                        refine ty_gI Ih22 rfl rfl (by decide) (by decide) rfl rfl (fun z53 ez53 az53 bz53 => ?_)
                        refine ty_aL Ih22 rfl rfl (by decide) (by omega) (by omega) (fun _ _ => ty_le rfl) (fun z54 ez54 az54 bz54 => ?_)
                        refine hq_p rfl rfl (ty_ge (n := 57) nk_b57 (fun z55 ez55 => ?_))
                        refine ty_igt rfl (fun c56 => ?_) (fun c56 => ?_)
                        · refine hq_p rfl rfl ?_
                          refine ty_gI Ih22 rfl rfl (by decide) (by decide) rfl rfl (fun z57 ez57 az57 bz57 => ?_)
                          refine hq_p rfl rfl ?_
                          refine ty_gI Ih22 rfl rfl (by decide) (by decide) rfl rfl (fun z58 ez58 az58 bz58 => ?_)
                          refine ty_ine rfl (fun c59 => ?_) (fun c59 => ?_)
                          · clear c59
                            exact hq_W.ret rfl rfl rfl ⟨Jh22, rfl, by omega, (fun d1 d2 i a b => if q : (i : Int) = z9.toInt then (by rw [eR] at d1 d2 ⊢; rw [show (hs_fI h22 62 3).toInt.toNat = i by omega] at d1 d2; exact ⟨d1, d2⟩) else (by rw [eR]; exact x1n23 i (by omega) (by omega)))⟩
                          · refine hq_p rfl rfl ?_
                            refine ty_gI Ih22 rfl rfl (by decide) (by decide) rfl rfl (fun z60 ez60 az60 bz60 => ?_)
                            refine hq_p rfl rfl ?_
                            refine ty_gI Ih22 rfl rfl (by decide) (by decide) rfl rfl (fun z61 ez61 az61 bz61 => ?_)
                            refine ty_ige rfl (fun c62 => ?_) (fun c62 => ?_)
                            · exact hq_W.ret rfl rfl rfl ⟨Jh22, rfl, by omega, (fun d1 d2 i a b => if q : (i : Int) = z9.toInt then (by rw [eR] at d1 d2 ⊢; rw [show (hs_fI h22 62 3).toInt.toNat = i by omega] at d1 d2; exact ⟨d1, d2⟩) else (by rw [eR]; exact x1n23 i (by omega) (by omega)))⟩
                            · refine hq_p rfl rfl ?_
                              refine hq_p rfl rfl ?_
                              refine ty_gI Ih22 rfl rfl (by decide) (by decide) rfl rfl (fun z63 ez63 az63 bz63 => ?_)
                              refine hq_p rfl rfl (ty_ge (n := 1) nk_i1 (fun z64 ez64 => ?_))
                              refine hq_p rfl rfl (ty_ge (n := z63.toInt + z64.toInt) (nm_add (by omega) (by omega)) (fun z65 ez65 => ?_))
                              refine ty_pI (W := ty_Wa) H Jh22 rfl rfl (by decide) rfl rfl (by unfold ty_Wa; omega) rfl (by omega) (by omega) (fun h66 eh66 Jh66 => ?_)
                              have wh66 : (hs_fI h66 62 4).toInt = z65.toInt := by rw [eh66]; exact congrArg Int32.toInt (ty_fI_eq Ih22.1 rfl (by decide) rfl)
                              have Ih66 := H.1 h66 Jh66
                              have r67 : (hs_fI h66 62 3).toInt = (hs_fI h22 62 3).toInt := by rw [eh66]; exact congrArg Int32.toInt (ty_fI_sF (by decide))
                              exact hq_W.ret rfl rfl rfl ⟨Jh66, rfl, by omega, (fun d1 d2 i a b => if q : (i : Int) = z9.toInt then (by rw [eR] at d1 d2 ⊢; rw [show (hs_fI h66 62 3).toInt.toNat = i by omega] at d1 d2; exact ⟨d1, d2⟩) else (by rw [eR]; exact x1n23 i (by omega) (by omega)))⟩
                        · have rrh22 : hs_aI h22 63 = R := by have q := Jh22; rw [eJ] at q; exact q.2
                          rw [rrh22] at ez39 ez54
                          refine hq_p rfl rfl ?_
                          refine hq_p rfl rfl ?_
                          refine ty_gI Ih22 rfl rfl (by decide) (by decide) rfl rfl (fun z68 ez68 az68 bz68 => ?_)
                          refine hq_p rfl rfl (ty_ge (n := 1) nk_i1 (fun z69 ez69 => ?_))
                          refine hq_p rfl rfl (ty_ge (n := z68.toInt + z69.toInt) (nm_add (by omega) (by omega)) (fun z70 ez70 => ?_))
                          refine ty_pI (W := ty_Wa) H Jh22 rfl rfl (by decide) rfl rfl (by unfold ty_Wa; omega) rfl (by omega) (by omega) (fun h71 eh71 Jh71 => ?_)
                          have wh71 : (hs_fI h71 62 4).toInt = z70.toInt := by rw [eh71]; exact congrArg Int32.toInt (ty_fI_eq Ih22.1 rfl (by decide) rfl)
                          have Ih71 := H.1 h71 Jh71
                          refine hq_p rfl rfl ?_
                          have r72 : (hs_fI h71 62 3).toInt = (hs_fI h22 62 3).toInt := by rw [eh71]; exact congrArg Int32.toInt (ty_fI_sF (by decide))
                          exact ihn23 ((400 - (hs_fI h71 62 4).toInt).toNat) (by omega) h71 rfl (by omega) (fun i a b => if q : (i : Int) < z38.toInt then x1n23 i a (by omega) else (by have e1 : z38.toInt.toNat = i := (by omega); have e2 : z53.toInt.toNat = i := (by omega); rw [e1] at ez39; rw [e2] at ez54; omega)) (by omega) Jh71
                exact L118_n23 _ h13 rfl (by omega) (fun i a b => by exfalso; omega) (by omega) Jh13
              · exact hq_W.ret rfl rfl rfl ⟨Jh13, rfl, by omega, (by intro d1 d2; exfalso; rw [eR] at d1 d2; rcases x1n14 with q | q <;> first | omega | (rw [show (hs_fI h13 62 3).toInt.toNat = z9.toInt.toNat by omega] at d2; omega))⟩
            · refine hq_p rfl rfl ?_
              refine hq_gR Ih13.1 rfl rfl (by decide) (by decide) rfl ?_
              refine hq_p rfl rfl ?_
              refine ty_gI Ih13 rfl rfl (by decide) (by decide) rfl rfl (fun z73 ez73 az73 bz73 => ?_)
              refine ty_aL Ih13 rfl rfl (by decide) (by omega) (by omega) (fun _ _ => ty_le rfl) (fun z74 ez74 az74 bz74 => ?_)
              refine hq_p rfl rfl (ty_ge (n := 97) nk_b97 (fun z75 ez75 => ?_))
              refine ty_ilt rfl (fun c76 => ?_) (fun c76 => ?_)
              · refine hq_p rfl rfl ?_
                refine ty_gI Ih13 rfl rfl (by decide) (by decide) rfl rfl (fun z77 ez77 az77 bz77 => ?_)
                refine hq_p rfl rfl ?_
                refine ty_gI Ih13 rfl rfl (by decide) (by decide) rfl rfl (fun z78 ez78 az78 bz78 => ?_)
                refine ty_ile rfl (fun c79 => ?_) (fun c79 => ?_)
                · have L118_n82 : ∀ n82 : Nat, ∀ (h81 : pm_H), (400 - (hs_fI h81 62 4).toInt).toNat = n82 → (hs_fI h81 62 3).toInt ≤ (hs_fI h81 62 4).toInt → (∀ i : Nat, z9.toInt ≤ i → (i : Int) < (hs_fI h81 62 4).toInt → 48 ≤ (R i).toInt ∧ (R i).toInt ≤ 57) → (hs_fI h81 62 3).toInt = (hs_fI h13 62 3).toInt → J h81 → hq_W X d 3 false (none) pm_c38 (118, [some (.ref 62)], [], h81) (fun h' v => J h' ∧ (fun h1 v => v = none ∧ (hs_fI h1 62 3).toInt ≤ (hs_fI h1 62 4).toInt ∧ ty_dg h (hs_fI h1 62 3).toInt (hs_fI h1 62 4).toInt) h' v) := by
                    intro n82
                    induction n82 using Nat.strongRecOn with
                    | ind n82 ihn82 =>
                      intro h81 mn82 x0n82 x1n82 x2n82 Jh81
                      have Ih81 := H.1 h81 Jh81
                      refine hq_p rfl rfl ?_
                      refine ty_gI Ih81 rfl rfl (by decide) (by decide) rfl rfl (fun z83 ez83 az83 bz83 => ?_)
                      refine hq_p rfl rfl ?_
                      refine ty_gI Ih81 rfl rfl (by decide) (by decide) rfl rfl (fun z84 ez84 az84 bz84 => ?_)
                      refine ty_ige rfl (fun c85 => ?_) (fun c85 => ?_)
                      · refine hq_p rfl rfl ?_
                        refine ty_gI Ih81 rfl rfl (by decide) (by decide) rfl rfl (fun z86 ez86 az86 bz86 => ?_)
                        refine hq_p rfl rfl ?_
                        refine ty_gI Ih81 rfl rfl (by decide) (by decide) rfl rfl (fun z87 ez87 az87 bz87 => ?_)
                        refine ty_ine rfl (fun c88 => ?_) (fun c88 => ?_)
                        · clear c88
                          exact hq_W.ret rfl rfl rfl ⟨Jh81, rfl, by omega, (fun d1 d2 i a b => if q : (i : Int) = z9.toInt then (by rw [eR] at d1 d2 ⊢; rw [show (hs_fI h81 62 3).toInt.toNat = i by omega] at d1 d2; exact ⟨d1, d2⟩) else (by rw [eR]; exact x1n82 i (by omega) (by omega)))⟩
                        · refine hq_p rfl rfl ?_
                          refine ty_gI Ih81 rfl rfl (by decide) (by decide) rfl rfl (fun z89 ez89 az89 bz89 => ?_)
                          refine hq_p rfl rfl ?_
                          refine ty_gI Ih81 rfl rfl (by decide) (by decide) rfl rfl (fun z90 ez90 az90 bz90 => ?_)
                          refine ty_ige rfl (fun c91 => ?_) (fun c91 => ?_)
                          · exact hq_W.ret rfl rfl rfl ⟨Jh81, rfl, by omega, (fun d1 d2 i a b => if q : (i : Int) = z9.toInt then (by rw [eR] at d1 d2 ⊢; rw [show (hs_fI h81 62 3).toInt.toNat = i by omega] at d1 d2; exact ⟨d1, d2⟩) else (by rw [eR]; exact x1n82 i (by omega) (by omega)))⟩
                          · refine hq_p rfl rfl ?_
                            refine hq_p rfl rfl ?_
                            refine ty_gI Ih81 rfl rfl (by decide) (by decide) rfl rfl (fun z92 ez92 az92 bz92 => ?_)
                            refine hq_p rfl rfl (ty_ge (n := 1) nk_i1 (fun z93 ez93 => ?_))
                            refine hq_p rfl rfl (ty_ge (n := z92.toInt + z93.toInt) (nm_add (by omega) (by omega)) (fun z94 ez94 => ?_))
                            refine ty_pI (W := ty_Wa) H Jh81 rfl rfl (by decide) rfl rfl (by unfold ty_Wa; omega) rfl (by omega) (by omega) (fun h95 eh95 Jh95 => ?_)
                            have wh95 : (hs_fI h95 62 4).toInt = z94.toInt := by rw [eh95]; exact congrArg Int32.toInt (ty_fI_eq Ih81.1 rfl (by decide) rfl)
                            have Ih95 := H.1 h95 Jh95
                            have r96 : (hs_fI h95 62 3).toInt = (hs_fI h81 62 3).toInt := by rw [eh95]; exact congrArg Int32.toInt (ty_fI_sF (by decide))
                            exact hq_W.ret rfl rfl rfl ⟨Jh95, rfl, by omega, (fun d1 d2 i a b => if q : (i : Int) = z9.toInt then (by rw [eR] at d1 d2 ⊢; rw [show (hs_fI h95 62 3).toInt.toNat = i by omega] at d1 d2; exact ⟨d1, d2⟩) else (by rw [eR]; exact x1n82 i (by omega) (by omega)))⟩
                      · refine hq_p rfl rfl ?_
                        refine hq_gR Ih81.1 rfl rfl (by decide) (by decide) rfl ?_
                        refine hq_p rfl rfl ?_
                        refine ty_gI Ih81 rfl rfl (by decide) (by decide) rfl rfl (fun z97 ez97 az97 bz97 => ?_)
                        refine ty_aL Ih81 rfl rfl (by decide) (by omega) (by omega) (fun _ _ => ty_le rfl) (fun z98 ez98 az98 bz98 => ?_)
                        refine hq_p rfl rfl (ty_ge (n := 48) nk_b48 (fun z99 ez99 => ?_))
                        refine ty_ilt rfl (fun c100 => ?_) (fun c100 => ?_)
                        · refine hq_p rfl rfl ?_
                          refine ty_gI Ih81 rfl rfl (by decide) (by decide) rfl rfl (fun z101 ez101 az101 bz101 => ?_)
                          refine hq_p rfl rfl ?_
                          refine ty_gI Ih81 rfl rfl (by decide) (by decide) rfl rfl (fun z102 ez102 az102 bz102 => ?_)
                          refine ty_ine rfl (fun c103 => ?_) (fun c103 => ?_)
                          · clear c103
                            exact hq_W.ret rfl rfl rfl ⟨Jh81, rfl, by omega, (fun d1 d2 i a b => if q : (i : Int) = z9.toInt then (by rw [eR] at d1 d2 ⊢; rw [show (hs_fI h81 62 3).toInt.toNat = i by omega] at d1 d2; exact ⟨d1, d2⟩) else (by rw [eR]; exact x1n82 i (by omega) (by omega)))⟩
                          · refine hq_p rfl rfl ?_
                            refine ty_gI Ih81 rfl rfl (by decide) (by decide) rfl rfl (fun z104 ez104 az104 bz104 => ?_)
                            refine hq_p rfl rfl ?_
                            refine ty_gI Ih81 rfl rfl (by decide) (by decide) rfl rfl (fun z105 ez105 az105 bz105 => ?_)
                            refine ty_ige rfl (fun c106 => ?_) (fun c106 => ?_)
                            · exact hq_W.ret rfl rfl rfl ⟨Jh81, rfl, by omega, (fun d1 d2 i a b => if q : (i : Int) = z9.toInt then (by rw [eR] at d1 d2 ⊢; rw [show (hs_fI h81 62 3).toInt.toNat = i by omega] at d1 d2; exact ⟨d1, d2⟩) else (by rw [eR]; exact x1n82 i (by omega) (by omega)))⟩
                            · refine hq_p rfl rfl ?_
                              refine hq_p rfl rfl ?_
                              refine ty_gI Ih81 rfl rfl (by decide) (by decide) rfl rfl (fun z107 ez107 az107 bz107 => ?_)
                              refine hq_p rfl rfl (ty_ge (n := 1) nk_i1 (fun z108 ez108 => ?_))
                              refine hq_p rfl rfl (ty_ge (n := z107.toInt + z108.toInt) (nm_add (by omega) (by omega)) (fun z109 ez109 => ?_))
                              refine ty_pI (W := ty_Wa) H Jh81 rfl rfl (by decide) rfl rfl (by unfold ty_Wa; omega) rfl (by omega) (by omega) (fun h110 eh110 Jh110 => ?_)
                              have wh110 : (hs_fI h110 62 4).toInt = z109.toInt := by rw [eh110]; exact congrArg Int32.toInt (ty_fI_eq Ih81.1 rfl (by decide) rfl)
                              have Ih110 := H.1 h110 Jh110
                              have r111 : (hs_fI h110 62 3).toInt = (hs_fI h81 62 3).toInt := by rw [eh110]; exact congrArg Int32.toInt (ty_fI_sF (by decide))
                              exact hq_W.ret rfl rfl rfl ⟨Jh110, rfl, by omega, (fun d1 d2 i a b => if q : (i : Int) = z9.toInt then (by rw [eR] at d1 d2 ⊢; rw [show (hs_fI h110 62 3).toInt.toNat = i by omega] at d1 d2; exact ⟨d1, d2⟩) else (by rw [eR]; exact x1n82 i (by omega) (by omega)))⟩
                        · refine hq_p rfl rfl ?_
                          refine hq_gR Ih81.1 rfl rfl (by decide) (by decide) rfl ?_
                          refine hq_p rfl rfl ?_
                          refine ty_gI Ih81 rfl rfl (by decide) (by decide) rfl rfl (fun z112 ez112 az112 bz112 => ?_)
                          refine ty_aL Ih81 rfl rfl (by decide) (by omega) (by omega) (fun _ _ => ty_le rfl) (fun z113 ez113 az113 bz113 => ?_)
                          refine hq_p rfl rfl (ty_ge (n := 57) nk_b57 (fun z114 ez114 => ?_))
                          refine ty_igt rfl (fun c115 => ?_) (fun c115 => ?_)
                          · refine hq_p rfl rfl ?_
                            refine ty_gI Ih81 rfl rfl (by decide) (by decide) rfl rfl (fun z116 ez116 az116 bz116 => ?_)
                            refine hq_p rfl rfl ?_
                            refine ty_gI Ih81 rfl rfl (by decide) (by decide) rfl rfl (fun z117 ez117 az117 bz117 => ?_)
                            refine ty_ine rfl (fun c118 => ?_) (fun c118 => ?_)
                            · clear c118
                              exact hq_W.ret rfl rfl rfl ⟨Jh81, rfl, by omega, (fun d1 d2 i a b => if q : (i : Int) = z9.toInt then (by rw [eR] at d1 d2 ⊢; rw [show (hs_fI h81 62 3).toInt.toNat = i by omega] at d1 d2; exact ⟨d1, d2⟩) else (by rw [eR]; exact x1n82 i (by omega) (by omega)))⟩
                            · refine hq_p rfl rfl ?_
                              refine ty_gI Ih81 rfl rfl (by decide) (by decide) rfl rfl (fun z119 ez119 az119 bz119 => ?_)
                              refine hq_p rfl rfl ?_
                              refine ty_gI Ih81 rfl rfl (by decide) (by decide) rfl rfl (fun z120 ez120 az120 bz120 => ?_)
                              refine ty_ige rfl (fun c121 => ?_) (fun c121 => ?_)
                              · exact hq_W.ret rfl rfl rfl ⟨Jh81, rfl, by omega, (fun d1 d2 i a b => if q : (i : Int) = z9.toInt then (by rw [eR] at d1 d2 ⊢; rw [show (hs_fI h81 62 3).toInt.toNat = i by omega] at d1 d2; exact ⟨d1, d2⟩) else (by rw [eR]; exact x1n82 i (by omega) (by omega)))⟩
                              · refine hq_p rfl rfl ?_
                                refine hq_p rfl rfl ?_
                                refine ty_gI Ih81 rfl rfl (by decide) (by decide) rfl rfl (fun z122 ez122 az122 bz122 => ?_)
                                refine hq_p rfl rfl (ty_ge (n := 1) nk_i1 (fun z123 ez123 => ?_))
                                refine hq_p rfl rfl (ty_ge (n := z122.toInt + z123.toInt) (nm_add (by omega) (by omega)) (fun z124 ez124 => ?_))
                                refine ty_pI (W := ty_Wa) H Jh81 rfl rfl (by decide) rfl rfl (by unfold ty_Wa; omega) rfl (by omega) (by omega) (fun h125 eh125 Jh125 => ?_)
                                have wh125 : (hs_fI h125 62 4).toInt = z124.toInt := by rw [eh125]; exact congrArg Int32.toInt (ty_fI_eq Ih81.1 rfl (by decide) rfl)
                                have Ih125 := H.1 h125 Jh125
                                have r126 : (hs_fI h125 62 3).toInt = (hs_fI h81 62 3).toInt := by rw [eh125]; exact congrArg Int32.toInt (ty_fI_sF (by decide))
                                exact hq_W.ret rfl rfl rfl ⟨Jh125, rfl, by omega, (fun d1 d2 i a b => if q : (i : Int) = z9.toInt then (by rw [eR] at d1 d2 ⊢; rw [show (hs_fI h125 62 3).toInt.toNat = i by omega] at d1 d2; exact ⟨d1, d2⟩) else (by rw [eR]; exact x1n82 i (by omega) (by omega)))⟩
                          · have rrh81 : hs_aI h81 63 = R := by have q := Jh81; rw [eJ] at q; exact q.2
                            rw [rrh81] at ez98 ez113
                            refine hq_p rfl rfl ?_
                            refine hq_p rfl rfl ?_
                            refine ty_gI Ih81 rfl rfl (by decide) (by decide) rfl rfl (fun z127 ez127 az127 bz127 => ?_)
                            refine hq_p rfl rfl (ty_ge (n := 1) nk_i1 (fun z128 ez128 => ?_))
                            refine hq_p rfl rfl (ty_ge (n := z127.toInt + z128.toInt) (nm_add (by omega) (by omega)) (fun z129 ez129 => ?_))
                            refine ty_pI (W := ty_Wa) H Jh81 rfl rfl (by decide) rfl rfl (by unfold ty_Wa; omega) rfl (by omega) (by omega) (fun h130 eh130 Jh130 => ?_)
                            have wh130 : (hs_fI h130 62 4).toInt = z129.toInt := by rw [eh130]; exact congrArg Int32.toInt (ty_fI_eq Ih81.1 rfl (by decide) rfl)
                            have Ih130 := H.1 h130 Jh130
                            refine hq_p rfl rfl ?_
                            have r131 : (hs_fI h130 62 3).toInt = (hs_fI h81 62 3).toInt := by rw [eh130]; exact congrArg Int32.toInt (ty_fI_sF (by decide))
                            exact ihn82 ((400 - (hs_fI h130 62 4).toInt).toNat) (by omega) h130 rfl (by omega) (fun i a b => if q : (i : Int) < z97.toInt then x1n82 i a (by omega) else (by have e1 : z97.toInt.toNat = i := (by omega); have e2 : z112.toInt.toNat = i := (by omega); rw [e1] at ez98; rw [e2] at ez113; omega)) (by omega) Jh130
                  exact L118_n82 _ h13 rfl (by omega) (fun i a b => by exfalso; omega) (by omega) Jh13
                · exact hq_W.ret rfl rfl rfl ⟨Jh13, rfl, by omega, (by intro d1 d2; exfalso; rw [eR] at d1 d2; rcases x1n14 with q | q <;> first | omega | (rw [show (hs_fI h13 62 3).toInt.toNat = z9.toInt.toNat by omega] at d2; omega))⟩
              · refine hq_p rfl rfl ?_
                refine hq_gR Ih13.1 rfl rfl (by decide) (by decide) rfl ?_
                refine hq_p rfl rfl ?_
                refine ty_gI Ih13 rfl rfl (by decide) (by decide) rfl rfl (fun z132 ez132 az132 bz132 => ?_)
                refine ty_aL Ih13 rfl rfl (by decide) (by omega) (by omega) (fun _ _ => ty_le rfl) (fun z133 ez133 az133 bz133 => ?_)
                refine hq_p rfl rfl (ty_ge (n := 122) nk_b122 (fun z134 ez134 => ?_))
                refine ty_igt rfl (fun c135 => ?_) (fun c135 => ?_)
                · refine hq_p rfl rfl ?_
                  refine ty_gI Ih13 rfl rfl (by decide) (by decide) rfl rfl (fun z136 ez136 az136 bz136 => ?_)
                  refine hq_p rfl rfl ?_
                  refine ty_gI Ih13 rfl rfl (by decide) (by decide) rfl rfl (fun z137 ez137 az137 bz137 => ?_)
                  refine ty_ile rfl (fun c138 => ?_) (fun c138 => ?_)
                  · have L118_n141 : ∀ n141 : Nat, ∀ (h140 : pm_H), (400 - (hs_fI h140 62 4).toInt).toNat = n141 → (hs_fI h140 62 3).toInt ≤ (hs_fI h140 62 4).toInt → (∀ i : Nat, z9.toInt ≤ i → (i : Int) < (hs_fI h140 62 4).toInt → 48 ≤ (R i).toInt ∧ (R i).toInt ≤ 57) → (hs_fI h140 62 3).toInt = (hs_fI h13 62 3).toInt → J h140 → hq_W X d 3 false (none) pm_c38 (118, [some (.ref 62)], [], h140) (fun h' v => J h' ∧ (fun h1 v => v = none ∧ (hs_fI h1 62 3).toInt ≤ (hs_fI h1 62 4).toInt ∧ ty_dg h (hs_fI h1 62 3).toInt (hs_fI h1 62 4).toInt) h' v) := by
                      intro n141
                      induction n141 using Nat.strongRecOn with
                      | ind n141 ihn141 =>
                        intro h140 mn141 x0n141 x1n141 x2n141 Jh140
                        have Ih140 := H.1 h140 Jh140
                        refine hq_p rfl rfl ?_
                        refine ty_gI Ih140 rfl rfl (by decide) (by decide) rfl rfl (fun z142 ez142 az142 bz142 => ?_)
                        refine hq_p rfl rfl ?_
                        refine ty_gI Ih140 rfl rfl (by decide) (by decide) rfl rfl (fun z143 ez143 az143 bz143 => ?_)
                        refine ty_ige rfl (fun c144 => ?_) (fun c144 => ?_)
                        · refine hq_p rfl rfl ?_
                          refine ty_gI Ih140 rfl rfl (by decide) (by decide) rfl rfl (fun z145 ez145 az145 bz145 => ?_)
                          refine hq_p rfl rfl ?_
                          refine ty_gI Ih140 rfl rfl (by decide) (by decide) rfl rfl (fun z146 ez146 az146 bz146 => ?_)
                          refine ty_ine rfl (fun c147 => ?_) (fun c147 => ?_)
                          · clear c147
                            exact hq_W.ret rfl rfl rfl ⟨Jh140, rfl, by omega, (fun d1 d2 i a b => if q : (i : Int) = z9.toInt then (by rw [eR] at d1 d2 ⊢; rw [show (hs_fI h140 62 3).toInt.toNat = i by omega] at d1 d2; exact ⟨d1, d2⟩) else (by rw [eR]; exact x1n141 i (by omega) (by omega)))⟩
                          · refine hq_p rfl rfl ?_
                            refine ty_gI Ih140 rfl rfl (by decide) (by decide) rfl rfl (fun z148 ez148 az148 bz148 => ?_)
                            refine hq_p rfl rfl ?_
                            refine ty_gI Ih140 rfl rfl (by decide) (by decide) rfl rfl (fun z149 ez149 az149 bz149 => ?_)
                            refine ty_ige rfl (fun c150 => ?_) (fun c150 => ?_)
                            · exact hq_W.ret rfl rfl rfl ⟨Jh140, rfl, by omega, (fun d1 d2 i a b => if q : (i : Int) = z9.toInt then (by rw [eR] at d1 d2 ⊢; rw [show (hs_fI h140 62 3).toInt.toNat = i by omega] at d1 d2; exact ⟨d1, d2⟩) else (by rw [eR]; exact x1n141 i (by omega) (by omega)))⟩
                            · refine hq_p rfl rfl ?_
                              refine hq_p rfl rfl ?_
                              refine ty_gI Ih140 rfl rfl (by decide) (by decide) rfl rfl (fun z151 ez151 az151 bz151 => ?_)
                              refine hq_p rfl rfl (ty_ge (n := 1) nk_i1 (fun z152 ez152 => ?_))
                              refine hq_p rfl rfl (ty_ge (n := z151.toInt + z152.toInt) (nm_add (by omega) (by omega)) (fun z153 ez153 => ?_))
                              refine ty_pI (W := ty_Wa) H Jh140 rfl rfl (by decide) rfl rfl (by unfold ty_Wa; omega) rfl (by omega) (by omega) (fun h154 eh154 Jh154 => ?_)
                              have wh154 : (hs_fI h154 62 4).toInt = z153.toInt := by rw [eh154]; exact congrArg Int32.toInt (ty_fI_eq Ih140.1 rfl (by decide) rfl)
                              have Ih154 := H.1 h154 Jh154
                              have r155 : (hs_fI h154 62 3).toInt = (hs_fI h140 62 3).toInt := by rw [eh154]; exact congrArg Int32.toInt (ty_fI_sF (by decide))
                              exact hq_W.ret rfl rfl rfl ⟨Jh154, rfl, by omega, (fun d1 d2 i a b => if q : (i : Int) = z9.toInt then (by rw [eR] at d1 d2 ⊢; rw [show (hs_fI h154 62 3).toInt.toNat = i by omega] at d1 d2; exact ⟨d1, d2⟩) else (by rw [eR]; exact x1n141 i (by omega) (by omega)))⟩
                        · refine hq_p rfl rfl ?_
                          refine hq_gR Ih140.1 rfl rfl (by decide) (by decide) rfl ?_
                          refine hq_p rfl rfl ?_
                          refine ty_gI Ih140 rfl rfl (by decide) (by decide) rfl rfl (fun z156 ez156 az156 bz156 => ?_)
                          refine ty_aL Ih140 rfl rfl (by decide) (by omega) (by omega) (fun _ _ => ty_le rfl) (fun z157 ez157 az157 bz157 => ?_)
                          refine hq_p rfl rfl (ty_ge (n := 48) nk_b48 (fun z158 ez158 => ?_))
                          refine ty_ilt rfl (fun c159 => ?_) (fun c159 => ?_)
                          · refine hq_p rfl rfl ?_
                            refine ty_gI Ih140 rfl rfl (by decide) (by decide) rfl rfl (fun z160 ez160 az160 bz160 => ?_)
                            refine hq_p rfl rfl ?_
                            refine ty_gI Ih140 rfl rfl (by decide) (by decide) rfl rfl (fun z161 ez161 az161 bz161 => ?_)
                            refine ty_ine rfl (fun c162 => ?_) (fun c162 => ?_)
                            · clear c162
                              exact hq_W.ret rfl rfl rfl ⟨Jh140, rfl, by omega, (fun d1 d2 i a b => if q : (i : Int) = z9.toInt then (by rw [eR] at d1 d2 ⊢; rw [show (hs_fI h140 62 3).toInt.toNat = i by omega] at d1 d2; exact ⟨d1, d2⟩) else (by rw [eR]; exact x1n141 i (by omega) (by omega)))⟩
                            · refine hq_p rfl rfl ?_
                              refine ty_gI Ih140 rfl rfl (by decide) (by decide) rfl rfl (fun z163 ez163 az163 bz163 => ?_)
                              refine hq_p rfl rfl ?_
                              refine ty_gI Ih140 rfl rfl (by decide) (by decide) rfl rfl (fun z164 ez164 az164 bz164 => ?_)
                              refine ty_ige rfl (fun c165 => ?_) (fun c165 => ?_)
                              · exact hq_W.ret rfl rfl rfl ⟨Jh140, rfl, by omega, (fun d1 d2 i a b => if q : (i : Int) = z9.toInt then (by rw [eR] at d1 d2 ⊢; rw [show (hs_fI h140 62 3).toInt.toNat = i by omega] at d1 d2; exact ⟨d1, d2⟩) else (by rw [eR]; exact x1n141 i (by omega) (by omega)))⟩
                              · refine hq_p rfl rfl ?_
                                refine hq_p rfl rfl ?_
                                refine ty_gI Ih140 rfl rfl (by decide) (by decide) rfl rfl (fun z166 ez166 az166 bz166 => ?_)
                                refine hq_p rfl rfl (ty_ge (n := 1) nk_i1 (fun z167 ez167 => ?_))
                                refine hq_p rfl rfl (ty_ge (n := z166.toInt + z167.toInt) (nm_add (by omega) (by omega)) (fun z168 ez168 => ?_))
                                refine ty_pI (W := ty_Wa) H Jh140 rfl rfl (by decide) rfl rfl (by unfold ty_Wa; omega) rfl (by omega) (by omega) (fun h169 eh169 Jh169 => ?_)
                                have wh169 : (hs_fI h169 62 4).toInt = z168.toInt := by rw [eh169]; exact congrArg Int32.toInt (ty_fI_eq Ih140.1 rfl (by decide) rfl)
                                have Ih169 := H.1 h169 Jh169
                                have r170 : (hs_fI h169 62 3).toInt = (hs_fI h140 62 3).toInt := by rw [eh169]; exact congrArg Int32.toInt (ty_fI_sF (by decide))
                                exact hq_W.ret rfl rfl rfl ⟨Jh169, rfl, by omega, (fun d1 d2 i a b => if q : (i : Int) = z9.toInt then (by rw [eR] at d1 d2 ⊢; rw [show (hs_fI h169 62 3).toInt.toNat = i by omega] at d1 d2; exact ⟨d1, d2⟩) else (by rw [eR]; exact x1n141 i (by omega) (by omega)))⟩
                          · refine hq_p rfl rfl ?_
                            refine hq_gR Ih140.1 rfl rfl (by decide) (by decide) rfl ?_
                            refine hq_p rfl rfl ?_
                            refine ty_gI Ih140 rfl rfl (by decide) (by decide) rfl rfl (fun z171 ez171 az171 bz171 => ?_)
                            refine ty_aL Ih140 rfl rfl (by decide) (by omega) (by omega) (fun _ _ => ty_le rfl) (fun z172 ez172 az172 bz172 => ?_)
                            refine hq_p rfl rfl (ty_ge (n := 57) nk_b57 (fun z173 ez173 => ?_))
                            refine ty_igt rfl (fun c174 => ?_) (fun c174 => ?_)
                            · refine hq_p rfl rfl ?_
                              refine ty_gI Ih140 rfl rfl (by decide) (by decide) rfl rfl (fun z175 ez175 az175 bz175 => ?_)
                              refine hq_p rfl rfl ?_
                              refine ty_gI Ih140 rfl rfl (by decide) (by decide) rfl rfl (fun z176 ez176 az176 bz176 => ?_)
                              refine ty_ine rfl (fun c177 => ?_) (fun c177 => ?_)
                              · clear c177
                                exact hq_W.ret rfl rfl rfl ⟨Jh140, rfl, by omega, (fun d1 d2 i a b => if q : (i : Int) = z9.toInt then (by rw [eR] at d1 d2 ⊢; rw [show (hs_fI h140 62 3).toInt.toNat = i by omega] at d1 d2; exact ⟨d1, d2⟩) else (by rw [eR]; exact x1n141 i (by omega) (by omega)))⟩
                              · refine hq_p rfl rfl ?_
                                refine ty_gI Ih140 rfl rfl (by decide) (by decide) rfl rfl (fun z178 ez178 az178 bz178 => ?_)
                                refine hq_p rfl rfl ?_
                                refine ty_gI Ih140 rfl rfl (by decide) (by decide) rfl rfl (fun z179 ez179 az179 bz179 => ?_)
                                refine ty_ige rfl (fun c180 => ?_) (fun c180 => ?_)
                                · exact hq_W.ret rfl rfl rfl ⟨Jh140, rfl, by omega, (fun d1 d2 i a b => if q : (i : Int) = z9.toInt then (by rw [eR] at d1 d2 ⊢; rw [show (hs_fI h140 62 3).toInt.toNat = i by omega] at d1 d2; exact ⟨d1, d2⟩) else (by rw [eR]; exact x1n141 i (by omega) (by omega)))⟩
                                · refine hq_p rfl rfl ?_
                                  refine hq_p rfl rfl ?_
                                  refine ty_gI Ih140 rfl rfl (by decide) (by decide) rfl rfl (fun z181 ez181 az181 bz181 => ?_)
                                  refine hq_p rfl rfl (ty_ge (n := 1) nk_i1 (fun z182 ez182 => ?_))
                                  refine hq_p rfl rfl (ty_ge (n := z181.toInt + z182.toInt) (nm_add (by omega) (by omega)) (fun z183 ez183 => ?_))
                                  refine ty_pI (W := ty_Wa) H Jh140 rfl rfl (by decide) rfl rfl (by unfold ty_Wa; omega) rfl (by omega) (by omega) (fun h184 eh184 Jh184 => ?_)
                                  have wh184 : (hs_fI h184 62 4).toInt = z183.toInt := by rw [eh184]; exact congrArg Int32.toInt (ty_fI_eq Ih140.1 rfl (by decide) rfl)
                                  have Ih184 := H.1 h184 Jh184
                                  have r185 : (hs_fI h184 62 3).toInt = (hs_fI h140 62 3).toInt := by rw [eh184]; exact congrArg Int32.toInt (ty_fI_sF (by decide))
                                  exact hq_W.ret rfl rfl rfl ⟨Jh184, rfl, by omega, (fun d1 d2 i a b => if q : (i : Int) = z9.toInt then (by rw [eR] at d1 d2 ⊢; rw [show (hs_fI h184 62 3).toInt.toNat = i by omega] at d1 d2; exact ⟨d1, d2⟩) else (by rw [eR]; exact x1n141 i (by omega) (by omega)))⟩
                            · have rrh140 : hs_aI h140 63 = R := by have q := Jh140; rw [eJ] at q; exact q.2
                              rw [rrh140] at ez157 ez172
                              refine hq_p rfl rfl ?_
                              refine hq_p rfl rfl ?_
                              refine ty_gI Ih140 rfl rfl (by decide) (by decide) rfl rfl (fun z186 ez186 az186 bz186 => ?_)
                              refine hq_p rfl rfl (ty_ge (n := 1) nk_i1 (fun z187 ez187 => ?_))
                              refine hq_p rfl rfl (ty_ge (n := z186.toInt + z187.toInt) (nm_add (by omega) (by omega)) (fun z188 ez188 => ?_))
                              refine ty_pI (W := ty_Wa) H Jh140 rfl rfl (by decide) rfl rfl (by unfold ty_Wa; omega) rfl (by omega) (by omega) (fun h189 eh189 Jh189 => ?_)
                              have wh189 : (hs_fI h189 62 4).toInt = z188.toInt := by rw [eh189]; exact congrArg Int32.toInt (ty_fI_eq Ih140.1 rfl (by decide) rfl)
                              have Ih189 := H.1 h189 Jh189
                              refine hq_p rfl rfl ?_
                              have r190 : (hs_fI h189 62 3).toInt = (hs_fI h140 62 3).toInt := by rw [eh189]; exact congrArg Int32.toInt (ty_fI_sF (by decide))
                              exact ihn141 ((400 - (hs_fI h189 62 4).toInt).toNat) (by omega) h189 rfl (by omega) (fun i a b => if q : (i : Int) < z156.toInt then x1n141 i a (by omega) else (by have e1 : z156.toInt.toNat = i := (by omega); have e2 : z171.toInt.toNat = i := (by omega); rw [e1] at ez157; rw [e2] at ez172; omega)) (by omega) Jh189
                    exact L118_n141 _ h13 rfl (by omega) (fun i a b => by exfalso; omega) (by omega) Jh13
                  · exact hq_W.ret rfl rfl rfl ⟨Jh13, rfl, by omega, (by intro d1 d2; exfalso; rw [eR] at d1 d2; rcases x1n14 with q | q <;> first | omega | (rw [show (hs_fI h13 62 3).toInt.toNat = z9.toInt.toNat by omega] at d2; omega))⟩
                · have rrh13 : hs_aI h13 63 = R := by have q := Jh13; rw [eJ] at q; exact q.2
                  have gg : 97 ≤ (R z9.toInt.toNat).toInt := by
                    rcases x1n14 with q | q
                    · have e1 : z73.toInt.toNat = z9.toInt.toNat := by omega
                      rw [rrh13, e1] at ez74
                      omega
                    · exact q
                  refine hq_p rfl rfl ?_
                  refine hq_p rfl rfl ?_
                  refine ty_gI Ih13 rfl rfl (by decide) (by decide) rfl rfl (fun z191 ez191 az191 bz191 => ?_)
                  refine hq_p rfl rfl (ty_ge (n := 1) nk_i1 (fun z192 ez192 => ?_))
                  refine hq_p rfl rfl (ty_ge (n := z191.toInt + z192.toInt) (nm_add (by omega) (by omega)) (fun z193 ez193 => ?_))
                  refine ty_pI (W := ty_Wa) H Jh13 rfl rfl (by decide) rfl rfl (by unfold ty_Wa; omega) rfl (by omega) (by omega) (fun h194 eh194 Jh194 => ?_)
                  have wh194 : (hs_fI h194 62 4).toInt = z193.toInt := by rw [eh194]; exact congrArg Int32.toInt (ty_fI_eq Ih13.1 rfl (by decide) rfl)
                  have Ih194 := H.1 h194 Jh194
                  refine hq_p rfl rfl ?_
                  have r195 : (hs_fI h194 62 3).toInt = (hs_fI h13 62 3).toInt := by rw [eh194]; exact congrArg Int32.toInt (ty_fI_sF (by decide))
                  exact ihn14 ((400 - (hs_fI h194 62 4).toInt).toNat) (by omega) h194 rfl (by omega) (by omega) (by omega) Jh194
        exact L54_n14 _ h10 rfl (by omega) (by omega) (by omega) Jh10
      · refine hq_p rfl rfl ?_
        refine hq_gR Ih4.1 rfl rfl (by decide) (by decide) rfl ?_
        refine hq_p rfl rfl ?_
        refine ty_gI Ih4 rfl rfl (by decide) (by decide) rfl rfl (fun z196 ez196 az196 bz196 => ?_)
        refine ty_aL Ih4 rfl rfl (by decide) (by omega) (by omega) (fun _ _ => ty_le rfl) (fun z197 ez197 az197 bz197 => ?_)
        refine hq_p rfl rfl (ty_ge (n := 32) nk_b32 (fun z198 ez198 => ?_))
        refine ty_ine rfl (fun c199 => ?_) (fun c199 => ?_)
        · clear c199
          refine hq_p rfl rfl ?_
          refine hq_p rfl rfl ?_
          refine ty_gI Ih4 rfl rfl (by decide) (by decide) rfl rfl (fun z200 ez200 az200 bz200 => ?_)
          refine ty_pI (W := ty_Wa) H Jh4 rfl rfl (by decide) rfl rfl (by unfold ty_Wa; omega) rfl (by omega) (by omega) (fun h201 eh201 Jh201 => ?_)
          have wh201 : (hs_fI h201 62 4).toInt = z200.toInt := by rw [eh201]; exact congrArg Int32.toInt (ty_fI_eq Ih4.1 rfl (by decide) rfl)
          have Ih201 := H.1 h201 Jh201
          have r202 : (hs_fI h201 62 3).toInt = (hs_fI h4 62 3).toInt := by rw [eh201]; exact congrArg Int32.toInt (ty_fI_sF (by decide))
          have L54_n205 : ∀ n205 : Nat, ∀ (h204 : pm_H), (400 - (hs_fI h204 62 4).toInt).toNat = n205 → (hs_fI h204 62 3).toInt ≤ (hs_fI h204 62 4).toInt → (hs_fI h204 62 4).toInt = z200.toInt ∨ 97 ≤ (R z200.toInt.toNat).toInt → (hs_fI h204 62 3).toInt = (hs_fI h201 62 3).toInt → J h204 → hq_W X d 3 false (none) pm_c38 (54, [some (.ref 62)], [], h204) (fun h' v => J h' ∧ (fun h1 v => v = none ∧ (hs_fI h1 62 3).toInt ≤ (hs_fI h1 62 4).toInt ∧ ty_dg h (hs_fI h1 62 3).toInt (hs_fI h1 62 4).toInt) h' v) := by
            intro n205
            induction n205 using Nat.strongRecOn with
            | ind n205 ihn205 =>
              intro h204 mn205 x0n205 x1n205 x2n205 Jh204
              have Ih204 := H.1 h204 Jh204
              refine hq_p rfl rfl ?_
              refine ty_gI Ih204 rfl rfl (by decide) (by decide) rfl rfl (fun z206 ez206 az206 bz206 => ?_)
              refine hq_p rfl rfl ?_
              refine ty_gI Ih204 rfl rfl (by decide) (by decide) rfl rfl (fun z207 ez207 az207 bz207 => ?_)
              refine ty_ige rfl (fun c208 => ?_) (fun c208 => ?_)
              · refine hq_p rfl rfl ?_
                refine ty_gI Ih204 rfl rfl (by decide) (by decide) rfl rfl (fun z209 ez209 az209 bz209 => ?_)
                refine hq_p rfl rfl ?_
                refine ty_gI Ih204 rfl rfl (by decide) (by decide) rfl rfl (fun z210 ez210 az210 bz210 => ?_)
                refine ty_ile rfl (fun c211 => ?_) (fun c211 => ?_)
                · have L118_n214 : ∀ n214 : Nat, ∀ (h213 : pm_H), (400 - (hs_fI h213 62 4).toInt).toNat = n214 → (hs_fI h213 62 3).toInt ≤ (hs_fI h213 62 4).toInt → (∀ i : Nat, z200.toInt ≤ i → (i : Int) < (hs_fI h213 62 4).toInt → 48 ≤ (R i).toInt ∧ (R i).toInt ≤ 57) → (hs_fI h213 62 3).toInt = (hs_fI h204 62 3).toInt → J h213 → hq_W X d 3 false (none) pm_c38 (118, [some (.ref 62)], [], h213) (fun h' v => J h' ∧ (fun h1 v => v = none ∧ (hs_fI h1 62 3).toInt ≤ (hs_fI h1 62 4).toInt ∧ ty_dg h (hs_fI h1 62 3).toInt (hs_fI h1 62 4).toInt) h' v) := by
                    intro n214
                    induction n214 using Nat.strongRecOn with
                    | ind n214 ihn214 =>
                      intro h213 mn214 x0n214 x1n214 x2n214 Jh213
                      have Ih213 := H.1 h213 Jh213
                      refine hq_p rfl rfl ?_
                      refine ty_gI Ih213 rfl rfl (by decide) (by decide) rfl rfl (fun z215 ez215 az215 bz215 => ?_)
                      refine hq_p rfl rfl ?_
                      refine ty_gI Ih213 rfl rfl (by decide) (by decide) rfl rfl (fun z216 ez216 az216 bz216 => ?_)
                      refine ty_ige rfl (fun c217 => ?_) (fun c217 => ?_)
                      · refine hq_p rfl rfl ?_
                        refine ty_gI Ih213 rfl rfl (by decide) (by decide) rfl rfl (fun z218 ez218 az218 bz218 => ?_)
                        refine hq_p rfl rfl ?_
                        refine ty_gI Ih213 rfl rfl (by decide) (by decide) rfl rfl (fun z219 ez219 az219 bz219 => ?_)
                        refine ty_ine rfl (fun c220 => ?_) (fun c220 => ?_)
                        · clear c220
                          exact hq_W.ret rfl rfl rfl ⟨Jh213, rfl, by omega, (fun d1 d2 i a b => if q : (i : Int) = z200.toInt then (by rw [eR] at d1 d2 ⊢; rw [show (hs_fI h213 62 3).toInt.toNat = i by omega] at d1 d2; exact ⟨d1, d2⟩) else (by rw [eR]; exact x1n214 i (by omega) (by omega)))⟩
                        · refine hq_p rfl rfl ?_
                          refine ty_gI Ih213 rfl rfl (by decide) (by decide) rfl rfl (fun z221 ez221 az221 bz221 => ?_)
                          refine hq_p rfl rfl ?_
                          refine ty_gI Ih213 rfl rfl (by decide) (by decide) rfl rfl (fun z222 ez222 az222 bz222 => ?_)
                          refine ty_ige rfl (fun c223 => ?_) (fun c223 => ?_)
                          · exact hq_W.ret rfl rfl rfl ⟨Jh213, rfl, by omega, (fun d1 d2 i a b => if q : (i : Int) = z200.toInt then (by rw [eR] at d1 d2 ⊢; rw [show (hs_fI h213 62 3).toInt.toNat = i by omega] at d1 d2; exact ⟨d1, d2⟩) else (by rw [eR]; exact x1n214 i (by omega) (by omega)))⟩
                          · refine hq_p rfl rfl ?_
                            refine hq_p rfl rfl ?_
                            refine ty_gI Ih213 rfl rfl (by decide) (by decide) rfl rfl (fun z224 ez224 az224 bz224 => ?_)
                            refine hq_p rfl rfl (ty_ge (n := 1) nk_i1 (fun z225 ez225 => ?_))
                            refine hq_p rfl rfl (ty_ge (n := z224.toInt + z225.toInt) (nm_add (by omega) (by omega)) (fun z226 ez226 => ?_))
                            refine ty_pI (W := ty_Wa) H Jh213 rfl rfl (by decide) rfl rfl (by unfold ty_Wa; omega) rfl (by omega) (by omega) (fun h227 eh227 Jh227 => ?_)
                            have wh227 : (hs_fI h227 62 4).toInt = z226.toInt := by rw [eh227]; exact congrArg Int32.toInt (ty_fI_eq Ih213.1 rfl (by decide) rfl)
                            have Ih227 := H.1 h227 Jh227
                            have r228 : (hs_fI h227 62 3).toInt = (hs_fI h213 62 3).toInt := by rw [eh227]; exact congrArg Int32.toInt (ty_fI_sF (by decide))
                            exact hq_W.ret rfl rfl rfl ⟨Jh227, rfl, by omega, (fun d1 d2 i a b => if q : (i : Int) = z200.toInt then (by rw [eR] at d1 d2 ⊢; rw [show (hs_fI h227 62 3).toInt.toNat = i by omega] at d1 d2; exact ⟨d1, d2⟩) else (by rw [eR]; exact x1n214 i (by omega) (by omega)))⟩
                      · refine hq_p rfl rfl ?_
                        refine hq_gR Ih213.1 rfl rfl (by decide) (by decide) rfl ?_
                        refine hq_p rfl rfl ?_
                        refine ty_gI Ih213 rfl rfl (by decide) (by decide) rfl rfl (fun z229 ez229 az229 bz229 => ?_)
                        refine ty_aL Ih213 rfl rfl (by decide) (by omega) (by omega) (fun _ _ => ty_le rfl) (fun z230 ez230 az230 bz230 => ?_)
                        refine hq_p rfl rfl (ty_ge (n := 48) nk_b48 (fun z231 ez231 => ?_))
                        refine ty_ilt rfl (fun c232 => ?_) (fun c232 => ?_)
                        · refine hq_p rfl rfl ?_
                          refine ty_gI Ih213 rfl rfl (by decide) (by decide) rfl rfl (fun z233 ez233 az233 bz233 => ?_)
                          refine hq_p rfl rfl ?_
                          refine ty_gI Ih213 rfl rfl (by decide) (by decide) rfl rfl (fun z234 ez234 az234 bz234 => ?_)
                          refine ty_ine rfl (fun c235 => ?_) (fun c235 => ?_)
                          · clear c235
                            exact hq_W.ret rfl rfl rfl ⟨Jh213, rfl, by omega, (fun d1 d2 i a b => if q : (i : Int) = z200.toInt then (by rw [eR] at d1 d2 ⊢; rw [show (hs_fI h213 62 3).toInt.toNat = i by omega] at d1 d2; exact ⟨d1, d2⟩) else (by rw [eR]; exact x1n214 i (by omega) (by omega)))⟩
                          · refine hq_p rfl rfl ?_
                            refine ty_gI Ih213 rfl rfl (by decide) (by decide) rfl rfl (fun z236 ez236 az236 bz236 => ?_)
                            refine hq_p rfl rfl ?_
                            refine ty_gI Ih213 rfl rfl (by decide) (by decide) rfl rfl (fun z237 ez237 az237 bz237 => ?_)
                            refine ty_ige rfl (fun c238 => ?_) (fun c238 => ?_)
                            · exact hq_W.ret rfl rfl rfl ⟨Jh213, rfl, by omega, (fun d1 d2 i a b => if q : (i : Int) = z200.toInt then (by rw [eR] at d1 d2 ⊢; rw [show (hs_fI h213 62 3).toInt.toNat = i by omega] at d1 d2; exact ⟨d1, d2⟩) else (by rw [eR]; exact x1n214 i (by omega) (by omega)))⟩
                            · refine hq_p rfl rfl ?_
                              refine hq_p rfl rfl ?_
                              refine ty_gI Ih213 rfl rfl (by decide) (by decide) rfl rfl (fun z239 ez239 az239 bz239 => ?_)
                              refine hq_p rfl rfl (ty_ge (n := 1) nk_i1 (fun z240 ez240 => ?_))
                              refine hq_p rfl rfl (ty_ge (n := z239.toInt + z240.toInt) (nm_add (by omega) (by omega)) (fun z241 ez241 => ?_))
                              refine ty_pI (W := ty_Wa) H Jh213 rfl rfl (by decide) rfl rfl (by unfold ty_Wa; omega) rfl (by omega) (by omega) (fun h242 eh242 Jh242 => ?_)
                              have wh242 : (hs_fI h242 62 4).toInt = z241.toInt := by rw [eh242]; exact congrArg Int32.toInt (ty_fI_eq Ih213.1 rfl (by decide) rfl)
                              have Ih242 := H.1 h242 Jh242
                              have r243 : (hs_fI h242 62 3).toInt = (hs_fI h213 62 3).toInt := by rw [eh242]; exact congrArg Int32.toInt (ty_fI_sF (by decide))
                              exact hq_W.ret rfl rfl rfl ⟨Jh242, rfl, by omega, (fun d1 d2 i a b => if q : (i : Int) = z200.toInt then (by rw [eR] at d1 d2 ⊢; rw [show (hs_fI h242 62 3).toInt.toNat = i by omega] at d1 d2; exact ⟨d1, d2⟩) else (by rw [eR]; exact x1n214 i (by omega) (by omega)))⟩
                        · refine hq_p rfl rfl ?_
                          refine hq_gR Ih213.1 rfl rfl (by decide) (by decide) rfl ?_
                          refine hq_p rfl rfl ?_
                          refine ty_gI Ih213 rfl rfl (by decide) (by decide) rfl rfl (fun z244 ez244 az244 bz244 => ?_)
                          refine ty_aL Ih213 rfl rfl (by decide) (by omega) (by omega) (fun _ _ => ty_le rfl) (fun z245 ez245 az245 bz245 => ?_)
                          refine hq_p rfl rfl (ty_ge (n := 57) nk_b57 (fun z246 ez246 => ?_))
                          refine ty_igt rfl (fun c247 => ?_) (fun c247 => ?_)
                          · refine hq_p rfl rfl ?_
                            refine ty_gI Ih213 rfl rfl (by decide) (by decide) rfl rfl (fun z248 ez248 az248 bz248 => ?_)
                            refine hq_p rfl rfl ?_
                            refine ty_gI Ih213 rfl rfl (by decide) (by decide) rfl rfl (fun z249 ez249 az249 bz249 => ?_)
                            refine ty_ine rfl (fun c250 => ?_) (fun c250 => ?_)
                            · clear c250
                              exact hq_W.ret rfl rfl rfl ⟨Jh213, rfl, by omega, (fun d1 d2 i a b => if q : (i : Int) = z200.toInt then (by rw [eR] at d1 d2 ⊢; rw [show (hs_fI h213 62 3).toInt.toNat = i by omega] at d1 d2; exact ⟨d1, d2⟩) else (by rw [eR]; exact x1n214 i (by omega) (by omega)))⟩
                            · refine hq_p rfl rfl ?_
                              refine ty_gI Ih213 rfl rfl (by decide) (by decide) rfl rfl (fun z251 ez251 az251 bz251 => ?_)
                              refine hq_p rfl rfl ?_
                              refine ty_gI Ih213 rfl rfl (by decide) (by decide) rfl rfl (fun z252 ez252 az252 bz252 => ?_)
                              refine ty_ige rfl (fun c253 => ?_) (fun c253 => ?_)
                              · exact hq_W.ret rfl rfl rfl ⟨Jh213, rfl, by omega, (fun d1 d2 i a b => if q : (i : Int) = z200.toInt then (by rw [eR] at d1 d2 ⊢; rw [show (hs_fI h213 62 3).toInt.toNat = i by omega] at d1 d2; exact ⟨d1, d2⟩) else (by rw [eR]; exact x1n214 i (by omega) (by omega)))⟩
                              · refine hq_p rfl rfl ?_
                                refine hq_p rfl rfl ?_
                                refine ty_gI Ih213 rfl rfl (by decide) (by decide) rfl rfl (fun z254 ez254 az254 bz254 => ?_)
                                refine hq_p rfl rfl (ty_ge (n := 1) nk_i1 (fun z255 ez255 => ?_))
                                refine hq_p rfl rfl (ty_ge (n := z254.toInt + z255.toInt) (nm_add (by omega) (by omega)) (fun z256 ez256 => ?_))
                                refine ty_pI (W := ty_Wa) H Jh213 rfl rfl (by decide) rfl rfl (by unfold ty_Wa; omega) rfl (by omega) (by omega) (fun h257 eh257 Jh257 => ?_)
                                have wh257 : (hs_fI h257 62 4).toInt = z256.toInt := by rw [eh257]; exact congrArg Int32.toInt (ty_fI_eq Ih213.1 rfl (by decide) rfl)
                                have Ih257 := H.1 h257 Jh257
                                have r258 : (hs_fI h257 62 3).toInt = (hs_fI h213 62 3).toInt := by rw [eh257]; exact congrArg Int32.toInt (ty_fI_sF (by decide))
                                exact hq_W.ret rfl rfl rfl ⟨Jh257, rfl, by omega, (fun d1 d2 i a b => if q : (i : Int) = z200.toInt then (by rw [eR] at d1 d2 ⊢; rw [show (hs_fI h257 62 3).toInt.toNat = i by omega] at d1 d2; exact ⟨d1, d2⟩) else (by rw [eR]; exact x1n214 i (by omega) (by omega)))⟩
                          · have rrh213 : hs_aI h213 63 = R := by have q := Jh213; rw [eJ] at q; exact q.2
                            rw [rrh213] at ez230 ez245
                            refine hq_p rfl rfl ?_
                            refine hq_p rfl rfl ?_
                            refine ty_gI Ih213 rfl rfl (by decide) (by decide) rfl rfl (fun z259 ez259 az259 bz259 => ?_)
                            refine hq_p rfl rfl (ty_ge (n := 1) nk_i1 (fun z260 ez260 => ?_))
                            refine hq_p rfl rfl (ty_ge (n := z259.toInt + z260.toInt) (nm_add (by omega) (by omega)) (fun z261 ez261 => ?_))
                            refine ty_pI (W := ty_Wa) H Jh213 rfl rfl (by decide) rfl rfl (by unfold ty_Wa; omega) rfl (by omega) (by omega) (fun h262 eh262 Jh262 => ?_)
                            have wh262 : (hs_fI h262 62 4).toInt = z261.toInt := by rw [eh262]; exact congrArg Int32.toInt (ty_fI_eq Ih213.1 rfl (by decide) rfl)
                            have Ih262 := H.1 h262 Jh262
                            refine hq_p rfl rfl ?_
                            have r263 : (hs_fI h262 62 3).toInt = (hs_fI h213 62 3).toInt := by rw [eh262]; exact congrArg Int32.toInt (ty_fI_sF (by decide))
                            exact ihn214 ((400 - (hs_fI h262 62 4).toInt).toNat) (by omega) h262 rfl (by omega) (fun i a b => if q : (i : Int) < z229.toInt then x1n214 i a (by omega) else (by have e1 : z229.toInt.toNat = i := (by omega); have e2 : z244.toInt.toNat = i := (by omega); rw [e1] at ez230; rw [e2] at ez245; omega)) (by omega) Jh262
                  exact L118_n214 _ h204 rfl (by omega) (fun i a b => by exfalso; omega) (by omega) Jh204
                · exact hq_W.ret rfl rfl rfl ⟨Jh204, rfl, by omega, (by intro d1 d2; exfalso; rw [eR] at d1 d2; rcases x1n205 with q | q <;> first | omega | (rw [show (hs_fI h204 62 3).toInt.toNat = z200.toInt.toNat by omega] at d2; omega))⟩
              · refine hq_p rfl rfl ?_
                refine hq_gR Ih204.1 rfl rfl (by decide) (by decide) rfl ?_
                refine hq_p rfl rfl ?_
                refine ty_gI Ih204 rfl rfl (by decide) (by decide) rfl rfl (fun z264 ez264 az264 bz264 => ?_)
                refine ty_aL Ih204 rfl rfl (by decide) (by omega) (by omega) (fun _ _ => ty_le rfl) (fun z265 ez265 az265 bz265 => ?_)
                refine hq_p rfl rfl (ty_ge (n := 97) nk_b97 (fun z266 ez266 => ?_))
                refine ty_ilt rfl (fun c267 => ?_) (fun c267 => ?_)
                · refine hq_p rfl rfl ?_
                  refine ty_gI Ih204 rfl rfl (by decide) (by decide) rfl rfl (fun z268 ez268 az268 bz268 => ?_)
                  refine hq_p rfl rfl ?_
                  refine ty_gI Ih204 rfl rfl (by decide) (by decide) rfl rfl (fun z269 ez269 az269 bz269 => ?_)
                  refine ty_ile rfl (fun c270 => ?_) (fun c270 => ?_)
                  · have L118_n273 : ∀ n273 : Nat, ∀ (h272 : pm_H), (400 - (hs_fI h272 62 4).toInt).toNat = n273 → (hs_fI h272 62 3).toInt ≤ (hs_fI h272 62 4).toInt → (∀ i : Nat, z200.toInt ≤ i → (i : Int) < (hs_fI h272 62 4).toInt → 48 ≤ (R i).toInt ∧ (R i).toInt ≤ 57) → (hs_fI h272 62 3).toInt = (hs_fI h204 62 3).toInt → J h272 → hq_W X d 3 false (none) pm_c38 (118, [some (.ref 62)], [], h272) (fun h' v => J h' ∧ (fun h1 v => v = none ∧ (hs_fI h1 62 3).toInt ≤ (hs_fI h1 62 4).toInt ∧ ty_dg h (hs_fI h1 62 3).toInt (hs_fI h1 62 4).toInt) h' v) := by
                      intro n273
                      induction n273 using Nat.strongRecOn with
                      | ind n273 ihn273 =>
                        intro h272 mn273 x0n273 x1n273 x2n273 Jh272
                        have Ih272 := H.1 h272 Jh272
                        refine hq_p rfl rfl ?_
                        refine ty_gI Ih272 rfl rfl (by decide) (by decide) rfl rfl (fun z274 ez274 az274 bz274 => ?_)
                        refine hq_p rfl rfl ?_
                        refine ty_gI Ih272 rfl rfl (by decide) (by decide) rfl rfl (fun z275 ez275 az275 bz275 => ?_)
                        refine ty_ige rfl (fun c276 => ?_) (fun c276 => ?_)
                        · refine hq_p rfl rfl ?_
                          refine ty_gI Ih272 rfl rfl (by decide) (by decide) rfl rfl (fun z277 ez277 az277 bz277 => ?_)
                          refine hq_p rfl rfl ?_
                          refine ty_gI Ih272 rfl rfl (by decide) (by decide) rfl rfl (fun z278 ez278 az278 bz278 => ?_)
                          refine ty_ine rfl (fun c279 => ?_) (fun c279 => ?_)
                          · clear c279
                            exact hq_W.ret rfl rfl rfl ⟨Jh272, rfl, by omega, (fun d1 d2 i a b => if q : (i : Int) = z200.toInt then (by rw [eR] at d1 d2 ⊢; rw [show (hs_fI h272 62 3).toInt.toNat = i by omega] at d1 d2; exact ⟨d1, d2⟩) else (by rw [eR]; exact x1n273 i (by omega) (by omega)))⟩
                          · refine hq_p rfl rfl ?_
                            refine ty_gI Ih272 rfl rfl (by decide) (by decide) rfl rfl (fun z280 ez280 az280 bz280 => ?_)
                            refine hq_p rfl rfl ?_
                            refine ty_gI Ih272 rfl rfl (by decide) (by decide) rfl rfl (fun z281 ez281 az281 bz281 => ?_)
                            refine ty_ige rfl (fun c282 => ?_) (fun c282 => ?_)
                            · exact hq_W.ret rfl rfl rfl ⟨Jh272, rfl, by omega, (fun d1 d2 i a b => if q : (i : Int) = z200.toInt then (by rw [eR] at d1 d2 ⊢; rw [show (hs_fI h272 62 3).toInt.toNat = i by omega] at d1 d2; exact ⟨d1, d2⟩) else (by rw [eR]; exact x1n273 i (by omega) (by omega)))⟩
                            · refine hq_p rfl rfl ?_
                              refine hq_p rfl rfl ?_
                              refine ty_gI Ih272 rfl rfl (by decide) (by decide) rfl rfl (fun z283 ez283 az283 bz283 => ?_)
                              refine hq_p rfl rfl (ty_ge (n := 1) nk_i1 (fun z284 ez284 => ?_))
                              refine hq_p rfl rfl (ty_ge (n := z283.toInt + z284.toInt) (nm_add (by omega) (by omega)) (fun z285 ez285 => ?_))
                              refine ty_pI (W := ty_Wa) H Jh272 rfl rfl (by decide) rfl rfl (by unfold ty_Wa; omega) rfl (by omega) (by omega) (fun h286 eh286 Jh286 => ?_)
                              have wh286 : (hs_fI h286 62 4).toInt = z285.toInt := by rw [eh286]; exact congrArg Int32.toInt (ty_fI_eq Ih272.1 rfl (by decide) rfl)
                              have Ih286 := H.1 h286 Jh286
                              have r287 : (hs_fI h286 62 3).toInt = (hs_fI h272 62 3).toInt := by rw [eh286]; exact congrArg Int32.toInt (ty_fI_sF (by decide))
                              exact hq_W.ret rfl rfl rfl ⟨Jh286, rfl, by omega, (fun d1 d2 i a b => if q : (i : Int) = z200.toInt then (by rw [eR] at d1 d2 ⊢; rw [show (hs_fI h286 62 3).toInt.toNat = i by omega] at d1 d2; exact ⟨d1, d2⟩) else (by rw [eR]; exact x1n273 i (by omega) (by omega)))⟩
                        · refine hq_p rfl rfl ?_
                          refine hq_gR Ih272.1 rfl rfl (by decide) (by decide) rfl ?_
                          refine hq_p rfl rfl ?_
                          refine ty_gI Ih272 rfl rfl (by decide) (by decide) rfl rfl (fun z288 ez288 az288 bz288 => ?_)
                          refine ty_aL Ih272 rfl rfl (by decide) (by omega) (by omega) (fun _ _ => ty_le rfl) (fun z289 ez289 az289 bz289 => ?_)
                          refine hq_p rfl rfl (ty_ge (n := 48) nk_b48 (fun z290 ez290 => ?_))
                          refine ty_ilt rfl (fun c291 => ?_) (fun c291 => ?_)
                          · refine hq_p rfl rfl ?_
                            refine ty_gI Ih272 rfl rfl (by decide) (by decide) rfl rfl (fun z292 ez292 az292 bz292 => ?_)
                            refine hq_p rfl rfl ?_
                            refine ty_gI Ih272 rfl rfl (by decide) (by decide) rfl rfl (fun z293 ez293 az293 bz293 => ?_)
                            refine ty_ine rfl (fun c294 => ?_) (fun c294 => ?_)
                            · clear c294
                              exact hq_W.ret rfl rfl rfl ⟨Jh272, rfl, by omega, (fun d1 d2 i a b => if q : (i : Int) = z200.toInt then (by rw [eR] at d1 d2 ⊢; rw [show (hs_fI h272 62 3).toInt.toNat = i by omega] at d1 d2; exact ⟨d1, d2⟩) else (by rw [eR]; exact x1n273 i (by omega) (by omega)))⟩
                            · refine hq_p rfl rfl ?_
                              refine ty_gI Ih272 rfl rfl (by decide) (by decide) rfl rfl (fun z295 ez295 az295 bz295 => ?_)
                              refine hq_p rfl rfl ?_
                              refine ty_gI Ih272 rfl rfl (by decide) (by decide) rfl rfl (fun z296 ez296 az296 bz296 => ?_)
                              refine ty_ige rfl (fun c297 => ?_) (fun c297 => ?_)
                              · exact hq_W.ret rfl rfl rfl ⟨Jh272, rfl, by omega, (fun d1 d2 i a b => if q : (i : Int) = z200.toInt then (by rw [eR] at d1 d2 ⊢; rw [show (hs_fI h272 62 3).toInt.toNat = i by omega] at d1 d2; exact ⟨d1, d2⟩) else (by rw [eR]; exact x1n273 i (by omega) (by omega)))⟩
                              · refine hq_p rfl rfl ?_
                                refine hq_p rfl rfl ?_
                                refine ty_gI Ih272 rfl rfl (by decide) (by decide) rfl rfl (fun z298 ez298 az298 bz298 => ?_)
                                refine hq_p rfl rfl (ty_ge (n := 1) nk_i1 (fun z299 ez299 => ?_))
                                refine hq_p rfl rfl (ty_ge (n := z298.toInt + z299.toInt) (nm_add (by omega) (by omega)) (fun z300 ez300 => ?_))
                                refine ty_pI (W := ty_Wa) H Jh272 rfl rfl (by decide) rfl rfl (by unfold ty_Wa; omega) rfl (by omega) (by omega) (fun h301 eh301 Jh301 => ?_)
                                have wh301 : (hs_fI h301 62 4).toInt = z300.toInt := by rw [eh301]; exact congrArg Int32.toInt (ty_fI_eq Ih272.1 rfl (by decide) rfl)
                                have Ih301 := H.1 h301 Jh301
                                have r302 : (hs_fI h301 62 3).toInt = (hs_fI h272 62 3).toInt := by rw [eh301]; exact congrArg Int32.toInt (ty_fI_sF (by decide))
                                exact hq_W.ret rfl rfl rfl ⟨Jh301, rfl, by omega, (fun d1 d2 i a b => if q : (i : Int) = z200.toInt then (by rw [eR] at d1 d2 ⊢; rw [show (hs_fI h301 62 3).toInt.toNat = i by omega] at d1 d2; exact ⟨d1, d2⟩) else (by rw [eR]; exact x1n273 i (by omega) (by omega)))⟩
                          · refine hq_p rfl rfl ?_
                            refine hq_gR Ih272.1 rfl rfl (by decide) (by decide) rfl ?_
                            refine hq_p rfl rfl ?_
                            refine ty_gI Ih272 rfl rfl (by decide) (by decide) rfl rfl (fun z303 ez303 az303 bz303 => ?_)
                            refine ty_aL Ih272 rfl rfl (by decide) (by omega) (by omega) (fun _ _ => ty_le rfl) (fun z304 ez304 az304 bz304 => ?_)
                            refine hq_p rfl rfl (ty_ge (n := 57) nk_b57 (fun z305 ez305 => ?_))
                            refine ty_igt rfl (fun c306 => ?_) (fun c306 => ?_)
                            · refine hq_p rfl rfl ?_
                              refine ty_gI Ih272 rfl rfl (by decide) (by decide) rfl rfl (fun z307 ez307 az307 bz307 => ?_)
                              refine hq_p rfl rfl ?_
                              refine ty_gI Ih272 rfl rfl (by decide) (by decide) rfl rfl (fun z308 ez308 az308 bz308 => ?_)
                              refine ty_ine rfl (fun c309 => ?_) (fun c309 => ?_)
                              · clear c309
                                exact hq_W.ret rfl rfl rfl ⟨Jh272, rfl, by omega, (fun d1 d2 i a b => if q : (i : Int) = z200.toInt then (by rw [eR] at d1 d2 ⊢; rw [show (hs_fI h272 62 3).toInt.toNat = i by omega] at d1 d2; exact ⟨d1, d2⟩) else (by rw [eR]; exact x1n273 i (by omega) (by omega)))⟩
                              · refine hq_p rfl rfl ?_
                                refine ty_gI Ih272 rfl rfl (by decide) (by decide) rfl rfl (fun z310 ez310 az310 bz310 => ?_)
                                refine hq_p rfl rfl ?_
                                refine ty_gI Ih272 rfl rfl (by decide) (by decide) rfl rfl (fun z311 ez311 az311 bz311 => ?_)
                                refine ty_ige rfl (fun c312 => ?_) (fun c312 => ?_)
                                · exact hq_W.ret rfl rfl rfl ⟨Jh272, rfl, by omega, (fun d1 d2 i a b => if q : (i : Int) = z200.toInt then (by rw [eR] at d1 d2 ⊢; rw [show (hs_fI h272 62 3).toInt.toNat = i by omega] at d1 d2; exact ⟨d1, d2⟩) else (by rw [eR]; exact x1n273 i (by omega) (by omega)))⟩
                                · refine hq_p rfl rfl ?_
                                  refine hq_p rfl rfl ?_
                                  refine ty_gI Ih272 rfl rfl (by decide) (by decide) rfl rfl (fun z313 ez313 az313 bz313 => ?_)
                                  refine hq_p rfl rfl (ty_ge (n := 1) nk_i1 (fun z314 ez314 => ?_))
                                  refine hq_p rfl rfl (ty_ge (n := z313.toInt + z314.toInt) (nm_add (by omega) (by omega)) (fun z315 ez315 => ?_))
                                  refine ty_pI (W := ty_Wa) H Jh272 rfl rfl (by decide) rfl rfl (by unfold ty_Wa; omega) rfl (by omega) (by omega) (fun h316 eh316 Jh316 => ?_)
                                  have wh316 : (hs_fI h316 62 4).toInt = z315.toInt := by rw [eh316]; exact congrArg Int32.toInt (ty_fI_eq Ih272.1 rfl (by decide) rfl)
                                  have Ih316 := H.1 h316 Jh316
                                  have r317 : (hs_fI h316 62 3).toInt = (hs_fI h272 62 3).toInt := by rw [eh316]; exact congrArg Int32.toInt (ty_fI_sF (by decide))
                                  exact hq_W.ret rfl rfl rfl ⟨Jh316, rfl, by omega, (fun d1 d2 i a b => if q : (i : Int) = z200.toInt then (by rw [eR] at d1 d2 ⊢; rw [show (hs_fI h316 62 3).toInt.toNat = i by omega] at d1 d2; exact ⟨d1, d2⟩) else (by rw [eR]; exact x1n273 i (by omega) (by omega)))⟩
                            · have rrh272 : hs_aI h272 63 = R := by have q := Jh272; rw [eJ] at q; exact q.2
                              rw [rrh272] at ez289 ez304
                              refine hq_p rfl rfl ?_
                              refine hq_p rfl rfl ?_
                              refine ty_gI Ih272 rfl rfl (by decide) (by decide) rfl rfl (fun z318 ez318 az318 bz318 => ?_)
                              refine hq_p rfl rfl (ty_ge (n := 1) nk_i1 (fun z319 ez319 => ?_))
                              refine hq_p rfl rfl (ty_ge (n := z318.toInt + z319.toInt) (nm_add (by omega) (by omega)) (fun z320 ez320 => ?_))
                              refine ty_pI (W := ty_Wa) H Jh272 rfl rfl (by decide) rfl rfl (by unfold ty_Wa; omega) rfl (by omega) (by omega) (fun h321 eh321 Jh321 => ?_)
                              have wh321 : (hs_fI h321 62 4).toInt = z320.toInt := by rw [eh321]; exact congrArg Int32.toInt (ty_fI_eq Ih272.1 rfl (by decide) rfl)
                              have Ih321 := H.1 h321 Jh321
                              refine hq_p rfl rfl ?_
                              have r322 : (hs_fI h321 62 3).toInt = (hs_fI h272 62 3).toInt := by rw [eh321]; exact congrArg Int32.toInt (ty_fI_sF (by decide))
                              exact ihn273 ((400 - (hs_fI h321 62 4).toInt).toNat) (by omega) h321 rfl (by omega) (fun i a b => if q : (i : Int) < z288.toInt then x1n273 i a (by omega) else (by have e1 : z288.toInt.toNat = i := (by omega); have e2 : z303.toInt.toNat = i := (by omega); rw [e1] at ez289; rw [e2] at ez304; omega)) (by omega) Jh321
                    exact L118_n273 _ h204 rfl (by omega) (fun i a b => by exfalso; omega) (by omega) Jh204
                  · exact hq_W.ret rfl rfl rfl ⟨Jh204, rfl, by omega, (by intro d1 d2; exfalso; rw [eR] at d1 d2; rcases x1n205 with q | q <;> first | omega | (rw [show (hs_fI h204 62 3).toInt.toNat = z200.toInt.toNat by omega] at d2; omega))⟩
                · refine hq_p rfl rfl ?_
                  refine hq_gR Ih204.1 rfl rfl (by decide) (by decide) rfl ?_
                  refine hq_p rfl rfl ?_
                  refine ty_gI Ih204 rfl rfl (by decide) (by decide) rfl rfl (fun z323 ez323 az323 bz323 => ?_)
                  refine ty_aL Ih204 rfl rfl (by decide) (by omega) (by omega) (fun _ _ => ty_le rfl) (fun z324 ez324 az324 bz324 => ?_)
                  refine hq_p rfl rfl (ty_ge (n := 122) nk_b122 (fun z325 ez325 => ?_))
                  refine ty_igt rfl (fun c326 => ?_) (fun c326 => ?_)
                  · refine hq_p rfl rfl ?_
                    refine ty_gI Ih204 rfl rfl (by decide) (by decide) rfl rfl (fun z327 ez327 az327 bz327 => ?_)
                    refine hq_p rfl rfl ?_
                    refine ty_gI Ih204 rfl rfl (by decide) (by decide) rfl rfl (fun z328 ez328 az328 bz328 => ?_)
                    refine ty_ile rfl (fun c329 => ?_) (fun c329 => ?_)
                    · have L118_n332 : ∀ n332 : Nat, ∀ (h331 : pm_H), (400 - (hs_fI h331 62 4).toInt).toNat = n332 → (hs_fI h331 62 3).toInt ≤ (hs_fI h331 62 4).toInt → (∀ i : Nat, z200.toInt ≤ i → (i : Int) < (hs_fI h331 62 4).toInt → 48 ≤ (R i).toInt ∧ (R i).toInt ≤ 57) → (hs_fI h331 62 3).toInt = (hs_fI h204 62 3).toInt → J h331 → hq_W X d 3 false (none) pm_c38 (118, [some (.ref 62)], [], h331) (fun h' v => J h' ∧ (fun h1 v => v = none ∧ (hs_fI h1 62 3).toInt ≤ (hs_fI h1 62 4).toInt ∧ ty_dg h (hs_fI h1 62 3).toInt (hs_fI h1 62 4).toInt) h' v) := by
                        intro n332
                        induction n332 using Nat.strongRecOn with
                        | ind n332 ihn332 =>
                          intro h331 mn332 x0n332 x1n332 x2n332 Jh331
                          have Ih331 := H.1 h331 Jh331
                          refine hq_p rfl rfl ?_
                          refine ty_gI Ih331 rfl rfl (by decide) (by decide) rfl rfl (fun z333 ez333 az333 bz333 => ?_)
                          refine hq_p rfl rfl ?_
                          refine ty_gI Ih331 rfl rfl (by decide) (by decide) rfl rfl (fun z334 ez334 az334 bz334 => ?_)
                          refine ty_ige rfl (fun c335 => ?_) (fun c335 => ?_)
                          · refine hq_p rfl rfl ?_
                            refine ty_gI Ih331 rfl rfl (by decide) (by decide) rfl rfl (fun z336 ez336 az336 bz336 => ?_)
                            refine hq_p rfl rfl ?_
                            refine ty_gI Ih331 rfl rfl (by decide) (by decide) rfl rfl (fun z337 ez337 az337 bz337 => ?_)
                            refine ty_ine rfl (fun c338 => ?_) (fun c338 => ?_)
                            · clear c338
                              exact hq_W.ret rfl rfl rfl ⟨Jh331, rfl, by omega, (fun d1 d2 i a b => if q : (i : Int) = z200.toInt then (by rw [eR] at d1 d2 ⊢; rw [show (hs_fI h331 62 3).toInt.toNat = i by omega] at d1 d2; exact ⟨d1, d2⟩) else (by rw [eR]; exact x1n332 i (by omega) (by omega)))⟩
                            · refine hq_p rfl rfl ?_
                              refine ty_gI Ih331 rfl rfl (by decide) (by decide) rfl rfl (fun z339 ez339 az339 bz339 => ?_)
                              refine hq_p rfl rfl ?_
                              refine ty_gI Ih331 rfl rfl (by decide) (by decide) rfl rfl (fun z340 ez340 az340 bz340 => ?_)
                              refine ty_ige rfl (fun c341 => ?_) (fun c341 => ?_)
                              · exact hq_W.ret rfl rfl rfl ⟨Jh331, rfl, by omega, (fun d1 d2 i a b => if q : (i : Int) = z200.toInt then (by rw [eR] at d1 d2 ⊢; rw [show (hs_fI h331 62 3).toInt.toNat = i by omega] at d1 d2; exact ⟨d1, d2⟩) else (by rw [eR]; exact x1n332 i (by omega) (by omega)))⟩
                              · refine hq_p rfl rfl ?_
                                refine hq_p rfl rfl ?_
                                refine ty_gI Ih331 rfl rfl (by decide) (by decide) rfl rfl (fun z342 ez342 az342 bz342 => ?_)
                                refine hq_p rfl rfl (ty_ge (n := 1) nk_i1 (fun z343 ez343 => ?_))
                                refine hq_p rfl rfl (ty_ge (n := z342.toInt + z343.toInt) (nm_add (by omega) (by omega)) (fun z344 ez344 => ?_))
                                refine ty_pI (W := ty_Wa) H Jh331 rfl rfl (by decide) rfl rfl (by unfold ty_Wa; omega) rfl (by omega) (by omega) (fun h345 eh345 Jh345 => ?_)
                                have wh345 : (hs_fI h345 62 4).toInt = z344.toInt := by rw [eh345]; exact congrArg Int32.toInt (ty_fI_eq Ih331.1 rfl (by decide) rfl)
                                have Ih345 := H.1 h345 Jh345
                                have r346 : (hs_fI h345 62 3).toInt = (hs_fI h331 62 3).toInt := by rw [eh345]; exact congrArg Int32.toInt (ty_fI_sF (by decide))
                                exact hq_W.ret rfl rfl rfl ⟨Jh345, rfl, by omega, (fun d1 d2 i a b => if q : (i : Int) = z200.toInt then (by rw [eR] at d1 d2 ⊢; rw [show (hs_fI h345 62 3).toInt.toNat = i by omega] at d1 d2; exact ⟨d1, d2⟩) else (by rw [eR]; exact x1n332 i (by omega) (by omega)))⟩
                          · refine hq_p rfl rfl ?_
                            refine hq_gR Ih331.1 rfl rfl (by decide) (by decide) rfl ?_
                            refine hq_p rfl rfl ?_
                            refine ty_gI Ih331 rfl rfl (by decide) (by decide) rfl rfl (fun z347 ez347 az347 bz347 => ?_)
                            refine ty_aL Ih331 rfl rfl (by decide) (by omega) (by omega) (fun _ _ => ty_le rfl) (fun z348 ez348 az348 bz348 => ?_)
                            refine hq_p rfl rfl (ty_ge (n := 48) nk_b48 (fun z349 ez349 => ?_))
                            refine ty_ilt rfl (fun c350 => ?_) (fun c350 => ?_)
                            · refine hq_p rfl rfl ?_
                              refine ty_gI Ih331 rfl rfl (by decide) (by decide) rfl rfl (fun z351 ez351 az351 bz351 => ?_)
                              refine hq_p rfl rfl ?_
                              refine ty_gI Ih331 rfl rfl (by decide) (by decide) rfl rfl (fun z352 ez352 az352 bz352 => ?_)
                              refine ty_ine rfl (fun c353 => ?_) (fun c353 => ?_)
                              · clear c353
                                exact hq_W.ret rfl rfl rfl ⟨Jh331, rfl, by omega, (fun d1 d2 i a b => if q : (i : Int) = z200.toInt then (by rw [eR] at d1 d2 ⊢; rw [show (hs_fI h331 62 3).toInt.toNat = i by omega] at d1 d2; exact ⟨d1, d2⟩) else (by rw [eR]; exact x1n332 i (by omega) (by omega)))⟩
                              · refine hq_p rfl rfl ?_
                                refine ty_gI Ih331 rfl rfl (by decide) (by decide) rfl rfl (fun z354 ez354 az354 bz354 => ?_)
                                refine hq_p rfl rfl ?_
                                refine ty_gI Ih331 rfl rfl (by decide) (by decide) rfl rfl (fun z355 ez355 az355 bz355 => ?_)
                                refine ty_ige rfl (fun c356 => ?_) (fun c356 => ?_)
                                · exact hq_W.ret rfl rfl rfl ⟨Jh331, rfl, by omega, (fun d1 d2 i a b => if q : (i : Int) = z200.toInt then (by rw [eR] at d1 d2 ⊢; rw [show (hs_fI h331 62 3).toInt.toNat = i by omega] at d1 d2; exact ⟨d1, d2⟩) else (by rw [eR]; exact x1n332 i (by omega) (by omega)))⟩
                                · refine hq_p rfl rfl ?_
                                  refine hq_p rfl rfl ?_
                                  refine ty_gI Ih331 rfl rfl (by decide) (by decide) rfl rfl (fun z357 ez357 az357 bz357 => ?_)
                                  refine hq_p rfl rfl (ty_ge (n := 1) nk_i1 (fun z358 ez358 => ?_))
                                  refine hq_p rfl rfl (ty_ge (n := z357.toInt + z358.toInt) (nm_add (by omega) (by omega)) (fun z359 ez359 => ?_))
                                  refine ty_pI (W := ty_Wa) H Jh331 rfl rfl (by decide) rfl rfl (by unfold ty_Wa; omega) rfl (by omega) (by omega) (fun h360 eh360 Jh360 => ?_)
                                  have wh360 : (hs_fI h360 62 4).toInt = z359.toInt := by rw [eh360]; exact congrArg Int32.toInt (ty_fI_eq Ih331.1 rfl (by decide) rfl)
                                  have Ih360 := H.1 h360 Jh360
                                  have r361 : (hs_fI h360 62 3).toInt = (hs_fI h331 62 3).toInt := by rw [eh360]; exact congrArg Int32.toInt (ty_fI_sF (by decide))
                                  exact hq_W.ret rfl rfl rfl ⟨Jh360, rfl, by omega, (fun d1 d2 i a b => if q : (i : Int) = z200.toInt then (by rw [eR] at d1 d2 ⊢; rw [show (hs_fI h360 62 3).toInt.toNat = i by omega] at d1 d2; exact ⟨d1, d2⟩) else (by rw [eR]; exact x1n332 i (by omega) (by omega)))⟩
                            · refine hq_p rfl rfl ?_
                              refine hq_gR Ih331.1 rfl rfl (by decide) (by decide) rfl ?_
                              refine hq_p rfl rfl ?_
                              refine ty_gI Ih331 rfl rfl (by decide) (by decide) rfl rfl (fun z362 ez362 az362 bz362 => ?_)
                              refine ty_aL Ih331 rfl rfl (by decide) (by omega) (by omega) (fun _ _ => ty_le rfl) (fun z363 ez363 az363 bz363 => ?_)
                              refine hq_p rfl rfl (ty_ge (n := 57) nk_b57 (fun z364 ez364 => ?_))
                              refine ty_igt rfl (fun c365 => ?_) (fun c365 => ?_)
                              · refine hq_p rfl rfl ?_
                                refine ty_gI Ih331 rfl rfl (by decide) (by decide) rfl rfl (fun z366 ez366 az366 bz366 => ?_)
                                refine hq_p rfl rfl ?_
                                refine ty_gI Ih331 rfl rfl (by decide) (by decide) rfl rfl (fun z367 ez367 az367 bz367 => ?_)
                                refine ty_ine rfl (fun c368 => ?_) (fun c368 => ?_)
                                · clear c368
                                  exact hq_W.ret rfl rfl rfl ⟨Jh331, rfl, by omega, (fun d1 d2 i a b => if q : (i : Int) = z200.toInt then (by rw [eR] at d1 d2 ⊢; rw [show (hs_fI h331 62 3).toInt.toNat = i by omega] at d1 d2; exact ⟨d1, d2⟩) else (by rw [eR]; exact x1n332 i (by omega) (by omega)))⟩
                                · refine hq_p rfl rfl ?_
                                  refine ty_gI Ih331 rfl rfl (by decide) (by decide) rfl rfl (fun z369 ez369 az369 bz369 => ?_)
                                  refine hq_p rfl rfl ?_
                                  refine ty_gI Ih331 rfl rfl (by decide) (by decide) rfl rfl (fun z370 ez370 az370 bz370 => ?_)
                                  refine ty_ige rfl (fun c371 => ?_) (fun c371 => ?_)
                                  · exact hq_W.ret rfl rfl rfl ⟨Jh331, rfl, by omega, (fun d1 d2 i a b => if q : (i : Int) = z200.toInt then (by rw [eR] at d1 d2 ⊢; rw [show (hs_fI h331 62 3).toInt.toNat = i by omega] at d1 d2; exact ⟨d1, d2⟩) else (by rw [eR]; exact x1n332 i (by omega) (by omega)))⟩
                                  · refine hq_p rfl rfl ?_
                                    refine hq_p rfl rfl ?_
                                    refine ty_gI Ih331 rfl rfl (by decide) (by decide) rfl rfl (fun z372 ez372 az372 bz372 => ?_)
                                    refine hq_p rfl rfl (ty_ge (n := 1) nk_i1 (fun z373 ez373 => ?_))
                                    refine hq_p rfl rfl (ty_ge (n := z372.toInt + z373.toInt) (nm_add (by omega) (by omega)) (fun z374 ez374 => ?_))
                                    refine ty_pI (W := ty_Wa) H Jh331 rfl rfl (by decide) rfl rfl (by unfold ty_Wa; omega) rfl (by omega) (by omega) (fun h375 eh375 Jh375 => ?_)
                                    have wh375 : (hs_fI h375 62 4).toInt = z374.toInt := by rw [eh375]; exact congrArg Int32.toInt (ty_fI_eq Ih331.1 rfl (by decide) rfl)
                                    have Ih375 := H.1 h375 Jh375
                                    have r376 : (hs_fI h375 62 3).toInt = (hs_fI h331 62 3).toInt := by rw [eh375]; exact congrArg Int32.toInt (ty_fI_sF (by decide))
                                    exact hq_W.ret rfl rfl rfl ⟨Jh375, rfl, by omega, (fun d1 d2 i a b => if q : (i : Int) = z200.toInt then (by rw [eR] at d1 d2 ⊢; rw [show (hs_fI h375 62 3).toInt.toNat = i by omega] at d1 d2; exact ⟨d1, d2⟩) else (by rw [eR]; exact x1n332 i (by omega) (by omega)))⟩
                              · have rrh331 : hs_aI h331 63 = R := by have q := Jh331; rw [eJ] at q; exact q.2
                                rw [rrh331] at ez348 ez363
                                refine hq_p rfl rfl ?_
                                refine hq_p rfl rfl ?_
                                refine ty_gI Ih331 rfl rfl (by decide) (by decide) rfl rfl (fun z377 ez377 az377 bz377 => ?_)
                                refine hq_p rfl rfl (ty_ge (n := 1) nk_i1 (fun z378 ez378 => ?_))
                                refine hq_p rfl rfl (ty_ge (n := z377.toInt + z378.toInt) (nm_add (by omega) (by omega)) (fun z379 ez379 => ?_))
                                refine ty_pI (W := ty_Wa) H Jh331 rfl rfl (by decide) rfl rfl (by unfold ty_Wa; omega) rfl (by omega) (by omega) (fun h380 eh380 Jh380 => ?_)
                                have wh380 : (hs_fI h380 62 4).toInt = z379.toInt := by rw [eh380]; exact congrArg Int32.toInt (ty_fI_eq Ih331.1 rfl (by decide) rfl)
                                have Ih380 := H.1 h380 Jh380
                                refine hq_p rfl rfl ?_
                                have r381 : (hs_fI h380 62 3).toInt = (hs_fI h331 62 3).toInt := by rw [eh380]; exact congrArg Int32.toInt (ty_fI_sF (by decide))
                                exact ihn332 ((400 - (hs_fI h380 62 4).toInt).toNat) (by omega) h380 rfl (by omega) (fun i a b => if q : (i : Int) < z347.toInt then x1n332 i a (by omega) else (by have e1 : z347.toInt.toNat = i := (by omega); have e2 : z362.toInt.toNat = i := (by omega); rw [e1] at ez348; rw [e2] at ez363; omega)) (by omega) Jh380
                      exact L118_n332 _ h204 rfl (by omega) (fun i a b => by exfalso; omega) (by omega) Jh204
                    · exact hq_W.ret rfl rfl rfl ⟨Jh204, rfl, by omega, (by intro d1 d2; exfalso; rw [eR] at d1 d2; rcases x1n205 with q | q <;> first | omega | (rw [show (hs_fI h204 62 3).toInt.toNat = z200.toInt.toNat by omega] at d2; omega))⟩
                  · have rrh204 : hs_aI h204 63 = R := by have q := Jh204; rw [eJ] at q; exact q.2
                    have gg : 97 ≤ (R z200.toInt.toNat).toInt := by
                      rcases x1n205 with q | q
                      · have e1 : z264.toInt.toNat = z200.toInt.toNat := by omega
                        rw [rrh204, e1] at ez265
                        omega
                      · exact q
                    refine hq_p rfl rfl ?_
                    refine hq_p rfl rfl ?_
                    refine ty_gI Ih204 rfl rfl (by decide) (by decide) rfl rfl (fun z382 ez382 az382 bz382 => ?_)
                    refine hq_p rfl rfl (ty_ge (n := 1) nk_i1 (fun z383 ez383 => ?_))
                    refine hq_p rfl rfl (ty_ge (n := z382.toInt + z383.toInt) (nm_add (by omega) (by omega)) (fun z384 ez384 => ?_))
                    refine ty_pI (W := ty_Wa) H Jh204 rfl rfl (by decide) rfl rfl (by unfold ty_Wa; omega) rfl (by omega) (by omega) (fun h385 eh385 Jh385 => ?_)
                    have wh385 : (hs_fI h385 62 4).toInt = z384.toInt := by rw [eh385]; exact congrArg Int32.toInt (ty_fI_eq Ih204.1 rfl (by decide) rfl)
                    have Ih385 := H.1 h385 Jh385
                    refine hq_p rfl rfl ?_
                    have r386 : (hs_fI h385 62 3).toInt = (hs_fI h204 62 3).toInt := by rw [eh385]; exact congrArg Int32.toInt (ty_fI_sF (by decide))
                    exact ihn205 ((400 - (hs_fI h385 62 4).toInt).toNat) (by omega) h385 rfl (by omega) (by omega) (by omega) Jh385
          exact L54_n205 _ h201 rfl (by omega) (by omega) (by omega) Jh201
        · refine hq_p rfl rfl ?_
          refine hq_p rfl rfl ?_
          refine ty_gI Ih4 rfl rfl (by decide) (by decide) rfl rfl (fun z387 ez387 az387 bz387 => ?_)
          refine hq_p rfl rfl (ty_ge (n := 1) nk_i1 (fun z388 ez388 => ?_))
          refine hq_p rfl rfl (ty_ge (n := z387.toInt + z388.toInt) (nm_add (by omega) (by omega)) (fun z389 ez389 => ?_))
          refine ty_pI (W := ty_Wa) H Jh4 rfl rfl (by decide) rfl rfl (by unfold ty_Wa; omega) rfl (by omega) (by omega) (fun h390 eh390 Jh390 => ?_)
          have wh390 : (hs_fI h390 62 3).toInt = z389.toInt := by rw [eh390]; exact congrArg Int32.toInt (ty_fI_eq Ih4.1 rfl (by decide) rfl)
          have Ih390 := H.1 h390 Jh390
          refine hq_p rfl rfl ?_
          exact ihn5 ((400 - (hs_fI h390 62 3).toInt).toNat) (by omega) h390 rfl Jh390
  exact L8_n5 _ h2 rfl Jh2
theorem ct_38 {X : pm_X} {d : Nat} {h : pm_H}  (hd : 1 ≤ d)   : ty_M X ty_Wr d 38 [.ref 62] h ty_pv := by
  intro J H hJ
  have I := H.1 h hJ
  have b3 := I.2.1 62 3 (by decide)
  have b4 := I.2.1 62 4 (by decide)
  refine (ct_38a hd (fun h' => ∃ u v : Int32, h' = ty_ad h u v ∧ 0 ≤ u.toInt ∧ u.toInt ≤ 400 ∧ 0 ≤ v.toInt ∧ v.toInt ≤ 400) (tk_adC I) ⟨hs_fI h 62 3, hs_fI h 62 4, (tk_id I.1).symm, b3.1, b3.2, b4.1, b4.2⟩).mono (Nat.le_refl _) (fun h' v q => ?_)
  obtain ⟨⟨u, w, e, c1, c2, c3, c4⟩, r, l, t⟩ := q
  subst e
  rw [tk_f3 I.1, tk_f4 I c1 c2] at l t
  exact ⟨(H.2.2.2.2.2.2.2.1 (by unfold ty_Wr; omega)).2 h u w hJ c1 l c4 t, r⟩
end CT17
