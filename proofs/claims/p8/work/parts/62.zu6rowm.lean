/-! CONTRACTS (printed by wip/pm/cts.py) -/
section CT48
set_option maxHeartbeats 20000000 in
theorem ct_164l {X : pm_X} {d : Nat} {h : pm_H}  (hd : 4 ≤ d)  : ty_M X ty_Wrow d 164 [.ref 97] h (fun h1 v => (∃ z : Int32, v = some (.int z) ∧ z.toInt = (if (hs_fI h 97 13).toInt = 0 then -6 else tc (hs_aI h 106) (hs_fI h 97 13).toInt (((hs_fI h 97 13).toInt + 2) / 3).toNat)) ∧ (hs_fI h1 97 13).toInt = 0 ∧ (hs_fI h1 97 11).toInt = (if (hs_fI h 97 13).toInt = 0 then (hs_fI h 97 11).toInt else ((hs_fI h 97 13).toInt + 2) / 3 - tc (hs_aI h 106) (hs_fI h 97 13).toInt (((hs_fI h 97 13).toInt + 2) / 3).toNat) ∧ hs_aI h1 99 = (if (hs_fI h 97 13).toInt = 0 then hs_aI h 99 else lr (hs_aI h 106) (hs_fI h 97 13).toInt (hs_aI h 99) (((hs_fI h 97 13).toInt + 2) / 3).toNat)) := by
  intro J0 H0 hJ0
  obtain ⟨J, eJ⟩ : ∃ J : pm_H → Prop, J = fun h' => J0 h' ∧ hs_aI h' 106 = hs_aI h 106 := ⟨_, rfl⟩
  have H : ty_C ty_Wrow J := by rw [eJ]; exact H0.arr 106 (by decide) (fun k => by unfold ty_Wrow; omega) _
  have hJ : J h := by rw [eJ]; exact ⟨hJ0, rfl⟩
  refine hq_M.mono (Nat.le_refl _) (Q := fun h' v => J h' ∧ (fun h1 v => (∃ z : Int32, v = some (.int z) ∧ z.toInt = (if (hs_fI h 97 13).toInt = 0 then -6 else tc (hs_aI h 106) (hs_fI h 97 13).toInt (((hs_fI h 97 13).toInt + 2) / 3).toNat)) ∧ (hs_fI h1 97 13).toInt = 0 ∧ (hs_fI h1 97 11).toInt = (if (hs_fI h 97 13).toInt = 0 then (hs_fI h 97 11).toInt else ((hs_fI h 97 13).toInt + 2) / 3 - tc (hs_aI h 106) (hs_fI h 97 13).toInt (((hs_fI h 97 13).toInt + 2) / 3).toNat) ∧ hs_aI h1 99 = (if (hs_fI h 97 13).toInt = 0 then hs_aI h 99 else lr (hs_aI h 106) (hs_fI h 97 13).toInt (hs_aI h 99) (((hs_fI h 97 13).toInt + 2) / 3).toNat)) h' v) (fun h' v q => ⟨by have q1 := q.1; rw [eJ] at q1; exact q1.1, q.2⟩) ?_
  obtain ⟨d, rfl⟩ : ∃ e, d = e + 1 := ⟨d - 1, by omega⟩
  have I := H.1 h hJ
  obtain ⟨q13, eq13⟩ : ∃ q : Int32, q.toInt = (hs_fI h 97 13).toInt := ⟨_, rfl⟩
  have gq130 : 0 ≤ (hs_fI h 97 13).toInt := (I.2.1 97 13 (by decide)).1
  have gq131 : (hs_fI h 97 13).toInt ≤ 400 := (I.2.1 97 13 (by decide)).2
  obtain ⟨q11, eq11⟩ : ∃ q : Int32, q.toInt = (hs_fI h 97 11).toInt := ⟨_, rfl⟩
  have gq110 : -2147483648 ≤ (hs_fI h 97 11).toInt := (I.2.1 97 11 (by decide)).1
  have gq111 : (hs_fI h 97 11).toInt ≤ 2147483647 := (I.2.1 97 11 (by decide)).2
  refine hq_M.enter (q := (⟨"TrainBearersModel", "row", "()I"⟩, _, 5, some .int, 11, 1, pm_c164)) rfl rfl ?_
  show hq_W X d 11 false (some .int) pm_c164 (0, [some (.ref 97), none, none, none, none], [], h) (fun h' v => J h' ∧ (fun h1 v => (∃ z : Int32, v = some (.int z) ∧ z.toInt = (if (hs_fI h 97 13).toInt = 0 then -6 else tc (hs_aI h 106) (hs_fI h 97 13).toInt (((hs_fI h 97 13).toInt + 2) / 3).toNat)) ∧ (hs_fI h1 97 13).toInt = 0 ∧ (hs_fI h1 97 11).toInt = (if (hs_fI h 97 13).toInt = 0 then (hs_fI h 97 11).toInt else ((hs_fI h 97 13).toInt + 2) / 3 - tc (hs_aI h 106) (hs_fI h 97 13).toInt (((hs_fI h 97 13).toInt + 2) / 3).toNat) ∧ hs_aI h1 99 = (if (hs_fI h 97 13).toInt = 0 then hs_aI h 99 else lr (hs_aI h 106) (hs_fI h 97 13).toInt (hs_aI h 99) (((hs_fI h 97 13).toInt + 2) / 3).toNat)) h' v)
  refine hq_p rfl rfl ?_
  refine hq_p rfl rfl (ty_ge (n := 0) nk_i0 (fun z1 ez1 => ?_))
  refine ty_pI (W := ty_Wrow) H hJ rfl rfl (by decide) rfl rfl (by unfold ty_Wrow; omega) rfl (by omega) (by omega) (fun h2 eh2 Jh2 => ?_)
  have wh2 : (hs_fI h2 97 0).toInt = z1.toInt := by rw [eh2]; exact congrArg Int32.toInt (ty_fI_eq I.1 rfl (by decide) rfl)
  have vh2_99 : hs_aI h2 99 = (hs_aI h 99) := by rw [eh2]; exact (hs_aI_ne (by decide)).trans rfl
  have Ih2 := H.1 h2 Jh2
  refine hq_p rfl rfl ?_
  have r4 : (hs_fI h2 97 13).toInt = (hs_fI h 97 13).toInt := by rw [eh2]; exact congrArg Int32.toInt (ty_fI_sF (by decide))
  refine ty_gI Ih2 rfl rfl (by decide) (by decide) rfl rfl (fun z3 ez3 az3 bz3 => ?_)
  refine hq_p (ls' := [some (.ref 97), some (.int z3), none, none, none]) rfl rfl ?_
  refine hq_p rfl rfl ?_
  refine hq_p rfl rfl (ty_ge (n := 0) nk_i0 (fun z5 ez5 => ?_))
  refine ty_pI (W := ty_Wrow) H Jh2 rfl rfl (by decide) rfl rfl (by unfold ty_Wrow; omega) rfl (by omega) (by omega) (fun h6 eh6 Jh6 => ?_)
  have wh6 : (hs_fI h6 97 13).toInt = z5.toInt := by rw [eh6]; exact congrArg Int32.toInt (ty_fI_eq Ih2.1 rfl (by decide) rfl)
  have vh6_99 : hs_aI h6 99 = (hs_aI h 99) := by rw [eh6]; exact (hs_aI_ne (by decide)).trans vh2_99
  have Ih6 := H.1 h6 Jh6
  refine hq_p rfl rfl ?_
  refine ty_zne rfl (fun c7 => ?_) (fun c7 => ?_)
  · replace c7 : 1 ≤ z3.toInt ∧ z3.toInt ≤ 400 := by omega
    refine hq_p rfl rfl ?_
    refine hq_p rfl rfl (ty_ge (n := 0) nk_i0 (fun z8 ez8 => ?_))
    refine ty_pI (W := ty_Wrow) H Jh6 rfl rfl (by decide) rfl rfl (by unfold ty_Wrow; omega) rfl (by omega) (by omega) (fun h9 eh9 Jh9 => ?_)
    have wh9 : (hs_fI h9 97 11).toInt = z8.toInt := by rw [eh9]; exact congrArg Int32.toInt (ty_fI_eq Ih6.1 rfl (by decide) rfl)
    have vh9_99 : hs_aI h9 99 = (hs_aI h 99) := by rw [eh9]; exact (hs_aI_ne (by decide)).trans vh6_99
    have Ih9 := H.1 h9 Jh9
    refine hq_p rfl rfl (ty_ge (n := 0) nk_i0 (fun z10 ez10 => ?_))
    refine hq_p (ls' := [some (.ref 97), some (.int z3), some (.int z10), none, none]) rfl rfl ?_
    refine hq_p rfl rfl (ty_ge (n := 0) nk_i0 (fun z11 ez11 => ?_))
    refine hq_p (ls' := [some (.ref 97), some (.int z3), some (.int z10), some (.int z11), none]) rfl rfl ?_
    have r12 : (hs_fI h9 97 13).toInt = (hs_fI h6 97 13).toInt := by rw [eh9]; exact congrArg Int32.toInt (ty_fI_sF (by decide))
    have L35_n25 : ∀ n25 : Nat, ∀ (y17 : Int32) (y18 : Int32) (w19 : Option Value) (h20 : pm_H), (402 - y18.toInt).toNat = n25 → 0 ≤ y17.toInt → y17.toInt ≤ 134 → 0 ≤ y18.toInt → y18.toInt ≤ 402 → pm_two w19 = false → 3 * (y18.toInt / 3) = y18.toInt ∧ y18.toInt < (hs_fI h 97 13).toInt + 3 → y17.toInt = tc (hs_aI h 106) (hs_fI h 97 13).toInt (y18.toInt / 3).toNat → (hs_fI h20 97 11).toInt = y18.toInt / 3 - tc (hs_aI h 106) (hs_fI h 97 13).toInt (y18.toInt / 3).toNat → hs_aI h20 99 = lr (hs_aI h 106) (hs_fI h 97 13).toInt (hs_aI h 99) (y18.toInt / 3).toNat → (hs_fI h20 97 13).toInt = (hs_fI h9 97 13).toInt → J h20 → hq_W X d 11 false (some .int) pm_c164 (35, [some (.ref 97), some (.int z3), some (.int y17), some (.int y18), w19], [], h20) (fun h' v => J h' ∧ (fun h1 v => (∃ z : Int32, v = some (.int z) ∧ z.toInt = (if (hs_fI h 97 13).toInt = 0 then -6 else tc (hs_aI h 106) (hs_fI h 97 13).toInt (((hs_fI h 97 13).toInt + 2) / 3).toNat)) ∧ (hs_fI h1 97 13).toInt = 0 ∧ (hs_fI h1 97 11).toInt = (if (hs_fI h 97 13).toInt = 0 then (hs_fI h 97 11).toInt else ((hs_fI h 97 13).toInt + 2) / 3 - tc (hs_aI h 106) (hs_fI h 97 13).toInt (((hs_fI h 97 13).toInt + 2) / 3).toNat) ∧ hs_aI h1 99 = (if (hs_fI h 97 13).toInt = 0 then hs_aI h 99 else lr (hs_aI h 106) (hs_fI h 97 13).toInt (hs_aI h 99) (((hs_fI h 97 13).toInt + 2) / 3).toNat)) h' v) := by
      intro n25
      induction n25 using Nat.strongRecOn with
      | ind n25 ihn25 =>
        intro y17 y18 w19 h20 mn25 ay17 by17 ay18 by18 kw19 x0n25 x1n25 x2n25 x3n25 x4n25 Jh20
        have Ih20 := H.1 h20 Jh20
        refine hq_p rfl rfl ?_
        refine hq_p rfl rfl ?_
        refine ty_ige rfl (fun c26 => ?_) (fun c26 => ?_)
        · have tbh20 := tc_b (hs_aI h 106) (hs_fI h 97 13).toInt (y18.toInt / 3).toNat
          obtain ⟨q27, eq27⟩ : ∃ q : Int32, q.toInt = (hs_fI h20 97 11).toInt := ⟨_, rfl⟩
          have aq27 : 0 ≤ (hs_fI h20 97 11).toInt ∧ (hs_fI h20 97 11).toInt ≤ 134 := by omega
          refine hq_p rfl rfl ?_
          refine hq_p rfl rfl ?_
          refine ty_callm 0 [(0, 97, 13), (0, 97, 11), (3, 99, 0)] (W := ty_Wrow) H Jh20 rfl (fun _ => rfl) rfl rfl rfl (hq_pre_o Ih20.1 (x := 97) (ci := 11) rfl (by decide) rfl rfl rfl rfl) (fun a k w => by unfold ty_Wt at w; unfold ty_Wrow; omega) (by unfold ty_Wt ty_Wrow; omega) (ct_140 (x1 := y17) (by omega) (by omega) (by omega)) ⟨⟨rfl, show ¬ ty_Wt 97 13 by unfold ty_Wt; omega⟩, ⟨rfl, show ¬ ty_Wt 97 11 by unfold ty_Wt; omega⟩, ⟨rfl, fun k => show ¬ ty_Wt 99 k by unfold ty_Wt; omega⟩, trivial⟩ (fun h29 _ Jh29 gh29 P28 => ?_)
          obtain ⟨gh29_0, gh29_1, gh29_2, _⟩ := gh29
          have gh29_0 : (hs_fI h29 97 13).toInt = (hs_fI h20 97 13).toInt := gh29_0
          have gh29_1 : (hs_fI h29 97 11).toInt = (hs_fI h20 97 11).toInt := gh29_1
          have gh29_2 : hs_aI h29 99 = hs_aI h20 99 := gh29_2
          have ugh29_2 : hs_aI h29 99 = lr (hs_aI h 106) (hs_fI h 97 13).toInt (hs_aI h 99) (y18.toInt / 3).toNat := gh29_2.trans x3n25
          have Ih29 := H.1 h29 Jh29
          obtain ⟨z30, rfl, fz30⟩ := P28
          exact hq_W.ret rfl rfl rfl ⟨Jh29, ⟨_, rfl, (by rw [if_neg (by omega), show (((hs_fI h 97 13).toInt + 2) / 3).toNat = (y18.toInt / 3).toNat by omega]; omega)⟩, by omega, (by rw [if_neg (by omega), show (((hs_fI h 97 13).toInt + 2) / 3).toNat = (y18.toInt / 3).toNat by omega]; omega), (by rw [if_neg (by omega), show (((hs_fI h 97 13).toInt + 2) / 3).toNat = (y18.toInt / 3).toNat by omega]; exact ugh29_2)⟩
        · have tbh20 := tc_b (hs_aI h 106) (hs_fI h 97 13).toInt (y18.toInt / 3).toNat
          obtain ⟨q31, eq31⟩ : ∃ q : Int32, q.toInt = (hs_fI h20 97 11).toInt := ⟨_, rfl⟩
          have aq31 : 0 ≤ (hs_fI h20 97 11).toInt ∧ (hs_fI h20 97 11).toInt ≤ 134 := by omega
          refine hq_p rfl rfl ?_
          refine hq_p rfl rfl (ty_ge (n := 2) nk_i2 (fun z32 ez32 => ?_))
          refine hq_p rfl rfl (ty_ge (n := y18.toInt + z32.toInt) (nm_add (by omega) (by omega)) (fun z33 ez33 => ?_))
          refine hq_p rfl rfl ?_
          refine ty_ige rfl (fun c34 => ?_) (fun c34 => ?_)
          · refine hq_p rfl rfl (ty_ge (n := 100000000) nk_d100000000 (fun z35 ez35 => ?_))
            refine hq_p (ls' := [some (.ref 97), some (.int z3), some (.int y17), some (.int y18), some (.int z35)]) rfl rfl ?_
            refine hq_p rfl rfl ?_
            refine hq_p rfl rfl (ty_ge (n := 255) nk_s255 (fun z36 ez36 => ?_))
            refine ty_ine rfl (fun c37 => ?_) (fun c37 => ?_)
            · replace c37 : z35.toInt ≠ z36.toInt := by omega
              refine hq_p rfl rfl ?_
              refine hq_p (ls' := [some (.ref 97), some (.int z3), some (.int y17), some (.int y18), some (.int z35)]) rfl rfl ?_
              refine hq_p rfl rfl ?_
              refine hq_p rfl rfl (ty_ge (n := 2) nk_i2 (fun z38 ez38 => ?_))
              refine hq_p rfl rfl (ty_ge (n := y18.toInt + z38.toInt) (nm_add (by omega) (by omega)) (fun z39 ez39 => ?_))
              refine hq_p rfl rfl ?_
              refine ty_ige rfl (fun c40 => ?_) (fun c40 => ?_)
              · have lts41 : ¬ lt (hs_aI h 106) (hs_fI h 97 13).toInt y18.toInt := by unfold lt; omega
                have sts41 : tc (hs_aI h 106) (hs_fI h 97 13).toInt ((y18.toInt / 3).toNat + 1) = tc (hs_aI h 106) (hs_fI h 97 13).toInt (y18.toInt / 3).toNat := tc_0 (i := y18.toInt) (by omega) lts41
                have srs41 := lr_0 (R := hs_aI h 99) (i := y18.toInt) (k := (y18.toInt / 3).toNat) (by omega) lts41
                clear lts41
                refine hq_p rfl rfl ?_
                refine hq_p rfl rfl ?_
                refine ty_gI Ih20 rfl rfl (by decide) (by decide) rfl rfl (fun z42 ez42 az42 bz42 => ?_)
                refine hq_p rfl rfl (ty_ge (n := 1) nk_i1 (fun z43 ez43 => ?_))
                refine hq_p rfl rfl (ty_ge (n := z42.toInt + z43.toInt) (nm_add (by omega) (by omega)) (fun z44 ez44 => ?_))
                refine ty_pI (W := ty_Wrow) H Jh20 rfl rfl (by decide) rfl rfl (by unfold ty_Wrow; omega) rfl (by omega) (by omega) (fun h45 eh45 Jh45 => ?_)
                have wh45 : (hs_fI h45 97 11).toInt = z44.toInt := by rw [eh45]; exact congrArg Int32.toInt (ty_fI_eq Ih20.1 rfl (by decide) rfl)
                have vh45_99 : hs_aI h45 99 = lr (hs_aI h 106) (hs_fI h 97 13).toInt (hs_aI h 99) (y18.toInt / 3).toNat := by rw [eh45]; exact (hs_aI_ne (by decide)).trans x3n25
                have Ih45 := H.1 h45 Jh45
                refine ty_inc (ls' := fun z46 => [some (.ref 97), some (.int z3), some (.int y17), some (.int z46), some (.int z35)]) rfl rfl (fun _ => rfl) (nm_addc nk_i3 (by omega) (by omega)) (fun z46 ez46 => ?_)
                refine hq_p rfl rfl ?_
                have r47 : (hs_fI h45 97 13).toInt = (hs_fI h20 97 13).toInt := by rw [eh45]; exact congrArg Int32.toInt (ty_fI_sF (by decide))
                exact ihn25 ((402 - z46.toInt).toNat) (by omega) y17 z46 (some (.int z35)) h45 rfl (by omega) (by omega) (by omega) (by omega) rfl (by omega) (by rw [show (z46.toInt / 3).toNat = (y18.toInt / 3).toNat + 1 by omega, sts41]; omega) (by rw [show (z46.toInt / 3).toNat = (y18.toInt / 3).toNat + 1 by omega, sts41]; omega) (by rw [show (z46.toInt / 3).toNat = (y18.toInt / 3).toNat + 1 by omega, srs41]; exact vh45_99) (by omega) Jh45
              · exfalso; omega
            · exfalso; omega
          · refine hq_p rfl rfl ?_
            refine hq_gR Ih20.1 rfl rfl (by decide) (by decide) rfl ?_
            refine hq_p rfl rfl ?_
            refine hq_p rfl rfl (ty_ge (n := 2) nk_i2 (fun z48 ez48 => ?_))
            refine hq_p rfl rfl (ty_ge (n := y18.toInt + z48.toInt) (nm_add (by omega) (by omega)) (fun z49 ez49 => ?_))
            refine ty_aL Ih20 rfl rfl (by decide) (by omega) (by omega) (fun _ _ => ty_le rfl) (fun z50 ez50 az50 bz50 => ?_)
            have f0h20 : hs_aI h20 106 = (hs_aI h 106) := by have q := Jh20; rw [eJ] at q; exact q.2
            have nz50 : z50.toInt = ((hs_aI h 106) (y18.toInt + 2).toNat).toInt := by rw [ez50, f0h20, show z49.toInt.toNat = (y18.toInt + 2).toNat by omega]
            refine hq_p rfl rfl ?_
            refine hq_p (ls' := [some (.ref 97), some (.int z3), some (.int y17), some (.int y18), some (.int z50)]) rfl rfl ?_
            refine hq_p rfl rfl ?_
            refine hq_p rfl rfl (ty_ge (n := 255) nk_s255 (fun z51 ez51 => ?_))
            refine ty_ine rfl (fun c52 => ?_) (fun c52 => ?_)
            · replace c52 : z50.toInt ≠ z51.toInt := by omega
              refine hq_p rfl rfl ?_
              refine hq_p (ls' := [some (.ref 97), some (.int z3), some (.int y17), some (.int y18), some (.int z50)]) rfl rfl ?_
              refine hq_p rfl rfl ?_
              refine hq_p rfl rfl (ty_ge (n := 2) nk_i2 (fun z53 ez53 => ?_))
              refine hq_p rfl rfl (ty_ge (n := y18.toInt + z53.toInt) (nm_add (by omega) (by omega)) (fun z54 ez54 => ?_))
              refine hq_p rfl rfl ?_
              refine ty_ige rfl (fun c55 => ?_) (fun c55 => ?_)
              · have lts56 : ¬ lt (hs_aI h 106) (hs_fI h 97 13).toInt y18.toInt := by unfold lt; omega
                have sts56 : tc (hs_aI h 106) (hs_fI h 97 13).toInt ((y18.toInt / 3).toNat + 1) = tc (hs_aI h 106) (hs_fI h 97 13).toInt (y18.toInt / 3).toNat := tc_0 (i := y18.toInt) (by omega) lts56
                have srs56 := lr_0 (R := hs_aI h 99) (i := y18.toInt) (k := (y18.toInt / 3).toNat) (by omega) lts56
                clear lts56
                refine hq_p rfl rfl ?_
                refine hq_p rfl rfl ?_
                refine ty_gI Ih20 rfl rfl (by decide) (by decide) rfl rfl (fun z57 ez57 az57 bz57 => ?_)
                refine hq_p rfl rfl (ty_ge (n := 1) nk_i1 (fun z58 ez58 => ?_))
                refine hq_p rfl rfl (ty_ge (n := z57.toInt + z58.toInt) (nm_add (by omega) (by omega)) (fun z59 ez59 => ?_))
                refine ty_pI (W := ty_Wrow) H Jh20 rfl rfl (by decide) rfl rfl (by unfold ty_Wrow; omega) rfl (by omega) (by omega) (fun h60 eh60 Jh60 => ?_)
                have wh60 : (hs_fI h60 97 11).toInt = z59.toInt := by rw [eh60]; exact congrArg Int32.toInt (ty_fI_eq Ih20.1 rfl (by decide) rfl)
                have vh60_99 : hs_aI h60 99 = lr (hs_aI h 106) (hs_fI h 97 13).toInt (hs_aI h 99) (y18.toInt / 3).toNat := by rw [eh60]; exact (hs_aI_ne (by decide)).trans x3n25
                have Ih60 := H.1 h60 Jh60
                refine ty_inc (ls' := fun z61 => [some (.ref 97), some (.int z3), some (.int y17), some (.int z61), some (.int z50)]) rfl rfl (fun _ => rfl) (nm_addc nk_i3 (by omega) (by omega)) (fun z61 ez61 => ?_)
                refine hq_p rfl rfl ?_
                have r62 : (hs_fI h60 97 13).toInt = (hs_fI h20 97 13).toInt := by rw [eh60]; exact congrArg Int32.toInt (ty_fI_sF (by decide))
                exact ihn25 ((402 - z61.toInt).toNat) (by omega) y17 z61 (some (.int z50)) h60 rfl (by omega) (by omega) (by omega) (by omega) rfl (by omega) (by rw [show (z61.toInt / 3).toNat = (y18.toInt / 3).toNat + 1 by omega, sts56]; omega) (by rw [show (z61.toInt / 3).toNat = (y18.toInt / 3).toNat + 1 by omega, sts56]; omega) (by rw [show (z61.toInt / 3).toNat = (y18.toInt / 3).toNat + 1 by omega, srs56]; exact vh60_99) (by omega) Jh60
              · refine hq_p rfl rfl ?_
                refine hq_gR Ih20.1 rfl rfl (by decide) (by decide) rfl ?_
                refine hq_p rfl rfl ?_
                refine ty_aL Ih20 rfl rfl (by decide) (by omega) (by omega) (fun _ _ => ty_le rfl) (fun z63 ez63 az63 bz63 => ?_)
                have nz63 : z63.toInt = ((hs_aI h 106) y18.toInt.toNat).toInt := by rw [ez63, f0h20]
                refine hq_p rfl rfl ?_
                refine hq_gR Ih20.1 rfl rfl (by decide) (by decide) rfl ?_
                refine hq_p rfl rfl ?_
                refine hq_p rfl rfl (ty_ge (n := 1) nk_i1 (fun z64 ez64 => ?_))
                refine hq_p rfl rfl (ty_ge (n := y18.toInt + z64.toInt) (nm_add (by omega) (by omega)) (fun z65 ez65 => ?_))
                refine ty_aL Ih20 rfl rfl (by decide) (by omega) (by omega) (fun _ _ => ty_le rfl) (fun z66 ez66 az66 bz66 => ?_)
                have nz66 : z66.toInt = ((hs_aI h 106) (y18.toInt + 1).toNat).toInt := by rw [ez66, f0h20, show z65.toInt.toNat = (y18.toInt + 1).toNat by omega]
                refine hq_p rfl rfl ?_
                refine ty_callp 1 Ih20 rfl (fun _ => rfl) rfl rfl rfl rfl (ct_159e (x0 := z63) (x1 := z66) (x2 := z50) (by omega)) (fun _ P67 => ?_)
                obtain ⟨z68, rfl, az68, bz68, iz68, jz68⟩ := P67
                refine ty_zeq rfl (fun c69 => ?_) (fun c69 => ?_)
                · have yz68 := jz68 (by omega)
                  clear iz68 jz68
                  have lts70 : ¬ lt (hs_aI h 106) (hs_fI h 97 13).toInt y18.toInt := by unfold lt; omega
                  have sts70 : tc (hs_aI h 106) (hs_fI h 97 13).toInt ((y18.toInt / 3).toNat + 1) = tc (hs_aI h 106) (hs_fI h 97 13).toInt (y18.toInt / 3).toNat := tc_0 (i := y18.toInt) (by omega) lts70
                  have srs70 := lr_0 (R := hs_aI h 99) (i := y18.toInt) (k := (y18.toInt / 3).toNat) (by omega) lts70
                  clear lts70
                  clear yz68
                  refine hq_p rfl rfl ?_
                  refine hq_p rfl rfl ?_
                  refine ty_gI Ih20 rfl rfl (by decide) (by decide) rfl rfl (fun z71 ez71 az71 bz71 => ?_)
                  refine hq_p rfl rfl (ty_ge (n := 1) nk_i1 (fun z72 ez72 => ?_))
                  refine hq_p rfl rfl (ty_ge (n := z71.toInt + z72.toInt) (nm_add (by omega) (by omega)) (fun z73 ez73 => ?_))
                  refine ty_pI (W := ty_Wrow) H Jh20 rfl rfl (by decide) rfl rfl (by unfold ty_Wrow; omega) rfl (by omega) (by omega) (fun h74 eh74 Jh74 => ?_)
                  have wh74 : (hs_fI h74 97 11).toInt = z73.toInt := by rw [eh74]; exact congrArg Int32.toInt (ty_fI_eq Ih20.1 rfl (by decide) rfl)
                  have vh74_99 : hs_aI h74 99 = lr (hs_aI h 106) (hs_fI h 97 13).toInt (hs_aI h 99) (y18.toInt / 3).toNat := by rw [eh74]; exact (hs_aI_ne (by decide)).trans x3n25
                  have Ih74 := H.1 h74 Jh74
                  refine ty_inc (ls' := fun z75 => [some (.ref 97), some (.int z3), some (.int y17), some (.int z75), some (.int z50)]) rfl rfl (fun _ => rfl) (nm_addc nk_i3 (by omega) (by omega)) (fun z75 ez75 => ?_)
                  refine hq_p rfl rfl ?_
                  have r76 : (hs_fI h74 97 13).toInt = (hs_fI h20 97 13).toInt := by rw [eh74]; exact congrArg Int32.toInt (ty_fI_sF (by decide))
                  exact ihn25 ((402 - z75.toInt).toNat) (by omega) y17 z75 (some (.int z50)) h74 rfl (by omega) (by omega) (by omega) (by omega) rfl (by omega) (by rw [show (z75.toInt / 3).toNat = (y18.toInt / 3).toNat + 1 by omega, sts70]; omega) (by rw [show (z75.toInt / 3).toNat = (y18.toInt / 3).toNat + 1 by omega, sts70]; omega) (by rw [show (z75.toInt / 3).toNat = (y18.toInt / 3).toNat + 1 by omega, srs70]; exact vh74_99) (by omega) Jh74
                · replace c69 : 1 ≤ z68.toInt ∧ z68.toInt ≤ 1 := by omega
                  have yz68 := iz68 (by omega)
                  clear iz68 jz68
                  have lts77 : lt (hs_aI h 106) (hs_fI h 97 13).toInt y18.toInt := by unfold lt; omega
                  have sts77 : tc (hs_aI h 106) (hs_fI h 97 13).toInt ((y18.toInt / 3).toNat + 1) = tc (hs_aI h 106) (hs_fI h 97 13).toInt (y18.toInt / 3).toNat + 1 := tc_1 (i := y18.toInt) (by omega) lts77
                  have srs77 := lr_1 (R := hs_aI h 99) (i := y18.toInt) (k := (y18.toInt / 3).toNat) (by omega) lts77
                  clear lts77
                  refine hq_p rfl rfl ?_
                  refine hq_p rfl rfl ?_
                  refine hq_gR Ih20.1 rfl rfl (by decide) (by decide) rfl ?_
                  refine hq_p rfl rfl ?_
                  refine ty_aL Ih20 rfl rfl (by decide) (by omega) (by omega) (fun _ _ => ty_le rfl) (fun z78 ez78 az78 bz78 => ?_)
                  have nz78 : z78.toInt = ((hs_aI h 106) y18.toInt.toNat).toInt := by rw [ez78, f0h20]
                  refine hq_p rfl rfl ?_
                  refine hq_gR Ih20.1 rfl rfl (by decide) (by decide) rfl ?_
                  refine hq_p rfl rfl ?_
                  refine hq_p rfl rfl (ty_ge (n := 1) nk_i1 (fun z79 ez79 => ?_))
                  refine hq_p rfl rfl (ty_ge (n := y18.toInt + z79.toInt) (nm_add (by omega) (by omega)) (fun z80 ez80 => ?_))
                  refine ty_aL Ih20 rfl rfl (by decide) (by omega) (by omega) (fun _ _ => ty_le rfl) (fun z81 ez81 az81 bz81 => ?_)
                  have nz81 : z81.toInt = ((hs_aI h 106) (y18.toInt + 1).toNat).toInt := by rw [ez81, f0h20, show z80.toInt.toNat = (y18.toInt + 1).toNat by omega]
                  refine hq_p rfl rfl ?_
                  refine ty_callm 0 [(0, 97, 13), (0, 97, 11)] (W := ty_Wrow) H Jh20 rfl (fun _ => rfl) rfl rfl rfl (hq_pre_o Ih20.1 (x := 97) (ci := 11) rfl (by decide) rfl rfl rfl rfl) (fun a k w => by unfold ty_Wl at w; unfold ty_Wrow; omega) (by unfold ty_Wl ty_Wrow; omega) (ct_160l (x1 := z78) (x2 := z81) (x3 := z50) (by omega) (by omega) (by omega) (by omega) (by omega) (by omega) (by omega)) ⟨⟨rfl, show ¬ ty_Wl 97 13 by unfold ty_Wl; omega⟩, ⟨rfl, show ¬ ty_Wl 97 11 by unfold ty_Wl; omega⟩, trivial⟩ (fun h83 _ Jh83 gh83 P82 => ?_)
                  obtain ⟨gh83_0, gh83_1, _⟩ := gh83
                  have gh83_0 : (hs_fI h83 97 13).toInt = (hs_fI h20 97 13).toInt := gh83_0
                  have gh83_1 : (hs_fI h83 97 11).toInt = (hs_fI h20 97 11).toInt := gh83_1
                  have Ih83 := H.1 h83 Jh83
                  obtain ⟨rfl, r84⟩ := P82
                  rw [x3n25] at r84
                  have br84 : z50 = sb ((hs_aI h 106) (y18.toInt + 2).toNat) := sb_0 (by omega) (by omega)
                  rw [br84, nz78, nz81] at r84
                  refine ty_inc (ls' := fun z85 => [some (.ref 97), some (.int z3), some (.int z85), some (.int y18), some (.int z50)]) rfl rfl (fun _ => rfl) (nm_addc nk_i1 (by omega) (by omega)) (fun z85 ez85 => ?_)
                  refine hq_p rfl rfl ?_
                  refine ty_inc (ls' := fun z86 => [some (.ref 97), some (.int z3), some (.int z85), some (.int z86), some (.int z50)]) rfl rfl (fun _ => rfl) (nm_addc nk_i3 (by omega) (by omega)) (fun z86 ez86 => ?_)
                  refine hq_p rfl rfl ?_
                  exact ihn25 ((402 - z86.toInt).toNat) (by omega) z85 z86 (some (.int z50)) h83 rfl (by omega) (by omega) (by omega) (by omega) rfl (by omega) (by rw [show (z86.toInt / 3).toNat = (y18.toInt / 3).toNat + 1 by omega, sts77]; omega) (by rw [show (z86.toInt / 3).toNat = (y18.toInt / 3).toNat + 1 by omega, sts77]; omega) (by rw [show (z86.toInt / 3).toNat = (y18.toInt / 3).toNat + 1 by omega, srs77]; exact r84) (by omega) Jh83
            · refine hq_p rfl rfl (ty_ge (n := -1) nk_im1 (fun z87 ez87 => ?_))
              refine hq_p rfl rfl ?_
              refine hq_p (ls' := [some (.ref 97), some (.int z3), some (.int y17), some (.int y18), some (.int z87)]) rfl rfl ?_
              refine hq_p rfl rfl ?_
              refine hq_p rfl rfl (ty_ge (n := 2) nk_i2 (fun z88 ez88 => ?_))
              refine hq_p rfl rfl (ty_ge (n := y18.toInt + z88.toInt) (nm_add (by omega) (by omega)) (fun z89 ez89 => ?_))
              refine hq_p rfl rfl ?_
              refine ty_ige rfl (fun c90 => ?_) (fun c90 => ?_)
              · have lts91 : ¬ lt (hs_aI h 106) (hs_fI h 97 13).toInt y18.toInt := by unfold lt; omega
                have sts91 : tc (hs_aI h 106) (hs_fI h 97 13).toInt ((y18.toInt / 3).toNat + 1) = tc (hs_aI h 106) (hs_fI h 97 13).toInt (y18.toInt / 3).toNat := tc_0 (i := y18.toInt) (by omega) lts91
                have srs91 := lr_0 (R := hs_aI h 99) (i := y18.toInt) (k := (y18.toInt / 3).toNat) (by omega) lts91
                clear lts91
                refine hq_p rfl rfl ?_
                refine hq_p rfl rfl ?_
                refine ty_gI Ih20 rfl rfl (by decide) (by decide) rfl rfl (fun z92 ez92 az92 bz92 => ?_)
                refine hq_p rfl rfl (ty_ge (n := 1) nk_i1 (fun z93 ez93 => ?_))
                refine hq_p rfl rfl (ty_ge (n := z92.toInt + z93.toInt) (nm_add (by omega) (by omega)) (fun z94 ez94 => ?_))
                refine ty_pI (W := ty_Wrow) H Jh20 rfl rfl (by decide) rfl rfl (by unfold ty_Wrow; omega) rfl (by omega) (by omega) (fun h95 eh95 Jh95 => ?_)
                have wh95 : (hs_fI h95 97 11).toInt = z94.toInt := by rw [eh95]; exact congrArg Int32.toInt (ty_fI_eq Ih20.1 rfl (by decide) rfl)
                have vh95_99 : hs_aI h95 99 = lr (hs_aI h 106) (hs_fI h 97 13).toInt (hs_aI h 99) (y18.toInt / 3).toNat := by rw [eh95]; exact (hs_aI_ne (by decide)).trans x3n25
                have Ih95 := H.1 h95 Jh95
                refine ty_inc (ls' := fun z96 => [some (.ref 97), some (.int z3), some (.int y17), some (.int z96), some (.int z87)]) rfl rfl (fun _ => rfl) (nm_addc nk_i3 (by omega) (by omega)) (fun z96 ez96 => ?_)
                refine hq_p rfl rfl ?_
                have r97 : (hs_fI h95 97 13).toInt = (hs_fI h20 97 13).toInt := by rw [eh95]; exact congrArg Int32.toInt (ty_fI_sF (by decide))
                exact ihn25 ((402 - z96.toInt).toNat) (by omega) y17 z96 (some (.int z87)) h95 rfl (by omega) (by omega) (by omega) (by omega) rfl (by omega) (by rw [show (z96.toInt / 3).toNat = (y18.toInt / 3).toNat + 1 by omega, sts91]; omega) (by rw [show (z96.toInt / 3).toNat = (y18.toInt / 3).toNat + 1 by omega, sts91]; omega) (by rw [show (z96.toInt / 3).toNat = (y18.toInt / 3).toNat + 1 by omega, srs91]; exact vh95_99) (by omega) Jh95
              · refine hq_p rfl rfl ?_
                refine hq_gR Ih20.1 rfl rfl (by decide) (by decide) rfl ?_
                refine hq_p rfl rfl ?_
                refine ty_aL Ih20 rfl rfl (by decide) (by omega) (by omega) (fun _ _ => ty_le rfl) (fun z98 ez98 az98 bz98 => ?_)
                have nz98 : z98.toInt = ((hs_aI h 106) y18.toInt.toNat).toInt := by rw [ez98, f0h20]
                refine hq_p rfl rfl ?_
                refine hq_gR Ih20.1 rfl rfl (by decide) (by decide) rfl ?_
                refine hq_p rfl rfl ?_
                refine hq_p rfl rfl (ty_ge (n := 1) nk_i1 (fun z99 ez99 => ?_))
                refine hq_p rfl rfl (ty_ge (n := y18.toInt + z99.toInt) (nm_add (by omega) (by omega)) (fun z100 ez100 => ?_))
                refine ty_aL Ih20 rfl rfl (by decide) (by omega) (by omega) (fun _ _ => ty_le rfl) (fun z101 ez101 az101 bz101 => ?_)
                have nz101 : z101.toInt = ((hs_aI h 106) (y18.toInt + 1).toNat).toInt := by rw [ez101, f0h20, show z100.toInt.toNat = (y18.toInt + 1).toNat by omega]
                refine hq_p rfl rfl ?_
                refine ty_callp 1 Ih20 rfl (fun _ => rfl) rfl rfl rfl rfl (ct_159e (x0 := z98) (x1 := z101) (x2 := z87) (by omega)) (fun _ P102 => ?_)
                obtain ⟨z103, rfl, az103, bz103, iz103, jz103⟩ := P102
                refine ty_zeq rfl (fun c104 => ?_) (fun c104 => ?_)
                · have yz103 := jz103 (by omega)
                  clear iz103 jz103
                  have lts105 : ¬ lt (hs_aI h 106) (hs_fI h 97 13).toInt y18.toInt := by unfold lt; omega
                  have sts105 : tc (hs_aI h 106) (hs_fI h 97 13).toInt ((y18.toInt / 3).toNat + 1) = tc (hs_aI h 106) (hs_fI h 97 13).toInt (y18.toInt / 3).toNat := tc_0 (i := y18.toInt) (by omega) lts105
                  have srs105 := lr_0 (R := hs_aI h 99) (i := y18.toInt) (k := (y18.toInt / 3).toNat) (by omega) lts105
                  clear lts105
                  clear yz103
                  refine hq_p rfl rfl ?_
                  refine hq_p rfl rfl ?_
                  refine ty_gI Ih20 rfl rfl (by decide) (by decide) rfl rfl (fun z106 ez106 az106 bz106 => ?_)
                  refine hq_p rfl rfl (ty_ge (n := 1) nk_i1 (fun z107 ez107 => ?_))
                  refine hq_p rfl rfl (ty_ge (n := z106.toInt + z107.toInt) (nm_add (by omega) (by omega)) (fun z108 ez108 => ?_))
                  refine ty_pI (W := ty_Wrow) H Jh20 rfl rfl (by decide) rfl rfl (by unfold ty_Wrow; omega) rfl (by omega) (by omega) (fun h109 eh109 Jh109 => ?_)
                  have wh109 : (hs_fI h109 97 11).toInt = z108.toInt := by rw [eh109]; exact congrArg Int32.toInt (ty_fI_eq Ih20.1 rfl (by decide) rfl)
                  have vh109_99 : hs_aI h109 99 = lr (hs_aI h 106) (hs_fI h 97 13).toInt (hs_aI h 99) (y18.toInt / 3).toNat := by rw [eh109]; exact (hs_aI_ne (by decide)).trans x3n25
                  have Ih109 := H.1 h109 Jh109
                  refine ty_inc (ls' := fun z110 => [some (.ref 97), some (.int z3), some (.int y17), some (.int z110), some (.int z87)]) rfl rfl (fun _ => rfl) (nm_addc nk_i3 (by omega) (by omega)) (fun z110 ez110 => ?_)
                  refine hq_p rfl rfl ?_
                  have r111 : (hs_fI h109 97 13).toInt = (hs_fI h20 97 13).toInt := by rw [eh109]; exact congrArg Int32.toInt (ty_fI_sF (by decide))
                  exact ihn25 ((402 - z110.toInt).toNat) (by omega) y17 z110 (some (.int z87)) h109 rfl (by omega) (by omega) (by omega) (by omega) rfl (by omega) (by rw [show (z110.toInt / 3).toNat = (y18.toInt / 3).toNat + 1 by omega, sts105]; omega) (by rw [show (z110.toInt / 3).toNat = (y18.toInt / 3).toNat + 1 by omega, sts105]; omega) (by rw [show (z110.toInt / 3).toNat = (y18.toInt / 3).toNat + 1 by omega, srs105]; exact vh109_99) (by omega) Jh109
                · replace c104 : 1 ≤ z103.toInt ∧ z103.toInt ≤ 1 := by omega
                  have yz103 := iz103 (by omega)
                  clear iz103 jz103
                  have lts112 : lt (hs_aI h 106) (hs_fI h 97 13).toInt y18.toInt := by unfold lt; omega
                  have sts112 : tc (hs_aI h 106) (hs_fI h 97 13).toInt ((y18.toInt / 3).toNat + 1) = tc (hs_aI h 106) (hs_fI h 97 13).toInt (y18.toInt / 3).toNat + 1 := tc_1 (i := y18.toInt) (by omega) lts112
                  have srs112 := lr_1 (R := hs_aI h 99) (i := y18.toInt) (k := (y18.toInt / 3).toNat) (by omega) lts112
                  clear lts112
                  refine hq_p rfl rfl ?_
                  refine hq_p rfl rfl ?_
                  refine hq_gR Ih20.1 rfl rfl (by decide) (by decide) rfl ?_
                  refine hq_p rfl rfl ?_
                  refine ty_aL Ih20 rfl rfl (by decide) (by omega) (by omega) (fun _ _ => ty_le rfl) (fun z113 ez113 az113 bz113 => ?_)
                  have nz113 : z113.toInt = ((hs_aI h 106) y18.toInt.toNat).toInt := by rw [ez113, f0h20]
                  refine hq_p rfl rfl ?_
                  refine hq_gR Ih20.1 rfl rfl (by decide) (by decide) rfl ?_
                  refine hq_p rfl rfl ?_
                  refine hq_p rfl rfl (ty_ge (n := 1) nk_i1 (fun z114 ez114 => ?_))
                  refine hq_p rfl rfl (ty_ge (n := y18.toInt + z114.toInt) (nm_add (by omega) (by omega)) (fun z115 ez115 => ?_))
                  refine ty_aL Ih20 rfl rfl (by decide) (by omega) (by omega) (fun _ _ => ty_le rfl) (fun z116 ez116 az116 bz116 => ?_)
                  have nz116 : z116.toInt = ((hs_aI h 106) (y18.toInt + 1).toNat).toInt := by rw [ez116, f0h20, show z115.toInt.toNat = (y18.toInt + 1).toNat by omega]
                  refine hq_p rfl rfl ?_
                  refine ty_callm 0 [(0, 97, 13), (0, 97, 11)] (W := ty_Wrow) H Jh20 rfl (fun _ => rfl) rfl rfl rfl (hq_pre_o Ih20.1 (x := 97) (ci := 11) rfl (by decide) rfl rfl rfl rfl) (fun a k w => by unfold ty_Wl at w; unfold ty_Wrow; omega) (by unfold ty_Wl ty_Wrow; omega) (ct_160l (x1 := z113) (x2 := z116) (x3 := z87) (by omega) (by omega) (by omega) (by omega) (by omega) (by omega) (by omega)) ⟨⟨rfl, show ¬ ty_Wl 97 13 by unfold ty_Wl; omega⟩, ⟨rfl, show ¬ ty_Wl 97 11 by unfold ty_Wl; omega⟩, trivial⟩ (fun h118 _ Jh118 gh118 P117 => ?_)
                  obtain ⟨gh118_0, gh118_1, _⟩ := gh118
                  have gh118_0 : (hs_fI h118 97 13).toInt = (hs_fI h20 97 13).toInt := gh118_0
                  have gh118_1 : (hs_fI h118 97 11).toInt = (hs_fI h20 97 11).toInt := gh118_1
                  have Ih118 := H.1 h118 Jh118
                  obtain ⟨rfl, r119⟩ := P117
                  rw [x3n25] at r119
                  have br119 : z87 = sb ((hs_aI h 106) (y18.toInt + 2).toNat) := sb_1 (by omega) (by omega)
                  rw [br119, nz113, nz116] at r119
                  refine ty_inc (ls' := fun z120 => [some (.ref 97), some (.int z3), some (.int z120), some (.int y18), some (.int z87)]) rfl rfl (fun _ => rfl) (nm_addc nk_i1 (by omega) (by omega)) (fun z120 ez120 => ?_)
                  refine hq_p rfl rfl ?_
                  refine ty_inc (ls' := fun z121 => [some (.ref 97), some (.int z3), some (.int z120), some (.int z121), some (.int z87)]) rfl rfl (fun _ => rfl) (nm_addc nk_i3 (by omega) (by omega)) (fun z121 ez121 => ?_)
                  refine hq_p rfl rfl ?_
                  exact ihn25 ((402 - z121.toInt).toNat) (by omega) z120 z121 (some (.int z87)) h118 rfl (by omega) (by omega) (by omega) (by omega) rfl (by omega) (by rw [show (z121.toInt / 3).toNat = (y18.toInt / 3).toNat + 1 by omega, sts112]; omega) (by rw [show (z121.toInt / 3).toNat = (y18.toInt / 3).toNat + 1 by omega, sts112]; omega) (by rw [show (z121.toInt / 3).toNat = (y18.toInt / 3).toNat + 1 by omega, srs112]; exact r119) (by omega) Jh118
    exact L35_n25 _ z10 z11 none h9 rfl (by omega) (by omega) (by omega) (by omega) rfl (by omega) (by rw [show (z11.toInt / 3).toNat = 0 by omega]; show _ = (0 : Int); omega) (by rw [show (z11.toInt / 3).toNat = 0 by omega]; show _ = z11.toInt / 3 - (0 : Int); omega) (by rw [show (z11.toInt / 3).toNat = 0 by omega]; exact vh9_99) (by omega) Jh9
  · refine hq_p rfl rfl ?_
    refine hq_p rfl rfl (ty_ge (n := -6) nk_bm6 (fun z122 ez122 => ?_))
    have r125 : (hs_fI h2 97 11).toInt = (hs_fI h 97 11).toInt := by rw [eh2]; exact congrArg Int32.toInt (ty_fI_sF (by decide))
    have r126 : (hs_fI h6 97 11).toInt = (hs_fI h2 97 11).toInt := by rw [eh6]; exact congrArg Int32.toInt (ty_fI_sF (by decide))
    refine ty_callm 0 [(0, 97, 13), (0, 97, 11), (3, 99, 0)] (W := ty_Wrow) H Jh6 rfl (fun _ => rfl) rfl rfl rfl (hq_pre_o Ih6.1 (x := 97) (ci := 11) rfl (by decide) rfl rfl rfl rfl) (fun a k w => by unfold ty_Wt at w; unfold ty_Wrow; omega) (by unfold ty_Wt ty_Wrow; omega) (ct_140 (x1 := z122) (by omega) (by omega) (by omega)) ⟨⟨rfl, show ¬ ty_Wt 97 13 by unfold ty_Wt; omega⟩, ⟨rfl, show ¬ ty_Wt 97 11 by unfold ty_Wt; omega⟩, ⟨rfl, fun k => show ¬ ty_Wt 99 k by unfold ty_Wt; omega⟩, trivial⟩ (fun h124 _ Jh124 gh124 P123 => ?_)
    obtain ⟨gh124_0, gh124_1, gh124_2, _⟩ := gh124
    have gh124_0 : (hs_fI h124 97 13).toInt = (hs_fI h6 97 13).toInt := gh124_0
    have gh124_1 : (hs_fI h124 97 11).toInt = (hs_fI h6 97 11).toInt := gh124_1
    have gh124_2 : hs_aI h124 99 = hs_aI h6 99 := gh124_2
    have ugh124_2 : hs_aI h124 99 = (hs_aI h 99) := gh124_2.trans vh6_99
    have Ih124 := H.1 h124 Jh124
    obtain ⟨z127, rfl, fz127⟩ := P123
    exact hq_W.ret rfl rfl rfl ⟨Jh124, ⟨_, rfl, (by rw [if_pos (by omega)]; omega)⟩, by omega, (by rw [if_pos (by omega)]; omega), (by rw [if_pos (by omega)]; exact ugh124_2)⟩
end CT48
