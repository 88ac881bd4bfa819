/-! CONTRACTS (printed by wip/pm/cts.py) -/
section CT22
theorem ct_169n {X : pm_X} {d : Nat} {h : pm_H} {x0 : Int32} (hd : 1 ≤ d)  : ty_M X ty_W0 d 169 [.int x0] h (fun _ v => ∃ z : Int32, v = some (.int z) ∧ ((z.toInt = 1 ∧ 97 ≤ x0.toInt ∧ x0.toInt ≤ 122) ∨ (z.toInt = 0 ∧ (x0.toInt < 97 ∨ 122 < x0.toInt)))) := by
  intro J H hJ
  obtain ⟨d, rfl⟩ : ∃ e, d = e + 1 := ⟨d - 1, by omega⟩
  have I := H.1 h hJ
  have ax0 := nm_lo x0
  have bx0 := nm_hi x0
  refine hq_M.enter (q := (⟨"TrainBearersModel", "isSmall", "(I)Z"⟩, _, 1, some .boolean, 11, 1, pm_c169)) rfl rfl ?_
  show hq_W X d 11 false (some .boolean) pm_c169 (0, [some (.int x0)], [], h) (fun h' v => J h' ∧ (fun _ v => ∃ z : Int32, v = some (.int z) ∧ ((z.toInt = 1 ∧ 97 ≤ x0.toInt ∧ x0.toInt ≤ 122) ∨ (z.toInt = 0 ∧ (x0.toInt < 97 ∨ 122 < x0.toInt)))) h' v)
  refine hq_p rfl rfl ?_
  refine hq_p rfl rfl (ty_ge (n := 97) nk_b97 (fun z1 ez1 => ?_))
  refine ty_ilt rfl (fun c2 => ?_) (fun c2 => ?_)
  · refine hq_p rfl rfl (ty_ge (n := 0) nk_i0 (fun z3 ez3 => ?_))
    exact ty_rB rfl rfl (by omega) (by omega) ⟨hJ, _, rfl, by omega⟩
  · refine hq_p rfl rfl ?_
    refine hq_p rfl rfl (ty_ge (n := 122) nk_b122 (fun z4 ez4 => ?_))
    refine ty_igt rfl (fun c5 => ?_) (fun c5 => ?_)
    · refine hq_p rfl rfl (ty_ge (n := 0) nk_i0 (fun z6 ez6 => ?_))
      exact ty_rB rfl rfl (by omega) (by omega) ⟨hJ, _, rfl, by omega⟩
    · refine hq_p rfl rfl (ty_ge (n := 1) nk_i1 (fun z7 ez7 => ?_))
      refine hq_p rfl rfl ?_
      exact ty_rB rfl rfl (by omega) (by omega) ⟨hJ, _, rfl, by omega⟩
theorem ct_170n {X : pm_X} {d : Nat} {h : pm_H} {x0 : Int32} (hd : 1 ≤ d)  : ty_M X ty_W0 d 170 [.int x0] h (fun _ v => ∃ z : Int32, v = some (.int z) ∧ ((z.toInt = 1 ∧ 48 ≤ x0.toInt ∧ x0.toInt ≤ 57) ∨ (z.toInt = 0 ∧ (x0.toInt < 48 ∨ 57 < x0.toInt)))) := by
  intro J H hJ
  obtain ⟨d, rfl⟩ : ∃ e, d = e + 1 := ⟨d - 1, by omega⟩
  have I := H.1 h hJ
  have ax0 := nm_lo x0
  have bx0 := nm_hi x0
  refine hq_M.enter (q := (⟨"TrainBearersModel", "isDigit", "(I)Z"⟩, _, 1, some .boolean, 11, 1, pm_c170)) rfl rfl ?_
  show hq_W X d 11 false (some .boolean) pm_c170 (0, [some (.int x0)], [], h) (fun h' v => J h' ∧ (fun _ v => ∃ z : Int32, v = some (.int z) ∧ ((z.toInt = 1 ∧ 48 ≤ x0.toInt ∧ x0.toInt ≤ 57) ∨ (z.toInt = 0 ∧ (x0.toInt < 48 ∨ 57 < x0.toInt)))) h' v)
  refine hq_p rfl rfl ?_
  refine hq_p rfl rfl (ty_ge (n := 48) nk_b48 (fun z1 ez1 => ?_))
  refine ty_ilt rfl (fun c2 => ?_) (fun c2 => ?_)
  · refine hq_p rfl rfl (ty_ge (n := 0) nk_i0 (fun z3 ez3 => ?_))
    exact ty_rB rfl rfl (by omega) (by omega) ⟨hJ, _, rfl, by omega⟩
  · refine hq_p rfl rfl ?_
    refine hq_p rfl rfl (ty_ge (n := 57) nk_b57 (fun z4 ez4 => ?_))
    refine ty_igt rfl (fun c5 => ?_) (fun c5 => ?_)
    · refine hq_p rfl rfl (ty_ge (n := 0) nk_i0 (fun z6 ez6 => ?_))
      exact ty_rB rfl rfl (by omega) (by omega) ⟨hJ, _, rfl, by omega⟩
    · refine hq_p rfl rfl (ty_ge (n := 1) nk_i1 (fun z7 ez7 => ?_))
      refine hq_p rfl rfl ?_
      exact ty_rB rfl rfl (by omega) (by omega) ⟨hJ, _, rfl, by omega⟩
set_option maxRecDepth 8000 in
set_option maxHeartbeats 20000000 in
theorem ct_172 {X : pm_X} {d : Nat} {h : pm_H}  (hd : 2 ≤ d)  (hto : (hs_fI h 97 15).toInt ≤ (hs_fI h 97 13).toInt) : ty_M X ty_Wn d 172 [.ref 97] h (fun h1 v => v = none ∧ (hs_fI h 97 15).toInt ≤ (hs_fI h1 97 14).toInt ∧ (hs_fI h1 97 14).toInt ≤ (hs_fI h1 97 15).toInt ∧ (hs_fI h1 97 15).toInt ≤ (hs_fI h 97 13).toInt ∧ ((hs_fI h1 97 16).toInt ≠ 0 → (hs_fI h1 97 14).toInt + 1 ≤ (hs_fI h1 97 15).toInt)) := by
  intro J0 H0 hJ0
  obtain ⟨R, eR⟩ : ∃ R, hs_aI h 106 = R := ⟨_, rfl⟩
  obtain ⟨J, eJ⟩ : ∃ J : pm_H → Prop, J = fun h' => J0 h' ∧ hs_aI h' 106 = R := ⟨_, rfl⟩
  have H : ty_C ty_Wn J := by rw [eJ]; exact H0.arr 106 (by decide) (fun k => by unfold ty_Wn; omega) R
  have hJ : J h := by rw [eJ]; exact ⟨hJ0, eR⟩
  refine hq_M.mono (Nat.le_refl _) (Q := fun h' v => J h' ∧ (fun h1 v => v = none ∧ (hs_fI h 97 15).toInt ≤ (hs_fI h1 97 14).toInt ∧ (hs_fI h1 97 14).toInt ≤ (hs_fI h1 97 15).toInt ∧ (hs_fI h1 97 15).toInt ≤ (hs_fI h 97 13).toInt ∧ ((hs_fI h1 97 16).toInt ≠ 0 → (hs_fI h1 97 14).toInt + 1 ≤ (hs_fI h1 97 15).toInt)) h' v) (fun h' v q => ⟨by have q1 := q.1; rw [eJ] at q1; exact q1.1, q.2⟩) ?_
  obtain ⟨d, rfl⟩ : ∃ e, d = e + 1 := ⟨d - 1, by omega⟩
  have I := H.1 h hJ
  obtain ⟨q13, eq13⟩ : ∃ q : Int32, q.toInt = (hs_fI h 97 13).toInt := ⟨_, rfl⟩
  have gq130 : 0 ≤ (hs_fI h 97 13).toInt := (I.2.1 97 13 (by decide)).1
  have gq131 : (hs_fI h 97 13).toInt ≤ 400 := (I.2.1 97 13 (by decide)).2
  obtain ⟨q15, eq15⟩ : ∃ q : Int32, q.toInt = (hs_fI h 97 15).toInt := ⟨_, rfl⟩
  have gq150 : 0 ≤ (hs_fI h 97 15).toInt := (I.2.1 97 15 (by decide)).1
  have gq151 : (hs_fI h 97 15).toInt ≤ 400 := (I.2.1 97 15 (by decide)).2
  refine hq_M.enter (q := (⟨"TrainBearersModel", "next", "()V"⟩, _, 1, none, 11, 1, pm_c172)) rfl rfl ?_
  show hq_W X d 11 false (none) pm_c172 (0, [some (.ref 97)], [], h) (fun h' v => J h' ∧ (fun h1 v => v = none ∧ (hs_fI h 97 15).toInt ≤ (hs_fI h1 97 14).toInt ∧ (hs_fI h1 97 14).toInt ≤ (hs_fI h1 97 15).toInt ∧ (hs_fI h1 97 15).toInt ≤ (hs_fI h 97 13).toInt ∧ ((hs_fI h1 97 16).toInt ≠ 0 → (hs_fI h1 97 14).toInt + 1 ≤ (hs_fI h1 97 15).toInt)) h' v)
  refine hq_p rfl rfl ?_
  refine hq_p rfl rfl ?_
  refine ty_gI I rfl rfl (by decide) (by decide) rfl rfl (fun z1 ez1 az1 bz1 => ?_)
  refine ty_pI (W := ty_Wn) H hJ rfl rfl (by decide) rfl rfl (by unfold ty_Wn; omega) rfl (by omega) (by omega) (fun h2 eh2 Jh2 => ?_)
  have wh2 : (hs_fI h2 97 14).toInt = z1.toInt := by rw [eh2]; exact congrArg Int32.toInt (ty_fI_eq I.1 rfl (by decide) rfl)
  have Ih2 := H.1 h2 Jh2
  have r3 : (hs_fI h2 97 13).toInt = (hs_fI h 97 13).toInt := by rw [eh2]; exact congrArg Int32.toInt (ty_fI_sF (by decide))
  have L8_n6 : ∀ n6 : Nat, ∀ (h5 : pm_H), (400 - (hs_fI h5 97 14).toInt).toNat = n6 → (hs_fI h 97 15).toInt ≤ (hs_fI h5 97 14).toInt → (hs_fI h5 97 14).toInt ≤ (hs_fI h5 97 13).toInt → (hs_fI h5 97 13).toInt = (hs_fI h2 97 13).toInt → J h5 → hq_W X d 11 false (none) pm_c172 (8, [some (.ref 97)], [], h5) (fun h' v => J h' ∧ (fun h1 v => v = none ∧ (hs_fI h 97 15).toInt ≤ (hs_fI h1 97 14).toInt ∧ (hs_fI h1 97 14).toInt ≤ (hs_fI h1 97 15).toInt ∧ (hs_fI h1 97 15).toInt ≤ (hs_fI h 97 13).toInt ∧ ((hs_fI h1 97 16).toInt ≠ 0 → (hs_fI h1 97 14).toInt + 1 ≤ (hs_fI h1 97 15).toInt)) h' v) := by
    intro n6
    induction n6 using Nat.strongRecOn with
    | ind n6 ihn6 =>
      intro h5 mn6 x0n6 x1n6 x2n6 Jh5
      have Ih5 := H.1 h5 Jh5
      refine hq_p rfl rfl ?_
      refine ty_gI Ih5 rfl rfl (by decide) (by decide) rfl rfl (fun z7 ez7 az7 bz7 => ?_)
      refine hq_p rfl rfl ?_
      refine ty_gI Ih5 rfl rfl (by decide) (by decide) rfl rfl (fun z8 ez8 az8 bz8 => ?_)
      refine ty_ige rfl (fun c9 => ?_) (fun c9 => ?_)
      · refine hq_p rfl rfl ?_
        refine hq_p rfl rfl ?_
        refine ty_gI Ih5 rfl rfl (by decide) (by decide) rfl rfl (fun z10 ez10 az10 bz10 => ?_)
        refine ty_pI (W := ty_Wn) H Jh5 rfl rfl (by decide) rfl rfl (by unfold ty_Wn; omega) rfl (by omega) (by omega) (fun h11 eh11 Jh11 => ?_)
        have wh11 : (hs_fI h11 97 15).toInt = z10.toInt := by rw [eh11]; exact congrArg Int32.toInt (ty_fI_eq Ih5.1 rfl (by decide) rfl)
        have Ih11 := H.1 h11 Jh11
        refine hq_p rfl rfl ?_
        refine hq_p rfl rfl (ty_gle (n := 0) (by decide) (fun z12 ez12 => ?_))
        refine ty_pL (W := ty_Wn) H Jh11 rfl rfl (by decide) rfl rfl (by unfold ty_Wn; omega) rfl (by omega) (by omega) (fun h13 eh13 Jh13 => ?_)
        have Ih13 := H.1 h13 Jh13
        refine hq_p rfl rfl ?_
        refine hq_p rfl rfl ?_
        have r15 : (hs_fI h11 97 14).toInt = (hs_fI h5 97 14).toInt := by rw [eh11]; exact congrArg Int32.toInt (ty_fI_sF (by decide))
        have r16 : (hs_fI h13 97 14).toInt = (hs_fI h11 97 14).toInt := by rw [eh13]; exact congrArg Int32.toInt (ty_fI_sF (by decide))
        refine ty_gI Ih13 rfl rfl (by decide) (by decide) rfl rfl (fun z14 ez14 az14 bz14 => ?_)
        refine hq_p rfl rfl ?_
        have r18 : (hs_fI h11 97 13).toInt = (hs_fI h5 97 13).toInt := by rw [eh11]; exact congrArg Int32.toInt (ty_fI_sF (by decide))
        have r19 : (hs_fI h13 97 13).toInt = (hs_fI h11 97 13).toInt := by rw [eh13]; exact congrArg Int32.toInt (ty_fI_sF (by decide))
        refine ty_gI Ih13 rfl rfl (by decide) (by decide) rfl rfl (fun z17 ez17 az17 bz17 => ?_)
        refine ty_ine rfl (fun c20 => ?_) (fun c20 => ?_)
        · replace c20 : z14.toInt < z17.toInt := by omega
          refine hq_p rfl rfl ?_
          refine hq_gR Ih13.1 rfl rfl (by decide) (by decide) rfl ?_
          refine hq_p rfl rfl ?_
          refine ty_gI Ih13 rfl rfl (by decide) (by decide) rfl rfl (fun z21 ez21 az21 bz21 => ?_)
          refine ty_aL Ih13 rfl rfl (by decide) (by omega) (by omega) (fun _ _ => ty_le rfl) (fun z22 ez22 az22 bz22 => ?_)
          refine ty_callp 1 Ih13 rfl (fun _ => rfl) rfl rfl rfl rfl (ct_169n (x0 := z22) (by omega)) (fun _ P23 => ?_)
          obtain ⟨z24, rfl, dz24⟩ := P23
          refine ty_zeq rfl (fun c25 => ?_) (fun c25 => ?_)
          · refine hq_p rfl rfl ?_
            refine hq_gR Ih13.1 rfl rfl (by decide) (by decide) rfl ?_
            refine hq_p rfl rfl ?_
            refine ty_gI Ih13 rfl rfl (by decide) (by decide) rfl rfl (fun z26 ez26 az26 bz26 => ?_)
            refine ty_aL Ih13 rfl rfl (by decide) (by omega) (by omega) (fun _ _ => ty_le rfl) (fun z27 ez27 az27 bz27 => ?_)
            refine ty_callp 1 Ih13 rfl (fun _ => rfl) rfl rfl rfl rfl (ct_170n (x0 := z27) (by omega)) (fun _ P28 => ?_)
            obtain ⟨z29, rfl, dz29⟩ := P28
            refine ty_zeq rfl (fun c30 => ?_) (fun c30 => ?_)
            · refine hq_p rfl rfl (ty_ge (n := 3) nk_i3 (fun z31 ez31 => ?_))
              refine ty_pI (W := ty_Wn) H Jh13 rfl rfl (by decide) rfl rfl (by unfold ty_Wn; omega) rfl (by omega) (by omega) (fun h32 eh32 Jh32 => ?_)
              have wh32 : (hs_fI h32 97 16).toInt = z31.toInt := by rw [eh32]; exact congrArg Int32.toInt (ty_fI_eq Ih13.1 rfl (by decide) rfl)
              have Ih32 := H.1 h32 Jh32
              refine hq_p rfl rfl ?_
              refine ty_gI Ih32 rfl rfl (by decide) (by decide) rfl rfl (fun z33 ez33 az33 bz33 => ?_)
              refine hq_p rfl rfl (ty_ge (n := 3) nk_i3 (fun z34 ez34 => ?_))
              refine ty_ine rfl (fun c35 => ?_) (fun c35 => ?_)
              · exfalso; omega
              · refine hq_p rfl rfl ?_
                refine hq_p rfl rfl ?_
                refine hq_gR Ih32.1 rfl rfl (by decide) (by decide) rfl ?_
                refine hq_p rfl rfl ?_
                have r37 : (hs_fI h32 97 14).toInt = (hs_fI h13 97 14).toInt := by rw [eh32]; exact congrArg Int32.toInt (ty_fI_sF (by decide))
                refine ty_gI Ih32 rfl rfl (by decide) (by decide) rfl rfl (fun z36 ez36 az36 bz36 => ?_)
                refine ty_aL Ih32 rfl rfl (by decide) (by omega) (by omega) (fun _ _ => ty_le rfl) (fun z38 ez38 az38 bz38 => ?_)
                refine hq_p rfl rfl (ty_gle (n := z38.toInt) (nm_i2l _) (fun z39 ez39 => ?_))
                refine ty_pL (W := ty_Wn) H Jh32 rfl rfl (by decide) rfl rfl (by unfold ty_Wn; omega) rfl (by omega) (by omega) (fun h40 eh40 Jh40 => ?_)
                have Ih40 := H.1 h40 Jh40
                refine hq_p rfl rfl ?_
                refine hq_p rfl rfl ?_
                have r42 : (hs_fI h13 97 15).toInt = (hs_fI h11 97 15).toInt := by rw [eh13]; exact congrArg Int32.toInt (ty_fI_sF (by decide))
                have r43 : (hs_fI h32 97 15).toInt = (hs_fI h13 97 15).toInt := by rw [eh32]; exact congrArg Int32.toInt (ty_fI_sF (by decide))
                have r44 : (hs_fI h40 97 15).toInt = (hs_fI h32 97 15).toInt := by rw [eh40]; exact congrArg Int32.toInt (ty_fI_sF (by decide))
                refine ty_gI Ih40 rfl rfl (by decide) (by decide) rfl rfl (fun z41 ez41 az41 bz41 => ?_)
                refine hq_p rfl rfl (ty_ge (n := 1) nk_i1 (fun z45 ez45 => ?_))
                refine hq_p rfl rfl (ty_ge (n := z41.toInt + z45.toInt) (nm_add (by omega) (by omega)) (fun z46 ez46 => ?_))
                refine ty_pI (W := ty_Wn) H Jh40 rfl rfl (by decide) rfl rfl (by unfold ty_Wn; omega) rfl (by omega) (by omega) (fun h47 eh47 Jh47 => ?_)
                have wh47 : (hs_fI h47 97 15).toInt = z46.toInt := by rw [eh47]; exact congrArg Int32.toInt (ty_fI_eq Ih40.1 rfl (by decide) rfl)
                have Ih47 := H.1 h47 Jh47
                have r48 : (hs_fI h32 97 13).toInt = (hs_fI h13 97 13).toInt := by rw [eh32]; exact congrArg Int32.toInt (ty_fI_sF (by decide))
                have r49 : (hs_fI h40 97 13).toInt = (hs_fI h32 97 13).toInt := by rw [eh40]; exact congrArg Int32.toInt (ty_fI_sF (by decide))
                have r50 : (hs_fI h47 97 13).toInt = (hs_fI h40 97 13).toInt := by rw [eh47]; exact congrArg Int32.toInt (ty_fI_sF (by decide))
                have r51 : (hs_fI h40 97 14).toInt = (hs_fI h32 97 14).toInt := by rw [eh40]; exact congrArg Int32.toInt (ty_fI_sF (by decide))
                have r52 : (hs_fI h47 97 14).toInt = (hs_fI h40 97 14).toInt := by rw [eh47]; exact congrArg Int32.toInt (ty_fI_sF (by decide))
                have r53 : (hs_fI h40 97 16).toInt = (hs_fI h32 97 16).toInt := by rw [eh40]; exact congrArg Int32.toInt (ty_fI_sF (by decide))
                have r54 : (hs_fI h47 97 16).toInt = (hs_fI h40 97 16).toInt := by rw [eh47]; exact congrArg Int32.toInt (ty_fI_sF (by decide))
                refine hq_p rfl rfl ?_
                refine ty_gI Ih47 rfl rfl (by decide) (by decide) rfl rfl (fun z56 ez56 az56 bz56 => ?_)
                refine hq_p rfl rfl (ty_ge (n := 1) nk_i1 (fun z57 ez57 => ?_))
                refine ty_ine rfl (fun c58 => ?_) (fun c58 => ?_)
                · clear c58
                  refine hq_p rfl rfl ?_
                  refine ty_gI Ih47 rfl rfl (by decide) (by decide) rfl rfl (fun z60 ez60 az60 bz60 => ?_)
                  refine hq_p rfl rfl (ty_ge (n := 2) nk_i2 (fun z61 ez61 => ?_))
                  refine ty_ine rfl (fun c62 => ?_) (fun c62 => ?_)
                  · clear c62
                    exact hq_W.ret rfl rfl rfl ⟨Jh47, rfl, by omega, by omega, by omega, (fun _ => by omega)⟩
                  · exfalso; omega
                · exfalso; omega
            · replace c30 : 1 ≤ z29.toInt ∧ z29.toInt ≤ 1 := by omega
              have rrh13 : hs_aI h13 106 = R := by have q := Jh13; rw [eJ] at q; exact q.2
              have sm : 48 ≤ (R z10.toInt.toNat).toInt ∧ (R z10.toInt.toNat).toInt ≤ 57 := by rw [rrh13, show z26.toInt.toNat = z10.toInt.toNat by omega] at ez27; omega
              refine hq_p rfl rfl (ty_ge (n := 2) nk_i2 (fun z63 ez63 => ?_))
              refine hq_p rfl rfl ?_
              refine ty_pI (W := ty_Wn) H Jh13 rfl rfl (by decide) rfl rfl (by unfold ty_Wn; omega) rfl (by omega) (by omega) (fun h64 eh64 Jh64 => ?_)
              have wh64 : (hs_fI h64 97 16).toInt = z63.toInt := by rw [eh64]; exact congrArg Int32.toInt (ty_fI_eq Ih13.1 rfl (by decide) rfl)
              have Ih64 := H.1 h64 Jh64
              refine hq_p rfl rfl ?_
              refine ty_gI Ih64 rfl rfl (by decide) (by decide) rfl rfl (fun z65 ez65 az65 bz65 => ?_)
              refine hq_p rfl rfl (ty_ge (n := 3) nk_i3 (fun z66 ez66 => ?_))
              refine ty_ine rfl (fun c67 => ?_) (fun c67 => ?_)
              · clear c67
                have r68 : (hs_fI h64 97 13).toInt = (hs_fI h13 97 13).toInt := by rw [eh64]; exact congrArg Int32.toInt (ty_fI_sF (by decide))
                have r69 : (hs_fI h64 97 14).toInt = (hs_fI h13 97 14).toInt := by rw [eh64]; exact congrArg Int32.toInt (ty_fI_sF (by decide))
                refine hq_p rfl rfl ?_
                refine ty_gI Ih64 rfl rfl (by decide) (by decide) rfl rfl (fun z71 ez71 az71 bz71 => ?_)
                refine hq_p rfl rfl (ty_ge (n := 1) nk_i1 (fun z72 ez72 => ?_))
                refine ty_ine rfl (fun c73 => ?_) (fun c73 => ?_)
                · clear c73
                  have L243_n76 : ∀ n76 : Nat, ∀ (h75 : pm_H), (400 - (hs_fI h75 97 15).toInt).toNat = n76 → (hs_fI h75 97 14).toInt ≤ (hs_fI h75 97 15).toInt → (hs_fI h75 97 15).toInt ≤ (hs_fI h75 97 13).toInt → (hs_fI h75 97 14).toInt + 1 ≤ (hs_fI h75 97 15).toInt ∨ ((hs_fI h75 97 15).toInt = (hs_fI h75 97 14).toInt ∧ 48 ≤ (R z10.toInt.toNat).toInt ∧ (R z10.toInt.toNat).toInt ≤ 57) → (hs_fI h75 97 13).toInt = (hs_fI h64 97 13).toInt → (hs_fI h75 97 14).toInt = (hs_fI h64 97 14).toInt → (hs_fI h75 97 16).toInt = (hs_fI h64 97 16).toInt → J h75 → hq_W X d 11 false (none) pm_c172 (243, [some (.ref 97)], [], h75) (fun h' v => J h' ∧ (fun h1 v => v = none ∧ (hs_fI h 97 15).toInt ≤ (hs_fI h1 97 14).toInt ∧ (hs_fI h1 97 14).toInt ≤ (hs_fI h1 97 15).toInt ∧ (hs_fI h1 97 15).toInt ≤ (hs_fI h 97 13).toInt ∧ ((hs_fI h1 97 16).toInt ≠ 0 → (hs_fI h1 97 14).toInt + 1 ≤ (hs_fI h1 97 15).toInt)) h' v) := by
                    intro n76
                    induction n76 using Nat.strongRecOn with
                    | ind n76 ihn76 =>
                      intro h75 mn76 x0n76 x1n76 x2n76 x3n76 x4n76 x5n76 Jh75
                      have Ih75 := H.1 h75 Jh75
                      refine hq_p rfl rfl ?_
                      refine ty_gI Ih75 rfl rfl (by decide) (by decide) rfl rfl (fun z77 ez77 az77 bz77 => ?_)
                      refine hq_p rfl rfl (ty_ge (n := 2) nk_i2 (fun z78 ez78 => ?_))
                      refine ty_ine rfl (fun c79 => ?_) (fun c79 => ?_)
                      · exfalso; omega
                      · refine hq_p rfl rfl ?_
                        refine ty_gI Ih75 rfl rfl (by decide) (by decide) rfl rfl (fun z80 ez80 az80 bz80 => ?_)
                        refine hq_p rfl rfl ?_
                        refine ty_gI Ih75 rfl rfl (by decide) (by decide) rfl rfl (fun z81 ez81 az81 bz81 => ?_)
                        refine ty_ige rfl (fun c82 => ?_) (fun c82 => ?_)
                        · exact hq_W.ret rfl rfl rfl ⟨Jh75, rfl, by omega, by omega, by omega, (fun _ => by rcases x2n76 with q | q <;> omega)⟩
                        · refine hq_p rfl rfl ?_
                          refine hq_gR Ih75.1 rfl rfl (by decide) (by decide) rfl ?_
                          refine hq_p rfl rfl ?_
                          refine ty_gI Ih75 rfl rfl (by decide) (by decide) rfl rfl (fun z83 ez83 az83 bz83 => ?_)
                          refine ty_aL Ih75 rfl rfl (by decide) (by omega) (by omega) (fun _ _ => ty_le rfl) (fun z84 ez84 az84 bz84 => ?_)
                          have rrh75 : hs_aI h75 106 = R := by have q := Jh75; rw [eJ] at q; exact q.2
                          refine ty_callp 1 Ih75 rfl (fun _ => rfl) rfl rfl rfl rfl (ct_170n (x0 := z84) (by omega)) (fun _ P85 => ?_)
                          obtain ⟨z86, rfl, dz86⟩ := P85
                          refine ty_zeq rfl (fun c87 => ?_) (fun c87 => ?_)
                          · exact hq_W.ret rfl rfl rfl ⟨Jh75, rfl, by omega, by omega, by omega, (fun _ => by rcases x2n76 with q | q <;> first | omega | (rw [rrh75, show z83.toInt.toNat = z10.toInt.toNat by omega] at ez84; omega))⟩
                          · replace c87 : 1 ≤ z86.toInt ∧ z86.toInt ≤ 1 := by omega
                            refine hq_p rfl rfl ?_
                            refine hq_p rfl rfl ?_
                            refine ty_gL Ih75 rfl rfl (by decide) (by decide) rfl rfl (fun z88 ez88 az88 bz88 => ?_)
                            refine hq_p rfl rfl (ty_gle (n := 1000000) (by decide) (fun z89 ez89 => ?_))
                            refine hq_p rfl rfl (ty_gc (fun z90 ez90 => ?_))
                            refine ty_zle rfl (fun c91 => ?_) (fun c91 => ?_)
                            · replace ez90 : z88.toInt ≤ z89.toInt := by omega
                              clear c91
                              refine hq_p rfl rfl ?_
                              refine ty_gL Ih75 rfl rfl (by decide) (by decide) rfl rfl (fun z92 ez92 az92 bz92 => ?_)
                              refine hq_p rfl rfl (ty_gle (n := 10) (by decide) (fun z93 ez93 => ?_))
                              refine hq_p rfl rfl (ty_gla (fun z94 az94 bz94 => ?_))
                              refine hq_p rfl rfl ?_
                              refine hq_gR Ih75.1 rfl rfl (by decide) (by decide) rfl ?_
                              refine hq_p rfl rfl ?_
                              refine ty_gI Ih75 rfl rfl (by decide) (by decide) rfl rfl (fun z95 ez95 az95 bz95 => ?_)
                              refine ty_aL Ih75 rfl rfl (by decide) (by omega) (by omega) (fun _ _ => ty_le rfl) (fun z96 ez96 az96 bz96 => ?_)
                              refine hq_p rfl rfl (ty_gle (n := z96.toInt) (nm_i2l _) (fun z97 ez97 => ?_))
                              refine hq_p rfl rfl (ty_gla (fun z98 az98 bz98 => ?_))
                              refine hq_p rfl rfl (ty_gle (n := 48) (by decide) (fun z99 ez99 => ?_))
                              refine hq_p rfl rfl (ty_gla (fun z100 az100 bz100 => ?_))
                              refine ty_pL (W := ty_Wn) H Jh75 rfl rfl (by decide) rfl rfl (by unfold ty_Wn; omega) rfl (by omega) (by omega) (fun h101 eh101 Jh101 => ?_)
                              have Ih101 := H.1 h101 Jh101
                              refine hq_p rfl rfl ?_
                              refine hq_p rfl rfl ?_
                              have r103 : (hs_fI h101 97 15).toInt = (hs_fI h75 97 15).toInt := by rw [eh101]; exact congrArg Int32.toInt (ty_fI_sF (by decide))
                              refine ty_gI Ih101 rfl rfl (by decide) (by decide) rfl rfl (fun z102 ez102 az102 bz102 => ?_)
                              refine hq_p rfl rfl (ty_ge (n := 1) nk_i1 (fun z104 ez104 => ?_))
                              refine hq_p rfl rfl (ty_ge (n := z102.toInt + z104.toInt) (nm_add (by omega) (by omega)) (fun z105 ez105 => ?_))
                              refine ty_pI (W := ty_Wn) H Jh101 rfl rfl (by decide) rfl rfl (by unfold ty_Wn; omega) rfl (by omega) (by omega) (fun h106 eh106 Jh106 => ?_)
                              have wh106 : (hs_fI h106 97 15).toInt = z105.toInt := by rw [eh106]; exact congrArg Int32.toInt (ty_fI_eq Ih101.1 rfl (by decide) rfl)
                              have Ih106 := H.1 h106 Jh106
                              refine hq_p rfl rfl ?_
                              have r107 : (hs_fI h101 97 13).toInt = (hs_fI h75 97 13).toInt := by rw [eh101]; exact congrArg Int32.toInt (ty_fI_sF (by decide))
                              have r108 : (hs_fI h106 97 13).toInt = (hs_fI h101 97 13).toInt := by rw [eh106]; exact congrArg Int32.toInt (ty_fI_sF (by decide))
                              have r109 : (hs_fI h101 97 14).toInt = (hs_fI h75 97 14).toInt := by rw [eh101]; exact congrArg Int32.toInt (ty_fI_sF (by decide))
                              have r110 : (hs_fI h106 97 14).toInt = (hs_fI h101 97 14).toInt := by rw [eh106]; exact congrArg Int32.toInt (ty_fI_sF (by decide))
                              have r111 : (hs_fI h101 97 16).toInt = (hs_fI h75 97 16).toInt := by rw [eh101]; exact congrArg Int32.toInt (ty_fI_sF (by decide))
                              have r112 : (hs_fI h106 97 16).toInt = (hs_fI h101 97 16).toInt := by rw [eh106]; exact congrArg Int32.toInt (ty_fI_sF (by decide))
                              exact ihn76 ((400 - (hs_fI h106 97 15).toInt).toNat) (by omega) h106 rfl (by omega) (by omega) (by omega) (by omega) (by omega) (by omega) Jh106
                            · replace ez90 : z88.toInt > z89.toInt := by omega
                              clear c91
                              refine hq_p rfl rfl ?_
                              refine ty_gL Ih75 rfl rfl (by decide) (by decide) rfl rfl (fun z113 ez113 az113 bz113 => ?_)
                              refine hq_p rfl rfl ?_
                              refine ty_pL (W := ty_Wn) H Jh75 rfl rfl (by decide) rfl rfl (by unfold ty_Wn; omega) rfl (by omega) (by omega) (fun h114 eh114 Jh114 => ?_)
                              have Ih114 := H.1 h114 Jh114
                              refine hq_p rfl rfl ?_
                              refine hq_p rfl rfl ?_
                              have r116 : (hs_fI h114 97 15).toInt = (hs_fI h75 97 15).toInt := by rw [eh114]; exact congrArg Int32.toInt (ty_fI_sF (by decide))
                              refine ty_gI Ih114 rfl rfl (by decide) (by decide) rfl rfl (fun z115 ez115 az115 bz115 => ?_)
                              refine hq_p rfl rfl (ty_ge (n := 1) nk_i1 (fun z117 ez117 => ?_))
                              refine hq_p rfl rfl (ty_ge (n := z115.toInt + z117.toInt) (nm_add (by omega) (by omega)) (fun z118 ez118 => ?_))
                              refine ty_pI (W := ty_Wn) H Jh114 rfl rfl (by decide) rfl rfl (by unfold ty_Wn; omega) rfl (by omega) (by omega) (fun h119 eh119 Jh119 => ?_)
                              have wh119 : (hs_fI h119 97 15).toInt = z118.toInt := by rw [eh119]; exact congrArg Int32.toInt (ty_fI_eq Ih114.1 rfl (by decide) rfl)
                              have Ih119 := H.1 h119 Jh119
                              refine hq_p rfl rfl ?_
                              have r120 : (hs_fI h114 97 13).toInt = (hs_fI h75 97 13).toInt := by rw [eh114]; exact congrArg Int32.toInt (ty_fI_sF (by decide))
                              have r121 : (hs_fI h119 97 13).toInt = (hs_fI h114 97 13).toInt := by rw [eh119]; exact congrArg Int32.toInt (ty_fI_sF (by decide))
                              have r122 : (hs_fI h114 97 14).toInt = (hs_fI h75 97 14).toInt := by rw [eh114]; exact congrArg Int32.toInt (ty_fI_sF (by decide))
                              have r123 : (hs_fI h119 97 14).toInt = (hs_fI h114 97 14).toInt := by rw [eh119]; exact congrArg Int32.toInt (ty_fI_sF (by decide))
                              have r124 : (hs_fI h114 97 16).toInt = (hs_fI h75 97 16).toInt := by rw [eh114]; exact congrArg Int32.toInt (ty_fI_sF (by decide))
                              have r125 : (hs_fI h119 97 16).toInt = (hs_fI h114 97 16).toInt := by rw [eh119]; exact congrArg Int32.toInt (ty_fI_sF (by decide))
                              exact ihn76 ((400 - (hs_fI h119 97 15).toInt).toNat) (by omega) h119 rfl (by omega) (by omega) (by omega) (by omega) (by omega) (by omega) Jh119
                  exact L243_n76 _ h64 rfl (by omega) (by omega) (by omega) (by omega) (by omega) (by omega) Jh64
                · exfalso; omega
              · exfalso; omega
          · replace c25 : 1 ≤ z24.toInt ∧ z24.toInt ≤ 1 := by omega
            have rrh13 : hs_aI h13 106 = R := by have q := Jh13; rw [eJ] at q; exact q.2
            have sm : 97 ≤ (R z10.toInt.toNat).toInt ∧ (R z10.toInt.toNat).toInt ≤ 122 := by rw [rrh13, show z21.toInt.toNat = z10.toInt.toNat by omega] at ez22; omega
            refine hq_p rfl rfl (ty_ge (n := 1) nk_i1 (fun z126 ez126 => ?_))
            refine hq_p rfl rfl ?_
            refine ty_pI (W := ty_Wn) H Jh13 rfl rfl (by decide) rfl rfl (by unfold ty_Wn; omega) rfl (by omega) (by omega) (fun h127 eh127 Jh127 => ?_)
            have wh127 : (hs_fI h127 97 16).toInt = z126.toInt := by rw [eh127]; exact congrArg Int32.toInt (ty_fI_eq Ih13.1 rfl (by decide) rfl)
            have Ih127 := H.1 h127 Jh127
            refine hq_p rfl rfl ?_
            refine ty_gI Ih127 rfl rfl (by decide) (by decide) rfl rfl (fun z128 ez128 az128 bz128 => ?_)
            refine hq_p rfl rfl (ty_ge (n := 3) nk_i3 (fun z129 ez129 => ?_))
            refine ty_ine rfl (fun c130 => ?_) (fun c130 => ?_)
            · clear c130
              have r131 : (hs_fI h127 97 13).toInt = (hs_fI h13 97 13).toInt := by rw [eh127]; exact congrArg Int32.toInt (ty_fI_sF (by decide))
              have r132 : (hs_fI h127 97 14).toInt = (hs_fI h13 97 14).toInt := by rw [eh127]; exact congrArg Int32.toInt (ty_fI_sF (by decide))
              have L149_n135 : ∀ n135 : Nat, ∀ (h134 : pm_H), (400 - (hs_fI h134 97 15).toInt).toNat = n135 → (hs_fI h134 97 14).toInt ≤ (hs_fI h134 97 15).toInt → (hs_fI h134 97 15).toInt ≤ (hs_fI h134 97 13).toInt → (hs_fI h134 97 14).toInt + 1 ≤ (hs_fI h134 97 15).toInt ∨ ((hs_fI h134 97 15).toInt = (hs_fI h134 97 14).toInt ∧ 97 ≤ (R z10.toInt.toNat).toInt ∧ (R z10.toInt.toNat).toInt ≤ 122) → (hs_fI h134 97 13).toInt = (hs_fI h127 97 13).toInt → (hs_fI h134 97 14).toInt = (hs_fI h127 97 14).toInt → (hs_fI h134 97 16).toInt = (hs_fI h127 97 16).toInt → J h134 → hq_W X d 11 false (none) pm_c172 (149, [some (.ref 97)], [], h134) (fun h' v => J h' ∧ (fun h1 v => v = none ∧ (hs_fI h 97 15).toInt ≤ (hs_fI h1 97 14).toInt ∧ (hs_fI h1 97 14).toInt ≤ (hs_fI h1 97 15).toInt ∧ (hs_fI h1 97 15).toInt ≤ (hs_fI h 97 13).toInt ∧ ((hs_fI h1 97 16).toInt ≠ 0 → (hs_fI h1 97 14).toInt + 1 ≤ (hs_fI h1 97 15).toInt)) h' v) := by
                intro n135
                induction n135 using Nat.strongRecOn with
                | ind n135 ihn135 =>
                  intro h134 mn135 x0n135 x1n135 x2n135 x3n135 x4n135 x5n135 Jh134
                  have Ih134 := H.1 h134 Jh134
                  refine hq_p rfl rfl ?_
                  refine ty_gI Ih134 rfl rfl (by decide) (by decide) rfl rfl (fun z136 ez136 az136 bz136 => ?_)
                  refine hq_p rfl rfl (ty_ge (n := 1) nk_i1 (fun z137 ez137 => ?_))
                  refine ty_ine rfl (fun c138 => ?_) (fun c138 => ?_)
                  · exfalso; omega
                  · refine hq_p rfl rfl ?_
                    refine ty_gI Ih134 rfl rfl (by decide) (by decide) rfl rfl (fun z139 ez139 az139 bz139 => ?_)
                    refine hq_p rfl rfl ?_
                    refine ty_gI Ih134 rfl rfl (by decide) (by decide) rfl rfl (fun z140 ez140 az140 bz140 => ?_)
                    refine ty_ige rfl (fun c141 => ?_) (fun c141 => ?_)
                    · refine hq_p rfl rfl ?_
                      refine ty_gI Ih134 rfl rfl (by decide) (by decide) rfl rfl (fun z143 ez143 az143 bz143 => ?_)
                      refine hq_p rfl rfl (ty_ge (n := 2) nk_i2 (fun z144 ez144 => ?_))
                      refine ty_ine rfl (fun c145 => ?_) (fun c145 => ?_)
                      · clear c145
                        exact hq_W.ret rfl rfl rfl ⟨Jh134, rfl, by omega, by omega, by omega, (fun _ => by rcases x2n135 with q | q <;> omega)⟩
                      · exfalso; omega
                    · refine hq_p rfl rfl ?_
                      refine hq_gR Ih134.1 rfl rfl (by decide) (by decide) rfl ?_
                      refine hq_p rfl rfl ?_
                      refine ty_gI Ih134 rfl rfl (by decide) (by decide) rfl rfl (fun z146 ez146 az146 bz146 => ?_)
                      refine ty_aL Ih134 rfl rfl (by decide) (by omega) (by omega) (fun _ _ => ty_le rfl) (fun z147 ez147 az147 bz147 => ?_)
                      have rrh134 : hs_aI h134 106 = R := by have q := Jh134; rw [eJ] at q; exact q.2
                      refine ty_callp 1 Ih134 rfl (fun _ => rfl) rfl rfl rfl rfl (ct_169n (x0 := z147) (by omega)) (fun _ P148 => ?_)
                      obtain ⟨z149, rfl, dz149⟩ := P148
                      refine ty_zeq rfl (fun c150 => ?_) (fun c150 => ?_)
                      · refine hq_p rfl rfl ?_
                        refine ty_gI Ih134 rfl rfl (by decide) (by decide) rfl rfl (fun z152 ez152 az152 bz152 => ?_)
                        refine hq_p rfl rfl (ty_ge (n := 2) nk_i2 (fun z153 ez153 => ?_))
                        refine ty_ine rfl (fun c154 => ?_) (fun c154 => ?_)
                        · clear c154
                          exact hq_W.ret rfl rfl rfl ⟨Jh134, rfl, by omega, by omega, by omega, (fun _ => by rcases x2n135 with q | q <;> first | omega | (rw [rrh134, show z146.toInt.toNat = z10.toInt.toNat by omega] at ez147; omega))⟩
                        · exfalso; omega
                      · replace c150 : 1 ≤ z149.toInt ∧ z149.toInt ≤ 1 := by omega
                        refine hq_p rfl rfl ?_
                        refine hq_p rfl rfl ?_
                        refine ty_gI Ih134 rfl rfl (by decide) (by decide) rfl rfl (fun z155 ez155 az155 bz155 => ?_)
                        refine hq_p rfl rfl ?_
                        refine ty_gI Ih134 rfl rfl (by decide) (by decide) rfl rfl (fun z156 ez156 az156 bz156 => ?_)
                        refine hq_p rfl rfl (ty_ge (n := z155.toInt - z156.toInt) (nm_sub (by omega) (by omega)) (fun z157 ez157 => ?_))
                        refine hq_p rfl rfl (ty_ge (n := 10) nk_b10 (fun z158 ez158 => ?_))
                        refine ty_ige rfl (fun c159 => ?_) (fun c159 => ?_)
                        · refine hq_p rfl rfl (ty_gle (n := -1) (by decide) (fun z160 ez160 => ?_))
                          refine ty_pL (W := ty_Wn) H Jh134 rfl rfl (by decide) rfl rfl (by unfold ty_Wn; omega) rfl (by omega) (by omega) (fun h161 eh161 Jh161 => ?_)
                          have Ih161 := H.1 h161 Jh161
                          refine hq_p rfl rfl ?_
                          refine hq_p rfl rfl ?_
                          have r163 : (hs_fI h161 97 15).toInt = (hs_fI h134 97 15).toInt := by rw [eh161]; exact congrArg Int32.toInt (ty_fI_sF (by decide))
                          refine ty_gI Ih161 rfl rfl (by decide) (by decide) rfl rfl (fun z162 ez162 az162 bz162 => ?_)
                          refine hq_p rfl rfl (ty_ge (n := 1) nk_i1 (fun z164 ez164 => ?_))
                          refine hq_p rfl rfl (ty_ge (n := z162.toInt + z164.toInt) (nm_add (by omega) (by omega)) (fun z165 ez165 => ?_))
                          refine ty_pI (W := ty_Wn) H Jh161 rfl rfl (by decide) rfl rfl (by unfold ty_Wn; omega) rfl (by omega) (by omega) (fun h166 eh166 Jh166 => ?_)
                          have wh166 : (hs_fI h166 97 15).toInt = z165.toInt := by rw [eh166]; exact congrArg Int32.toInt (ty_fI_eq Ih161.1 rfl (by decide) rfl)
                          have Ih166 := H.1 h166 Jh166
                          refine hq_p rfl rfl ?_
                          have r167 : (hs_fI h161 97 13).toInt = (hs_fI h134 97 13).toInt := by rw [eh161]; exact congrArg Int32.toInt (ty_fI_sF (by decide))
                          have r168 : (hs_fI h166 97 13).toInt = (hs_fI h161 97 13).toInt := by rw [eh166]; exact congrArg Int32.toInt (ty_fI_sF (by decide))
                          have r169 : (hs_fI h161 97 14).toInt = (hs_fI h134 97 14).toInt := by rw [eh161]; exact congrArg Int32.toInt (ty_fI_sF (by decide))
                          have r170 : (hs_fI h166 97 14).toInt = (hs_fI h161 97 14).toInt := by rw [eh166]; exact congrArg Int32.toInt (ty_fI_sF (by decide))
                          have r171 : (hs_fI h161 97 16).toInt = (hs_fI h134 97 16).toInt := by rw [eh161]; exact congrArg Int32.toInt (ty_fI_sF (by decide))
                          have r172 : (hs_fI h166 97 16).toInt = (hs_fI h161 97 16).toInt := by rw [eh166]; exact congrArg Int32.toInt (ty_fI_sF (by decide))
                          exact ihn135 ((400 - (hs_fI h166 97 15).toInt).toNat) (by omega) h166 rfl (by omega) (by omega) (by omega) (by omega) (by omega) (by omega) Jh166
                        · refine hq_p rfl rfl ?_
                          refine ty_gL Ih134 rfl rfl (by decide) (by decide) rfl rfl (fun z173 ez173 az173 bz173 => ?_)
                          refine hq_p rfl rfl (ty_gle (n := 32) (by decide) (fun z174 ez174 => ?_))
                          refine hq_p rfl rfl (ty_gla (fun z175 az175 bz175 => ?_))
                          refine hq_p rfl rfl ?_
                          refine hq_gR Ih134.1 rfl rfl (by decide) (by decide) rfl ?_
                          refine hq_p rfl rfl ?_
                          refine ty_gI Ih134 rfl rfl (by decide) (by decide) rfl rfl (fun z176 ez176 az176 bz176 => ?_)
                          refine ty_aL Ih134 rfl rfl (by decide) (by omega) (by omega) (fun _ _ => ty_le rfl) (fun z177 ez177 az177 bz177 => ?_)
                          refine hq_p rfl rfl (ty_gle (n := z177.toInt) (nm_i2l _) (fun z178 ez178 => ?_))
                          refine hq_p rfl rfl (ty_gla (fun z179 az179 bz179 => ?_))
                          refine hq_p rfl rfl (ty_gle (n := 96) (by decide) (fun z180 ez180 => ?_))
                          refine hq_p rfl rfl (ty_gla (fun z181 az181 bz181 => ?_))
                          refine hq_p rfl rfl ?_
                          refine ty_pL (W := ty_Wn) H Jh134 rfl rfl (by decide) rfl rfl (by unfold ty_Wn; omega) rfl (by omega) (by omega) (fun h182 eh182 Jh182 => ?_)
                          have Ih182 := H.1 h182 Jh182
                          refine hq_p rfl rfl ?_
                          refine hq_p rfl rfl ?_
                          have r184 : (hs_fI h182 97 15).toInt = (hs_fI h134 97 15).toInt := by rw [eh182]; exact congrArg Int32.toInt (ty_fI_sF (by decide))
                          refine ty_gI Ih182 rfl rfl (by decide) (by decide) rfl rfl (fun z183 ez183 az183 bz183 => ?_)
                          refine hq_p rfl rfl (ty_ge (n := 1) nk_i1 (fun z185 ez185 => ?_))
                          refine hq_p rfl rfl (ty_ge (n := z183.toInt + z185.toInt) (nm_add (by omega) (by omega)) (fun z186 ez186 => ?_))
                          refine ty_pI (W := ty_Wn) H Jh182 rfl rfl (by decide) rfl rfl (by unfold ty_Wn; omega) rfl (by omega) (by omega) (fun h187 eh187 Jh187 => ?_)
                          have wh187 : (hs_fI h187 97 15).toInt = z186.toInt := by rw [eh187]; exact congrArg Int32.toInt (ty_fI_eq Ih182.1 rfl (by decide) rfl)
                          have Ih187 := H.1 h187 Jh187
                          refine hq_p rfl rfl ?_
                          have r188 : (hs_fI h182 97 13).toInt = (hs_fI h134 97 13).toInt := by rw [eh182]; exact congrArg Int32.toInt (ty_fI_sF (by decide))
                          have r189 : (hs_fI h187 97 13).toInt = (hs_fI h182 97 13).toInt := by rw [eh187]; exact congrArg Int32.toInt (ty_fI_sF (by decide))
                          have r190 : (hs_fI h182 97 14).toInt = (hs_fI h134 97 14).toInt := by rw [eh182]; exact congrArg Int32.toInt (ty_fI_sF (by decide))
                          have r191 : (hs_fI h187 97 14).toInt = (hs_fI h182 97 14).toInt := by rw [eh187]; exact congrArg Int32.toInt (ty_fI_sF (by decide))
                          have r192 : (hs_fI h182 97 16).toInt = (hs_fI h134 97 16).toInt := by rw [eh182]; exact congrArg Int32.toInt (ty_fI_sF (by decide))
                          have r193 : (hs_fI h187 97 16).toInt = (hs_fI h182 97 16).toInt := by rw [eh187]; exact congrArg Int32.toInt (ty_fI_sF (by decide))
                          exact ihn135 ((400 - (hs_fI h187 97 15).toInt).toNat) (by omega) h187 rfl (by omega) (by omega) (by omega) (by omega) (by omega) (by omega) Jh187
              exact L149_n135 _ h127 rfl (by omega) (by omega) (by omega) (by omega) (by omega) (by omega) Jh127
            · exfalso; omega
        · refine hq_p rfl rfl (ty_ge (n := 0) nk_i0 (fun z194 ez194 => ?_))
          refine hq_p rfl rfl ?_
          refine ty_pI (W := ty_Wn) H Jh13 rfl rfl (by decide) rfl rfl (by unfold ty_Wn; omega) rfl (by omega) (by omega) (fun h195 eh195 Jh195 => ?_)
          have wh195 : (hs_fI h195 97 16).toInt = z194.toInt := by rw [eh195]; exact congrArg Int32.toInt (ty_fI_eq Ih13.1 rfl (by decide) rfl)
          have Ih195 := H.1 h195 Jh195
          refine hq_p rfl rfl ?_
          refine ty_gI Ih195 rfl rfl (by decide) (by decide) rfl rfl (fun z196 ez196 az196 bz196 => ?_)
          refine hq_p rfl rfl (ty_ge (n := 3) nk_i3 (fun z197 ez197 => ?_))
          refine ty_ine rfl (fun c198 => ?_) (fun c198 => ?_)
          · clear c198
            have r199 : (hs_fI h195 97 13).toInt = (hs_fI h13 97 13).toInt := by rw [eh195]; exact congrArg Int32.toInt (ty_fI_sF (by decide))
            have r200 : (hs_fI h195 97 14).toInt = (hs_fI h13 97 14).toInt := by rw [eh195]; exact congrArg Int32.toInt (ty_fI_sF (by decide))
            refine hq_p rfl rfl ?_
            refine ty_gI Ih195 rfl rfl (by decide) (by decide) rfl rfl (fun z202 ez202 az202 bz202 => ?_)
            refine hq_p rfl rfl (ty_ge (n := 1) nk_i1 (fun z203 ez203 => ?_))
            refine ty_ine rfl (fun c204 => ?_) (fun c204 => ?_)
            · clear c204
              refine hq_p rfl rfl ?_
              refine ty_gI Ih195 rfl rfl (by decide) (by decide) rfl rfl (fun z206 ez206 az206 bz206 => ?_)
              refine hq_p rfl rfl (ty_ge (n := 2) nk_i2 (fun z207 ez207 => ?_))
              refine ty_ine rfl (fun c208 => ?_) (fun c208 => ?_)
              · clear c208
                have r209 : (hs_fI h13 97 15).toInt = (hs_fI h11 97 15).toInt := by rw [eh13]; exact congrArg Int32.toInt (ty_fI_sF (by decide))
                have r210 : (hs_fI h195 97 15).toInt = (hs_fI h13 97 15).toInt := by rw [eh195]; exact congrArg Int32.toInt (ty_fI_sF (by decide))
                exact hq_W.ret rfl rfl rfl ⟨Jh195, rfl, by omega, by omega, by omega, (fun _ => by omega)⟩
              · exfalso; omega
            · exfalso; omega
          · exfalso; omega
      · refine hq_p rfl rfl ?_
        refine hq_gR Ih5.1 rfl rfl (by decide) (by decide) rfl ?_
        refine hq_p rfl rfl ?_
        refine ty_gI Ih5 rfl rfl (by decide) (by decide) rfl rfl (fun z211 ez211 az211 bz211 => ?_)
        refine ty_aL Ih5 rfl rfl (by decide) (by omega) (by omega) (fun _ _ => ty_le rfl) (fun z212 ez212 az212 bz212 => ?_)
        refine hq_p rfl rfl (ty_ge (n := 32) nk_b32 (fun z213 ez213 => ?_))
        refine ty_ine rfl (fun c214 => ?_) (fun c214 => ?_)
        · clear c214
          refine hq_p rfl rfl ?_
          refine hq_p rfl rfl ?_
          refine ty_gI Ih5 rfl rfl (by decide) (by decide) rfl rfl (fun z215 ez215 az215 bz215 => ?_)
          refine ty_pI (W := ty_Wn) H Jh5 rfl rfl (by decide) rfl rfl (by unfold ty_Wn; omega) rfl (by omega) (by omega) (fun h216 eh216 Jh216 => ?_)
          have wh216 : (hs_fI h216 97 15).toInt = z215.toInt := by rw [eh216]; exact congrArg Int32.toInt (ty_fI_eq Ih5.1 rfl (by decide) rfl)
          have Ih216 := H.1 h216 Jh216
          refine hq_p rfl rfl ?_
          refine hq_p rfl rfl (ty_gle (n := 0) (by decide) (fun z217 ez217 => ?_))
          refine ty_pL (W := ty_Wn) H Jh216 rfl rfl (by decide) rfl rfl (by unfold ty_Wn; omega) rfl (by omega) (by omega) (fun h218 eh218 Jh218 => ?_)
          have Ih218 := H.1 h218 Jh218
          refine hq_p rfl rfl ?_
          refine hq_p rfl rfl ?_
          have r220 : (hs_fI h216 97 14).toInt = (hs_fI h5 97 14).toInt := by rw [eh216]; exact congrArg Int32.toInt (ty_fI_sF (by decide))
          have r221 : (hs_fI h218 97 14).toInt = (hs_fI h216 97 14).toInt := by rw [eh218]; exact congrArg Int32.toInt (ty_fI_sF (by decide))
          refine ty_gI Ih218 rfl rfl (by decide) (by decide) rfl rfl (fun z219 ez219 az219 bz219 => ?_)
          refine hq_p rfl rfl ?_
          have r223 : (hs_fI h216 97 13).toInt = (hs_fI h5 97 13).toInt := by rw [eh216]; exact congrArg Int32.toInt (ty_fI_sF (by decide))
          have r224 : (hs_fI h218 97 13).toInt = (hs_fI h216 97 13).toInt := by rw [eh218]; exact congrArg Int32.toInt (ty_fI_sF (by decide))
          refine ty_gI Ih218 rfl rfl (by decide) (by decide) rfl rfl (fun z222 ez222 az222 bz222 => ?_)
          refine ty_ine rfl (fun c225 => ?_) (fun c225 => ?_)
          · replace c225 : z219.toInt < z222.toInt := by omega
            refine hq_p rfl rfl ?_
            refine hq_gR Ih218.1 rfl rfl (by decide) (by decide) rfl ?_
            refine hq_p rfl rfl ?_
            refine ty_gI Ih218 rfl rfl (by decide) (by decide) rfl rfl (fun z226 ez226 az226 bz226 => ?_)
            refine ty_aL Ih218 rfl rfl (by decide) (by omega) (by omega) (fun _ _ => ty_le rfl) (fun z227 ez227 az227 bz227 => ?_)
            refine ty_callp 1 Ih218 rfl (fun _ => rfl) rfl rfl rfl rfl (ct_169n (x0 := z227) (by omega)) (fun _ P228 => ?_)
            obtain ⟨z229, rfl, dz229⟩ := P228
            refine ty_zeq rfl (fun c230 => ?_) (fun c230 => ?_)
            · refine hq_p rfl rfl ?_
              refine hq_gR Ih218.1 rfl rfl (by decide) (by decide) rfl ?_
              refine hq_p rfl rfl ?_
              refine ty_gI Ih218 rfl rfl (by decide) (by decide) rfl rfl (fun z231 ez231 az231 bz231 => ?_)
              refine ty_aL Ih218 rfl rfl (by decide) (by omega) (by omega) (fun _ _ => ty_le rfl) (fun z232 ez232 az232 bz232 => ?_)
              refine ty_callp 1 Ih218 rfl (fun _ => rfl) rfl rfl rfl rfl (ct_170n (x0 := z232) (by omega)) (fun _ P233 => ?_)
              obtain ⟨z234, rfl, dz234⟩ := P233
              refine ty_zeq rfl (fun c235 => ?_) (fun c235 => ?_)
              · refine hq_p rfl rfl (ty_ge (n := 3) nk_i3 (fun z236 ez236 => ?_))
                refine ty_pI (W := ty_Wn) H Jh218 rfl rfl (by decide) rfl rfl (by unfold ty_Wn; omega) rfl (by omega) (by omega) (fun h237 eh237 Jh237 => ?_)
                have wh237 : (hs_fI h237 97 16).toInt = z236.toInt := by rw [eh237]; exact congrArg Int32.toInt (ty_fI_eq Ih218.1 rfl (by decide) rfl)
                have Ih237 := H.1 h237 Jh237
                refine hq_p rfl rfl ?_
                refine ty_gI Ih237 rfl rfl (by decide) (by decide) rfl rfl (fun z238 ez238 az238 bz238 => ?_)
                refine hq_p rfl rfl (ty_ge (n := 3) nk_i3 (fun z239 ez239 => ?_))
                refine ty_ine rfl (fun c240 => ?_) (fun c240 => ?_)
                · exfalso; omega
                · refine hq_p rfl rfl ?_
                  refine hq_p rfl rfl ?_
                  refine hq_gR Ih237.1 rfl rfl (by decide) (by decide) rfl ?_
                  refine hq_p rfl rfl ?_
                  have r242 : (hs_fI h237 97 14).toInt = (hs_fI h218 97 14).toInt := by rw [eh237]; exact congrArg Int32.toInt (ty_fI_sF (by decide))
                  refine ty_gI Ih237 rfl rfl (by decide) (by decide) rfl rfl (fun z241 ez241 az241 bz241 => ?_)
                  refine ty_aL Ih237 rfl rfl (by decide) (by omega) (by omega) (fun _ _ => ty_le rfl) (fun z243 ez243 az243 bz243 => ?_)
                  refine hq_p rfl rfl (ty_gle (n := z243.toInt) (nm_i2l _) (fun z244 ez244 => ?_))
                  refine ty_pL (W := ty_Wn) H Jh237 rfl rfl (by decide) rfl rfl (by unfold ty_Wn; omega) rfl (by omega) (by omega) (fun h245 eh245 Jh245 => ?_)
                  have Ih245 := H.1 h245 Jh245
                  refine hq_p rfl rfl ?_
                  refine hq_p rfl rfl ?_
                  have r247 : (hs_fI h218 97 15).toInt = (hs_fI h216 97 15).toInt := by rw [eh218]; exact congrArg Int32.toInt (ty_fI_sF (by decide))
                  have r248 : (hs_fI h237 97 15).toInt = (hs_fI h218 97 15).toInt := by rw [eh237]; exact congrArg Int32.toInt (ty_fI_sF (by decide))
                  have r249 : (hs_fI h245 97 15).toInt = (hs_fI h237 97 15).toInt := by rw [eh245]; exact congrArg Int32.toInt (ty_fI_sF (by decide))
                  refine ty_gI Ih245 rfl rfl (by decide) (by decide) rfl rfl (fun z246 ez246 az246 bz246 => ?_)
                  refine hq_p rfl rfl (ty_ge (n := 1) nk_i1 (fun z250 ez250 => ?_))
                  refine hq_p rfl rfl (ty_ge (n := z246.toInt + z250.toInt) (nm_add (by omega) (by omega)) (fun z251 ez251 => ?_))
                  refine ty_pI (W := ty_Wn) H Jh245 rfl rfl (by decide) rfl rfl (by unfold ty_Wn; omega) rfl (by omega) (by omega) (fun h252 eh252 Jh252 => ?_)
                  have wh252 : (hs_fI h252 97 15).toInt = z251.toInt := by rw [eh252]; exact congrArg Int32.toInt (ty_fI_eq Ih245.1 rfl (by decide) rfl)
                  have Ih252 := H.1 h252 Jh252
                  have r253 : (hs_fI h237 97 13).toInt = (hs_fI h218 97 13).toInt := by rw [eh237]; exact congrArg Int32.toInt (ty_fI_sF (by decide))
                  have r254 : (hs_fI h245 97 13).toInt = (hs_fI h237 97 13).toInt := by rw [eh245]; exact congrArg Int32.toInt (ty_fI_sF (by decide))
                  have r255 : (hs_fI h252 97 13).toInt = (hs_fI h245 97 13).toInt := by rw [eh252]; exact congrArg Int32.toInt (ty_fI_sF (by decide))
                  have r256 : (hs_fI h245 97 14).toInt = (hs_fI h237 97 14).toInt := by rw [eh245]; exact congrArg Int32.toInt (ty_fI_sF (by decide))
                  have r257 : (hs_fI h252 97 14).toInt = (hs_fI h245 97 14).toInt := by rw [eh252]; exact congrArg Int32.toInt (ty_fI_sF (by decide))
                  have r258 : (hs_fI h245 97 16).toInt = (hs_fI h237 97 16).toInt := by rw [eh245]; exact congrArg Int32.toInt (ty_fI_sF (by decide))
                  have r259 : (hs_fI h252 97 16).toInt = (hs_fI h245 97 16).toInt := by rw [eh252]; exact congrArg Int32.toInt (ty_fI_sF (by decide))
                  refine hq_p rfl rfl ?_
                  refine ty_gI Ih252 rfl rfl (by decide) (by decide) rfl rfl (fun z261 ez261 az261 bz261 => ?_)
                  refine hq_p rfl rfl (ty_ge (n := 1) nk_i1 (fun z262 ez262 => ?_))
                  refine ty_ine rfl (fun c263 => ?_) (fun c263 => ?_)
                  · clear c263
                    refine hq_p rfl rfl ?_
                    refine ty_gI Ih252 rfl rfl (by decide) (by decide) rfl rfl (fun z265 ez265 az265 bz265 => ?_)
                    refine hq_p rfl rfl (ty_ge (n := 2) nk_i2 (fun z266 ez266 => ?_))
                    refine ty_ine rfl (fun c267 => ?_) (fun c267 => ?_)
                    · clear c267
                      exact hq_W.ret rfl rfl rfl ⟨Jh252, rfl, by omega, by omega, by omega, (fun _ => by omega)⟩
                    · exfalso; omega
                  · exfalso; omega
              · replace c235 : 1 ≤ z234.toInt ∧ z234.toInt ≤ 1 := by omega
                have rrh218 : hs_aI h218 106 = R := by have q := Jh218; rw [eJ] at q; exact q.2
                have sm : 48 ≤ (R z215.toInt.toNat).toInt ∧ (R z215.toInt.toNat).toInt ≤ 57 := by rw [rrh218, show z231.toInt.toNat = z215.toInt.toNat by omega] at ez232; omega
                refine hq_p rfl rfl (ty_ge (n := 2) nk_i2 (fun z268 ez268 => ?_))
                refine hq_p rfl rfl ?_
                refine ty_pI (W := ty_Wn) H Jh218 rfl rfl (by decide) rfl rfl (by unfold ty_Wn; omega) rfl (by omega) (by omega) (fun h269 eh269 Jh269 => ?_)
                have wh269 : (hs_fI h269 97 16).toInt = z268.toInt := by rw [eh269]; exact congrArg Int32.toInt (ty_fI_eq Ih218.1 rfl (by decide) rfl)
                have Ih269 := H.1 h269 Jh269
                refine hq_p rfl rfl ?_
                refine ty_gI Ih269 rfl rfl (by decide) (by decide) rfl rfl (fun z270 ez270 az270 bz270 => ?_)
                refine hq_p rfl rfl (ty_ge (n := 3) nk_i3 (fun z271 ez271 => ?_))
                refine ty_ine rfl (fun c272 => ?_) (fun c272 => ?_)
                · clear c272
                  have r273 : (hs_fI h269 97 13).toInt = (hs_fI h218 97 13).toInt := by rw [eh269]; exact congrArg Int32.toInt (ty_fI_sF (by decide))
                  have r274 : (hs_fI h269 97 14).toInt = (hs_fI h218 97 14).toInt := by rw [eh269]; exact congrArg Int32.toInt (ty_fI_sF (by decide))
                  refine hq_p rfl rfl ?_
                  refine ty_gI Ih269 rfl rfl (by decide) (by decide) rfl rfl (fun z276 ez276 az276 bz276 => ?_)
                  refine hq_p rfl rfl (ty_ge (n := 1) nk_i1 (fun z277 ez277 => ?_))
                  refine ty_ine rfl (fun c278 => ?_) (fun c278 => ?_)
                  · clear c278
                    have L243_n281 : ∀ n281 : Nat, ∀ (h280 : pm_H), (400 - (hs_fI h280 97 15).toInt).toNat = n281 → (hs_fI h280 97 14).toInt ≤ (hs_fI h280 97 15).toInt → (hs_fI h280 97 15).toInt ≤ (hs_fI h280 97 13).toInt → (hs_fI h280 97 14).toInt + 1 ≤ (hs_fI h280 97 15).toInt ∨ ((hs_fI h280 97 15).toInt = (hs_fI h280 97 14).toInt ∧ 48 ≤ (R z215.toInt.toNat).toInt ∧ (R z215.toInt.toNat).toInt ≤ 57) → (hs_fI h280 97 13).toInt = (hs_fI h269 97 13).toInt → (hs_fI h280 97 14).toInt = (hs_fI h269 97 14).toInt → (hs_fI h280 97 16).toInt = (hs_fI h269 97 16).toInt → J h280 → hq_W X d 11 false (none) pm_c172 (243, [some (.ref 97)], [], h280) (fun h' v => J h' ∧ (fun h1 v => v = none ∧ (hs_fI h 97 15).toInt ≤ (hs_fI h1 97 14).toInt ∧ (hs_fI h1 97 14).toInt ≤ (hs_fI h1 97 15).toInt ∧ (hs_fI h1 97 15).toInt ≤ (hs_fI h 97 13).toInt ∧ ((hs_fI h1 97 16).toInt ≠ 0 → (hs_fI h1 97 14).toInt + 1 ≤ (hs_fI h1 97 15).toInt)) h' v) := by
                      intro n281
                      induction n281 using Nat.strongRecOn with
                      | ind n281 ihn281 =>
                        intro h280 mn281 x0n281 x1n281 x2n281 x3n281 x4n281 x5n281 Jh280
                        have Ih280 := H.1 h280 Jh280
                        refine hq_p rfl rfl ?_
                        refine ty_gI Ih280 rfl rfl (by decide) (by decide) rfl rfl (fun z282 ez282 az282 bz282 => ?_)
                        refine hq_p rfl rfl (ty_ge (n := 2) nk_i2 (fun z283 ez283 => ?_))
                        refine ty_ine rfl (fun c284 => ?_) (fun c284 => ?_)
                        · exfalso; omega
                        · refine hq_p rfl rfl ?_
                          refine ty_gI Ih280 rfl rfl (by decide) (by decide) rfl rfl (fun z285 ez285 az285 bz285 => ?_)
                          refine hq_p rfl rfl ?_
                          refine ty_gI Ih280 rfl rfl (by decide) (by decide) rfl rfl (fun z286 ez286 az286 bz286 => ?_)
                          refine ty_ige rfl (fun c287 => ?_) (fun c287 => ?_)
                          · exact hq_W.ret rfl rfl rfl ⟨Jh280, rfl, by omega, by omega, by omega, (fun _ => by rcases x2n281 with q | q <;> omega)⟩
                          · refine hq_p rfl rfl ?_
                            refine hq_gR Ih280.1 rfl rfl (by decide) (by decide) rfl ?_
                            refine hq_p rfl rfl ?_
                            refine ty_gI Ih280 rfl rfl (by decide) (by decide) rfl rfl (fun z288 ez288 az288 bz288 => ?_)
                            refine ty_aL Ih280 rfl rfl (by decide) (by omega) (by omega) (fun _ _ => ty_le rfl) (fun z289 ez289 az289 bz289 => ?_)
                            have rrh280 : hs_aI h280 106 = R := by have q := Jh280; rw [eJ] at q; exact q.2
                            refine ty_callp 1 Ih280 rfl (fun _ => rfl) rfl rfl rfl rfl (ct_170n (x0 := z289) (by omega)) (fun _ P290 => ?_)
                            obtain ⟨z291, rfl, dz291⟩ := P290
                            refine ty_zeq rfl (fun c292 => ?_) (fun c292 => ?_)
                            · exact hq_W.ret rfl rfl rfl ⟨Jh280, rfl, by omega, by omega, by omega, (fun _ => by rcases x2n281 with q | q <;> first | omega | (rw [rrh280, show z288.toInt.toNat = z215.toInt.toNat by omega] at ez289; omega))⟩
                            · replace c292 : 1 ≤ z291.toInt ∧ z291.toInt ≤ 1 := by omega
                              refine hq_p rfl rfl ?_
                              refine hq_p rfl rfl ?_
                              refine ty_gL Ih280 rfl rfl (by decide) (by decide) rfl rfl (fun z293 ez293 az293 bz293 => ?_)
                              refine hq_p rfl rfl (ty_gle (n := 1000000) (by decide) (fun z294 ez294 => ?_))
                              refine hq_p rfl rfl (ty_gc (fun z295 ez295 => ?_))
                              refine ty_zle rfl (fun c296 => ?_) (fun c296 => ?_)
                              · replace ez295 : z293.toInt ≤ z294.toInt := by omega
                                clear c296
                                refine hq_p rfl rfl ?_
                                refine ty_gL Ih280 rfl rfl (by decide) (by decide) rfl rfl (fun z297 ez297 az297 bz297 => ?_)
                                refine hq_p rfl rfl (ty_gle (n := 10) (by decide) (fun z298 ez298 => ?_))
                                refine hq_p rfl rfl (ty_gla (fun z299 az299 bz299 => ?_))
                                refine hq_p rfl rfl ?_
                                refine hq_gR Ih280.1 rfl rfl (by decide) (by decide) rfl ?_
                                refine hq_p rfl rfl ?_
                                refine ty_gI Ih280 rfl rfl (by decide) (by decide) rfl rfl (fun z300 ez300 az300 bz300 => ?_)
                                refine ty_aL Ih280 rfl rfl (by decide) (by omega) (by omega) (fun _ _ => ty_le rfl) (fun z301 ez301 az301 bz301 => ?_)
                                refine hq_p rfl rfl (ty_gle (n := z301.toInt) (nm_i2l _) (fun z302 ez302 => ?_))
                                refine hq_p rfl rfl (ty_gla (fun z303 az303 bz303 => ?_))
                                refine hq_p rfl rfl (ty_gle (n := 48) (by decide) (fun z304 ez304 => ?_))
                                refine hq_p rfl rfl (ty_gla (fun z305 az305 bz305 => ?_))
                                refine ty_pL (W := ty_Wn) H Jh280 rfl rfl (by decide) rfl rfl (by unfold ty_Wn; omega) rfl (by omega) (by omega) (fun h306 eh306 Jh306 => ?_)
                                have Ih306 := H.1 h306 Jh306
                                refine hq_p rfl rfl ?_
                                refine hq_p rfl rfl ?_
                                have r308 : (hs_fI h306 97 15).toInt = (hs_fI h280 97 15).toInt := by rw [eh306]; exact congrArg Int32.toInt (ty_fI_sF (by decide))
                                refine ty_gI Ih306 rfl rfl (by decide) (by decide) rfl rfl (fun z307 ez307 az307 bz307 => ?_)
                                refine hq_p rfl rfl (ty_ge (n := 1) nk_i1 (fun z309 ez309 => ?_))
                                refine hq_p rfl rfl (ty_ge (n := z307.toInt + z309.toInt) (nm_add (by omega) (by omega)) (fun z310 ez310 => ?_))
                                refine ty_pI (W := ty_Wn) H Jh306 rfl rfl (by decide) rfl rfl (by unfold ty_Wn; omega) rfl (by omega) (by omega) (fun h311 eh311 Jh311 => ?_)
                                have wh311 : (hs_fI h311 97 15).toInt = z310.toInt := by rw [eh311]; exact congrArg Int32.toInt (ty_fI_eq Ih306.1 rfl (by decide) rfl)
                                have Ih311 := H.1 h311 Jh311
                                refine hq_p rfl rfl ?_
                                have r312 : (hs_fI h306 97 13).toInt = (hs_fI h280 97 13).toInt := by rw [eh306]; exact congrArg Int32.toInt (ty_fI_sF (by decide))
                                have r313 : (hs_fI h311 97 13).toInt = (hs_fI h306 97 13).toInt := by rw [eh311]; exact congrArg Int32.toInt (ty_fI_sF (by decide))
                                have r314 : (hs_fI h306 97 14).toInt = (hs_fI h280 97 14).toInt := by rw [eh306]; exact congrArg Int32.toInt (ty_fI_sF (by decide))
                                have r315 : (hs_fI h311 97 14).toInt = (hs_fI h306 97 14).toInt := by rw [eh311]; exact congrArg Int32.toInt (ty_fI_sF (by decide))
                                have r316 : (hs_fI h306 97 16).toInt = (hs_fI h280 97 16).toInt := by rw [eh306]; exact congrArg Int32.toInt (ty_fI_sF (by decide))
                                have r317 : (hs_fI h311 97 16).toInt = (hs_fI h306 97 16).toInt := by rw [eh311]; exact congrArg Int32.toInt (ty_fI_sF (by decide))
                                exact ihn281 ((400 - (hs_fI h311 97 15).toInt).toNat) (by omega) h311 rfl (by omega) (by omega) (by omega) (by omega) (by omega) (by omega) Jh311
                              · replace ez295 : z293.toInt > z294.toInt := by omega
                                clear c296
                                refine hq_p rfl rfl ?_
                                refine ty_gL Ih280 rfl rfl (by decide) (by decide) rfl rfl (fun z318 ez318 az318 bz318 => ?_)
                                refine hq_p rfl rfl ?_
                                refine ty_pL (W := ty_Wn) H Jh280 rfl rfl (by decide) rfl rfl (by unfold ty_Wn; omega) rfl (by omega) (by omega) (fun h319 eh319 Jh319 => ?_)
                                have Ih319 := H.1 h319 Jh319
                                refine hq_p rfl rfl ?_
                                refine hq_p rfl rfl ?_
                                have r321 : (hs_fI h319 97 15).toInt = (hs_fI h280 97 15).toInt := by rw [eh319]; exact congrArg Int32.toInt (ty_fI_sF (by decide))
                                refine ty_gI Ih319 rfl rfl (by decide) (by decide) rfl rfl (fun z320 ez320 az320 bz320 => ?_)
                                refine hq_p rfl rfl (ty_ge (n := 1) nk_i1 (fun z322 ez322 => ?_))
                                refine hq_p rfl rfl (ty_ge (n := z320.toInt + z322.toInt) (nm_add (by omega) (by omega)) (fun z323 ez323 => ?_))
                                refine ty_pI (W := ty_Wn) H Jh319 rfl rfl (by decide) rfl rfl (by unfold ty_Wn; omega) rfl (by omega) (by omega) (fun h324 eh324 Jh324 => ?_)
                                have wh324 : (hs_fI h324 97 15).toInt = z323.toInt := by rw [eh324]; exact congrArg Int32.toInt (ty_fI_eq Ih319.1 rfl (by decide) rfl)
                                have Ih324 := H.1 h324 Jh324
                                refine hq_p rfl rfl ?_
                                have r325 : (hs_fI h319 97 13).toInt = (hs_fI h280 97 13).toInt := by rw [eh319]; exact congrArg Int32.toInt (ty_fI_sF (by decide))
                                have r326 : (hs_fI h324 97 13).toInt = (hs_fI h319 97 13).toInt := by rw [eh324]; exact congrArg Int32.toInt (ty_fI_sF (by decide))
                                have r327 : (hs_fI h319 97 14).toInt = (hs_fI h280 97 14).toInt := by rw [eh319]; exact congrArg Int32.toInt (ty_fI_sF (by decide))
                                have r328 : (hs_fI h324 97 14).toInt = (hs_fI h319 97 14).toInt := by rw [eh324]; exact congrArg Int32.toInt (ty_fI_sF (by decide))
                                have r329 : (hs_fI h319 97 16).toInt = (hs_fI h280 97 16).toInt := by rw [eh319]; exact congrArg Int32.toInt (ty_fI_sF (by decide))
                                have r330 : (hs_fI h324 97 16).toInt = (hs_fI h319 97 16).toInt := by rw [eh324]; exact congrArg Int32.toInt (ty_fI_sF (by decide))
                                exact ihn281 ((400 - (hs_fI h324 97 15).toInt).toNat) (by omega) h324 rfl (by omega) (by omega) (by omega) (by omega) (by omega) (by omega) Jh324
                    exact L243_n281 _ h269 rfl (by omega) (by omega) (by omega) (by omega) (by omega) (by omega) Jh269
                  · exfalso; omega
                · exfalso; omega
            · replace c230 : 1 ≤ z229.toInt ∧ z229.toInt ≤ 1 := by omega
              have rrh218 : hs_aI h218 106 = R := by have q := Jh218; rw [eJ] at q; exact q.2
              have sm : 97 ≤ (R z215.toInt.toNat).toInt ∧ (R z215.toInt.toNat).toInt ≤ 122 := by rw [rrh218, show z226.toInt.toNat = z215.toInt.toNat by omega] at ez227; omega
              refine hq_p rfl rfl (ty_ge (n := 1) nk_i1 (fun z331 ez331 => ?_))
              refine hq_p rfl rfl ?_
              refine ty_pI (W := ty_Wn) H Jh218 rfl rfl (by decide) rfl rfl (by unfold ty_Wn; omega) rfl (by omega) (by omega) (fun h332 eh332 Jh332 => ?_)
              have wh332 : (hs_fI h332 97 16).toInt = z331.toInt := by rw [eh332]; exact congrArg Int32.toInt (ty_fI_eq Ih218.1 rfl (by decide) rfl)
              have Ih332 := H.1 h332 Jh332
              refine hq_p rfl rfl ?_
              refine ty_gI Ih332 rfl rfl (by decide) (by decide) rfl rfl (fun z333 ez333 az333 bz333 => ?_)
              refine hq_p rfl rfl (ty_ge (n := 3) nk_i3 (fun z334 ez334 => ?_))
              refine ty_ine rfl (fun c335 => ?_) (fun c335 => ?_)
              · clear c335
                have r336 : (hs_fI h332 97 13).toInt = (hs_fI h218 97 13).toInt := by rw [eh332]; exact congrArg Int32.toInt (ty_fI_sF (by decide))
                have r337 : (hs_fI h332 97 14).toInt = (hs_fI h218 97 14).toInt := by rw [eh332]; exact congrArg Int32.toInt (ty_fI_sF (by decide))
                have L149_n340 : ∀ n340 : Nat, ∀ (h339 : pm_H), (400 - (hs_fI h339 97 15).toInt).toNat = n340 → (hs_fI h339 97 14).toInt ≤ (hs_fI h339 97 15).toInt → (hs_fI h339 97 15).toInt ≤ (hs_fI h339 97 13).toInt → (hs_fI h339 97 14).toInt + 1 ≤ (hs_fI h339 97 15).toInt ∨ ((hs_fI h339 97 15).toInt = (hs_fI h339 97 14).toInt ∧ 97 ≤ (R z215.toInt.toNat).toInt ∧ (R z215.toInt.toNat).toInt ≤ 122) → (hs_fI h339 97 13).toInt = (hs_fI h332 97 13).toInt → (hs_fI h339 97 14).toInt = (hs_fI h332 97 14).toInt → (hs_fI h339 97 16).toInt = (hs_fI h332 97 16).toInt → J h339 → hq_W X d 11 false (none) pm_c172 (149, [some (.ref 97)], [], h339) (fun h' v => J h' ∧ (fun h1 v => v = none ∧ (hs_fI h 97 15).toInt ≤ (hs_fI h1 97 14).toInt ∧ (hs_fI h1 97 14).toInt ≤ (hs_fI h1 97 15).toInt ∧ (hs_fI h1 97 15).toInt ≤ (hs_fI h 97 13).toInt ∧ ((hs_fI h1 97 16).toInt ≠ 0 → (hs_fI h1 97 14).toInt + 1 ≤ (hs_fI h1 97 15).toInt)) h' v) := by
                  intro n340
                  induction n340 using Nat.strongRecOn with
                  | ind n340 ihn340 =>
                    intro h339 mn340 x0n340 x1n340 x2n340 x3n340 x4n340 x5n340 Jh339
                    have Ih339 := H.1 h339 Jh339
                    refine hq_p rfl rfl ?_
                    refine ty_gI Ih339 rfl rfl (by decide) (by decide) rfl rfl (fun z341 ez341 az341 bz341 => ?_)
                    refine hq_p rfl rfl (ty_ge (n := 1) nk_i1 (fun z342 ez342 => ?_))
                    refine ty_ine rfl (fun c343 => ?_) (fun c343 => ?_)
                    · exfalso; omega
                    · refine hq_p rfl rfl ?_
                      refine ty_gI Ih339 rfl rfl (by decide) (by decide) rfl rfl (fun z344 ez344 az344 bz344 => ?_)
                      refine hq_p rfl rfl ?_
                      refine ty_gI Ih339 rfl rfl (by decide) (by decide) rfl rfl (fun z345 ez345 az345 bz345 => ?_)
                      refine ty_ige rfl (fun c346 => ?_) (fun c346 => ?_)
                      · refine hq_p rfl rfl ?_
                        refine ty_gI Ih339 rfl rfl (by decide) (by decide) rfl rfl (fun z348 ez348 az348 bz348 => ?_)
                        refine hq_p rfl rfl (ty_ge (n := 2) nk_i2 (fun z349 ez349 => ?_))
                        refine ty_ine rfl (fun c350 => ?_) (fun c350 => ?_)
                        · clear c350
                          exact hq_W.ret rfl rfl rfl ⟨Jh339, rfl, by omega, by omega, by omega, (fun _ => by rcases x2n340 with q | q <;> omega)⟩
                        · exfalso; omega
                      · refine hq_p rfl rfl ?_
                        refine hq_gR Ih339.1 rfl rfl (by decide) (by decide) rfl ?_
                        refine hq_p rfl rfl ?_
                        refine ty_gI Ih339 rfl rfl (by decide) (by decide) rfl rfl (fun z351 ez351 az351 bz351 => ?_)
                        refine ty_aL Ih339 rfl rfl (by decide) (by omega) (by omega) (fun _ _ => ty_le rfl) (fun z352 ez352 az352 bz352 => ?_)
                        have rrh339 : hs_aI h339 106 = R := by have q := Jh339; rw [eJ] at q; exact q.2
                        refine ty_callp 1 Ih339 rfl (fun _ => rfl) rfl rfl rfl rfl (ct_169n (x0 := z352) (by omega)) (fun _ P353 => ?_)
                        obtain ⟨z354, rfl, dz354⟩ := P353
                        refine ty_zeq rfl (fun c355 => ?_) (fun c355 => ?_)
                        · refine hq_p rfl rfl ?_
                          refine ty_gI Ih339 rfl rfl (by decide) (by decide) rfl rfl (fun z357 ez357 az357 bz357 => ?_)
                          refine hq_p rfl rfl (ty_ge (n := 2) nk_i2 (fun z358 ez358 => ?_))
                          refine ty_ine rfl (fun c359 => ?_) (fun c359 => ?_)
                          · clear c359
                            exact hq_W.ret rfl rfl rfl ⟨Jh339, rfl, by omega, by omega, by omega, (fun _ => by rcases x2n340 with q | q <;> first | omega | (rw [rrh339, show z351.toInt.toNat = z215.toInt.toNat by omega] at ez352; omega))⟩
                          · exfalso; omega
                        · replace c355 : 1 ≤ z354.toInt ∧ z354.toInt ≤ 1 := by omega
                          refine hq_p rfl rfl ?_
                          refine hq_p rfl rfl ?_
                          refine ty_gI Ih339 rfl rfl (by decide) (by decide) rfl rfl (fun z360 ez360 az360 bz360 => ?_)
                          refine hq_p rfl rfl ?_
                          refine ty_gI Ih339 rfl rfl (by decide) (by decide) rfl rfl (fun z361 ez361 az361 bz361 => ?_)
                          refine hq_p rfl rfl (ty_ge (n := z360.toInt - z361.toInt) (nm_sub (by omega) (by omega)) (fun z362 ez362 => ?_))
                          refine hq_p rfl rfl (ty_ge (n := 10) nk_b10 (fun z363 ez363 => ?_))
                          refine ty_ige rfl (fun c364 => ?_) (fun c364 => ?_)
                          · refine hq_p rfl rfl (ty_gle (n := -1) (by decide) (fun z365 ez365 => ?_))
                            refine ty_pL (W := ty_Wn) H Jh339 rfl rfl (by decide) rfl rfl (by unfold ty_Wn; omega) rfl (by omega) (by omega) (fun h366 eh366 Jh366 => ?_)
                            have Ih366 := H.1 h366 Jh366
                            refine hq_p rfl rfl ?_
                            refine hq_p rfl rfl ?_
                            have r368 : (hs_fI h366 97 15).toInt = (hs_fI h339 97 15).toInt := by rw [eh366]; exact congrArg Int32.toInt (ty_fI_sF (by decide))
                            refine ty_gI Ih366 rfl rfl (by decide) (by decide) rfl rfl (fun z367 ez367 az367 bz367 => ?_)
                            refine hq_p rfl rfl (ty_ge (n := 1) nk_i1 (fun z369 ez369 => ?_))
                            refine hq_p rfl rfl (ty_ge (n := z367.toInt + z369.toInt) (nm_add (by omega) (by omega)) (fun z370 ez370 => ?_))
                            refine ty_pI (W := ty_Wn) H Jh366 rfl rfl (by decide) rfl rfl (by unfold ty_Wn; omega) rfl (by omega) (by omega) (fun h371 eh371 Jh371 => ?_)
                            have wh371 : (hs_fI h371 97 15).toInt = z370.toInt := by rw [eh371]; exact congrArg Int32.toInt (ty_fI_eq Ih366.1 rfl (by decide) rfl)
                            have Ih371 := H.1 h371 Jh371
                            refine hq_p rfl rfl ?_
                            have r372 : (hs_fI h366 97 13).toInt = (hs_fI h339 97 13).toInt := by rw [eh366]; exact congrArg Int32.toInt (ty_fI_sF (by decide))
                            have r373 : (hs_fI h371 97 13).toInt = (hs_fI h366 97 13).toInt := by rw [eh371]; exact congrArg Int32.toInt (ty_fI_sF (by decide))
                            have r374 : (hs_fI h366 97 14).toInt = (hs_fI h339 97 14).toInt := by rw [eh366]; exact congrArg Int32.toInt (ty_fI_sF (by decide))
                            have r375 : (hs_fI h371 97 14).toInt = (hs_fI h366 97 14).toInt := by rw [eh371]; exact congrArg Int32.toInt (ty_fI_sF (by decide))
                            have r376 : (hs_fI h366 97 16).toInt = (hs_fI h339 97 16).toInt := by rw [eh366]; exact congrArg Int32.toInt (ty_fI_sF (by decide))
                            have r377 : (hs_fI h371 97 16).toInt = (hs_fI h366 97 16).toInt := by rw [eh371]; exact congrArg Int32.toInt (ty_fI_sF (by decide))
                            exact ihn340 ((400 - (hs_fI h371 97 15).toInt).toNat) (by omega) h371 rfl (by omega) (by omega) (by omega) (by omega) (by omega) (by omega) Jh371
                          · refine hq_p rfl rfl ?_
                            refine ty_gL Ih339 rfl rfl (by decide) (by decide) rfl rfl (fun z378 ez378 az378 bz378 => ?_)
                            refine hq_p rfl rfl (ty_gle (n := 32) (by decide) (fun z379 ez379 => ?_))
                            refine hq_p rfl rfl (ty_gla (fun z380 az380 bz380 => ?_))
                            refine hq_p rfl rfl ?_
                            refine hq_gR Ih339.1 rfl rfl (by decide) (by decide) rfl ?_
                            refine hq_p rfl rfl ?_
                            refine ty_gI Ih339 rfl rfl (by decide) (by decide) rfl rfl (fun z381 ez381 az381 bz381 => ?_)
                            refine ty_aL Ih339 rfl rfl (by decide) (by omega) (by omega) (fun _ _ => ty_le rfl) (fun z382 ez382 az382 bz382 => ?_)
                            refine hq_p rfl rfl (ty_gle (n := z382.toInt) (nm_i2l _) (fun z383 ez383 => ?_))
                            refine hq_p rfl rfl (ty_gla (fun z384 az384 bz384 => ?_))
                            refine hq_p rfl rfl (ty_gle (n := 96) (by decide) (fun z385 ez385 => ?_))
                            refine hq_p rfl rfl (ty_gla (fun z386 az386 bz386 => ?_))
                            refine hq_p rfl rfl ?_
                            refine ty_pL (W := ty_Wn) H Jh339 rfl rfl (by decide) rfl rfl (by unfold ty_Wn; omega) rfl (by omega) (by omega) (fun h387 eh387 Jh387 => ?_)
                            have Ih387 := H.1 h387 Jh387
                            refine hq_p rfl rfl ?_
                            refine hq_p rfl rfl ?_
                            have r389 : (hs_fI h387 97 15).toInt = (hs_fI h339 97 15).toInt := by rw [eh387]; exact congrArg Int32.toInt (ty_fI_sF (by decide))
                            refine ty_gI Ih387 rfl rfl (by decide) (by decide) rfl rfl (fun z388 ez388 az388 bz388 => ?_)
                            refine hq_p rfl rfl (ty_ge (n := 1) nk_i1 (fun z390 ez390 => ?_))
                            refine hq_p rfl rfl (ty_ge (n := z388.toInt + z390.toInt) (nm_add (by omega) (by omega)) (fun z391 ez391 => ?_))
                            refine ty_pI (W := ty_Wn) H Jh387 rfl rfl (by decide) rfl rfl (by unfold ty_Wn; omega) rfl (by omega) (by omega) (fun h392 eh392 Jh392 => ?_)
                            have wh392 : (hs_fI h392 97 15).toInt = z391.toInt := by rw [eh392]; exact congrArg Int32.toInt (ty_fI_eq Ih387.1 rfl (by decide) rfl)
                            have Ih392 := H.1 h392 Jh392
                            refine hq_p rfl rfl ?_
                            have r393 : (hs_fI h387 97 13).toInt = (hs_fI h339 97 13).toInt := by rw [eh387]; exact congrArg Int32.toInt (ty_fI_sF (by decide))
                            have r394 : (hs_fI h392 97 13).toInt = (hs_fI h387 97 13).toInt := by rw [eh392]; exact congrArg Int32.toInt (ty_fI_sF (by decide))
                            have r395 : (hs_fI h387 97 14).toInt = (hs_fI h339 97 14).toInt := by rw [eh387]; exact congrArg Int32.toInt (ty_fI_sF (by decide))
                            have r396 : (hs_fI h392 97 14).toInt = (hs_fI h387 97 14).toInt := by rw [eh392]; exact congrArg Int32.toInt (ty_fI_sF (by decide))
                            have r397 : (hs_fI h387 97 16).toInt = (hs_fI h339 97 16).toInt := by rw [eh387]; exact congrArg Int32.toInt (ty_fI_sF (by decide))
                            have r398 : (hs_fI h392 97 16).toInt = (hs_fI h387 97 16).toInt := by rw [eh392]; exact congrArg Int32.toInt (ty_fI_sF (by decide))
                            exact ihn340 ((400 - (hs_fI h392 97 15).toInt).toNat) (by omega) h392 rfl (by omega) (by omega) (by omega) (by omega) (by omega) (by omega) Jh392
                exact L149_n340 _ h332 rfl (by omega) (by omega) (by omega) (by omega) (by omega) (by omega) Jh332
              · exfalso; omega
          · refine hq_p rfl rfl (ty_ge (n := 0) nk_i0 (fun z399 ez399 => ?_))
            refine hq_p rfl rfl ?_
            refine ty_pI (W := ty_Wn) H Jh218 rfl rfl (by decide) rfl rfl (by unfold ty_Wn; omega) rfl (by omega) (by omega) (fun h400 eh400 Jh400 => ?_)
            have wh400 : (hs_fI h400 97 16).toInt = z399.toInt := by rw [eh400]; exact congrArg Int32.toInt (ty_fI_eq Ih218.1 rfl (by decide) rfl)
            have Ih400 := H.1 h400 Jh400
            refine hq_p rfl rfl ?_
            refine ty_gI Ih400 rfl rfl (by decide) (by decide) rfl rfl (fun z401 ez401 az401 bz401 => ?_)
            refine hq_p rfl rfl (ty_ge (n := 3) nk_i3 (fun z402 ez402 => ?_))
            refine ty_ine rfl (fun c403 => ?_) (fun c403 => ?_)
            · clear c403
              have r404 : (hs_fI h400 97 13).toInt = (hs_fI h218 97 13).toInt := by rw [eh400]; exact congrArg Int32.toInt (ty_fI_sF (by decide))
              have r405 : (hs_fI h400 97 14).toInt = (hs_fI h218 97 14).toInt := by rw [eh400]; exact congrArg Int32.toInt (ty_fI_sF (by decide))
              refine hq_p rfl rfl ?_
              refine ty_gI Ih400 rfl rfl (by decide) (by decide) rfl rfl (fun z407 ez407 az407 bz407 => ?_)
              refine hq_p rfl rfl (ty_ge (n := 1) nk_i1 (fun z408 ez408 => ?_))
              refine ty_ine rfl (fun c409 => ?_) (fun c409 => ?_)
              · clear c409
                refine hq_p rfl rfl ?_
                refine ty_gI Ih400 rfl rfl (by decide) (by decide) rfl rfl (fun z411 ez411 az411 bz411 => ?_)
                refine hq_p rfl rfl (ty_ge (n := 2) nk_i2 (fun z412 ez412 => ?_))
                refine ty_ine rfl (fun c413 => ?_) (fun c413 => ?_)
                · clear c413
                  have r414 : (hs_fI h218 97 15).toInt = (hs_fI h216 97 15).toInt := by rw [eh218]; exact congrArg Int32.toInt (ty_fI_sF (by decide))
                  have r415 : (hs_fI h400 97 15).toInt = (hs_fI h218 97 15).toInt := by rw [eh400]; exact congrArg Int32.toInt (ty_fI_sF (by decide))
                  exact hq_W.ret rfl rfl rfl ⟨Jh400, rfl, by omega, by omega, by omega, (fun _ => by omega)⟩
                · exfalso; omega
              · exfalso; omega
            · exfalso; omega
        · refine hq_p rfl rfl ?_
          refine hq_p rfl rfl ?_
          refine ty_gI Ih5 rfl rfl (by decide) (by decide) rfl rfl (fun z416 ez416 az416 bz416 => ?_)
          refine hq_p rfl rfl (ty_ge (n := 1) nk_i1 (fun z417 ez417 => ?_))
          refine hq_p rfl rfl (ty_ge (n := z416.toInt + z417.toInt) (nm_add (by omega) (by omega)) (fun z418 ez418 => ?_))
          refine ty_pI (W := ty_Wn) H Jh5 rfl rfl (by decide) rfl rfl (by unfold ty_Wn; omega) rfl (by omega) (by omega) (fun h419 eh419 Jh419 => ?_)
          have wh419 : (hs_fI h419 97 14).toInt = z418.toInt := by rw [eh419]; exact congrArg Int32.toInt (ty_fI_eq Ih5.1 rfl (by decide) rfl)
          have Ih419 := H.1 h419 Jh419
          refine hq_p rfl rfl ?_
          have r420 : (hs_fI h419 97 13).toInt = (hs_fI h5 97 13).toInt := by rw [eh419]; exact congrArg Int32.toInt (ty_fI_sF (by decide))
          exact ihn6 ((400 - (hs_fI h419 97 14).toInt).toNat) (by omega) h419 rfl (by omega) (by omega) (by omega) Jh419
  exact L8_n6 _ h2 rfl (by omega) (by omega) (by omega) Jh2
end CT22
