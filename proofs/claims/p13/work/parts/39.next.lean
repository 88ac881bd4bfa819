/-! CONTRACTS (printed by wip/pm/cts.py) -/
section CT22
theorem ct_169n {X : pm_X} {d : Nat} {h : pm_H} {x0 : Int32} (hd : 1 ≤ d)  : ty_M X ty_W0 d 169 [.int x0] h (fun _ v => ∃ z : Int32, v = some (.int z) ∧ ((z.toInt = 1 ∧ 97 ≤ x0.toInt ∧ x0.toInt ≤ 122) ∨ (z.toInt = 0 ∧ (x0.toInt < 97 ∨ 122 < x0.toInt)))) := by
  intro J H hJ
  obtain ⟨d, rfl⟩ : ∃ e, d = e + 1 := ⟨d - 1, by omega⟩
  have I := H.1 h hJ
  have ax0 := nm_lo x0
  have bx0 := nm_hi x0
  refine hq_M.enter (q := (⟨"TrainBearersModel", "isSmall", "(I)Z"⟩, _, 1, some .boolean, 11, 1, pm_c169)) rfl rfl ?_
  show hq_W X d 11 false (some .boolean) pm_c169 (0, [some (.int x0)], [], h) (fun h' v => J h' ∧ (fun _ v => ∃ z : Int32, v = some (.int z) ∧ ((z.toInt = 1 ∧ 97 ≤ x0.toInt ∧ x0.toInt ≤ 122) ∨ (z.toInt = 0 ∧ (x0.toInt < 97 ∨ 122 < x0.toInt)))) h' v)
  refine hq_p rfl rfl ?_
  refine hq_p rfl rfl (ty_ge (n := 97) nk_b97 (fun z1 ez1 => ?_))
  refine ty_ilt rfl (fun c2 => ?_) (fun c2 => ?_)
  · refine hq_p rfl rfl (ty_ge (n := 0) nk_i0 (fun z3 ez3 => ?_))
    exact ty_rB rfl rfl (by omega) (by omega) ⟨hJ, _, rfl, by omega⟩
  · refine hq_p rfl rfl ?_
    refine hq_p rfl rfl (ty_ge (n := 122) nk_b122 (fun z4 ez4 => ?_))
    refine ty_igt rfl (fun c5 => ?_) (fun c5 => ?_)
    · refine hq_p rfl rfl (ty_ge (n := 0) nk_i0 (fun z6 ez6 => ?_))
      exact ty_rB rfl rfl (by omega) (by omega) ⟨hJ, _, rfl, by omega⟩
    · refine hq_p rfl rfl (ty_ge (n := 1) nk_i1 (fun z7 ez7 => ?_))
      refine hq_p rfl rfl ?_
      exact ty_rB rfl rfl (by omega) (by omega) ⟨hJ, _, rfl, by omega⟩
theorem ct_170n {X : pm_X} {d : Nat} {h : pm_H} {x0 : Int32} (hd : 1 ≤ d)  : ty_M X ty_W0 d 170 [.int x0] h (fun _ v => ∃ z : Int32, v = some (.int z) ∧ ((z.toInt = 1 ∧ 48 ≤ x0.toInt ∧ x0.toInt ≤ 57) ∨ (z.toInt = 0 ∧ (x0.toInt < 48 ∨ 57 < x0.toInt)))) := by
  intro J H hJ
  obtain ⟨d, rfl⟩ : ∃ e, d = e + 1 := ⟨d - 1, by omega⟩
  have I := H.1 h hJ
  have ax0 := nm_lo x0
  have bx0 := nm_hi x0
  refine hq_M.enter (q := (⟨"TrainBearersModel", "isDigit", "(I)Z"⟩, _, 1, some .boolean, 11, 1, pm_c170)) rfl rfl ?_
  show hq_W X d 11 false (some .boolean) pm_c170 (0, [some (.int x0)], [], h) (fun h' v => J h' ∧ (fun _ v => ∃ z : Int32, v = some (.int z) ∧ ((z.toInt = 1 ∧ 48 ≤ x0.toInt ∧ x0.toInt ≤ 57) ∨ (z.toInt = 0 ∧ (x0.toInt < 48 ∨ 57 < x0.toInt)))) h' v)
  refine hq_p rfl rfl ?_
  refine hq_p rfl rfl (ty_ge (n := 48) nk_b48 (fun z1 ez1 => ?_))
  refine ty_ilt rfl (fun c2 => ?_) (fun c2 => ?_)
  · refine hq_p rfl rfl (ty_ge (n := 0) nk_i0 (fun z3 ez3 => ?_))
    exact ty_rB rfl rfl (by omega) (by omega) ⟨hJ, _, rfl, by omega⟩
  · refine hq_p rfl rfl ?_
    refine hq_p rfl rfl (ty_ge (n := 57) nk_b57 (fun z4 ez4 => ?_))
    refine ty_igt rfl (fun c5 => ?_) (fun c5 => ?_)
    · refine hq_p rfl rfl (ty_ge (n := 0) nk_i0 (fun z6 ez6 => ?_))
      exact ty_rB rfl rfl (by omega) (by omega) ⟨hJ, _, rfl, by omega⟩
    · refine hq_p rfl rfl (ty_ge (n := 1) nk_i1 (fun z7 ez7 => ?_))
      refine hq_p rfl rfl ?_
      exact ty_rB rfl rfl (by omega) (by omega) ⟨hJ, _, rfl, by omega⟩
set_option maxRecDepth 8000 in
set_option maxHeartbeats 20000000 in
theorem ct_172 {X : pm_X} {d : Nat} {h : pm_H}  (hd : 2 ≤ d)  (hto : (hs_fI h 97 15).toInt ≤ (hs_fI h 97 13).toInt) : ty_M X ty_Wn d 172 [.ref 97] h (fun h1 v => v = none ∧ (hs_fI h 97 15).toInt ≤ (hs_fI h1 97 14).toInt ∧ (hs_fI h1 97 14).toInt ≤ (hs_fI h1 97 15).toInt ∧ (hs_fI h1 97 15).toInt ≤ (hs_fI h 97 13).toInt ∧ ((hs_fI h1 97 16).toInt ≠ 0 → (hs_fI h1 97 14).toInt + 1 ≤ (hs_fI h1 97 15).toInt)) := by
  intro J0 H0 hJ0
  obtain ⟨R, eR⟩ : ∃ R, hs_aI h 106 = R := ⟨_, rfl⟩
  obtain ⟨J, eJ⟩ : ∃ J : pm_H → Prop, J = fun h' => J0 h' ∧ hs_aI h' 106 = R := ⟨_, rfl⟩
  have H : ty_C ty_Wn J := by rw [eJ]; exact H0.arr 106 (by decide) (fun k => by unfold ty_Wn; omega) R
  have hJ : J h := by rw [eJ]; exact ⟨hJ0, eR⟩
  refine hq_M.mono (Nat.le_refl _) (Q := fun h' v => J h' ∧ (fun h1 v => v = none ∧ (hs_fI h 97 15).toInt ≤ (hs_fI h1 97 14).toInt ∧ (hs_fI h1 97 14).toInt ≤ (hs_fI h1 97 15).toInt ∧ (hs_fI h1 97 15).toInt ≤ (hs_fI h 97 13).toInt ∧ ((hs_fI h1 97 16).toInt ≠ 0 → (hs_fI h1 97 14).toInt + 1 ≤ (hs_fI h1 97 15).toInt)) h' v) (fun h' v q => ⟨by have q1 := q.1; rw [eJ] at q1; exact q1.1, q.2⟩) ?_
  obtain ⟨d, rfl⟩ : ∃ e, d = e + 1 := ⟨d - 1, by omega⟩
  have I := H.1 h hJ
  obtain ⟨q13, eq13⟩ : ∃ q : Int32, q.toInt = (hs_fI h 97 13).toInt := ⟨_, rfl⟩
  have gq130 : 0 ≤ (hs_fI h 97 13).toInt := (I.2.1 97 13 (by decide)).1
  have gq131 : (hs_fI h 97 13).toInt ≤ 400 := (I.2.1 97 13 (by decide)).2
  obtain ⟨q15, eq15⟩ : ∃ q : Int32, q.toInt = (hs_fI h 97 15).toInt := ⟨_, rfl⟩
  have gq150 : 0 ≤ (hs_fI h 97 15).toInt := (I.2.1 97 15 (by decide)).1
  have gq151 : (hs_fI h 97 15).toInt ≤ 400 := (I.2.1 97 15 (by decide)).2
  refine hq_M.enter (q := (⟨"TrainBearersModel", "next", "()V"⟩, _, 1, none, 11, 1, pm_c172)) rfl rfl ?_
  show hq_W X d 11 false (none) pm_c172 (0, [some (.ref 97)], [], h) (fun h' v => J h' ∧ (fun h1 v => v = none ∧ (hs_fI h 97 15).toInt ≤ (hs_fI h1 97 14).toInt ∧ (hs_fI h1 97 14).toInt ≤ (hs_fI h1 97 15).toInt ∧ (hs_fI h1 97 15).toInt ≤ (hs_fI h 97 13).toInt ∧ ((hs_fI h1 97 16).toInt ≠ 0 → (hs_fI h1 97 14).toInt + 1 ≤ (hs_fI h1 97 15).toInt)) h' v)
  refine hq_p rfl rfl ?_
  refine hq_p rfl rfl ?_
  refine ty_gI I rfl rfl (by decide) (by decide) rfl rfl (fun z1 ez1 az1 bz1 => ?_)
  refine ty_pI (W := ty_Wn) H hJ rfl rfl (by decide) rfl rfl (by unfold ty_Wn; omega) rfl (by omega) (by omega) (fun h2 eh2 Jh2 => ?_)
  have wh2 : (hs_fI h2 97 14).toInt = z1.toInt := by rw [eh2]; exact congrArg Int32.toInt (ty_fI_eq I.1 rfl (by decide) rfl)
  have Ih2 := H.1 h2 Jh2
  have r3 : (hs_fI h2 97 13).toInt = (hs_fI h 97 13).toInt := by rw [eh2]; exact congrArg Int32.toInt (ty_fI_sF (by decide))
  have L8_n6 : ∀ n6 : Nat, ∀ (h5 : pm_H), (400 - (hs_fI h5 97 14).toInt).toNat = n6 → (hs_fI h 97 15).toInt ≤ (hs_fI h5 97 14).toInt → (hs_fI h5 97 14).toInt ≤ (hs_fI h5 97 13).toInt → (hs_fI h5 97 13).toInt = (hs_fI h2 97 13).toInt → J h5 → hq_W X d 11 false (none) pm_c172 (8, [some (.ref 97)], [], h5) (fun h' v => J h' ∧ (fun h1 v => v = none ∧ (hs_fI h 97 15).toInt ≤ (hs_fI h1 97 14).toInt ∧ (hs_fI h1 97 14).toInt ≤ (hs_fI h1 97 15).toInt ∧ (hs_fI h1 97 15).toInt ≤ (hs_fI h 97 13).toInt ∧ ((hs_fI h1 97 16).toInt ≠ 0 → (hs_fI h1 97 14).toInt + 1 ≤ (hs_fI h1 97 15).toInt)) h' v) := by
    intro n6
    induction n6 using Nat.strongRecOn with
    | ind n6 ihn6 =>
      intro h5 mn6 x0n6 x1n6 x2n6 Jh5
      have Ih5 := H.1 h5 Jh5
      refine hq_p rfl rfl ?_
      refine ty_gI Ih5 rfl rfl (by decide) (by decide) rfl rfl (fun z7 ez7 az7 bz7 => ?_)
      refine hq_p rfl rfl ?_
      refine ty_gI Ih5 rfl rfl (by decide) (by decide) rfl rfl (fun z8 ez8 az8 bz8 => ?_)
      refine ty_ige rfl (fun c9 => ?_) (fun c9 => ?_)
      · refine hq_p rfl rfl ?_
        refine hq_p rfl rfl ?_
        refine ty_gI Ih5 rfl rfl (by decide) (by decide) rfl rfl (fun z10 ez10 az10 bz10 => ?_)
        refine ty_pI (W := ty_Wn) H Jh5 rfl rfl (by decide) rfl rfl (by unfold ty_Wn; omega) rfl (by omega) (by omega) (fun h11 eh11 Jh11 => ?_)
        have wh11 : (hs_fI h11 97 15).toInt = z10.toInt := by rw [eh11]; exact congrArg Int32.toInt (ty_fI_eq Ih5.1 rfl (by decide) rfl)
        have Ih11 := H.1 h11 Jh11
        refine hq_p rfl rfl ?_
        refine hq_p rfl rfl (ty_gle (n := 0) (by decide) (fun z12 ez12 => ?_))
        refine ty_pL (W := ty_Wn) H Jh11 rfl rfl (by decide) rfl rfl (by unfold ty_Wn; omega) rfl (by omega) (by omega) (fun h13 eh13 Jh13 => ?_)
        have Ih13 := H.1 h13 Jh13
        refine hq_p rfl rfl ?_
        refine hq_p rfl rfl ?_
        have r15 : (hs_fI h11 97 14).toInt = (hs_fI h5 97 14).toInt := by rw [eh11]; exact congrArg Int32.toInt (ty_fI_sF (by decide))
        have r16 : (hs_fI h13 97 14).toInt = (hs_fI h11 97 14).toInt := by rw [eh13]; exact congrArg Int32.toInt (ty_fI_sF (by decide))
        refine ty_gI Ih13 rfl rfl (by decide) (by decide) rfl rfl (fun z14 ez14 az14 bz14 => ?_)
        refine hq_p rfl rfl ?_
        have r18 : (hs_fI h11 97 13).toInt = (hs_fI h5 97 13).toInt := by rw [eh11]; exact congrArg Int32.toInt (ty_fI_sF (by decide))
        have r19 : (hs_fI h13 97 13).toInt = (hs_fI h11 97 13).toInt := by rw [eh13]; exact congrArg Int32.toInt (ty_fI_sF (by decide))
        refine ty_gI Ih13 rfl rfl (by decide) (by decide) rfl rfl (fun z17 ez17 az17 bz17 => ?_)
        refine ty_ine rfl (fun c20 => ?_) (fun c20 => ?_)
        · replace c20 : z14.toInt < z17.toInt := by omega
          refine hq_p rfl rfl ?_
          refine hq_gR Ih13.1 rfl rfl (by decide) (by decide) rfl ?_
          refine hq_p rfl rfl ?_
          refine ty_gI Ih13 rfl rfl (by decide) (by decide) rfl rfl (fun z21 ez21 az21 bz21 => ?_)
          refine ty_aL Ih13 rfl rfl (by decide) (by omega) (by omega) (fun _ _ => ty_le rfl) (fun z22 ez22 az22 bz22 => ?_)
          refine ty_callp 1 Ih13 rfl (fun _ => rfl) rfl rfl rfl rfl (ct_169n (x0 := z22) (by omega)) (fun _ P23 => ?_)
          obtain ⟨z24, rfl, dz24⟩ := P23
          refine ty_zeq rfl (fun c25 => ?_) (fun c25 => ?_)
          · refine hq_p rfl rfl ?_
            refine hq_gR Ih13.1 rfl rfl (by decide) (by decide) rfl ?_
            refine hq_p rfl rfl ?_
            refine ty_gI Ih13 rfl rfl (by decide) (by decide) rfl rfl (fun z26 ez26 az26 bz26 => ?_)
            refine ty_aL Ih13 rfl rfl (by decide) (by omega) (by omega) (fun _ _ => ty_le rfl) (fun z27 ez27 az27 bz27 => ?_)
            refine ty_callp 1 Ih13 rfl (fun _ => rfl) rfl rfl rfl rfl (ct_170n (x0 := z27) (by omega)) (fun _ P28 => ?_)
            obtain ⟨z29, rfl, dz29⟩ := P28
            refine ty_zeq rfl (fun c30 => ?_) (fun c30 => ?_)
            · refine hq_p rfl rfl (ty_ge (n := 3) nk_i3 (fun z31 ez31 => ?_))
              refine ty_pI (W := ty_Wn) H Jh13 rfl rfl (by decide) rfl rfl (by unfold ty_Wn; omega) rfl (by omega) (by omega) (fun h32 eh32 Jh32 => ?_)
              have wh32 : (hs_fI h32 97 16).toInt = z31.toInt := by rw [eh32]; exact congrArg Int32.toInt (ty_fI_eq Ih13.1 rfl (by decide) rfl)
              have Ih32 := H.1 h32 Jh32
              refine hq_p rfl rfl ?_
              refine ty_gI Ih32 rfl rfl (by decide) (by decide) rfl rfl (fun z33 ez33 az33 bz33 => ?_)
              refine hq_p rfl rfl (ty_ge (n := 3) nk_i3 (fun z34 ez34 => ?_))
              refine ty_ine rfl (fun c35 => ?_) (fun c35 => ?_)
              · exfalso; omega
              · refine hq_p rfl rfl ?_
                refine hq_p rfl rfl ?_
                refine hq_gR Ih32.1 rfl rfl (by decide) (by decide) rfl ?_
                refine hq_p rfl rfl ?_
                have r37 : (hs_fI h32 97 14).toInt = (hs_fI h13 97 14).toInt := by rw [eh32]; exact congrArg Int32.toInt (ty_fI_sF (by decide))
                refine ty_gI Ih32 rfl rfl (by decide) (by decide) rfl rfl (fun z36 ez36 az36 bz36 => ?_)
                refine ty_aL Ih32 rfl rfl (by decide) (by omega) (by omega) (fun _ _ => ty_le rfl) (fun z38 ez38 az38 bz38 => ?_)
                refine hq_p rfl rfl (ty_gle (n := z38.toInt) (nm_i2l _) (fun z39 ez39 => ?_))
                refine ty_pL (W := ty_Wn) H Jh32 rfl rfl (by decide) rfl rfl (by unfold ty_Wn; omega) rfl (by omega) (by omega) (fun h40 eh40 Jh40 => ?_)
                have Ih40 := H.1 h40 Jh40
                refine hq_p rfl rfl ?_
                refine hq_p rfl rfl ?_
                have r42 : (hs_fI h13 97 15).toInt = (hs_fI h11 97 15).toInt := by rw [eh13]; exact congrArg Int32.toInt (ty_fI_sF (by decide))
                have r43 : (hs_fI h32 97 15).toInt = (hs_fI h13 97 15).toInt := by rw [eh32]; exact congrArg Int32.toInt (ty_fI_sF (by decide))
                have r44 : (hs_fI h40 97 15).toInt = (hs_fI h32 97 15).toInt := by rw [eh40]; exact congrArg Int32.toInt (ty_fI_sF (by decide))
                refine ty_gI Ih40 rfl rfl (by decide) (by decide) rfl rfl (fun z41 ez41 az41 bz41 => ?_)
                refine hq_p rfl rfl (ty_ge (n := 1) nk_i1 (fun z45 ez45 => ?_))
                refine hq_p rfl rfl (ty_ge (n := z41.toInt + z45.toInt) (nm_add (by omega) (by omega)) (fun z46 ez46 => ?_))
                refine ty_pI (W := ty_Wn) H Jh40 rfl rfl (by decide) rfl rfl (by unfold ty_Wn; omega) rfl (by omega) (by omega) (fun h47 eh47 Jh47 => ?_)
                have wh47 : (hs_fI h47 97 15).toInt = z46.toInt := by rw [eh47]; exact congrArg Int32.toInt (ty_fI_eq Ih40.1 rfl (by decide) rfl)
                have Ih47 := H.1 h47 Jh47
                have r48 : (hs_fI h32 97 13).toInt = (hs_fI h13 97 13).toInt := by rw [eh32]; exact congrArg Int32.toInt (ty_fI_sF (by decide))
                have r49 : (hs_fI h40 97 13).toInt = (hs_fI h32 97 13).toInt := by rw [eh40]; exact congrArg Int32.toInt (ty_fI_sF (by decide))
                have r50 : (hs_fI h47 97 13).toInt = (hs_fI h40 97 13).toInt := by rw [eh47]; exact congrArg Int32.toInt (ty_fI_sF (by decide))
                have r51 : (hs_fI h40 97 14).toInt = (hs_fI h32 97 14).toInt := by rw [eh40]; exact congrArg Int32.toInt (ty_fI_sF (by decide))
                have r52 : (hs_fI h47 97 14).toInt = (hs_fI h40 97 14).toInt := by rw [eh47]; exact congrArg Int32.toInt (ty_fI_sF (by decide))
                have r53 : (hs_fI h40 97 16).toInt = (hs_fI h32 97 16).toInt := by rw [eh40]; exact congrArg Int32.toInt (ty_fI_sF (by decide))
                have r54 : (hs_fI h47 97 16).toInt = (hs_fI h40 97 16).toInt := by rw [eh47]; exact congrArg Int32.toInt (ty_fI_sF (by decide))
                refine hq_p rfl rfl ?_
                refine ty_gI Ih47 rfl rfl (by decide) (by decide) rfl rfl (fun z56 ez56 az56 bz56 => ?_)
                refine hq_p rfl rfl (ty_ge (n := 1) nk_i1 (fun z57 ez57 => ?_))
                refine ty_ine rfl (fun c58 => ?_) (fun c58 => ?_)
                · clear c58
                  refine hq_p rfl rfl ?_
                  refine ty_gI Ih47 rfl rfl (by decide) (by decide) rfl rfl (fun z60 ez60 az60 bz60 => ?_)
                  refine hq_p rfl rfl (ty_ge (n := 2) nk_i2 (fun z61 ez61 => ?_))
                  refine ty_ine rfl (fun c62 => ?_) (fun c62 => ?_)
                  · clear c62
                    exact hq_W.ret rfl rfl rfl ⟨Jh47, rfl, by omega, by omega, by omega, (fun _ => by omega)⟩
                  · exfalso; omega
                · exfalso; omega
            · replace c30 : 1 ≤ z29.toInt ∧ z29.toInt ≤ 1 := by omega
              have rrh13 : hs_aI h13 106 = R := by have q := Jh13; rw [eJ] at q; exact q.2
              have sm : 48 ≤ (R z10.toInt.toNat).toInt ∧ (R z10.toInt.toNat).toInt ≤ 57 := by rw [rrh13, show z26.toInt.toNat = z10.toInt.toNat by omega] at ez27; omega
              refine hq_p rfl rfl (ty_ge (n := 2) nk_i2 (fun z63 ez63 => ?_))
              refine hq_p rfl rfl ?_
              refine ty_pI (W := ty_Wn) H Jh13 rfl rfl (by decide) rfl rfl (by unfold ty_Wn; omega) rfl (by omega) (by omega) (fun h64 eh64 Jh64 => ?_)
              have wh64 : (hs_fI h64 97 16).toInt = z63.toInt := by rw [eh64]; exact congrArg Int32.toInt (ty_fI_eq Ih13.1 rfl (by decide) rfl)
              have Ih64 := H.1 h64 Jh64
              refine hq_p rfl rfl ?_
              refine ty_gI Ih64 rfl rfl (by decide) (by decide) rfl rfl (fun z65 ez65 az65 bz65 => ?_)
              refine hq_p rfl rfl (ty_ge (n := 3) nk_i3 (fun z66 ez66 => ?_))
              refine ty_ine rfl (fun c67 => ?_) (fun c67 => ?_)
              · clear c67
                have r68 : (hs_fI h64 97 13).toInt = (hs_fI h13 97 13).toInt := by rw [eh64]; exact congrArg Int32.toInt (ty_fI_sF (by decide))
                have r69 : (hs_fI h64 97 14).toInt = (hs_fI h13 97 14).toInt := by rw [eh64]; exact congrArg Int32.toInt (ty_fI_sF (by decide))
                have r70 : (hs_fI h13 97 15).toInt = (hs_fI h11 97 15).toInt := by rw [eh13]; exact congrArg Int32.toInt (ty_fI_sF (by decide))
                have r71 : (hs_fI h64 97 15).toInt = (hs_fI h13 97 15).toInt := by rw [eh64]; exact congrArg Int32.toInt (ty_fI_sF (by decide))
                refine hq_p rfl rfl ?_
                refine ty_gI Ih64 rfl rfl (by decide) (by decide) rfl rfl (fun z73 ez73 az73 bz73 => ?_)
                refine hq_p rfl rfl (ty_ge (n := 1) nk_i1 (fun z74 ez74 => ?_))
                refine ty_ine rfl (fun c75 => ?_) (fun c75 => ?_)
                · clear c75
                  have L243_n78 : ∀ n78 : Nat, ∀ (h77 : pm_H), (400 - (hs_fI h77 97 15).toInt).toNat = n78 → (hs_fI h77 97 14).toInt ≤ (hs_fI h77 97 15).toInt → (hs_fI h77 97 15).toInt ≤ (hs_fI h77 97 13).toInt → (hs_fI h77 97 14).toInt + 1 ≤ (hs_fI h77 97 15).toInt ∨ ((hs_fI h77 97 15).toInt = (hs_fI h77 97 14).toInt ∧ 48 ≤ (R z10.toInt.toNat).toInt ∧ (R z10.toInt.toNat).toInt ≤ 57) → (hs_fI h77 97 13).toInt = (hs_fI h64 97 13).toInt → (hs_fI h77 97 14).toInt = (hs_fI h64 97 14).toInt → (hs_fI h77 97 16).toInt = (hs_fI h64 97 16).toInt → J h77 → hq_W X d 11 false (none) pm_c172 (243, [some (.ref 97)], [], h77) (fun h' v => J h' ∧ (fun h1 v => v = none ∧ (hs_fI h 97 15).toInt ≤ (hs_fI h1 97 14).toInt ∧ (hs_fI h1 97 14).toInt ≤ (hs_fI h1 97 15).toInt ∧ (hs_fI h1 97 15).toInt ≤ (hs_fI h 97 13).toInt ∧ ((hs_fI h1 97 16).toInt ≠ 0 → (hs_fI h1 97 14).toInt + 1 ≤ (hs_fI h1 97 15).toInt)) h' v) := by
                    intro n78
                    induction n78 using Nat.strongRecOn with
                    | ind n78 ihn78 =>
                      intro h77 mn78 x0n78 x1n78 x2n78 x3n78 x4n78 x5n78 Jh77
                      have Ih77 := H.1 h77 Jh77
                      refine hq_p rfl rfl ?_
                      refine ty_gI Ih77 rfl rfl (by decide) (by decide) rfl rfl (fun z79 ez79 az79 bz79 => ?_)
                      refine hq_p rfl rfl (ty_ge (n := 2) nk_i2 (fun z80 ez80 => ?_))
                      refine ty_ine rfl (fun c81 => ?_) (fun c81 => ?_)
                      · exfalso; omega
                      · refine hq_p rfl rfl ?_
                        refine ty_gI Ih77 rfl rfl (by decide) (by decide) rfl rfl (fun z82 ez82 az82 bz82 => ?_)
                        refine hq_p rfl rfl ?_
                        refine ty_gI Ih77 rfl rfl (by decide) (by decide) rfl rfl (fun z83 ez83 az83 bz83 => ?_)
                        refine ty_ige rfl (fun c84 => ?_) (fun c84 => ?_)
                        · exact hq_W.ret rfl rfl rfl ⟨Jh77, rfl, by omega, by omega, by omega, (fun _ => by rcases x2n78 with q | q <;> omega)⟩
                        · refine hq_p rfl rfl ?_
                          refine hq_gR Ih77.1 rfl rfl (by decide) (by decide) rfl ?_
                          refine hq_p rfl rfl ?_
                          refine ty_gI Ih77 rfl rfl (by decide) (by decide) rfl rfl (fun z85 ez85 az85 bz85 => ?_)
                          refine ty_aL Ih77 rfl rfl (by decide) (by omega) (by omega) (fun _ _ => ty_le rfl) (fun z86 ez86 az86 bz86 => ?_)
                          have rrh77 : hs_aI h77 106 = R := by have q := Jh77; rw [eJ] at q; exact q.2
                          refine ty_callp 1 Ih77 rfl (fun _ => rfl) rfl rfl rfl rfl (ct_170n (x0 := z86) (by omega)) (fun _ P87 => ?_)
                          obtain ⟨z88, rfl, dz88⟩ := P87
                          refine ty_zeq rfl (fun c89 => ?_) (fun c89 => ?_)
                          · exact hq_W.ret rfl rfl rfl ⟨Jh77, rfl, by omega, by omega, by omega, (fun _ => by rcases x2n78 with q | q <;> first | omega | (rw [rrh77, show z85.toInt.toNat = z10.toInt.toNat by omega] at ez86; omega))⟩
                          · replace c89 : 1 ≤ z88.toInt ∧ z88.toInt ≤ 1 := by omega
                            refine hq_p rfl rfl ?_
                            refine hq_p rfl rfl ?_
                            refine ty_gL Ih77 rfl rfl (by decide) (by decide) rfl rfl (fun z90 ez90 az90 bz90 => ?_)
                            refine hq_p rfl rfl (ty_gle (n := 1000000) (by decide) (fun z91 ez91 => ?_))
                            refine hq_p rfl rfl (ty_gc (fun z92 ez92 => ?_))
                            refine ty_zle rfl (fun c93 => ?_) (fun c93 => ?_)
                            · replace ez92 : z90.toInt ≤ z91.toInt := by omega
                              clear c93
                              refine hq_p rfl rfl ?_
                              refine ty_gL Ih77 rfl rfl (by decide) (by decide) rfl rfl (fun z94 ez94 az94 bz94 => ?_)
                              refine hq_p rfl rfl (ty_gle (n := 10) (by decide) (fun z95 ez95 => ?_))
                              refine hq_p rfl rfl (ty_gla (fun z96 az96 bz96 => ?_))
                              refine hq_p rfl rfl ?_
                              refine hq_gR Ih77.1 rfl rfl (by decide) (by decide) rfl ?_
                              refine hq_p rfl rfl ?_
                              refine ty_gI Ih77 rfl rfl (by decide) (by decide) rfl rfl (fun z97 ez97 az97 bz97 => ?_)
                              refine ty_aL Ih77 rfl rfl (by decide) (by omega) (by omega) (fun _ _ => ty_le rfl) (fun z98 ez98 az98 bz98 => ?_)
                              refine hq_p rfl rfl (ty_gle (n := z98.toInt) (nm_i2l _) (fun z99 ez99 => ?_))
                              refine hq_p rfl rfl (ty_gla (fun z100 az100 bz100 => ?_))
                              refine hq_p rfl rfl (ty_gle (n := 48) (by decide) (fun z101 ez101 => ?_))
                              refine hq_p rfl rfl (ty_gla (fun z102 az102 bz102 => ?_))
                              refine ty_pL (W := ty_Wn) H Jh77 rfl rfl (by decide) rfl rfl (by unfold ty_Wn; omega) rfl (by omega) (by omega) (fun h103 eh103 Jh103 => ?_)
                              have Ih103 := H.1 h103 Jh103
                              refine hq_p rfl rfl ?_
                              refine hq_p rfl rfl ?_
                              have r105 : (hs_fI h103 97 15).toInt = (hs_fI h77 97 15).toInt := by rw [eh103]; exact congrArg Int32.toInt (ty_fI_sF (by decide))
                              refine ty_gI Ih103 rfl rfl (by decide) (by decide) rfl rfl (fun z104 ez104 az104 bz104 => ?_)
                              refine hq_p rfl rfl (ty_ge (n := 1) nk_i1 (fun z106 ez106 => ?_))
                              refine hq_p rfl rfl (ty_ge (n := z104.toInt + z106.toInt) (nm_add (by omega) (by omega)) (fun z107 ez107 => ?_))
                              refine ty_pI (W := ty_Wn) H Jh103 rfl rfl (by decide) rfl rfl (by unfold ty_Wn; omega) rfl (by omega) (by omega) (fun h108 eh108 Jh108 => ?_)
                              have wh108 : (hs_fI h108 97 15).toInt = z107.toInt := by rw [eh108]; exact congrArg Int32.toInt (ty_fI_eq Ih103.1 rfl (by decide) rfl)
                              have Ih108 := H.1 h108 Jh108
                              refine hq_p rfl rfl ?_
                              have r109 : (hs_fI h103 97 13).toInt = (hs_fI h77 97 13).toInt := by rw [eh103]; exact congrArg Int32.toInt (ty_fI_sF (by decide))
                              have r110 : (hs_fI h108 97 13).toInt = (hs_fI h103 97 13).toInt := by rw [eh108]; exact congrArg Int32.toInt (ty_fI_sF (by decide))
                              have r111 : (hs_fI h103 97 14).toInt = (hs_fI h77 97 14).toInt := by rw [eh103]; exact congrArg Int32.toInt (ty_fI_sF (by decide))
                              have r112 : (hs_fI h108 97 14).toInt = (hs_fI h103 97 14).toInt := by rw [eh108]; exact congrArg Int32.toInt (ty_fI_sF (by decide))
                              have r113 : (hs_fI h103 97 16).toInt = (hs_fI h77 97 16).toInt := by rw [eh103]; exact congrArg Int32.toInt (ty_fI_sF (by decide))
                              have r114 : (hs_fI h108 97 16).toInt = (hs_fI h103 97 16).toInt := by rw [eh108]; exact congrArg Int32.toInt (ty_fI_sF (by decide))
                              exact ihn78 ((400 - (hs_fI h108 97 15).toInt).toNat) (by omega) h108 rfl (by omega) (by omega) (by omega) (by omega) (by omega) (by omega) Jh108
                            · replace ez92 : z90.toInt > z91.toInt := by omega
                              clear c93
                              refine hq_p rfl rfl ?_
                              refine ty_gL Ih77 rfl rfl (by decide) (by decide) rfl rfl (fun z115 ez115 az115 bz115 => ?_)
                              refine hq_p rfl rfl ?_
                              refine ty_pL (W := ty_Wn) H Jh77 rfl rfl (by decide) rfl rfl (by unfold ty_Wn; omega) rfl (by omega) (by omega) (fun h116 eh116 Jh116 => ?_)
                              have Ih116 := H.1 h116 Jh116
                              refine hq_p rfl rfl ?_
                              refine hq_p rfl rfl ?_
                              have r118 : (hs_fI h116 97 15).toInt = (hs_fI h77 97 15).toInt := by rw [eh116]; exact congrArg Int32.toInt (ty_fI_sF (by decide))
                              refine ty_gI Ih116 rfl rfl (by decide) (by decide) rfl rfl (fun z117 ez117 az117 bz117 => ?_)
                              refine hq_p rfl rfl (ty_ge (n := 1) nk_i1 (fun z119 ez119 => ?_))
                              refine hq_p rfl rfl (ty_ge (n := z117.toInt + z119.toInt) (nm_add (by omega) (by omega)) (fun z120 ez120 => ?_))
                              refine ty_pI (W := ty_Wn) H Jh116 rfl rfl (by decide) rfl rfl (by unfold ty_Wn; omega) rfl (by omega) (by omega) (fun h121 eh121 Jh121 => ?_)
                              have wh121 : (hs_fI h121 97 15).toInt = z120.toInt := by rw [eh121]; exact congrArg Int32.toInt (ty_fI_eq Ih116.1 rfl (by decide) rfl)
                              have Ih121 := H.1 h121 Jh121
                              refine hq_p rfl rfl ?_
                              have r122 : (hs_fI h116 97 13).toInt = (hs_fI h77 97 13).toInt := by rw [eh116]; exact congrArg Int32.toInt (ty_fI_sF (by decide))
                              have r123 : (hs_fI h121 97 13).toInt = (hs_fI h116 97 13).toInt := by rw [eh121]; exact congrArg Int32.toInt (ty_fI_sF (by decide))
                              have r124 : (hs_fI h116 97 14).toInt = (hs_fI h77 97 14).toInt := by rw [eh116]; exact congrArg Int32.toInt (ty_fI_sF (by decide))
                              have r125 : (hs_fI h121 97 14).toInt = (hs_fI h116 97 14).toInt := by rw [eh121]; exact congrArg Int32.toInt (ty_fI_sF (by decide))
                              have r126 : (hs_fI h116 97 16).toInt = (hs_fI h77 97 16).toInt := by rw [eh116]; exact congrArg Int32.toInt (ty_fI_sF (by decide))
                              have r127 : (hs_fI h121 97 16).toInt = (hs_fI h116 97 16).toInt := by rw [eh121]; exact congrArg Int32.toInt (ty_fI_sF (by decide))
                              exact ihn78 ((400 - (hs_fI h121 97 15).toInt).toNat) (by omega) h121 rfl (by omega) (by omega) (by omega) (by omega) (by omega) (by omega) Jh121
                  exact L243_n78 _ h64 rfl (by omega) (by omega) (by omega) (by omega) (by omega) (by omega) Jh64
                · exfalso; omega
              · exfalso; omega
          · replace c25 : 1 ≤ z24.toInt ∧ z24.toInt ≤ 1 := by omega
            have rrh13 : hs_aI h13 106 = R := by have q := Jh13; rw [eJ] at q; exact q.2
            have sm : 97 ≤ (R z10.toInt.toNat).toInt ∧ (R z10.toInt.toNat).toInt ≤ 122 := by rw [rrh13, show z21.toInt.toNat = z10.toInt.toNat by omega] at ez22; omega
            refine hq_p rfl rfl (ty_ge (n := 1) nk_i1 (fun z128 ez128 => ?_))
            refine hq_p rfl rfl ?_
            refine ty_pI (W := ty_Wn) H Jh13 rfl rfl (by decide) rfl rfl (by unfold ty_Wn; omega) rfl (by omega) (by omega) (fun h129 eh129 Jh129 => ?_)
            have wh129 : (hs_fI h129 97 16).toInt = z128.toInt := by rw [eh129]; exact congrArg Int32.toInt (ty_fI_eq Ih13.1 rfl (by decide) rfl)
            have Ih129 := H.1 h129 Jh129
            refine hq_p rfl rfl ?_
            refine ty_gI Ih129 rfl rfl (by decide) (by decide) rfl rfl (fun z130 ez130 az130 bz130 => ?_)
            refine hq_p rfl rfl (ty_ge (n := 3) nk_i3 (fun z131 ez131 => ?_))
            refine ty_ine rfl (fun c132 => ?_) (fun c132 => ?_)
            · clear c132
              have r133 : (hs_fI h129 97 13).toInt = (hs_fI h13 97 13).toInt := by rw [eh129]; exact congrArg Int32.toInt (ty_fI_sF (by decide))
              have r134 : (hs_fI h129 97 14).toInt = (hs_fI h13 97 14).toInt := by rw [eh129]; exact congrArg Int32.toInt (ty_fI_sF (by decide))
              have r135 : (hs_fI h13 97 15).toInt = (hs_fI h11 97 15).toInt := by rw [eh13]; exact congrArg Int32.toInt (ty_fI_sF (by decide))
              have r136 : (hs_fI h129 97 15).toInt = (hs_fI h13 97 15).toInt := by rw [eh129]; exact congrArg Int32.toInt (ty_fI_sF (by decide))
              have L149_n139 : ∀ n139 : Nat, ∀ (h138 : pm_H), (400 - (hs_fI h138 97 15).toInt).toNat = n139 → (hs_fI h138 97 14).toInt ≤ (hs_fI h138 97 15).toInt → (hs_fI h138 97 15).toInt ≤ (hs_fI h138 97 13).toInt → (hs_fI h138 97 14).toInt + 1 ≤ (hs_fI h138 97 15).toInt ∨ ((hs_fI h138 97 15).toInt = (hs_fI h138 97 14).toInt ∧ 97 ≤ (R z10.toInt.toNat).toInt ∧ (R z10.toInt.toNat).toInt ≤ 122) → (hs_fI h138 97 13).toInt = (hs_fI h129 97 13).toInt → (hs_fI h138 97 14).toInt = (hs_fI h129 97 14).toInt → (hs_fI h138 97 16).toInt = (hs_fI h129 97 16).toInt → J h138 → hq_W X d 11 false (none) pm_c172 (149, [some (.ref 97)], [], h138) (fun h' v => J h' ∧ (fun h1 v => v = none ∧ (hs_fI h 97 15).toInt ≤ (hs_fI h1 97 14).toInt ∧ (hs_fI h1 97 14).toInt ≤ (hs_fI h1 97 15).toInt ∧ (hs_fI h1 97 15).toInt ≤ (hs_fI h 97 13).toInt ∧ ((hs_fI h1 97 16).toInt ≠ 0 → (hs_fI h1 97 14).toInt + 1 ≤ (hs_fI h1 97 15).toInt)) h' v) := by
                intro n139
                induction n139 using Nat.strongRecOn with
                | ind n139 ihn139 =>
                  intro h138 mn139 x0n139 x1n139 x2n139 x3n139 x4n139 x5n139 Jh138
                  have Ih138 := H.1 h138 Jh138
                  refine hq_p rfl rfl ?_
                  refine ty_gI Ih138 rfl rfl (by decide) (by decide) rfl rfl (fun z140 ez140 az140 bz140 => ?_)
                  refine hq_p rfl rfl (ty_ge (n := 1) nk_i1 (fun z141 ez141 => ?_))
                  refine ty_ine rfl (fun c142 => ?_) (fun c142 => ?_)
                  · exfalso; omega
                  · refine hq_p rfl rfl ?_
                    refine ty_gI Ih138 rfl rfl (by decide) (by decide) rfl rfl (fun z143 ez143 az143 bz143 => ?_)
                    refine hq_p rfl rfl ?_
                    refine ty_gI Ih138 rfl rfl (by decide) (by decide) rfl rfl (fun z144 ez144 az144 bz144 => ?_)
                    refine ty_ige rfl (fun c145 => ?_) (fun c145 => ?_)
                    · refine hq_p rfl rfl ?_
                      refine ty_gI Ih138 rfl rfl (by decide) (by decide) rfl rfl (fun z147 ez147 az147 bz147 => ?_)
                      refine hq_p rfl rfl (ty_ge (n := 2) nk_i2 (fun z148 ez148 => ?_))
                      refine ty_ine rfl (fun c149 => ?_) (fun c149 => ?_)
                      · clear c149
                        exact hq_W.ret rfl rfl rfl ⟨Jh138, rfl, by omega, by omega, by omega, (fun _ => by rcases x2n139 with q | q <;> omega)⟩
                      · exfalso; omega
                    · refine hq_p rfl rfl ?_
                      refine hq_gR Ih138.1 rfl rfl (by decide) (by decide) rfl ?_
                      refine hq_p rfl rfl ?_
                      refine ty_gI Ih138 rfl rfl (by decide) (by decide) rfl rfl (fun z150 ez150 az150 bz150 => ?_)
                      refine ty_aL Ih138 rfl rfl (by decide) (by omega) (by omega) (fun _ _ => ty_le rfl) (fun z151 ez151 az151 bz151 => ?_)
                      have rrh138 : hs_aI h138 106 = R := by have q := Jh138; rw [eJ] at q; exact q.2
                      refine ty_callp 1 Ih138 rfl (fun _ => rfl) rfl rfl rfl rfl (ct_169n (x0 := z151) (by omega)) (fun _ P152 => ?_)
                      obtain ⟨z153, rfl, dz153⟩ := P152
                      refine ty_zeq rfl (fun c154 => ?_) (fun c154 => ?_)
                      · refine hq_p rfl rfl ?_
                        refine ty_gI Ih138 rfl rfl (by decide) (by decide) rfl rfl (fun z156 ez156 az156 bz156 => ?_)
                        refine hq_p rfl rfl (ty_ge (n := 2) nk_i2 (fun z157 ez157 => ?_))
                        refine ty_ine rfl (fun c158 => ?_) (fun c158 => ?_)
                        · clear c158
                          exact hq_W.ret rfl rfl rfl ⟨Jh138, rfl, by omega, by omega, by omega, (fun _ => by rcases x2n139 with q | q <;> first | omega | (rw [rrh138, show z150.toInt.toNat = z10.toInt.toNat by omega] at ez151; omega))⟩
                        · exfalso; omega
                      · replace c154 : 1 ≤ z153.toInt ∧ z153.toInt ≤ 1 := by omega
                        refine hq_p rfl rfl ?_
                        refine hq_p rfl rfl ?_
                        refine ty_gI Ih138 rfl rfl (by decide) (by decide) rfl rfl (fun z159 ez159 az159 bz159 => ?_)
                        refine hq_p rfl rfl ?_
                        refine ty_gI Ih138 rfl rfl (by decide) (by decide) rfl rfl (fun z160 ez160 az160 bz160 => ?_)
                        refine hq_p rfl rfl (ty_ge (n := z159.toInt - z160.toInt) (nm_sub (by omega) (by omega)) (fun z161 ez161 => ?_))
                        refine hq_p rfl rfl (ty_ge (n := 10) nk_b10 (fun z162 ez162 => ?_))
                        refine ty_ige rfl (fun c163 => ?_) (fun c163 => ?_)
                        · refine hq_p rfl rfl (ty_gle (n := -1) (by decide) (fun z164 ez164 => ?_))
                          refine ty_pL (W := ty_Wn) H Jh138 rfl rfl (by decide) rfl rfl (by unfold ty_Wn; omega) rfl (by omega) (by omega) (fun h165 eh165 Jh165 => ?_)
                          have Ih165 := H.1 h165 Jh165
                          refine hq_p rfl rfl ?_
                          refine hq_p rfl rfl ?_
                          have r167 : (hs_fI h165 97 15).toInt = (hs_fI h138 97 15).toInt := by rw [eh165]; exact congrArg Int32.toInt (ty_fI_sF (by decide))
                          refine ty_gI Ih165 rfl rfl (by decide) (by decide) rfl rfl (fun z166 ez166 az166 bz166 => ?_)
                          refine hq_p rfl rfl (ty_ge (n := 1) nk_i1 (fun z168 ez168 => ?_))
                          refine hq_p rfl rfl (ty_ge (n := z166.toInt + z168.toInt) (nm_add (by omega) (by omega)) (fun z169 ez169 => ?_))
                          refine ty_pI (W := ty_Wn) H Jh165 rfl rfl (by decide) rfl rfl (by unfold ty_Wn; omega) rfl (by omega) (by omega) (fun h170 eh170 Jh170 => ?_)
                          have wh170 : (hs_fI h170 97 15).toInt = z169.toInt := by rw [eh170]; exact congrArg Int32.toInt (ty_fI_eq Ih165.1 rfl (by decide) rfl)
                          have Ih170 := H.1 h170 Jh170
                          refine hq_p rfl rfl ?_
                          have r171 : (hs_fI h165 97 13).toInt = (hs_fI h138 97 13).toInt := by rw [eh165]; exact congrArg Int32.toInt (ty_fI_sF (by decide))
                          have r172 : (hs_fI h170 97 13).toInt = (hs_fI h165 97 13).toInt := by rw [eh170]; exact congrArg Int32.toInt (ty_fI_sF (by decide))
                          have r173 : (hs_fI h165 97 14).toInt = (hs_fI h138 97 14).toInt := by rw [eh165]; exact congrArg Int32.toInt (ty_fI_sF (by decide))
                          have r174 : (hs_fI h170 97 14).toInt = (hs_fI h165 97 14).toInt := by rw [eh170]; exact congrArg Int32.toInt (ty_fI_sF (by decide))
                          have r175 : (hs_fI h165 97 16).toInt = (hs_fI h138 97 16).toInt := by rw [eh165]; exact congrArg Int32.toInt (ty_fI_sF (by decide))
                          have r176 : (hs_fI h170 97 16).toInt = (hs_fI h165 97 16).toInt := by rw [eh170]; exact congrArg Int32.toInt (ty_fI_sF (by decide))
                          exact ihn139 ((400 - (hs_fI h170 97 15).toInt).toNat) (by omega) h170 rfl (by omega) (by omega) (by omega) (by omega) (by omega) (by omega) Jh170
                        · refine hq_p rfl rfl ?_
                          refine ty_gL Ih138 rfl rfl (by decide) (by decide) rfl rfl (fun z177 ez177 az177 bz177 => ?_)
                          refine hq_p rfl rfl (ty_gle (n := 32) (by decide) (fun z178 ez178 => ?_))
                          refine hq_p rfl rfl (ty_gla (fun z179 az179 bz179 => ?_))
                          refine hq_p rfl rfl ?_
                          refine hq_gR Ih138.1 rfl rfl (by decide) (by decide) rfl ?_
                          refine hq_p rfl rfl ?_
                          refine ty_gI Ih138 rfl rfl (by decide) (by decide) rfl rfl (fun z180 ez180 az180 bz180 => ?_)
                          refine ty_aL Ih138 rfl rfl (by decide) (by omega) (by omega) (fun _ _ => ty_le rfl) (fun z181 ez181 az181 bz181 => ?_)
                          refine hq_p rfl rfl (ty_gle (n := z181.toInt) (nm_i2l _) (fun z182 ez182 => ?_))
                          refine hq_p rfl rfl (ty_gla (fun z183 az183 bz183 => ?_))
                          refine hq_p rfl rfl (ty_gle (n := 96) (by decide) (fun z184 ez184 => ?_))
                          refine hq_p rfl rfl (ty_gla (fun z185 az185 bz185 => ?_))
                          refine hq_p rfl rfl ?_
                          refine ty_pL (W := ty_Wn) H Jh138 rfl rfl (by decide) rfl rfl (by unfold ty_Wn; omega) rfl (by omega) (by omega) (fun h186 eh186 Jh186 => ?_)
                          have Ih186 := H.1 h186 Jh186
                          refine hq_p rfl rfl ?_
                          refine hq_p rfl rfl ?_
                          have r188 : (hs_fI h186 97 15).toInt = (hs_fI h138 97 15).toInt := by rw [eh186]; exact congrArg Int32.toInt (ty_fI_sF (by decide))
                          refine ty_gI Ih186 rfl rfl (by decide) (by decide) rfl rfl (fun z187 ez187 az187 bz187 => ?_)
                          refine hq_p rfl rfl (ty_ge (n := 1) nk_i1 (fun z189 ez189 => ?_))
                          refine hq_p rfl rfl (ty_ge (n := z187.toInt + z189.toInt) (nm_add (by omega) (by omega)) (fun z190 ez190 => ?_))
                          refine ty_pI (W := ty_Wn) H Jh186 rfl rfl (by decide) rfl rfl (by unfold ty_Wn; omega) rfl (by omega) (by omega) (fun h191 eh191 Jh191 => ?_)
                          have wh191 : (hs_fI h191 97 15).toInt = z190.toInt := by rw [eh191]; exact congrArg Int32.toInt (ty_fI_eq Ih186.1 rfl (by decide) rfl)
                          have Ih191 := H.1 h191 Jh191
                          refine hq_p rfl rfl ?_
                          have r192 : (hs_fI h186 97 13).toInt = (hs_fI h138 97 13).toInt := by rw [eh186]; exact congrArg Int32.toInt (ty_fI_sF (by decide))
                          have r193 : (hs_fI h191 97 13).toInt = (hs_fI h186 97 13).toInt := by rw [eh191]; exact congrArg Int32.toInt (ty_fI_sF (by decide))
                          have r194 : (hs_fI h186 97 14).toInt = (hs_fI h138 97 14).toInt := by rw [eh186]; exact congrArg Int32.toInt (ty_fI_sF (by decide))
                          have r195 : (hs_fI h191 97 14).toInt = (hs_fI h186 97 14).toInt := by rw [eh191]; exact congrArg Int32.toInt (ty_fI_sF (by decide))
                          have r196 : (hs_fI h186 97 16).toInt = (hs_fI h138 97 16).toInt := by rw [eh186]; exact congrArg Int32.toInt (ty_fI_sF (by decide))
                          have r197 : (hs_fI h191 97 16).toInt = (hs_fI h186 97 16).toInt := by rw [eh191]; exact congrArg Int32.toInt (ty_fI_sF (by decide))
                          exact ihn139 ((400 - (hs_fI h191 97 15).toInt).toNat) (by omega) h191 rfl (by omega) (by omega) (by omega) (by omega) (by omega) (by omega) Jh191
              exact L149_n139 _ h129 rfl (by omega) (by omega) (by omega) (by omega) (by omega) (by omega) Jh129
            · exfalso; omega
        · refine hq_p rfl rfl (ty_ge (n := 0) nk_i0 (fun z198 ez198 => ?_))
          refine hq_p rfl rfl ?_
          refine ty_pI (W := ty_Wn) H Jh13 rfl rfl (by decide) rfl rfl (by unfold ty_Wn; omega) rfl (by omega) (by omega) (fun h199 eh199 Jh199 => ?_)
          have wh199 : (hs_fI h199 97 16).toInt = z198.toInt := by rw [eh199]; exact congrArg Int32.toInt (ty_fI_eq Ih13.1 rfl (by decide) rfl)
          have Ih199 := H.1 h199 Jh199
          refine hq_p rfl rfl ?_
          refine ty_gI Ih199 rfl rfl (by decide) (by decide) rfl rfl (fun z200 ez200 az200 bz200 => ?_)
          refine hq_p rfl rfl (ty_ge (n := 3) nk_i3 (fun z201 ez201 => ?_))
          refine ty_ine rfl (fun c202 => ?_) (fun c202 => ?_)
          · clear c202
            have r203 : (hs_fI h199 97 13).toInt = (hs_fI h13 97 13).toInt := by rw [eh199]; exact congrArg Int32.toInt (ty_fI_sF (by decide))
            have r204 : (hs_fI h199 97 14).toInt = (hs_fI h13 97 14).toInt := by rw [eh199]; exact congrArg Int32.toInt (ty_fI_sF (by decide))
            have r205 : (hs_fI h13 97 15).toInt = (hs_fI h11 97 15).toInt := by rw [eh13]; exact congrArg Int32.toInt (ty_fI_sF (by decide))
            have r206 : (hs_fI h199 97 15).toInt = (hs_fI h13 97 15).toInt := by rw [eh199]; exact congrArg Int32.toInt (ty_fI_sF (by decide))
            refine hq_p rfl rfl ?_
            refine ty_gI Ih199 rfl rfl (by decide) (by decide) rfl rfl (fun z208 ez208 az208 bz208 => ?_)
            refine hq_p rfl rfl (ty_ge (n := 1) nk_i1 (fun z209 ez209 => ?_))
            refine ty_ine rfl (fun c210 => ?_) (fun c210 => ?_)
            · clear c210
              refine hq_p rfl rfl ?_
              refine ty_gI Ih199 rfl rfl (by decide) (by decide) rfl rfl (fun z212 ez212 az212 bz212 => ?_)
              refine hq_p rfl rfl (ty_ge (n := 2) nk_i2 (fun z213 ez213 => ?_))
              refine ty_ine rfl (fun c214 => ?_) (fun c214 => ?_)
              · clear c214
                exact hq_W.ret rfl rfl rfl ⟨Jh199, rfl, by omega, by omega, by omega, (fun _ => by omega)⟩
              · exfalso; omega
            · exfalso; omega
          · exfalso; omega
      · refine hq_p rfl rfl ?_
        refine hq_gR Ih5.1 rfl rfl (by decide) (by decide) rfl ?_
        refine hq_p rfl rfl ?_
        refine ty_gI Ih5 rfl rfl (by decide) (by decide) rfl rfl (fun z215 ez215 az215 bz215 => ?_)
        refine ty_aL Ih5 rfl rfl (by decide) (by omega) (by omega) (fun _ _ => ty_le rfl) (fun z216 ez216 az216 bz216 => ?_)
        refine hq_p rfl rfl (ty_ge (n := 32) nk_b32 (fun z217 ez217 => ?_))
        refine ty_ine rfl (fun c218 => ?_) (fun c218 => ?_)
        · clear c218
          refine hq_p rfl rfl ?_
          refine hq_p rfl rfl ?_
          refine ty_gI Ih5 rfl rfl (by decide) (by decide) rfl rfl (fun z219 ez219 az219 bz219 => ?_)
          refine ty_pI (W := ty_Wn) H Jh5 rfl rfl (by decide) rfl rfl (by unfold ty_Wn; omega) rfl (by omega) (by omega) (fun h220 eh220 Jh220 => ?_)
          have wh220 : (hs_fI h220 97 15).toInt = z219.toInt := by rw [eh220]; exact congrArg Int32.toInt (ty_fI_eq Ih5.1 rfl (by decide) rfl)
          have Ih220 := H.1 h220 Jh220
          refine hq_p rfl rfl ?_
          refine hq_p rfl rfl (ty_gle (n := 0) (by decide) (fun z221 ez221 => ?_))
          refine ty_pL (W := ty_Wn) H Jh220 rfl rfl (by decide) rfl rfl (by unfold ty_Wn; omega) rfl (by omega) (by omega) (fun h222 eh222 Jh222 => ?_)
          have Ih222 := H.1 h222 Jh222
          refine hq_p rfl rfl ?_
          refine hq_p rfl rfl ?_
          have r224 : (hs_fI h220 97 14).toInt = (hs_fI h5 97 14).toInt := by rw [eh220]; exact congrArg Int32.toInt (ty_fI_sF (by decide))
          have r225 : (hs_fI h222 97 14).toInt = (hs_fI h220 97 14).toInt := by rw [eh222]; exact congrArg Int32.toInt (ty_fI_sF (by decide))
          refine ty_gI Ih222 rfl rfl (by decide) (by decide) rfl rfl (fun z223 ez223 az223 bz223 => ?_)
          refine hq_p rfl rfl ?_
          have r227 : (hs_fI h220 97 13).toInt = (hs_fI h5 97 13).toInt := by rw [eh220]; exact congrArg Int32.toInt (ty_fI_sF (by decide))
          have r228 : (hs_fI h222 97 13).toInt = (hs_fI h220 97 13).toInt := by rw [eh222]; exact congrArg Int32.toInt (ty_fI_sF (by decide))
          refine ty_gI Ih222 rfl rfl (by decide) (by decide) rfl rfl (fun z226 ez226 az226 bz226 => ?_)
          refine ty_ine rfl (fun c229 => ?_) (fun c229 => ?_)
          · replace c229 : z223.toInt < z226.toInt := by omega
            refine hq_p rfl rfl ?_
            refine hq_gR Ih222.1 rfl rfl (by decide) (by decide) rfl ?_
            refine hq_p rfl rfl ?_
            refine ty_gI Ih222 rfl rfl (by decide) (by decide) rfl rfl (fun z230 ez230 az230 bz230 => ?_)
            refine ty_aL Ih222 rfl rfl (by decide) (by omega) (by omega) (fun _ _ => ty_le rfl) (fun z231 ez231 az231 bz231 => ?_)
            refine ty_callp 1 Ih222 rfl (fun _ => rfl) rfl rfl rfl rfl (ct_169n (x0 := z231) (by omega)) (fun _ P232 => ?_)
            obtain ⟨z233, rfl, dz233⟩ := P232
            refine ty_zeq rfl (fun c234 => ?_) (fun c234 => ?_)
            · refine hq_p rfl rfl ?_
              refine hq_gR Ih222.1 rfl rfl (by decide) (by decide) rfl ?_
              refine hq_p rfl rfl ?_
              refine ty_gI Ih222 rfl rfl (by decide) (by decide) rfl rfl (fun z235 ez235 az235 bz235 => ?_)
              refine ty_aL Ih222 rfl rfl (by decide) (by omega) (by omega) (fun _ _ => ty_le rfl) (fun z236 ez236 az236 bz236 => ?_)
              refine ty_callp 1 Ih222 rfl (fun _ => rfl) rfl rfl rfl rfl (ct_170n (x0 := z236) (by omega)) (fun _ P237 => ?_)
              obtain ⟨z238, rfl, dz238⟩ := P237
              refine ty_zeq rfl (fun c239 => ?_) (fun c239 => ?_)
              · refine hq_p rfl rfl (ty_ge (n := 3) nk_i3 (fun z240 ez240 => ?_))
                refine ty_pI (W := ty_Wn) H Jh222 rfl rfl (by decide) rfl rfl (by unfold ty_Wn; omega) rfl (by omega) (by omega) (fun h241 eh241 Jh241 => ?_)
                have wh241 : (hs_fI h241 97 16).toInt = z240.toInt := by rw [eh241]; exact congrArg Int32.toInt (ty_fI_eq Ih222.1 rfl (by decide) rfl)
                have Ih241 := H.1 h241 Jh241
                refine hq_p rfl rfl ?_
                refine ty_gI Ih241 rfl rfl (by decide) (by decide) rfl rfl (fun z242 ez242 az242 bz242 => ?_)
                refine hq_p rfl rfl (ty_ge (n := 3) nk_i3 (fun z243 ez243 => ?_))
                refine ty_ine rfl (fun c244 => ?_) (fun c244 => ?_)
                · exfalso; omega
                · refine hq_p rfl rfl ?_
                  refine hq_p rfl rfl ?_
                  refine hq_gR Ih241.1 rfl rfl (by decide) (by decide) rfl ?_
                  refine hq_p rfl rfl ?_
                  have r246 : (hs_fI h241 97 14).toInt = (hs_fI h222 97 14).toInt := by rw [eh241]; exact congrArg Int32.toInt (ty_fI_sF (by decide))
                  refine ty_gI Ih241 rfl rfl (by decide) (by decide) rfl rfl (fun z245 ez245 az245 bz245 => ?_)
                  refine ty_aL Ih241 rfl rfl (by decide) (by omega) (by omega) (fun _ _ => ty_le rfl) (fun z247 ez247 az247 bz247 => ?_)
                  refine hq_p rfl rfl (ty_gle (n := z247.toInt) (nm_i2l _) (fun z248 ez248 => ?_))
                  refine ty_pL (W := ty_Wn) H Jh241 rfl rfl (by decide) rfl rfl (by unfold ty_Wn; omega) rfl (by omega) (by omega) (fun h249 eh249 Jh249 => ?_)
                  have Ih249 := H.1 h249 Jh249
                  refine hq_p rfl rfl ?_
                  refine hq_p rfl rfl ?_
                  have r251 : (hs_fI h222 97 15).toInt = (hs_fI h220 97 15).toInt := by rw [eh222]; exact congrArg Int32.toInt (ty_fI_sF (by decide))
                  have r252 : (hs_fI h241 97 15).toInt = (hs_fI h222 97 15).toInt := by rw [eh241]; exact congrArg Int32.toInt (ty_fI_sF (by decide))
                  have r253 : (hs_fI h249 97 15).toInt = (hs_fI h241 97 15).toInt := by rw [eh249]; exact congrArg Int32.toInt (ty_fI_sF (by decide))
                  refine ty_gI Ih249 rfl rfl (by decide) (by decide) rfl rfl (fun z250 ez250 az250 bz250 => ?_)
                  refine hq_p rfl rfl (ty_ge (n := 1) nk_i1 (fun z254 ez254 => ?_))
                  refine hq_p rfl rfl (ty_ge (n := z250.toInt + z254.toInt) (nm_add (by omega) (by omega)) (fun z255 ez255 => ?_))
                  refine ty_pI (W := ty_Wn) H Jh249 rfl rfl (by decide) rfl rfl (by unfold ty_Wn; omega) rfl (by omega) (by omega) (fun h256 eh256 Jh256 => ?_)
                  have wh256 : (hs_fI h256 97 15).toInt = z255.toInt := by rw [eh256]; exact congrArg Int32.toInt (ty_fI_eq Ih249.1 rfl (by decide) rfl)
                  have Ih256 := H.1 h256 Jh256
                  have r257 : (hs_fI h241 97 13).toInt = (hs_fI h222 97 13).toInt := by rw [eh241]; exact congrArg Int32.toInt (ty_fI_sF (by decide))
                  have r258 : (hs_fI h249 97 13).toInt = (hs_fI h241 97 13).toInt := by rw [eh249]; exact congrArg Int32.toInt (ty_fI_sF (by decide))
                  have r259 : (hs_fI h256 97 13).toInt = (hs_fI h249 97 13).toInt := by rw [eh256]; exact congrArg Int32.toInt (ty_fI_sF (by decide))
                  have r260 : (hs_fI h249 97 14).toInt = (hs_fI h241 97 14).toInt := by rw [eh249]; exact congrArg Int32.toInt (ty_fI_sF (by decide))
                  have r261 : (hs_fI h256 97 14).toInt = (hs_fI h249 97 14).toInt := by rw [eh256]; exact congrArg Int32.toInt (ty_fI_sF (by decide))
                  have r262 : (hs_fI h249 97 16).toInt = (hs_fI h241 97 16).toInt := by rw [eh249]; exact congrArg Int32.toInt (ty_fI_sF (by decide))
                  have r263 : (hs_fI h256 97 16).toInt = (hs_fI h249 97 16).toInt := by rw [eh256]; exact congrArg Int32.toInt (ty_fI_sF (by decide))
                  refine hq_p rfl rfl ?_
                  refine ty_gI Ih256 rfl rfl (by decide) (by decide) rfl rfl (fun z265 ez265 az265 bz265 => ?_)
                  refine hq_p rfl rfl (ty_ge (n := 1) nk_i1 (fun z266 ez266 => ?_))
                  refine ty_ine rfl (fun c267 => ?_) (fun c267 => ?_)
                  · clear c267
                    refine hq_p rfl rfl ?_
                    refine ty_gI Ih256 rfl rfl (by decide) (by decide) rfl rfl (fun z269 ez269 az269 bz269 => ?_)
                    refine hq_p rfl rfl (ty_ge (n := 2) nk_i2 (fun z270 ez270 => ?_))
                    refine ty_ine rfl (fun c271 => ?_) (fun c271 => ?_)
                    · clear c271
                      exact hq_W.ret rfl rfl rfl ⟨Jh256, rfl, by omega, by omega, by omega, (fun _ => by omega)⟩
                    · exfalso; omega
                  · exfalso; omega
              · replace c239 : 1 ≤ z238.toInt ∧ z238.toInt ≤ 1 := by omega
                have rrh222 : hs_aI h222 106 = R := by have q := Jh222; rw [eJ] at q; exact q.2
                have sm : 48 ≤ (R z219.toInt.toNat).toInt ∧ (R z219.toInt.toNat).toInt ≤ 57 := by rw [rrh222, show z235.toInt.toNat = z219.toInt.toNat by omega] at ez236; omega
                refine hq_p rfl rfl (ty_ge (n := 2) nk_i2 (fun z272 ez272 => ?_))
                refine hq_p rfl rfl ?_
                refine ty_pI (W := ty_Wn) H Jh222 rfl rfl (by decide) rfl rfl (by unfold ty_Wn; omega) rfl (by omega) (by omega) (fun h273 eh273 Jh273 => ?_)
                have wh273 : (hs_fI h273 97 16).toInt = z272.toInt := by rw [eh273]; exact congrArg Int32.toInt (ty_fI_eq Ih222.1 rfl (by decide) rfl)
                have Ih273 := H.1 h273 Jh273
                refine hq_p rfl rfl ?_
                refine ty_gI Ih273 rfl rfl (by decide) (by decide) rfl rfl (fun z274 ez274 az274 bz274 => ?_)
                refine hq_p rfl rfl (ty_ge (n := 3) nk_i3 (fun z275 ez275 => ?_))
                refine ty_ine rfl (fun c276 => ?_) (fun c276 => ?_)
                · clear c276
                  have r277 : (hs_fI h273 97 13).toInt = (hs_fI h222 97 13).toInt := by rw [eh273]; exact congrArg Int32.toInt (ty_fI_sF (by decide))
                  have r278 : (hs_fI h273 97 14).toInt = (hs_fI h222 97 14).toInt := by rw [eh273]; exact congrArg Int32.toInt (ty_fI_sF (by decide))
                  have r279 : (hs_fI h222 97 15).toInt = (hs_fI h220 97 15).toInt := by rw [eh222]; exact congrArg Int32.toInt (ty_fI_sF (by decide))
                  have r280 : (hs_fI h273 97 15).toInt = (hs_fI h222 97 15).toInt := by rw [eh273]; exact congrArg Int32.toInt (ty_fI_sF (by decide))
                  refine hq_p rfl rfl ?_
                  refine ty_gI Ih273 rfl rfl (by decide) (by decide) rfl rfl (fun z282 ez282 az282 bz282 => ?_)
                  refine hq_p rfl rfl (ty_ge (n := 1) nk_i1 (fun z283 ez283 => ?_))
                  refine ty_ine rfl (fun c284 => ?_) (fun c284 => ?_)
                  · clear c284
                    have L243_n287 : ∀ n287 : Nat, ∀ (h286 : pm_H), (400 - (hs_fI h286 97 15).toInt).toNat = n287 → (hs_fI h286 97 14).toInt ≤ (hs_fI h286 97 15).toInt → (hs_fI h286 97 15).toInt ≤ (hs_fI h286 97 13).toInt → (hs_fI h286 97 14).toInt + 1 ≤ (hs_fI h286 97 15).toInt ∨ ((hs_fI h286 97 15).toInt = (hs_fI h286 97 14).toInt ∧ 48 ≤ (R z219.toInt.toNat).toInt ∧ (R z219.toInt.toNat).toInt ≤ 57) → (hs_fI h286 97 13).toInt = (hs_fI h273 97 13).toInt → (hs_fI h286 97 14).toInt = (hs_fI h273 97 14).toInt → (hs_fI h286 97 16).toInt = (hs_fI h273 97 16).toInt → J h286 → hq_W X d 11 false (none) pm_c172 (243, [some (.ref 97)], [], h286) (fun h' v => J h' ∧ (fun h1 v => v = none ∧ (hs_fI h 97 15).toInt ≤ (hs_fI h1 97 14).toInt ∧ (hs_fI h1 97 14).toInt ≤ (hs_fI h1 97 15).toInt ∧ (hs_fI h1 97 15).toInt ≤ (hs_fI h 97 13).toInt ∧ ((hs_fI h1 97 16).toInt ≠ 0 → (hs_fI h1 97 14).toInt + 1 ≤ (hs_fI h1 97 15).toInt)) h' v) := by
                      intro n287
                      induction n287 using Nat.strongRecOn with
                      | ind n287 ihn287 =>
                        intro h286 mn287 x0n287 x1n287 x2n287 x3n287 x4n287 x5n287 Jh286
                        have Ih286 := H.1 h286 Jh286
                        refine hq_p rfl rfl ?_
                        refine ty_gI Ih286 rfl rfl (by decide) (by decide) rfl rfl (fun z288 ez288 az288 bz288 => ?_)
                        refine hq_p rfl rfl (ty_ge (n := 2) nk_i2 (fun z289 ez289 => ?_))
                        refine ty_ine rfl (fun c290 => ?_) (fun c290 => ?_)
                        · exfalso; omega
                        · refine hq_p rfl rfl ?_
                          refine ty_gI Ih286 rfl rfl (by decide) (by decide) rfl rfl (fun z291 ez291 az291 bz291 => ?_)
                          refine hq_p rfl rfl ?_
                          refine ty_gI Ih286 rfl rfl (by decide) (by decide) rfl rfl (fun z292 ez292 az292 bz292 => ?_)
                          refine ty_ige rfl (fun c293 => ?_) (fun c293 => ?_)
                          · exact hq_W.ret rfl rfl rfl ⟨Jh286, rfl, by omega, by omega, by omega, (fun _ => by rcases x2n287 with q | q <;> omega)⟩
                          · refine hq_p rfl rfl ?_
                            refine hq_gR Ih286.1 rfl rfl (by decide) (by decide) rfl ?_
                            refine hq_p rfl rfl ?_
                            refine ty_gI Ih286 rfl rfl (by decide) (by decide) rfl rfl (fun z294 ez294 az294 bz294 => ?_)
                            refine ty_aL Ih286 rfl rfl (by decide) (by omega) (by omega) (fun _ _ => ty_le rfl) (fun z295 ez295 az295 bz295 => ?_)
                            have rrh286 : hs_aI h286 106 = R := by have q := Jh286; rw [eJ] at q; exact q.2
                            refine ty_callp 1 Ih286 rfl (fun _ => rfl) rfl rfl rfl rfl (ct_170n (x0 := z295) (by omega)) (fun _ P296 => ?_)
                            obtain ⟨z297, rfl, dz297⟩ := P296
                            refine ty_zeq rfl (fun c298 => ?_) (fun c298 => ?_)
                            · exact hq_W.ret rfl rfl rfl ⟨Jh286, rfl, by omega, by omega, by omega, (fun _ => by rcases x2n287 with q | q <;> first | omega | (rw [rrh286, show z294.toInt.toNat = z219.toInt.toNat by omega] at ez295; omega))⟩
                            · replace c298 : 1 ≤ z297.toInt ∧ z297.toInt ≤ 1 := by omega
                              refine hq_p rfl rfl ?_
                              refine hq_p rfl rfl ?_
                              refine ty_gL Ih286 rfl rfl (by decide) (by decide) rfl rfl (fun z299 ez299 az299 bz299 => ?_)
                              refine hq_p rfl rfl (ty_gle (n := 1000000) (by decide) (fun z300 ez300 => ?_))
                              refine hq_p rfl rfl (ty_gc (fun z301 ez301 => ?_))
                              refine ty_zle rfl (fun c302 => ?_) (fun c302 => ?_)
                              · replace ez301 : z299.toInt ≤ z300.toInt := by omega
                                clear c302
                                refine hq_p rfl rfl ?_
                                refine ty_gL Ih286 rfl rfl (by decide) (by decide) rfl rfl (fun z303 ez303 az303 bz303 => ?_)
                                refine hq_p rfl rfl (ty_gle (n := 10) (by decide) (fun z304 ez304 => ?_))
                                refine hq_p rfl rfl (ty_gla (fun z305 az305 bz305 => ?_))
                                refine hq_p rfl rfl ?_
                                refine hq_gR Ih286.1 rfl rfl (by decide) (by decide) rfl ?_
                                refine hq_p rfl rfl ?_
                                refine ty_gI Ih286 rfl rfl (by decide) (by decide) rfl rfl (fun z306 ez306 az306 bz306 => ?_)
                                refine ty_aL Ih286 rfl rfl (by decide) (by omega) (by omega) (fun _ _ => ty_le rfl) (fun z307 ez307 az307 bz307 => ?_)
                                refine hq_p rfl rfl (ty_gle (n := z307.toInt) (nm_i2l _) (fun z308 ez308 => ?_))
                                refine hq_p rfl rfl (ty_gla (fun z309 az309 bz309 => ?_))
                                refine hq_p rfl rfl (ty_gle (n := 48) (by decide) (fun z310 ez310 => ?_))
                                refine hq_p rfl rfl (ty_gla (fun z311 az311 bz311 => ?_))
                                refine ty_pL (W := ty_Wn) H Jh286 rfl rfl (by decide) rfl rfl (by unfold ty_Wn; omega) rfl (by omega) (by omega) (fun h312 eh312 Jh312 => ?_)
                                have Ih312 := H.1 h312 Jh312
                                refine hq_p rfl rfl ?_
                                refine hq_p rfl rfl ?_
                                have r314 : (hs_fI h312 97 15).toInt = (hs_fI h286 97 15).toInt := by rw [eh312]; exact congrArg Int32.toInt (ty_fI_sF (by decide))
                                refine ty_gI Ih312 rfl rfl (by decide) (by decide) rfl rfl (fun z313 ez313 az313 bz313 => ?_)
                                refine hq_p rfl rfl (ty_ge (n := 1) nk_i1 (fun z315 ez315 => ?_))
                                refine hq_p rfl rfl (ty_ge (n := z313.toInt + z315.toInt) (nm_add (by omega) (by omega)) (fun z316 ez316 => ?_))
                                refine ty_pI (W := ty_Wn) H Jh312 rfl rfl (by decide) rfl rfl (by unfold ty_Wn; omega) rfl (by omega) (by omega) (fun h317 eh317 Jh317 => ?_)
                                have wh317 : (hs_fI h317 97 15).toInt = z316.toInt := by rw [eh317]; exact congrArg Int32.toInt (ty_fI_eq Ih312.1 rfl (by decide) rfl)
                                have Ih317 := H.1 h317 Jh317
                                refine hq_p rfl rfl ?_
                                have r318 : (hs_fI h312 97 13).toInt = (hs_fI h286 97 13).toInt := by rw [eh312]; exact congrArg Int32.toInt (ty_fI_sF (by decide))
                                have r319 : (hs_fI h317 97 13).toInt = (hs_fI h312 97 13).toInt := by rw [eh317]; exact congrArg Int32.toInt (ty_fI_sF (by decide))
                                have r320 : (hs_fI h312 97 14).toInt = (hs_fI h286 97 14).toInt := by rw [eh312]; exact congrArg Int32.toInt (ty_fI_sF (by decide))
                                have r321 : (hs_fI h317 97 14).toInt = (hs_fI h312 97 14).toInt := by rw [eh317]; exact congrArg Int32.toInt (ty_fI_sF (by decide))
                                have r322 : (hs_fI h312 97 16).toInt = (hs_fI h286 97 16).toInt := by rw [eh312]; exact congrArg Int32.toInt (ty_fI_sF (by decide))
                                have r323 : (hs_fI h317 97 16).toInt = (hs_fI h312 97 16).toInt := by rw [eh317]; exact congrArg Int32.toInt (ty_fI_sF (by decide))
                                exact ihn287 ((400 - (hs_fI h317 97 15).toInt).toNat) (by omega) h317 rfl (by omega) (by omega) (by omega) (by omega) (by omega) (by omega) Jh317
                              · replace ez301 : z299.toInt > z300.toInt := by omega
                                clear c302
                                refine hq_p rfl rfl ?_
                                refine ty_gL Ih286 rfl rfl (by decide) (by decide) rfl rfl (fun z324 ez324 az324 bz324 => ?_)
                                refine hq_p rfl rfl ?_
                                refine ty_pL (W := ty_Wn) H Jh286 rfl rfl (by decide) rfl rfl (by unfold ty_Wn; omega) rfl (by omega) (by omega) (fun h325 eh325 Jh325 => ?_)
                                have Ih325 := H.1 h325 Jh325
                                refine hq_p rfl rfl ?_
                                refine hq_p rfl rfl ?_
                                have r327 : (hs_fI h325 97 15).toInt = (hs_fI h286 97 15).toInt := by rw [eh325]; exact congrArg Int32.toInt (ty_fI_sF (by decide))
                                refine ty_gI Ih325 rfl rfl (by decide) (by decide) rfl rfl (fun z326 ez326 az326 bz326 => ?_)
                                refine hq_p rfl rfl (ty_ge (n := 1) nk_i1 (fun z328 ez328 => ?_))
                                refine hq_p rfl rfl (ty_ge (n := z326.toInt + z328.toInt) (nm_add (by omega) (by omega)) (fun z329 ez329 => ?_))
                                refine ty_pI (W := ty_Wn) H Jh325 rfl rfl (by decide) rfl rfl (by unfold ty_Wn; omega) rfl (by omega) (by omega) (fun h330 eh330 Jh330 => ?_)
                                have wh330 : (hs_fI h330 97 15).toInt = z329.toInt := by rw [eh330]; exact congrArg Int32.toInt (ty_fI_eq Ih325.1 rfl (by decide) rfl)
                                have Ih330 := H.1 h330 Jh330
                                refine hq_p rfl rfl ?_
                                have r331 : (hs_fI h325 97 13).toInt = (hs_fI h286 97 13).toInt := by rw [eh325]; exact congrArg Int32.toInt (ty_fI_sF (by decide))
                                have r332 : (hs_fI h330 97 13).toInt = (hs_fI h325 97 13).toInt := by rw [eh330]; exact congrArg Int32.toInt (ty_fI_sF (by decide))
                                have r333 : (hs_fI h325 97 14).toInt = (hs_fI h286 97 14).toInt := by rw [eh325]; exact congrArg Int32.toInt (ty_fI_sF (by decide))
                                have r334 : (hs_fI h330 97 14).toInt = (hs_fI h325 97 14).toInt := by rw [eh330]; exact congrArg Int32.toInt (ty_fI_sF (by decide))
                                have r335 : (hs_fI h325 97 16).toInt = (hs_fI h286 97 16).toInt := by rw [eh325]; exact congrArg Int32.toInt (ty_fI_sF (by decide))
                                have r336 : (hs_fI h330 97 16).toInt = (hs_fI h325 97 16).toInt := by rw [eh330]; exact congrArg Int32.toInt (ty_fI_sF (by decide))
                                exact ihn287 ((400 - (hs_fI h330 97 15).toInt).toNat) (by omega) h330 rfl (by omega) (by omega) (by omega) (by omega) (by omega) (by omega) Jh330
                    exact L243_n287 _ h273 rfl (by omega) (by omega) (by omega) (by omega) (by omega) (by omega) Jh273
                  · exfalso; omega
                · exfalso; omega
            · replace c234 : 1 ≤ z233.toInt ∧ z233.toInt ≤ 1 := by omega
              have rrh222 : hs_aI h222 106 = R := by have q := Jh222; rw [eJ] at q; exact q.2
              have sm : 97 ≤ (R z219.toInt.toNat).toInt ∧ (R z219.toInt.toNat).toInt ≤ 122 := by rw [rrh222, show z230.toInt.toNat = z219.toInt.toNat by omega] at ez231; omega
              refine hq_p rfl rfl (ty_ge (n := 1) nk_i1 (fun z337 ez337 => ?_))
              refine hq_p rfl rfl ?_
              refine ty_pI (W := ty_Wn) H Jh222 rfl rfl (by decide) rfl rfl (by unfold ty_Wn; omega) rfl (by omega) (by omega) (fun h338 eh338 Jh338 => ?_)
              have wh338 : (hs_fI h338 97 16).toInt = z337.toInt := by rw [eh338]; exact congrArg Int32.toInt (ty_fI_eq Ih222.1 rfl (by decide) rfl)
              have Ih338 := H.1 h338 Jh338
              refine hq_p rfl rfl ?_
              refine ty_gI Ih338 rfl rfl (by decide) (by decide) rfl rfl (fun z339 ez339 az339 bz339 => ?_)
              refine hq_p rfl rfl (ty_ge (n := 3) nk_i3 (fun z340 ez340 => ?_))
              refine ty_ine rfl (fun c341 => ?_) (fun c341 => ?_)
              · clear c341
                have r342 : (hs_fI h338 97 13).toInt = (hs_fI h222 97 13).toInt := by rw [eh338]; exact congrArg Int32.toInt (ty_fI_sF (by decide))
                have r343 : (hs_fI h338 97 14).toInt = (hs_fI h222 97 14).toInt := by rw [eh338]; exact congrArg Int32.toInt (ty_fI_sF (by decide))
                have r344 : (hs_fI h222 97 15).toInt = (hs_fI h220 97 15).toInt := by rw [eh222]; exact congrArg Int32.toInt (ty_fI_sF (by decide))
                have r345 : (hs_fI h338 97 15).toInt = (hs_fI h222 97 15).toInt := by rw [eh338]; exact congrArg Int32.toInt (ty_fI_sF (by decide))
                have L149_n348 : ∀ n348 : Nat, ∀ (h347 : pm_H), (400 - (hs_fI h347 97 15).toInt).toNat = n348 → (hs_fI h347 97 14).toInt ≤ (hs_fI h347 97 15).toInt → (hs_fI h347 97 15).toInt ≤ (hs_fI h347 97 13).toInt → (hs_fI h347 97 14).toInt + 1 ≤ (hs_fI h347 97 15).toInt ∨ ((hs_fI h347 97 15).toInt = (hs_fI h347 97 14).toInt ∧ 97 ≤ (R z219.toInt.toNat).toInt ∧ (R z219.toInt.toNat).toInt ≤ 122) → (hs_fI h347 97 13).toInt = (hs_fI h338 97 13).toInt → (hs_fI h347 97 14).toInt = (hs_fI h338 97 14).toInt → (hs_fI h347 97 16).toInt = (hs_fI h338 97 16).toInt → J h347 → hq_W X d 11 false (none) pm_c172 (149, [some (.ref 97)], [], h347) (fun h' v => J h' ∧ (fun h1 v => v = none ∧ (hs_fI h 97 15).toInt ≤ (hs_fI h1 97 14).toInt ∧ (hs_fI h1 97 14).toInt ≤ (hs_fI h1 97 15).toInt ∧ (hs_fI h1 97 15).toInt ≤ (hs_fI h 97 13).toInt ∧ ((hs_fI h1 97 16).toInt ≠ 0 → (hs_fI h1 97 14).toInt + 1 ≤ (hs_fI h1 97 15).toInt)) h' v) := by
                  intro n348
                  induction n348 using Nat.strongRecOn with
                  | ind n348 ihn348 =>
                    intro h347 mn348 x0n348 x1n348 x2n348 x3n348 x4n348 x5n348 Jh347
                    have Ih347 := H.1 h347 Jh347
                    refine hq_p rfl rfl ?_
                    refine ty_gI Ih347 rfl rfl (by decide) (by decide) rfl rfl (fun z349 ez349 az349 bz349 => ?_)
                    refine hq_p rfl rfl (ty_ge (n := 1) nk_i1 (fun z350 ez350 => ?_))
                    refine ty_ine rfl (fun c351 => ?_) (fun c351 => ?_)
                    · exfalso; omega
                    · refine hq_p rfl rfl ?_
                      refine ty_gI Ih347 rfl rfl (by decide) (by decide) rfl rfl (fun z352 ez352 az352 bz352 => ?_)
                      refine hq_p rfl rfl ?_
                      refine ty_gI Ih347 rfl rfl (by decide) (by decide) rfl rfl (fun z353 ez353 az353 bz353 => ?_)
                      refine ty_ige rfl (fun c354 => ?_) (fun c354 => ?_)
                      · refine hq_p rfl rfl ?_
                        refine ty_gI Ih347 rfl rfl (by decide) (by decide) rfl rfl (fun z356 ez356 az356 bz356 => ?_)
                        refine hq_p rfl rfl (ty_ge (n := 2) nk_i2 (fun z357 ez357 => ?_))
                        refine ty_ine rfl (fun c358 => ?_) (fun c358 => ?_)
                        · clear c358
                          exact hq_W.ret rfl rfl rfl ⟨Jh347, rfl, by omega, by omega, by omega, (fun _ => by rcases x2n348 with q | q <;> omega)⟩
                        · exfalso; omega
                      · refine hq_p rfl rfl ?_
                        refine hq_gR Ih347.1 rfl rfl (by decide) (by decide) rfl ?_
                        refine hq_p rfl rfl ?_
                        refine ty_gI Ih347 rfl rfl (by decide) (by decide) rfl rfl (fun z359 ez359 az359 bz359 => ?_)
                        refine ty_aL Ih347 rfl rfl (by decide) (by omega) (by omega) (fun _ _ => ty_le rfl) (fun z360 ez360 az360 bz360 => ?_)
                        have rrh347 : hs_aI h347 106 = R := by have q := Jh347; rw [eJ] at q; exact q.2
                        refine ty_callp 1 Ih347 rfl (fun _ => rfl) rfl rfl rfl rfl (ct_169n (x0 := z360) (by omega)) (fun _ P361 => ?_)
                        obtain ⟨z362, rfl, dz362⟩ := P361
                        refine ty_zeq rfl (fun c363 => ?_) (fun c363 => ?_)
                        · refine hq_p rfl rfl ?_
                          refine ty_gI Ih347 rfl rfl (by decide) (by decide) rfl rfl (fun z365 ez365 az365 bz365 => ?_)
                          refine hq_p rfl rfl (ty_ge (n := 2) nk_i2 (fun z366 ez366 => ?_))
                          refine ty_ine rfl (fun c367 => ?_) (fun c367 => ?_)
                          · clear c367
                            exact hq_W.ret rfl rfl rfl ⟨Jh347, rfl, by omega, by omega, by omega, (fun _ => by rcases x2n348 with q | q <;> first | omega | (rw [rrh347, show z359.toInt.toNat = z219.toInt.toNat by omega] at ez360; omega))⟩
                          · exfalso; omega
                        · replace c363 : 1 ≤ z362.toInt ∧ z362.toInt ≤ 1 := by omega
                          refine hq_p rfl rfl ?_
                          refine hq_p rfl rfl ?_
                          refine ty_gI Ih347 rfl rfl (by decide) (by decide) rfl rfl (fun z368 ez368 az368 bz368 => ?_)
                          refine hq_p rfl rfl ?_
                          refine ty_gI Ih347 rfl rfl (by decide) (by decide) rfl rfl (fun z369 ez369 az369 bz369 => ?_)
                          refine hq_p rfl rfl (ty_ge (n := z368.toInt - z369.toInt) (nm_sub (by omega) (by omega)) (fun z370 ez370 => ?_))
                          refine hq_p rfl rfl (ty_ge (n := 10) nk_b10 (fun z371 ez371 => ?_))
                          refine ty_ige rfl (fun c372 => ?_) (fun c372 => ?_)
                          · refine hq_p rfl rfl (ty_gle (n := -1) (by decide) (fun z373 ez373 => ?_))
                            refine ty_pL (W := ty_Wn) H Jh347 rfl rfl (by decide) rfl rfl (by unfold ty_Wn; omega) rfl (by omega) (by omega) (fun h374 eh374 Jh374 => ?_)
                            have Ih374 := H.1 h374 Jh374
                            refine hq_p rfl rfl ?_
                            refine hq_p rfl rfl ?_
                            have r376 : (hs_fI h374 97 15).toInt = (hs_fI h347 97 15).toInt := by rw [eh374]; exact congrArg Int32.toInt (ty_fI_sF (by decide))
                            refine ty_gI Ih374 rfl rfl (by decide) (by decide) rfl rfl (fun z375 ez375 az375 bz375 => ?_)
                            refine hq_p rfl rfl (ty_ge (n := 1) nk_i1 (fun z377 ez377 => ?_))
                            refine hq_p rfl rfl (ty_ge (n := z375.toInt + z377.toInt) (nm_add (by omega) (by omega)) (fun z378 ez378 => ?_))
                            refine ty_pI (W := ty_Wn) H Jh374 rfl rfl (by decide) rfl rfl (by unfold ty_Wn; omega) rfl (by omega) (by omega) (fun h379 eh379 Jh379 => ?_)
                            have wh379 : (hs_fI h379 97 15).toInt = z378.toInt := by rw [eh379]; exact congrArg Int32.toInt (ty_fI_eq Ih374.1 rfl (by decide) rfl)
                            have Ih379 := H.1 h379 Jh379
                            refine hq_p rfl rfl ?_
                            have r380 : (hs_fI h374 97 13).toInt = (hs_fI h347 97 13).toInt := by rw [eh374]; exact congrArg Int32.toInt (ty_fI_sF (by decide))
                            have r381 : (hs_fI h379 97 13).toInt = (hs_fI h374 97 13).toInt := by rw [eh379]; exact congrArg Int32.toInt (ty_fI_sF (by decide))
                            have r382 : (hs_fI h374 97 14).toInt = (hs_fI h347 97 14).toInt := by rw [eh374]; exact congrArg Int32.toInt (ty_fI_sF (by decide))
                            have r383 : (hs_fI h379 97 14).toInt = (hs_fI h374 97 14).toInt := by rw [eh379]; exact congrArg Int32.toInt (ty_fI_sF (by decide))
                            have r384 : (hs_fI h374 97 16).toInt = (hs_fI h347 97 16).toInt := by rw [eh374]; exact congrArg Int32.toInt (ty_fI_sF (by decide))
                            have r385 : (hs_fI h379 97 16).toInt = (hs_fI h374 97 16).toInt := by rw [eh379]; exact congrArg Int32.toInt (ty_fI_sF (by decide))
                            exact ihn348 ((400 - (hs_fI h379 97 15).toInt).toNat) (by omega) h379 rfl (by omega) (by omega) (by omega) (by omega) (by omega) (by omega) Jh379
                          · refine hq_p rfl rfl ?_
                            refine ty_gL Ih347 rfl rfl (by decide) (by decide) rfl rfl (fun z386 ez386 az386 bz386 => ?_)
                            refine hq_p rfl rfl (ty_gle (n := 32) (by decide) (fun z387 ez387 => ?_))
                            refine hq_p rfl rfl (ty_gla (fun z388 az388 bz388 => ?_))
                            refine hq_p rfl rfl ?_
                            refine hq_gR Ih347.1 rfl rfl (by decide) (by decide) rfl ?_
                            refine hq_p rfl rfl ?_
                            refine ty_gI Ih347 rfl rfl (by decide) (by decide) rfl rfl (fun z389 ez389 az389 bz389 => ?_)
                            refine ty_aL Ih347 rfl rfl (by decide) (by omega) (by omega) (fun _ _ => ty_le rfl) (fun z390 ez390 az390 bz390 => ?_)
                            refine hq_p rfl rfl (ty_gle (n := z390.toInt) (nm_i2l _) (fun z391 ez391 => ?_))
                            refine hq_p rfl rfl (ty_gla (fun z392 az392 bz392 => ?_))
                            refine hq_p rfl rfl (ty_gle (n := 96) (by decide) (fun z393 ez393 => ?_))
                            refine hq_p rfl rfl (ty_gla (fun z394 az394 bz394 => ?_))
                            refine hq_p rfl rfl ?_
                            refine ty_pL (W := ty_Wn) H Jh347 rfl rfl (by decide) rfl rfl (by unfold ty_Wn; omega) rfl (by omega) (by omega) (fun h395 eh395 Jh395 => ?_)
                            have Ih395 := H.1 h395 Jh395
                            refine hq_p rfl rfl ?_
                            refine hq_p rfl rfl ?_
                            have r397 : (hs_fI h395 97 15).toInt = (hs_fI h347 97 15).toInt := by rw [eh395]; exact congrArg Int32.toInt (ty_fI_sF (by decide))
                            refine ty_gI Ih395 rfl rfl (by decide) (by decide) rfl rfl (fun z396 ez396 az396 bz396 => ?_)
                            refine hq_p rfl rfl (ty_ge (n := 1) nk_i1 (fun z398 ez398 => ?_))
                            refine hq_p rfl rfl (ty_ge (n := z396.toInt + z398.toInt) (nm_add (by omega) (by omega)) (fun z399 ez399 => ?_))
                            refine ty_pI (W := ty_Wn) H Jh395 rfl rfl (by decide) rfl rfl (by unfold ty_Wn; omega) rfl (by omega) (by omega) (fun h400 eh400 Jh400 => ?_)
                            have wh400 : (hs_fI h400 97 15).toInt = z399.toInt := by rw [eh400]; exact congrArg Int32.toInt (ty_fI_eq Ih395.1 rfl (by decide) rfl)
                            have Ih400 := H.1 h400 Jh400
                            refine hq_p rfl rfl ?_
                            have r401 : (hs_fI h395 97 13).toInt = (hs_fI h347 97 13).toInt := by rw [eh395]; exact congrArg Int32.toInt (ty_fI_sF (by decide))
                            have r402 : (hs_fI h400 97 13).toInt = (hs_fI h395 97 13).toInt := by rw [eh400]; exact congrArg Int32.toInt (ty_fI_sF (by decide))
                            have r403 : (hs_fI h395 97 14).toInt = (hs_fI h347 97 14).toInt := by rw [eh395]; exact congrArg Int32.toInt (ty_fI_sF (by decide))
                            have r404 : (hs_fI h400 97 14).toInt = (hs_fI h395 97 14).toInt := by rw [eh400]; exact congrArg Int32.toInt (ty_fI_sF (by decide))
                            have r405 : (hs_fI h395 97 16).toInt = (hs_fI h347 97 16).toInt := by rw [eh395]; exact congrArg Int32.toInt (ty_fI_sF (by decide))
                            have r406 : (hs_fI h400 97 16).toInt = (hs_fI h395 97 16).toInt := by rw [eh400]; exact congrArg Int32.toInt (ty_fI_sF (by decide))
                            exact ihn348 ((400 - (hs_fI h400 97 15).toInt).toNat) (by omega) h400 rfl (by omega) (by omega) (by omega) (by omega) (by omega) (by omega) Jh400
                exact L149_n348 _ h338 rfl (by omega) (by omega) (by omega) (by omega) (by omega) (by omega) Jh338
              · exfalso; omega
          · refine hq_p rfl rfl (ty_ge (n := 0) nk_i0 (fun z407 ez407 => ?_))
            refine hq_p rfl rfl ?_
            refine ty_pI (W := ty_Wn) H Jh222 rfl rfl (by decide) rfl rfl (by unfold ty_Wn; omega) rfl (by omega) (by omega) (fun h408 eh408 Jh408 => ?_)
            have wh408 : (hs_fI h408 97 16).toInt = z407.toInt := by rw [eh408]; exact congrArg Int32.toInt (ty_fI_eq Ih222.1 rfl (by decide) rfl)
            have Ih408 := H.1 h408 Jh408
            refine hq_p rfl rfl ?_
            refine ty_gI Ih408 rfl rfl (by decide) (by decide) rfl rfl (fun z409 ez409 az409 bz409 => ?_)
            refine hq_p rfl rfl (ty_ge (n := 3) nk_i3 (fun z410 ez410 => ?_))
            refine ty_ine rfl (fun c411 => ?_) (fun c411 => ?_)
            · clear c411
              have r412 : (hs_fI h408 97 13).toInt = (hs_fI h222 97 13).toInt := by rw [eh408]; exact congrArg Int32.toInt (ty_fI_sF (by decide))
              have r413 : (hs_fI h408 97 14).toInt = (hs_fI h222 97 14).toInt := by rw [eh408]; exact congrArg Int32.toInt (ty_fI_sF (by decide))
              have r414 : (hs_fI h222 97 15).toInt = (hs_fI h220 97 15).toInt := by rw [eh222]; exact congrArg Int32.toInt (ty_fI_sF (by decide))
              have r415 : (hs_fI h408 97 15).toInt = (hs_fI h222 97 15).toInt := by rw [eh408]; exact congrArg Int32.toInt (ty_fI_sF (by decide))
              refine hq_p rfl rfl ?_
              refine ty_gI Ih408 rfl rfl (by decide) (by decide) rfl rfl (fun z417 ez417 az417 bz417 => ?_)
              refine hq_p rfl rfl (ty_ge (n := 1) nk_i1 (fun z418 ez418 => ?_))
              refine ty_ine rfl (fun c419 => ?_) (fun c419 => ?_)
              · clear c419
                refine hq_p rfl rfl ?_
                refine ty_gI Ih408 rfl rfl (by decide) (by decide) rfl rfl (fun z421 ez421 az421 bz421 => ?_)
                refine hq_p rfl rfl (ty_ge (n := 2) nk_i2 (fun z422 ez422 => ?_))
                refine ty_ine rfl (fun c423 => ?_) (fun c423 => ?_)
                · clear c423
                  exact hq_W.ret rfl rfl rfl ⟨Jh408, rfl, by omega, by omega, by omega, (fun _ => by omega)⟩
                · exfalso; omega
              · exfalso; omega
            · exfalso; omega
        · refine hq_p rfl rfl ?_
          refine hq_p rfl rfl ?_
          refine ty_gI Ih5 rfl rfl (by decide) (by decide) rfl rfl (fun z424 ez424 az424 bz424 => ?_)
          refine hq_p rfl rfl (ty_ge (n := 1) nk_i1 (fun z425 ez425 => ?_))
          refine hq_p rfl rfl (ty_ge (n := z424.toInt + z425.toInt) (nm_add (by omega) (by omega)) (fun z426 ez426 => ?_))
          refine ty_pI (W := ty_Wn) H Jh5 rfl rfl (by decide) rfl rfl (by unfold ty_Wn; omega) rfl (by omega) (by omega) (fun h427 eh427 Jh427 => ?_)
          have wh427 : (hs_fI h427 97 14).toInt = z426.toInt := by rw [eh427]; exact congrArg Int32.toInt (ty_fI_eq Ih5.1 rfl (by decide) rfl)
          have Ih427 := H.1 h427 Jh427
          refine hq_p rfl rfl ?_
          have r428 : (hs_fI h427 97 13).toInt = (hs_fI h5 97 13).toInt := by rw [eh427]; exact congrArg Int32.toInt (ty_fI_sF (by decide))
          exact ihn6 ((400 - (hs_fI h427 97 14).toInt).toNat) (by omega) h427 rfl (by omega) (by omega) (by omega) Jh427
  exact L8_n6 _ h2 rfl (by omega) (by omega) (by omega) Jh2
end CT22
