/-! CONTRACTS (printed by wip/pm/cts.py) -/
section CT44
set_option maxRecDepth 8000 in
set_option maxHeartbeats 20000000 in
theorem ct_172w {X : pm_X} {d : Nat} {h : pm_H}  (hd : 2 ≤ d)  (hto : (hs_fI h 97 15).toInt ≤ (hs_fI h 97 13).toInt) : ty_M X ty_Wn d 172 [.ref 97] h (fun h1 v => v = none ∧ (hs_fI h 97 15).toInt ≤ (hs_fI h1 97 14).toInt ∧ tk_ok h1) := by
  intro J0 H0 hJ0
  obtain ⟨R, eR⟩ : ∃ R, hs_aI h 106 = R := ⟨_, rfl⟩
  obtain ⟨J, eJ⟩ : ∃ J : pm_H → Prop, J = fun h' => J0 h' ∧ hs_aI h' 106 = R := ⟨_, rfl⟩
  have H : ty_C ty_Wn J := by rw [eJ]; exact H0.arr 106 (by decide) (fun k => by unfold ty_Wn; omega) R
  have hJ : J h := by rw [eJ]; exact ⟨hJ0, eR⟩
  refine hq_M.mono (Nat.le_refl _) (Q := fun h' v => J h' ∧ (fun h1 v => v = none ∧ (hs_fI h 97 15).toInt ≤ (hs_fI h1 97 14).toInt ∧ tk_ok h1) h' v) (fun h' v q => ⟨by have q1 := q.1; rw [eJ] at q1; exact q1.1, q.2⟩) ?_
  obtain ⟨d, rfl⟩ : ∃ e, d = e + 1 := ⟨d - 1, by omega⟩
  have I := H.1 h hJ
  obtain ⟨q13, eq13⟩ : ∃ q : Int32, q.toInt = (hs_fI h 97 13).toInt := ⟨_, rfl⟩
  have gq130 : 0 ≤ (hs_fI h 97 13).toInt := (I.2.1 97 13 (by decide)).1
  have gq131 : (hs_fI h 97 13).toInt ≤ 400 := (I.2.1 97 13 (by decide)).2
  obtain ⟨q15, eq15⟩ : ∃ q : Int32, q.toInt = (hs_fI h 97 15).toInt := ⟨_, rfl⟩
  have gq150 : 0 ≤ (hs_fI h 97 15).toInt := (I.2.1 97 15 (by decide)).1
  have gq151 : (hs_fI h 97 15).toInt ≤ 400 := (I.2.1 97 15 (by decide)).2
  refine hq_M.enter (q := (⟨"TrainBearersModel", "next", "()V"⟩, _, 1, none, 11, 1, pm_c172)) rfl rfl ?_
  show hq_W X d 11 false (none) pm_c172 (0, [some (.ref 97)], [], h) (fun h' v => J h' ∧ (fun h1 v => v = none ∧ (hs_fI h 97 15).toInt ≤ (hs_fI h1 97 14).toInt ∧ tk_ok h1) h' v)
  refine hq_p rfl rfl ?_
  refine hq_p rfl rfl ?_
  refine ty_gI I rfl rfl (by decide) (by decide) rfl rfl (fun z1 ez1 az1 bz1 => ?_)
  refine ty_pI (W := ty_Wn) H hJ rfl rfl (by decide) rfl rfl (by unfold ty_Wn; omega) rfl (by omega) (by omega) (fun h2 eh2 Jh2 => ?_)
  have wh2 : (hs_fI h2 97 14).toInt = z1.toInt := by rw [eh2]; exact congrArg Int32.toInt (ty_fI_eq I.1 rfl (by decide) rfl)
  have Ih2 := H.1 h2 Jh2
  have r3 : (hs_fI h2 97 13).toInt = (hs_fI h 97 13).toInt := by rw [eh2]; exact congrArg Int32.toInt (ty_fI_sF (by decide))
  have L8_n6 : ∀ n6 : Nat, ∀ (h5 : pm_H), (400 - (hs_fI h5 97 14).toInt).toNat = n6 → (hs_fI h 97 15).toInt ≤ (hs_fI h5 97 14).toInt → (hs_fI h5 97 14).toInt ≤ (hs_fI h5 97 13).toInt → (hs_fI h5 97 13).toInt = (hs_fI h2 97 13).toInt → J h5 → hq_W X d 11 false (none) pm_c172 (8, [some (.ref 97)], [], h5) (fun h' v => J h' ∧ (fun h1 v => v = none ∧ (hs_fI h 97 15).toInt ≤ (hs_fI h1 97 14).toInt ∧ tk_ok h1) h' v) := by
    intro n6
    induction n6 using Nat.strongRecOn with
    | ind n6 ihn6 =>
      intro h5 mn6 x0n6 x1n6 x2n6 Jh5
      have Ih5 := H.1 h5 Jh5
      refine hq_p rfl rfl ?_
      refine ty_gI Ih5 rfl rfl (by decide) (by decide) rfl rfl (fun z7 ez7 az7 bz7 => ?_)
      refine hq_p rfl rfl ?_
      refine ty_gI Ih5 rfl rfl (by decide) (by decide) rfl rfl (fun z8 ez8 az8 bz8 => ?_)
      refine ty_ige rfl (fun c9 => ?_) (fun c9 => ?_)
      · refine hq_p rfl rfl ?_
        refine hq_p rfl rfl ?_
        refine ty_gI Ih5 rfl rfl (by decide) (by decide) rfl rfl (fun z10 ez10 az10 bz10 => ?_)
        refine ty_pI (W := ty_Wn) H Jh5 rfl rfl (by decide) rfl rfl (by unfold ty_Wn; omega) rfl (by omega) (by omega) (fun h11 eh11 Jh11 => ?_)
        have wh11 : (hs_fI h11 97 15).toInt = z10.toInt := by rw [eh11]; exact congrArg Int32.toInt (ty_fI_eq Ih5.1 rfl (by decide) rfl)
        have Ih11 := H.1 h11 Jh11
        refine hq_p rfl rfl ?_
        refine hq_p rfl rfl (ty_gle (n := 0) (by decide) (fun z12 ez12 => ?_))
        refine ty_pL (W := ty_Wn) H Jh11 rfl rfl (by decide) rfl rfl (by unfold ty_Wn; omega) rfl (by omega) (by omega) (fun h13 eh13 Jh13 => ?_)
        have wh13 : (hs_fL h13 97 17).toInt = z12.toInt := by rw [eh13]; exact congrArg Int64.toInt (ty_fL_eq Ih11.1 rfl (by decide) rfl)
        have Ih13 := H.1 h13 Jh13
        refine hq_p rfl rfl ?_
        refine hq_p rfl rfl ?_
        have r15 : (hs_fI h11 97 14).toInt = (hs_fI h5 97 14).toInt := by rw [eh11]; exact congrArg Int32.toInt (ty_fI_sF (by decide))
        have r16 : (hs_fI h13 97 14).toInt = (hs_fI h11 97 14).toInt := by rw [eh13]; exact congrArg Int32.toInt (ty_fI_sF (by decide))
        refine ty_gI Ih13 rfl rfl (by decide) (by decide) rfl rfl (fun z14 ez14 az14 bz14 => ?_)
        refine hq_p rfl rfl ?_
        have r18 : (hs_fI h11 97 13).toInt = (hs_fI h5 97 13).toInt := by rw [eh11]; exact congrArg Int32.toInt (ty_fI_sF (by decide))
        have r19 : (hs_fI h13 97 13).toInt = (hs_fI h11 97 13).toInt := by rw [eh13]; exact congrArg Int32.toInt (ty_fI_sF (by decide))
        refine ty_gI Ih13 rfl rfl (by decide) (by decide) rfl rfl (fun z17 ez17 az17 bz17 => ?_)
        refine ty_ine rfl (fun c20 => ?_) (fun c20 => ?_)
        · replace c20 : z14.toInt < z17.toInt := by omega
          refine hq_p rfl rfl ?_
          refine hq_gR Ih13.1 rfl rfl (by decide) (by decide) rfl ?_
          refine hq_p rfl rfl ?_
          refine ty_gI Ih13 rfl rfl (by decide) (by decide) rfl rfl (fun z21 ez21 az21 bz21 => ?_)
          refine ty_aL Ih13 rfl rfl (by decide) (by omega) (by omega) (fun _ _ => ty_le rfl) (fun z22 ez22 az22 bz22 => ?_)
          refine ty_callp 1 Ih13 rfl (fun _ => rfl) rfl rfl rfl rfl (ct_169n (x0 := z22) (by omega)) (fun _ P23 => ?_)
          obtain ⟨z24, rfl, dz24⟩ := P23
          refine ty_zeq rfl (fun c25 => ?_) (fun c25 => ?_)
          · refine hq_p rfl rfl ?_
            refine hq_gR Ih13.1 rfl rfl (by decide) (by decide) rfl ?_
            refine hq_p rfl rfl ?_
            refine ty_gI Ih13 rfl rfl (by decide) (by decide) rfl rfl (fun z26 ez26 az26 bz26 => ?_)
            refine ty_aL Ih13 rfl rfl (by decide) (by omega) (by omega) (fun _ _ => ty_le rfl) (fun z27 ez27 az27 bz27 => ?_)
            refine ty_callp 1 Ih13 rfl (fun _ => rfl) rfl rfl rfl rfl (ct_170n (x0 := z27) (by omega)) (fun _ P28 => ?_)
            obtain ⟨z29, rfl, dz29⟩ := P28
            refine ty_zeq rfl (fun c30 => ?_) (fun c30 => ?_)
            · refine hq_p rfl rfl (ty_ge (n := 3) nk_i3 (fun z31 ez31 => ?_))
              refine ty_pI (W := ty_Wn) H Jh13 rfl rfl (by decide) rfl rfl (by unfold ty_Wn; omega) rfl (by omega) (by omega) (fun h32 eh32 Jh32 => ?_)
              have wh32 : (hs_fI h32 97 16).toInt = z31.toInt := by rw [eh32]; exact congrArg Int32.toInt (ty_fI_eq Ih13.1 rfl (by decide) rfl)
              have Ih32 := H.1 h32 Jh32
              refine hq_p rfl rfl ?_
              refine ty_gI Ih32 rfl rfl (by decide) (by decide) rfl rfl (fun z33 ez33 az33 bz33 => ?_)
              refine hq_p rfl rfl (ty_ge (n := 3) nk_i3 (fun z34 ez34 => ?_))
              refine ty_ine rfl (fun c35 => ?_) (fun c35 => ?_)
              · exfalso; omega
              · refine hq_p rfl rfl ?_
                refine hq_p rfl rfl ?_
                refine hq_gR Ih32.1 rfl rfl (by decide) (by decide) rfl ?_
                refine hq_p rfl rfl ?_
                have r37 : (hs_fI h32 97 14).toInt = (hs_fI h13 97 14).toInt := by rw [eh32]; exact congrArg Int32.toInt (ty_fI_sF (by decide))
                refine ty_gI Ih32 rfl rfl (by decide) (by decide) rfl rfl (fun z36 ez36 az36 bz36 => ?_)
                refine ty_aL Ih32 rfl rfl (by decide) (by omega) (by omega) (fun _ _ => ty_le rfl) (fun z38 ez38 az38 bz38 => ?_)
                refine hq_p rfl rfl (ty_gle (n := z38.toInt) (nm_i2l _) (fun z39 ez39 => ?_))
                refine ty_pL (W := ty_Wn) H Jh32 rfl rfl (by decide) rfl rfl (by unfold ty_Wn; omega) rfl (by omega) (by omega) (fun h40 eh40 Jh40 => ?_)
                have wh40 : (hs_fL h40 97 17).toInt = z39.toInt := by rw [eh40]; exact congrArg Int64.toInt (ty_fL_eq Ih32.1 rfl (by decide) rfl)
                have Ih40 := H.1 h40 Jh40
                refine hq_p rfl rfl ?_
                refine hq_p rfl rfl ?_
                have r42 : (hs_fI h13 97 15).toInt = (hs_fI h11 97 15).toInt := by rw [eh13]; exact congrArg Int32.toInt (ty_fI_sF (by decide))
                have r43 : (hs_fI h32 97 15).toInt = (hs_fI h13 97 15).toInt := by rw [eh32]; exact congrArg Int32.toInt (ty_fI_sF (by decide))
                have r44 : (hs_fI h40 97 15).toInt = (hs_fI h32 97 15).toInt := by rw [eh40]; exact congrArg Int32.toInt (ty_fI_sF (by decide))
                refine ty_gI Ih40 rfl rfl (by decide) (by decide) rfl rfl (fun z41 ez41 az41 bz41 => ?_)
                refine hq_p rfl rfl (ty_ge (n := 1) nk_i1 (fun z45 ez45 => ?_))
                refine hq_p rfl rfl (ty_ge (n := z41.toInt + z45.toInt) (nm_add (by omega) (by omega)) (fun z46 ez46 => ?_))
                refine ty_pI (W := ty_Wn) H Jh40 rfl rfl (by decide) rfl rfl (by unfold ty_Wn; omega) rfl (by omega) (by omega) (fun h47 eh47 Jh47 => ?_)
                have wh47 : (hs_fI h47 97 15).toInt = z46.toInt := by rw [eh47]; exact congrArg Int32.toInt (ty_fI_eq Ih40.1 rfl (by decide) rfl)
                have Ih47 := H.1 h47 Jh47
                have r48 : (hs_fI h32 97 13).toInt = (hs_fI h13 97 13).toInt := by rw [eh32]; exact congrArg Int32.toInt (ty_fI_sF (by decide))
                have r49 : (hs_fI h40 97 13).toInt = (hs_fI h32 97 13).toInt := by rw [eh40]; exact congrArg Int32.toInt (ty_fI_sF (by decide))
                have r50 : (hs_fI h47 97 13).toInt = (hs_fI h40 97 13).toInt := by rw [eh47]; exact congrArg Int32.toInt (ty_fI_sF (by decide))
                have r51 : (hs_fI h40 97 14).toInt = (hs_fI h32 97 14).toInt := by rw [eh40]; exact congrArg Int32.toInt (ty_fI_sF (by decide))
                have r52 : (hs_fI h47 97 14).toInt = (hs_fI h40 97 14).toInt := by rw [eh47]; exact congrArg Int32.toInt (ty_fI_sF (by decide))
                have r53 : (hs_fI h40 97 16).toInt = (hs_fI h32 97 16).toInt := by rw [eh40]; exact congrArg Int32.toInt (ty_fI_sF (by decide))
                have r54 : (hs_fI h47 97 16).toInt = (hs_fI h40 97 16).toInt := by rw [eh47]; exact congrArg Int32.toInt (ty_fI_sF (by decide))
                have r55 : (hs_fL h47 97 17).toInt = (hs_fL h40 97 17).toInt := by rw [eh47]; exact congrArg Int64.toInt (ty_fL_sF (by decide))
                refine hq_p rfl rfl ?_
                refine ty_gI Ih47 rfl rfl (by decide) (by decide) rfl rfl (fun z57 ez57 az57 bz57 => ?_)
                refine hq_p rfl rfl (ty_ge (n := 1) nk_i1 (fun z58 ez58 => ?_))
                refine ty_ine rfl (fun c59 => ?_) (fun c59 => ?_)
                · clear c59
                  refine hq_p rfl rfl ?_
                  refine ty_gI Ih47 rfl rfl (by decide) (by decide) rfl rfl (fun z61 ez61 az61 bz61 => ?_)
                  refine hq_p rfl rfl (ty_ge (n := 2) nk_i2 (fun z62 ez62 => ?_))
                  refine ty_ine rfl (fun c63 => ?_) (fun c63 => ?_)
                  · clear c63
                    exact hq_W.ret rfl rfl rfl ⟨Jh47, rfl, by omega, by omega, by omega, (fun _ => by omega), (fun q => by exfalso; omega)⟩
                  · exfalso; omega
                · exfalso; omega
            · replace c30 : 1 ≤ z29.toInt ∧ z29.toInt ≤ 1 := by omega
              have rrh13 : hs_aI h13 106 = R := by have q := Jh13; rw [eJ] at q; exact q.2
              have sm : 48 ≤ (R z10.toInt.toNat).toInt ∧ (R z10.toInt.toNat).toInt ≤ 57 := by rw [rrh13, show z26.toInt.toNat = z10.toInt.toNat by omega] at ez27; omega
              refine hq_p rfl rfl (ty_ge (n := 2) nk_i2 (fun z64 ez64 => ?_))
              refine hq_p rfl rfl ?_
              refine ty_pI (W := ty_Wn) H Jh13 rfl rfl (by decide) rfl rfl (by unfold ty_Wn; omega) rfl (by omega) (by omega) (fun h65 eh65 Jh65 => ?_)
              have wh65 : (hs_fI h65 97 16).toInt = z64.toInt := by rw [eh65]; exact congrArg Int32.toInt (ty_fI_eq Ih13.1 rfl (by decide) rfl)
              have Ih65 := H.1 h65 Jh65
              refine hq_p rfl rfl ?_
              refine ty_gI Ih65 rfl rfl (by decide) (by decide) rfl rfl (fun z66 ez66 az66 bz66 => ?_)
              refine hq_p rfl rfl (ty_ge (n := 3) nk_i3 (fun z67 ez67 => ?_))
              refine ty_ine rfl (fun c68 => ?_) (fun c68 => ?_)
              · clear c68
                have r69 : (hs_fI h65 97 13).toInt = (hs_fI h13 97 13).toInt := by rw [eh65]; exact congrArg Int32.toInt (ty_fI_sF (by decide))
                have r70 : (hs_fI h65 97 14).toInt = (hs_fI h13 97 14).toInt := by rw [eh65]; exact congrArg Int32.toInt (ty_fI_sF (by decide))
                have r71 : (hs_fI h13 97 15).toInt = (hs_fI h11 97 15).toInt := by rw [eh13]; exact congrArg Int32.toInt (ty_fI_sF (by decide))
                have r72 : (hs_fI h65 97 15).toInt = (hs_fI h13 97 15).toInt := by rw [eh65]; exact congrArg Int32.toInt (ty_fI_sF (by decide))
                have r73 : (hs_fL h65 97 17).toInt = (hs_fL h13 97 17).toInt := by rw [eh65]; exact congrArg Int64.toInt (ty_fL_sF (by decide))
                refine hq_p rfl rfl ?_
                refine ty_gI Ih65 rfl rfl (by decide) (by decide) rfl rfl (fun z75 ez75 az75 bz75 => ?_)
                refine hq_p rfl rfl (ty_ge (n := 1) nk_i1 (fun z76 ez76 => ?_))
                refine ty_ine rfl (fun c77 => ?_) (fun c77 => ?_)
                · clear c77
                  have L243_n80 : ∀ n80 : Nat, ∀ (h79 : pm_H), (400 - (hs_fI h79 97 15).toInt).toNat = n80 → (hs_fI h79 97 14).toInt ≤ (hs_fI h79 97 15).toInt → (hs_fI h79 97 15).toInt ≤ (hs_fI h79 97 13).toInt → (hs_fI h79 97 14).toInt + 1 ≤ (hs_fI h79 97 15).toInt ∨ ((hs_fI h79 97 15).toInt = (hs_fI h79 97 14).toInt ∧ 48 ≤ (R z10.toInt.toNat).toInt ∧ (R z10.toInt.toNat).toInt ≤ 57) → (hs_fI h79 97 13).toInt = (hs_fI h65 97 13).toInt → (hs_fI h79 97 14).toInt = (hs_fI h65 97 14).toInt → (hs_fI h79 97 16).toInt = (hs_fI h65 97 16).toInt → J h79 → hq_W X d 11 false (none) pm_c172 (243, [some (.ref 97)], [], h79) (fun h' v => J h' ∧ (fun h1 v => v = none ∧ (hs_fI h 97 15).toInt ≤ (hs_fI h1 97 14).toInt ∧ tk_ok h1) h' v) := by
                    intro n80
                    induction n80 using Nat.strongRecOn with
                    | ind n80 ihn80 =>
                      intro h79 mn80 x0n80 x1n80 x2n80 x3n80 x4n80 x5n80 Jh79
                      have Ih79 := H.1 h79 Jh79
                      refine hq_p rfl rfl ?_
                      refine ty_gI Ih79 rfl rfl (by decide) (by decide) rfl rfl (fun z81 ez81 az81 bz81 => ?_)
                      refine hq_p rfl rfl (ty_ge (n := 2) nk_i2 (fun z82 ez82 => ?_))
                      refine ty_ine rfl (fun c83 => ?_) (fun c83 => ?_)
                      · exfalso; omega
                      · refine hq_p rfl rfl ?_
                        refine ty_gI Ih79 rfl rfl (by decide) (by decide) rfl rfl (fun z84 ez84 az84 bz84 => ?_)
                        refine hq_p rfl rfl ?_
                        refine ty_gI Ih79 rfl rfl (by decide) (by decide) rfl rfl (fun z85 ez85 az85 bz85 => ?_)
                        refine ty_ige rfl (fun c86 => ?_) (fun c86 => ?_)
                        · exact hq_W.ret rfl rfl rfl ⟨Jh79, rfl, by omega, by omega, by omega, (fun _ => by rcases x2n80 with q | q <;> omega), (fun q => by exfalso; omega)⟩
                        · refine hq_p rfl rfl ?_
                          refine hq_gR Ih79.1 rfl rfl (by decide) (by decide) rfl ?_
                          refine hq_p rfl rfl ?_
                          refine ty_gI Ih79 rfl rfl (by decide) (by decide) rfl rfl (fun z87 ez87 az87 bz87 => ?_)
                          refine ty_aL Ih79 rfl rfl (by decide) (by omega) (by omega) (fun _ _ => ty_le rfl) (fun z88 ez88 az88 bz88 => ?_)
                          have rrh79 : hs_aI h79 106 = R := by have q := Jh79; rw [eJ] at q; exact q.2
                          refine ty_callp 1 Ih79 rfl (fun _ => rfl) rfl rfl rfl rfl (ct_170n (x0 := z88) (by omega)) (fun _ P89 => ?_)
                          obtain ⟨z90, rfl, dz90⟩ := P89
                          refine ty_zeq rfl (fun c91 => ?_) (fun c91 => ?_)
                          · exact hq_W.ret rfl rfl rfl ⟨Jh79, rfl, by omega, by omega, by omega, (fun _ => by rcases x2n80 with q | q <;> first | omega | (rw [rrh79, show z87.toInt.toNat = z10.toInt.toNat by omega] at ez88; omega)), (fun q => by exfalso; omega)⟩
                          · replace c91 : 1 ≤ z90.toInt ∧ z90.toInt ≤ 1 := by omega
                            refine hq_p rfl rfl ?_
                            refine hq_p rfl rfl ?_
                            refine ty_gL Ih79 rfl rfl (by decide) (by decide) rfl rfl (fun z92 ez92 az92 bz92 => ?_)
                            refine hq_p rfl rfl (ty_gle (n := 1000000) (by decide) (fun z93 ez93 => ?_))
                            refine hq_p rfl rfl (ty_gc (fun z94 ez94 => ?_))
                            refine ty_zle rfl (fun c95 => ?_) (fun c95 => ?_)
                            · replace ez94 : z92.toInt ≤ z93.toInt := by omega
                              clear c95
                              refine hq_p rfl rfl ?_
                              refine ty_gL Ih79 rfl rfl (by decide) (by decide) rfl rfl (fun z96 ez96 az96 bz96 => ?_)
                              refine hq_p rfl rfl (ty_gle (n := 10) (by decide) (fun z97 ez97 => ?_))
                              refine hq_p rfl rfl (ty_gla (fun z98 az98 bz98 => ?_))
                              refine hq_p rfl rfl ?_
                              refine hq_gR Ih79.1 rfl rfl (by decide) (by decide) rfl ?_
                              refine hq_p rfl rfl ?_
                              refine ty_gI Ih79 rfl rfl (by decide) (by decide) rfl rfl (fun z99 ez99 az99 bz99 => ?_)
                              refine ty_aL Ih79 rfl rfl (by decide) (by omega) (by omega) (fun _ _ => ty_le rfl) (fun z100 ez100 az100 bz100 => ?_)
                              refine hq_p rfl rfl (ty_gle (n := z100.toInt) (nm_i2l _) (fun z101 ez101 => ?_))
                              refine hq_p rfl rfl (ty_gla (fun z102 az102 bz102 => ?_))
                              refine hq_p rfl rfl (ty_gle (n := 48) (by decide) (fun z103 ez103 => ?_))
                              refine hq_p rfl rfl (ty_gla (fun z104 az104 bz104 => ?_))
                              refine ty_pL (W := ty_Wn) H Jh79 rfl rfl (by decide) rfl rfl (by unfold ty_Wn; omega) rfl (by omega) (by omega) (fun h105 eh105 Jh105 => ?_)
                              have wh105 : (hs_fL h105 97 17).toInt = z104.toInt := by rw [eh105]; exact congrArg Int64.toInt (ty_fL_eq Ih79.1 rfl (by decide) rfl)
                              have Ih105 := H.1 h105 Jh105
                              refine hq_p rfl rfl ?_
                              refine hq_p rfl rfl ?_
                              have r107 : (hs_fI h105 97 15).toInt = (hs_fI h79 97 15).toInt := by rw [eh105]; exact congrArg Int32.toInt (ty_fI_sF (by decide))
                              refine ty_gI Ih105 rfl rfl (by decide) (by decide) rfl rfl (fun z106 ez106 az106 bz106 => ?_)
                              refine hq_p rfl rfl (ty_ge (n := 1) nk_i1 (fun z108 ez108 => ?_))
                              refine hq_p rfl rfl (ty_ge (n := z106.toInt + z108.toInt) (nm_add (by omega) (by omega)) (fun z109 ez109 => ?_))
                              refine ty_pI (W := ty_Wn) H Jh105 rfl rfl (by decide) rfl rfl (by unfold ty_Wn; omega) rfl (by omega) (by omega) (fun h110 eh110 Jh110 => ?_)
                              have wh110 : (hs_fI h110 97 15).toInt = z109.toInt := by rw [eh110]; exact congrArg Int32.toInt (ty_fI_eq Ih105.1 rfl (by decide) rfl)
                              have Ih110 := H.1 h110 Jh110
                              refine hq_p rfl rfl ?_
                              have r111 : (hs_fI h105 97 13).toInt = (hs_fI h79 97 13).toInt := by rw [eh105]; exact congrArg Int32.toInt (ty_fI_sF (by decide))
                              have r112 : (hs_fI h110 97 13).toInt = (hs_fI h105 97 13).toInt := by rw [eh110]; exact congrArg Int32.toInt (ty_fI_sF (by decide))
                              have r113 : (hs_fI h105 97 14).toInt = (hs_fI h79 97 14).toInt := by rw [eh105]; exact congrArg Int32.toInt (ty_fI_sF (by decide))
                              have r114 : (hs_fI h110 97 14).toInt = (hs_fI h105 97 14).toInt := by rw [eh110]; exact congrArg Int32.toInt (ty_fI_sF (by decide))
                              have r115 : (hs_fI h105 97 16).toInt = (hs_fI h79 97 16).toInt := by rw [eh105]; exact congrArg Int32.toInt (ty_fI_sF (by decide))
                              have r116 : (hs_fI h110 97 16).toInt = (hs_fI h105 97 16).toInt := by rw [eh110]; exact congrArg Int32.toInt (ty_fI_sF (by decide))
                              exact ihn80 ((400 - (hs_fI h110 97 15).toInt).toNat) (by omega) h110 rfl (by omega) (by omega) (by omega) (by omega) (by omega) (by omega) Jh110
                            · replace ez94 : z92.toInt > z93.toInt := by omega
                              clear c95
                              refine hq_p rfl rfl ?_
                              refine ty_gL Ih79 rfl rfl (by decide) (by decide) rfl rfl (fun z117 ez117 az117 bz117 => ?_)
                              refine hq_p rfl rfl ?_
                              refine ty_pL (W := ty_Wn) H Jh79 rfl rfl (by decide) rfl rfl (by unfold ty_Wn; omega) rfl (by omega) (by omega) (fun h118 eh118 Jh118 => ?_)
                              have wh118 : (hs_fL h118 97 17).toInt = z117.toInt := by rw [eh118]; exact congrArg Int64.toInt (ty_fL_eq Ih79.1 rfl (by decide) rfl)
                              have Ih118 := H.1 h118 Jh118
                              refine hq_p rfl rfl ?_
                              refine hq_p rfl rfl ?_
                              have r120 : (hs_fI h118 97 15).toInt = (hs_fI h79 97 15).toInt := by rw [eh118]; exact congrArg Int32.toInt (ty_fI_sF (by decide))
                              refine ty_gI Ih118 rfl rfl (by decide) (by decide) rfl rfl (fun z119 ez119 az119 bz119 => ?_)
                              refine hq_p rfl rfl (ty_ge (n := 1) nk_i1 (fun z121 ez121 => ?_))
                              refine hq_p rfl rfl (ty_ge (n := z119.toInt + z121.toInt) (nm_add (by omega) (by omega)) (fun z122 ez122 => ?_))
                              refine ty_pI (W := ty_Wn) H Jh118 rfl rfl (by decide) rfl rfl (by unfold ty_Wn; omega) rfl (by omega) (by omega) (fun h123 eh123 Jh123 => ?_)
                              have wh123 : (hs_fI h123 97 15).toInt = z122.toInt := by rw [eh123]; exact congrArg Int32.toInt (ty_fI_eq Ih118.1 rfl (by decide) rfl)
                              have Ih123 := H.1 h123 Jh123
                              refine hq_p rfl rfl ?_
                              have r124 : (hs_fI h118 97 13).toInt = (hs_fI h79 97 13).toInt := by rw [eh118]; exact congrArg Int32.toInt (ty_fI_sF (by decide))
                              have r125 : (hs_fI h123 97 13).toInt = (hs_fI h118 97 13).toInt := by rw [eh123]; exact congrArg Int32.toInt (ty_fI_sF (by decide))
                              have r126 : (hs_fI h118 97 14).toInt = (hs_fI h79 97 14).toInt := by rw [eh118]; exact congrArg Int32.toInt (ty_fI_sF (by decide))
                              have r127 : (hs_fI h123 97 14).toInt = (hs_fI h118 97 14).toInt := by rw [eh123]; exact congrArg Int32.toInt (ty_fI_sF (by decide))
                              have r128 : (hs_fI h118 97 16).toInt = (hs_fI h79 97 16).toInt := by rw [eh118]; exact congrArg Int32.toInt (ty_fI_sF (by decide))
                              have r129 : (hs_fI h123 97 16).toInt = (hs_fI h118 97 16).toInt := by rw [eh123]; exact congrArg Int32.toInt (ty_fI_sF (by decide))
                              exact ihn80 ((400 - (hs_fI h123 97 15).toInt).toNat) (by omega) h123 rfl (by omega) (by omega) (by omega) (by omega) (by omega) (by omega) Jh123
                  exact L243_n80 _ h65 rfl (by omega) (by omega) (by omega) (by omega) (by omega) (by omega) Jh65
                · exfalso; omega
              · exfalso; omega
          · replace c25 : 1 ≤ z24.toInt ∧ z24.toInt ≤ 1 := by omega
            have rrh13 : hs_aI h13 106 = R := by have q := Jh13; rw [eJ] at q; exact q.2
            have sm : 97 ≤ (R z10.toInt.toNat).toInt ∧ (R z10.toInt.toNat).toInt ≤ 122 := by rw [rrh13, show z21.toInt.toNat = z10.toInt.toNat by omega] at ez22; omega
            refine hq_p rfl rfl (ty_ge (n := 1) nk_i1 (fun z130 ez130 => ?_))
            refine hq_p rfl rfl ?_
            refine ty_pI (W := ty_Wn) H Jh13 rfl rfl (by decide) rfl rfl (by unfold ty_Wn; omega) rfl (by omega) (by omega) (fun h131 eh131 Jh131 => ?_)
            have wh131 : (hs_fI h131 97 16).toInt = z130.toInt := by rw [eh131]; exact congrArg Int32.toInt (ty_fI_eq Ih13.1 rfl (by decide) rfl)
            have Ih131 := H.1 h131 Jh131
            refine hq_p rfl rfl ?_
            refine ty_gI Ih131 rfl rfl (by decide) (by decide) rfl rfl (fun z132 ez132 az132 bz132 => ?_)
            refine hq_p rfl rfl (ty_ge (n := 3) nk_i3 (fun z133 ez133 => ?_))
            refine ty_ine rfl (fun c134 => ?_) (fun c134 => ?_)
            · clear c134
              have r135 : (hs_fI h131 97 13).toInt = (hs_fI h13 97 13).toInt := by rw [eh131]; exact congrArg Int32.toInt (ty_fI_sF (by decide))
              have r136 : (hs_fI h131 97 14).toInt = (hs_fI h13 97 14).toInt := by rw [eh131]; exact congrArg Int32.toInt (ty_fI_sF (by decide))
              have r137 : (hs_fI h13 97 15).toInt = (hs_fI h11 97 15).toInt := by rw [eh13]; exact congrArg Int32.toInt (ty_fI_sF (by decide))
              have r138 : (hs_fI h131 97 15).toInt = (hs_fI h13 97 15).toInt := by rw [eh131]; exact congrArg Int32.toInt (ty_fI_sF (by decide))
              have r139 : (hs_fL h131 97 17).toInt = (hs_fL h13 97 17).toInt := by rw [eh131]; exact congrArg Int64.toInt (ty_fL_sF (by decide))
              have L149_n142 : ∀ n142 : Nat, ∀ (h141 : pm_H), (400 - (hs_fI h141 97 15).toInt).toNat = n142 → (hs_fI h141 97 14).toInt ≤ (hs_fI h141 97 15).toInt → (hs_fI h141 97 15).toInt ≤ (hs_fI h141 97 13).toInt → (hs_fI h141 97 14).toInt + 1 ≤ (hs_fI h141 97 15).toInt ∨ ((hs_fI h141 97 15).toInt = (hs_fI h141 97 14).toInt ∧ 97 ≤ (R z10.toInt.toNat).toInt ∧ (R z10.toInt.toNat).toInt ≤ 122) → tk_w (hs_fI h141 97 16).toInt (hs_fI h141 97 15).toInt (hs_fI h141 97 14).toInt (hs_fL h141 97 17).toInt → (hs_fI h141 97 13).toInt = (hs_fI h131 97 13).toInt → (hs_fI h141 97 14).toInt = (hs_fI h131 97 14).toInt → (hs_fI h141 97 16).toInt = (hs_fI h131 97 16).toInt → J h141 → hq_W X d 11 false (none) pm_c172 (149, [some (.ref 97)], [], h141) (fun h' v => J h' ∧ (fun h1 v => v = none ∧ (hs_fI h 97 15).toInt ≤ (hs_fI h1 97 14).toInt ∧ tk_ok h1) h' v) := by
                intro n142
                induction n142 using Nat.strongRecOn with
                | ind n142 ihn142 =>
                  intro h141 mn142 x0n142 x1n142 x2n142 x3n142 x4n142 x5n142 x6n142 Jh141
                  have Ih141 := H.1 h141 Jh141
                  refine hq_p rfl rfl ?_
                  refine ty_gI Ih141 rfl rfl (by decide) (by decide) rfl rfl (fun z143 ez143 az143 bz143 => ?_)
                  refine hq_p rfl rfl (ty_ge (n := 1) nk_i1 (fun z144 ez144 => ?_))
                  refine ty_ine rfl (fun c145 => ?_) (fun c145 => ?_)
                  · exfalso; omega
                  · refine hq_p rfl rfl ?_
                    refine ty_gI Ih141 rfl rfl (by decide) (by decide) rfl rfl (fun z146 ez146 az146 bz146 => ?_)
                    refine hq_p rfl rfl ?_
                    refine ty_gI Ih141 rfl rfl (by decide) (by decide) rfl rfl (fun z147 ez147 az147 bz147 => ?_)
                    refine ty_ige rfl (fun c148 => ?_) (fun c148 => ?_)
                    · refine hq_p rfl rfl ?_
                      refine ty_gI Ih141 rfl rfl (by decide) (by decide) rfl rfl (fun z150 ez150 az150 bz150 => ?_)
                      refine hq_p rfl rfl (ty_ge (n := 2) nk_i2 (fun z151 ez151 => ?_))
                      refine ty_ine rfl (fun c152 => ?_) (fun c152 => ?_)
                      · clear c152
                        exact hq_W.ret rfl rfl rfl ⟨Jh141, rfl, by omega, by omega, by omega, (fun _ => by rcases x2n142 with q | q <;> omega), (fun q => by have e1 : (hs_fI h141 97 14).toInt + 1 ≤ (hs_fI h141 97 15).toInt := (by rcases x2n142 with q | q <;> omega); rcases x3n142 (by omega) with o | o | o <;> omega)⟩
                      · exfalso; omega
                    · refine hq_p rfl rfl ?_
                      refine hq_gR Ih141.1 rfl rfl (by decide) (by decide) rfl ?_
                      refine hq_p rfl rfl ?_
                      refine ty_gI Ih141 rfl rfl (by decide) (by decide) rfl rfl (fun z153 ez153 az153 bz153 => ?_)
                      refine ty_aL Ih141 rfl rfl (by decide) (by omega) (by omega) (fun _ _ => ty_le rfl) (fun z154 ez154 az154 bz154 => ?_)
                      have rrh141 : hs_aI h141 106 = R := by have q := Jh141; rw [eJ] at q; exact q.2
                      refine ty_callp 1 Ih141 rfl (fun _ => rfl) rfl rfl rfl rfl (ct_169n (x0 := z154) (by omega)) (fun _ P155 => ?_)
                      obtain ⟨z156, rfl, dz156⟩ := P155
                      refine ty_zeq rfl (fun c157 => ?_) (fun c157 => ?_)
                      · refine hq_p rfl rfl ?_
                        refine ty_gI Ih141 rfl rfl (by decide) (by decide) rfl rfl (fun z159 ez159 az159 bz159 => ?_)
                        refine hq_p rfl rfl (ty_ge (n := 2) nk_i2 (fun z160 ez160 => ?_))
                        refine ty_ine rfl (fun c161 => ?_) (fun c161 => ?_)
                        · clear c161
                          exact hq_W.ret rfl rfl rfl ⟨Jh141, rfl, by omega, by omega, by omega, (fun _ => by rcases x2n142 with q | q <;> first | omega | (rw [rrh141, show z153.toInt.toNat = z10.toInt.toNat by omega] at ez154; omega)), (fun q => by have e1 : (hs_fI h141 97 14).toInt + 1 ≤ (hs_fI h141 97 15).toInt := (by rcases x2n142 with q | q <;> first | omega | (rw [rrh141, show z153.toInt.toNat = z10.toInt.toNat by omega] at ez154; omega)); rcases x3n142 (by omega) with o | o | o <;> omega)⟩
                        · exfalso; omega
                      · replace c157 : 1 ≤ z156.toInt ∧ z156.toInt ≤ 1 := by omega
                        refine hq_p rfl rfl ?_
                        refine hq_p rfl rfl ?_
                        refine ty_gI Ih141 rfl rfl (by decide) (by decide) rfl rfl (fun z162 ez162 az162 bz162 => ?_)
                        refine hq_p rfl rfl ?_
                        refine ty_gI Ih141 rfl rfl (by decide) (by decide) rfl rfl (fun z163 ez163 az163 bz163 => ?_)
                        refine hq_p rfl rfl (ty_ge (n := z162.toInt - z163.toInt) (nm_sub (by omega) (by omega)) (fun z164 ez164 => ?_))
                        refine hq_p rfl rfl (ty_ge (n := 10) nk_b10 (fun z165 ez165 => ?_))
                        refine ty_ige rfl (fun c166 => ?_) (fun c166 => ?_)
                        · refine hq_p rfl rfl (ty_gle (n := -1) (by decide) (fun z167 ez167 => ?_))
                          have k168 : (hs_fI h141 97 15).toInt = (hs_fI h141 97 14).toInt → z167.toInt ≤ 26 := fun _ => by omega
                          refine ty_pL (W := ty_Wn) H Jh141 rfl rfl (by decide) rfl rfl (by unfold ty_Wn; omega) rfl (by omega) (by omega) (fun h169 eh169 Jh169 => ?_)
                          have wh169 : (hs_fL h169 97 17).toInt = z167.toInt := by rw [eh169]; exact congrArg Int64.toInt (ty_fL_eq Ih141.1 rfl (by decide) rfl)
                          have Ih169 := H.1 h169 Jh169
                          refine hq_p rfl rfl ?_
                          refine hq_p rfl rfl ?_
                          have r171 : (hs_fI h169 97 15).toInt = (hs_fI h141 97 15).toInt := by rw [eh169]; exact congrArg Int32.toInt (ty_fI_sF (by decide))
                          refine ty_gI Ih169 rfl rfl (by decide) (by decide) rfl rfl (fun z170 ez170 az170 bz170 => ?_)
                          refine hq_p rfl rfl (ty_ge (n := 1) nk_i1 (fun z172 ez172 => ?_))
                          refine hq_p rfl rfl (ty_ge (n := z170.toInt + z172.toInt) (nm_add (by omega) (by omega)) (fun z173 ez173 => ?_))
                          refine ty_pI (W := ty_Wn) H Jh169 rfl rfl (by decide) rfl rfl (by unfold ty_Wn; omega) rfl (by omega) (by omega) (fun h174 eh174 Jh174 => ?_)
                          have wh174 : (hs_fI h174 97 15).toInt = z173.toInt := by rw [eh174]; exact congrArg Int32.toInt (ty_fI_eq Ih169.1 rfl (by decide) rfl)
                          have Ih174 := H.1 h174 Jh174
                          have r175 : (hs_fI h169 97 13).toInt = (hs_fI h141 97 13).toInt := by rw [eh169]; exact congrArg Int32.toInt (ty_fI_sF (by decide))
                          have r176 : (hs_fI h174 97 13).toInt = (hs_fI h169 97 13).toInt := by rw [eh174]; exact congrArg Int32.toInt (ty_fI_sF (by decide))
                          have r177 : (hs_fI h169 97 14).toInt = (hs_fI h141 97 14).toInt := by rw [eh169]; exact congrArg Int32.toInt (ty_fI_sF (by decide))
                          have r178 : (hs_fI h174 97 14).toInt = (hs_fI h169 97 14).toInt := by rw [eh174]; exact congrArg Int32.toInt (ty_fI_sF (by decide))
                          have r179 : (hs_fI h169 97 16).toInt = (hs_fI h141 97 16).toInt := by rw [eh169]; exact congrArg Int32.toInt (ty_fI_sF (by decide))
                          have r180 : (hs_fI h174 97 16).toInt = (hs_fI h169 97 16).toInt := by rw [eh174]; exact congrArg Int32.toInt (ty_fI_sF (by decide))
                          have r181 : (hs_fL h174 97 17).toInt = (hs_fL h169 97 17).toInt := by rw [eh174]; exact congrArg Int64.toInt (ty_fL_sF (by decide))
                          have k182 : (hs_fI h141 97 15).toInt = (hs_fI h141 97 14).toInt → (hs_fL h174 97 17).toInt ≤ 26 := fun q => by have o := k168 q; omega
                          refine hq_p rfl rfl ?_
                          exact ihn142 ((400 - (hs_fI h174 97 15).toInt).toNat) (by omega) h174 rfl (by omega) (by omega) (by omega) (by have q := x3n142; rw [show (hs_fI h141 97 16).toInt = (hs_fI h174 97 16).toInt by omega, show (hs_fI h141 97 14).toInt = (hs_fI h174 97 14).toInt by omega] at q; exact tk_ws q (by omega) (fun e => k182 (by omega))) (by omega) (by omega) (by omega) Jh174
                        · refine hq_p rfl rfl ?_
                          refine ty_gL Ih141 rfl rfl (by decide) (by decide) rfl rfl (fun z183 ez183 az183 bz183 => ?_)
                          refine hq_p rfl rfl (ty_gle (n := 32) (by decide) (fun z184 ez184 => ?_))
                          refine hq_p rfl rfl (ty_gle (n := (z183 * z184).toInt) rfl (fun z185 ez185 => ?_))
                          have az185 := nm_llo z185
                          have bz185 := nm_lhi z185
                          refine hq_p rfl rfl ?_
                          refine hq_gR Ih141.1 rfl rfl (by decide) (by decide) rfl ?_
                          refine hq_p rfl rfl ?_
                          refine ty_gI Ih141 rfl rfl (by decide) (by decide) rfl rfl (fun z186 ez186 az186 bz186 => ?_)
                          refine ty_aL Ih141 rfl rfl (by decide) (by omega) (by omega) (fun _ _ => ty_le rfl) (fun z187 ez187 az187 bz187 => ?_)
                          refine hq_p rfl rfl (ty_gle (n := z187.toInt) (nm_i2l _) (fun z188 ez188 => ?_))
                          refine hq_p rfl rfl (ty_gle (n := (z185 + z188).toInt) rfl (fun z189 ez189 => ?_))
                          have az189 := nm_llo z189
                          have bz189 := nm_lhi z189
                          refine hq_p rfl rfl (ty_gle (n := 96) (by decide) (fun z190 ez190 => ?_))
                          refine hq_p rfl rfl (ty_gle (n := (z189 - z190).toInt) rfl (fun z191 ez191 => ?_))
                          have az191 := nm_llo z191
                          have bz191 := nm_lhi z191
                          refine hq_p rfl rfl ?_
                          have k192 : (hs_fI h141 97 15).toInt = (hs_fI h141 97 14).toInt → z191.toInt ≤ 26 := fun q => by
                            have q0 : z183.toInt = 0 := by have o := x3n142 (by omega); omega
                            have q1 : z185.toInt = 0 := by rw [ez185]; exact nm_lmul (n := 0) (by rw [q0, Int.zero_mul]) (by omega) (by omega)
                            have c1 : z187.toInt ≤ 122 ∧ 97 ≤ z187.toInt := by rw [ez187, rrh141, show z186.toInt.toNat = z10.toInt.toNat by omega]; rcases x2n142 with o | o <;> omega
                            have q2 : z189.toInt = z187.toInt := by rw [ez189, nm_ladd (by omega) (by omega)]; omega
                            have q3 : z191.toInt = z187.toInt - 96 := by rw [ez191, nm_lsub (by omega) (by omega)]; omega
                            omega
                          refine ty_pL (W := ty_Wn) H Jh141 rfl rfl (by decide) rfl rfl (by unfold ty_Wn; omega) rfl (by omega) (by omega) (fun h193 eh193 Jh193 => ?_)
                          have wh193 : (hs_fL h193 97 17).toInt = z191.toInt := by rw [eh193]; exact congrArg Int64.toInt (ty_fL_eq Ih141.1 rfl (by decide) rfl)
                          have Ih193 := H.1 h193 Jh193
                          refine hq_p rfl rfl ?_
                          refine hq_p rfl rfl ?_
                          have r195 : (hs_fI h193 97 15).toInt = (hs_fI h141 97 15).toInt := by rw [eh193]; exact congrArg Int32.toInt (ty_fI_sF (by decide))
                          refine ty_gI Ih193 rfl rfl (by decide) (by decide) rfl rfl (fun z194 ez194 az194 bz194 => ?_)
                          refine hq_p rfl rfl (ty_ge (n := 1) nk_i1 (fun z196 ez196 => ?_))
                          refine hq_p rfl rfl (ty_ge (n := z194.toInt + z196.toInt) (nm_add (by omega) (by omega)) (fun z197 ez197 => ?_))
                          refine ty_pI (W := ty_Wn) H Jh193 rfl rfl (by decide) rfl rfl (by unfold ty_Wn; omega) rfl (by omega) (by omega) (fun h198 eh198 Jh198 => ?_)
                          have wh198 : (hs_fI h198 97 15).toInt = z197.toInt := by rw [eh198]; exact congrArg Int32.toInt (ty_fI_eq Ih193.1 rfl (by decide) rfl)
                          have Ih198 := H.1 h198 Jh198
                          have r199 : (hs_fI h193 97 13).toInt = (hs_fI h141 97 13).toInt := by rw [eh193]; exact congrArg Int32.toInt (ty_fI_sF (by decide))
                          have r200 : (hs_fI h198 97 13).toInt = (hs_fI h193 97 13).toInt := by rw [eh198]; exact congrArg Int32.toInt (ty_fI_sF (by decide))
                          have r201 : (hs_fI h193 97 14).toInt = (hs_fI h141 97 14).toInt := by rw [eh193]; exact congrArg Int32.toInt (ty_fI_sF (by decide))
                          have r202 : (hs_fI h198 97 14).toInt = (hs_fI h193 97 14).toInt := by rw [eh198]; exact congrArg Int32.toInt (ty_fI_sF (by decide))
                          have r203 : (hs_fI h193 97 16).toInt = (hs_fI h141 97 16).toInt := by rw [eh193]; exact congrArg Int32.toInt (ty_fI_sF (by decide))
                          have r204 : (hs_fI h198 97 16).toInt = (hs_fI h193 97 16).toInt := by rw [eh198]; exact congrArg Int32.toInt (ty_fI_sF (by decide))
                          have r205 : (hs_fL h198 97 17).toInt = (hs_fL h193 97 17).toInt := by rw [eh198]; exact congrArg Int64.toInt (ty_fL_sF (by decide))
                          have k206 : (hs_fI h141 97 15).toInt = (hs_fI h141 97 14).toInt → (hs_fL h198 97 17).toInt ≤ 26 := fun q => by have o := k192 q; omega
                          refine hq_p rfl rfl ?_
                          exact ihn142 ((400 - (hs_fI h198 97 15).toInt).toNat) (by omega) h198 rfl (by omega) (by omega) (by omega) (by have q := x3n142; rw [show (hs_fI h141 97 16).toInt = (hs_fI h198 97 16).toInt by omega, show (hs_fI h141 97 14).toInt = (hs_fI h198 97 14).toInt by omega] at q; exact tk_ws q (by omega) (fun e => k206 (by omega))) (by omega) (by omega) (by omega) Jh198
              exact L149_n142 _ h131 rfl (by omega) (by omega) (by omega) (tk_w0 (by omega) (by omega)) (by omega) (by omega) (by omega) Jh131
            · exfalso; omega
        · refine hq_p rfl rfl (ty_ge (n := 0) nk_i0 (fun z207 ez207 => ?_))
          refine hq_p rfl rfl ?_
          refine ty_pI (W := ty_Wn) H Jh13 rfl rfl (by decide) rfl rfl (by unfold ty_Wn; omega) rfl (by omega) (by omega) (fun h208 eh208 Jh208 => ?_)
          have wh208 : (hs_fI h208 97 16).toInt = z207.toInt := by rw [eh208]; exact congrArg Int32.toInt (ty_fI_eq Ih13.1 rfl (by decide) rfl)
          have Ih208 := H.1 h208 Jh208
          refine hq_p rfl rfl ?_
          refine ty_gI Ih208 rfl rfl (by decide) (by decide) rfl rfl (fun z209 ez209 az209 bz209 => ?_)
          refine hq_p rfl rfl (ty_ge (n := 3) nk_i3 (fun z210 ez210 => ?_))
          refine ty_ine rfl (fun c211 => ?_) (fun c211 => ?_)
          · clear c211
            have r212 : (hs_fI h208 97 13).toInt = (hs_fI h13 97 13).toInt := by rw [eh208]; exact congrArg Int32.toInt (ty_fI_sF (by decide))
            have r213 : (hs_fI h208 97 14).toInt = (hs_fI h13 97 14).toInt := by rw [eh208]; exact congrArg Int32.toInt (ty_fI_sF (by decide))
            have r214 : (hs_fI h13 97 15).toInt = (hs_fI h11 97 15).toInt := by rw [eh13]; exact congrArg Int32.toInt (ty_fI_sF (by decide))
            have r215 : (hs_fI h208 97 15).toInt = (hs_fI h13 97 15).toInt := by rw [eh208]; exact congrArg Int32.toInt (ty_fI_sF (by decide))
            have r216 : (hs_fL h208 97 17).toInt = (hs_fL h13 97 17).toInt := by rw [eh208]; exact congrArg Int64.toInt (ty_fL_sF (by decide))
            refine hq_p rfl rfl ?_
            refine ty_gI Ih208 rfl rfl (by decide) (by decide) rfl rfl (fun z218 ez218 az218 bz218 => ?_)
            refine hq_p rfl rfl (ty_ge (n := 1) nk_i1 (fun z219 ez219 => ?_))
            refine ty_ine rfl (fun c220 => ?_) (fun c220 => ?_)
            · clear c220
              refine hq_p rfl rfl ?_
              refine ty_gI Ih208 rfl rfl (by decide) (by decide) rfl rfl (fun z222 ez222 az222 bz222 => ?_)
              refine hq_p rfl rfl (ty_ge (n := 2) nk_i2 (fun z223 ez223 => ?_))
              refine ty_ine rfl (fun c224 => ?_) (fun c224 => ?_)
              · clear c224
                exact hq_W.ret rfl rfl rfl ⟨Jh208, rfl, by omega, by omega, by omega, (fun _ => by omega), (fun q => by exfalso; omega)⟩
              · exfalso; omega
            · exfalso; omega
          · exfalso; omega
      · refine hq_p rfl rfl ?_
        refine hq_gR Ih5.1 rfl rfl (by decide) (by decide) rfl ?_
        refine hq_p rfl rfl ?_
        refine ty_gI Ih5 rfl rfl (by decide) (by decide) rfl rfl (fun z225 ez225 az225 bz225 => ?_)
        refine ty_aL Ih5 rfl rfl (by decide) (by omega) (by omega) (fun _ _ => ty_le rfl) (fun z226 ez226 az226 bz226 => ?_)
        refine hq_p rfl rfl (ty_ge (n := 32) nk_b32 (fun z227 ez227 => ?_))
        refine ty_ine rfl (fun c228 => ?_) (fun c228 => ?_)
        · clear c228
          refine hq_p rfl rfl ?_
          refine hq_p rfl rfl ?_
          refine ty_gI Ih5 rfl rfl (by decide) (by decide) rfl rfl (fun z229 ez229 az229 bz229 => ?_)
          refine ty_pI (W := ty_Wn) H Jh5 rfl rfl (by decide) rfl rfl (by unfold ty_Wn; omega) rfl (by omega) (by omega) (fun h230 eh230 Jh230 => ?_)
          have wh230 : (hs_fI h230 97 15).toInt = z229.toInt := by rw [eh230]; exact congrArg Int32.toInt (ty_fI_eq Ih5.1 rfl (by decide) rfl)
          have Ih230 := H.1 h230 Jh230
          refine hq_p rfl rfl ?_
          refine hq_p rfl rfl (ty_gle (n := 0) (by decide) (fun z231 ez231 => ?_))
          refine ty_pL (W := ty_Wn) H Jh230 rfl rfl (by decide) rfl rfl (by unfold ty_Wn; omega) rfl (by omega) (by omega) (fun h232 eh232 Jh232 => ?_)
          have wh232 : (hs_fL h232 97 17).toInt = z231.toInt := by rw [eh232]; exact congrArg Int64.toInt (ty_fL_eq Ih230.1 rfl (by decide) rfl)
          have Ih232 := H.1 h232 Jh232
          refine hq_p rfl rfl ?_
          refine hq_p rfl rfl ?_
          have r234 : (hs_fI h230 97 14).toInt = (hs_fI h5 97 14).toInt := by rw [eh230]; exact congrArg Int32.toInt (ty_fI_sF (by decide))
          have r235 : (hs_fI h232 97 14).toInt = (hs_fI h230 97 14).toInt := by rw [eh232]; exact congrArg Int32.toInt (ty_fI_sF (by decide))
          refine ty_gI Ih232 rfl rfl (by decide) (by decide) rfl rfl (fun z233 ez233 az233 bz233 => ?_)
          refine hq_p rfl rfl ?_
          have r237 : (hs_fI h230 97 13).toInt = (hs_fI h5 97 13).toInt := by rw [eh230]; exact congrArg Int32.toInt (ty_fI_sF (by decide))
          have r238 : (hs_fI h232 97 13).toInt = (hs_fI h230 97 13).toInt := by rw [eh232]; exact congrArg Int32.toInt (ty_fI_sF (by decide))
          refine ty_gI Ih232 rfl rfl (by decide) (by decide) rfl rfl (fun z236 ez236 az236 bz236 => ?_)
          refine ty_ine rfl (fun c239 => ?_) (fun c239 => ?_)
          · replace c239 : z233.toInt < z236.toInt := by omega
            refine hq_p rfl rfl ?_
            refine hq_gR Ih232.1 rfl rfl (by decide) (by decide) rfl ?_
            refine hq_p rfl rfl ?_
            refine ty_gI Ih232 rfl rfl (by decide) (by decide) rfl rfl (fun z240 ez240 az240 bz240 => ?_)
            refine ty_aL Ih232 rfl rfl (by decide) (by omega) (by omega) (fun _ _ => ty_le rfl) (fun z241 ez241 az241 bz241 => ?_)
            refine ty_callp 1 Ih232 rfl (fun _ => rfl) rfl rfl rfl rfl (ct_169n (x0 := z241) (by omega)) (fun _ P242 => ?_)
            obtain ⟨z243, rfl, dz243⟩ := P242
            refine ty_zeq rfl (fun c244 => ?_) (fun c244 => ?_)
            · refine hq_p rfl rfl ?_
              refine hq_gR Ih232.1 rfl rfl (by decide) (by decide) rfl ?_
              refine hq_p rfl rfl ?_
              refine ty_gI Ih232 rfl rfl (by decide) (by decide) rfl rfl (fun z245 ez245 az245 bz245 => ?_)
              refine ty_aL Ih232 rfl rfl (by decide) (by omega) (by omega) (fun _ _ => ty_le rfl) (fun z246 ez246 az246 bz246 => ?_)
              refine ty_callp 1 Ih232 rfl (fun _ => rfl) rfl rfl rfl rfl (ct_170n (x0 := z246) (by omega)) (fun _ P247 => ?_)
              obtain ⟨z248, rfl, dz248⟩ := P247
              refine ty_zeq rfl (fun c249 => ?_) (fun c249 => ?_)
              · refine hq_p rfl rfl (ty_ge (n := 3) nk_i3 (fun z250 ez250 => ?_))
                refine ty_pI (W := ty_Wn) H Jh232 rfl rfl (by decide) rfl rfl (by unfold ty_Wn; omega) rfl (by omega) (by omega) (fun h251 eh251 Jh251 => ?_)
                have wh251 : (hs_fI h251 97 16).toInt = z250.toInt := by rw [eh251]; exact congrArg Int32.toInt (ty_fI_eq Ih232.1 rfl (by decide) rfl)
                have Ih251 := H.1 h251 Jh251
                refine hq_p rfl rfl ?_
                refine ty_gI Ih251 rfl rfl (by decide) (by decide) rfl rfl (fun z252 ez252 az252 bz252 => ?_)
                refine hq_p rfl rfl (ty_ge (n := 3) nk_i3 (fun z253 ez253 => ?_))
                refine ty_ine rfl (fun c254 => ?_) (fun c254 => ?_)
                · exfalso; omega
                · refine hq_p rfl rfl ?_
                  refine hq_p rfl rfl ?_
                  refine hq_gR Ih251.1 rfl rfl (by decide) (by decide) rfl ?_
                  refine hq_p rfl rfl ?_
                  have r256 : (hs_fI h251 97 14).toInt = (hs_fI h232 97 14).toInt := by rw [eh251]; exact congrArg Int32.toInt (ty_fI_sF (by decide))
                  refine ty_gI Ih251 rfl rfl (by decide) (by decide) rfl rfl (fun z255 ez255 az255 bz255 => ?_)
                  refine ty_aL Ih251 rfl rfl (by decide) (by omega) (by omega) (fun _ _ => ty_le rfl) (fun z257 ez257 az257 bz257 => ?_)
                  refine hq_p rfl rfl (ty_gle (n := z257.toInt) (nm_i2l _) (fun z258 ez258 => ?_))
                  refine ty_pL (W := ty_Wn) H Jh251 rfl rfl (by decide) rfl rfl (by unfold ty_Wn; omega) rfl (by omega) (by omega) (fun h259 eh259 Jh259 => ?_)
                  have wh259 : (hs_fL h259 97 17).toInt = z258.toInt := by rw [eh259]; exact congrArg Int64.toInt (ty_fL_eq Ih251.1 rfl (by decide) rfl)
                  have Ih259 := H.1 h259 Jh259
                  refine hq_p rfl rfl ?_
                  refine hq_p rfl rfl ?_
                  have r261 : (hs_fI h232 97 15).toInt = (hs_fI h230 97 15).toInt := by rw [eh232]; exact congrArg Int32.toInt (ty_fI_sF (by decide))
                  have r262 : (hs_fI h251 97 15).toInt = (hs_fI h232 97 15).toInt := by rw [eh251]; exact congrArg Int32.toInt (ty_fI_sF (by decide))
                  have r263 : (hs_fI h259 97 15).toInt = (hs_fI h251 97 15).toInt := by rw [eh259]; exact congrArg Int32.toInt (ty_fI_sF (by decide))
                  refine ty_gI Ih259 rfl rfl (by decide) (by decide) rfl rfl (fun z260 ez260 az260 bz260 => ?_)
                  refine hq_p rfl rfl (ty_ge (n := 1) nk_i1 (fun z264 ez264 => ?_))
                  refine hq_p rfl rfl (ty_ge (n := z260.toInt + z264.toInt) (nm_add (by omega) (by omega)) (fun z265 ez265 => ?_))
                  refine ty_pI (W := ty_Wn) H Jh259 rfl rfl (by decide) rfl rfl (by unfold ty_Wn; omega) rfl (by omega) (by omega) (fun h266 eh266 Jh266 => ?_)
                  have wh266 : (hs_fI h266 97 15).toInt = z265.toInt := by rw [eh266]; exact congrArg Int32.toInt (ty_fI_eq Ih259.1 rfl (by decide) rfl)
                  have Ih266 := H.1 h266 Jh266
                  have r267 : (hs_fI h251 97 13).toInt = (hs_fI h232 97 13).toInt := by rw [eh251]; exact congrArg Int32.toInt (ty_fI_sF (by decide))
                  have r268 : (hs_fI h259 97 13).toInt = (hs_fI h251 97 13).toInt := by rw [eh259]; exact congrArg Int32.toInt (ty_fI_sF (by decide))
                  have r269 : (hs_fI h266 97 13).toInt = (hs_fI h259 97 13).toInt := by rw [eh266]; exact congrArg Int32.toInt (ty_fI_sF (by decide))
                  have r270 : (hs_fI h259 97 14).toInt = (hs_fI h251 97 14).toInt := by rw [eh259]; exact congrArg Int32.toInt (ty_fI_sF (by decide))
                  have r271 : (hs_fI h266 97 14).toInt = (hs_fI h259 97 14).toInt := by rw [eh266]; exact congrArg Int32.toInt (ty_fI_sF (by decide))
                  have r272 : (hs_fI h259 97 16).toInt = (hs_fI h251 97 16).toInt := by rw [eh259]; exact congrArg Int32.toInt (ty_fI_sF (by decide))
                  have r273 : (hs_fI h266 97 16).toInt = (hs_fI h259 97 16).toInt := by rw [eh266]; exact congrArg Int32.toInt (ty_fI_sF (by decide))
                  have r274 : (hs_fL h266 97 17).toInt = (hs_fL h259 97 17).toInt := by rw [eh266]; exact congrArg Int64.toInt (ty_fL_sF (by decide))
                  refine hq_p rfl rfl ?_
                  refine ty_gI Ih266 rfl rfl (by decide) (by decide) rfl rfl (fun z276 ez276 az276 bz276 => ?_)
                  refine hq_p rfl rfl (ty_ge (n := 1) nk_i1 (fun z277 ez277 => ?_))
                  refine ty_ine rfl (fun c278 => ?_) (fun c278 => ?_)
                  · clear c278
                    refine hq_p rfl rfl ?_
                    refine ty_gI Ih266 rfl rfl (by decide) (by decide) rfl rfl (fun z280 ez280 az280 bz280 => ?_)
                    refine hq_p rfl rfl (ty_ge (n := 2) nk_i2 (fun z281 ez281 => ?_))
                    refine ty_ine rfl (fun c282 => ?_) (fun c282 => ?_)
                    · clear c282
                      exact hq_W.ret rfl rfl rfl ⟨Jh266, rfl, by omega, by omega, by omega, (fun _ => by omega), (fun q => by exfalso; omega)⟩
                    · exfalso; omega
                  · exfalso; omega
              · replace c249 : 1 ≤ z248.toInt ∧ z248.toInt ≤ 1 := by omega
                have rrh232 : hs_aI h232 106 = R := by have q := Jh232; rw [eJ] at q; exact q.2
                have sm : 48 ≤ (R z229.toInt.toNat).toInt ∧ (R z229.toInt.toNat).toInt ≤ 57 := by rw [rrh232, show z245.toInt.toNat = z229.toInt.toNat by omega] at ez246; omega
                refine hq_p rfl rfl (ty_ge (n := 2) nk_i2 (fun z283 ez283 => ?_))
                refine hq_p rfl rfl ?_
                refine ty_pI (W := ty_Wn) H Jh232 rfl rfl (by decide) rfl rfl (by unfold ty_Wn; omega) rfl (by omega) (by omega) (fun h284 eh284 Jh284 => ?_)
                have wh284 : (hs_fI h284 97 16).toInt = z283.toInt := by rw [eh284]; exact congrArg Int32.toInt (ty_fI_eq Ih232.1 rfl (by decide) rfl)
                have Ih284 := H.1 h284 Jh284
                refine hq_p rfl rfl ?_
                refine ty_gI Ih284 rfl rfl (by decide) (by decide) rfl rfl (fun z285 ez285 az285 bz285 => ?_)
                refine hq_p rfl rfl (ty_ge (n := 3) nk_i3 (fun z286 ez286 => ?_))
                refine ty_ine rfl (fun c287 => ?_) (fun c287 => ?_)
                · clear c287
                  have r288 : (hs_fI h284 97 13).toInt = (hs_fI h232 97 13).toInt := by rw [eh284]; exact congrArg Int32.toInt (ty_fI_sF (by decide))
                  have r289 : (hs_fI h284 97 14).toInt = (hs_fI h232 97 14).toInt := by rw [eh284]; exact congrArg Int32.toInt (ty_fI_sF (by decide))
                  have r290 : (hs_fI h232 97 15).toInt = (hs_fI h230 97 15).toInt := by rw [eh232]; exact congrArg Int32.toInt (ty_fI_sF (by decide))
                  have r291 : (hs_fI h284 97 15).toInt = (hs_fI h232 97 15).toInt := by rw [eh284]; exact congrArg Int32.toInt (ty_fI_sF (by decide))
                  have r292 : (hs_fL h284 97 17).toInt = (hs_fL h232 97 17).toInt := by rw [eh284]; exact congrArg Int64.toInt (ty_fL_sF (by decide))
                  refine hq_p rfl rfl ?_
                  refine ty_gI Ih284 rfl rfl (by decide) (by decide) rfl rfl (fun z294 ez294 az294 bz294 => ?_)
                  refine hq_p rfl rfl (ty_ge (n := 1) nk_i1 (fun z295 ez295 => ?_))
                  refine ty_ine rfl (fun c296 => ?_) (fun c296 => ?_)
                  · clear c296
                    have L243_n299 : ∀ n299 : Nat, ∀ (h298 : pm_H), (400 - (hs_fI h298 97 15).toInt).toNat = n299 → (hs_fI h298 97 14).toInt ≤ (hs_fI h298 97 15).toInt → (hs_fI h298 97 15).toInt ≤ (hs_fI h298 97 13).toInt → (hs_fI h298 97 14).toInt + 1 ≤ (hs_fI h298 97 15).toInt ∨ ((hs_fI h298 97 15).toInt = (hs_fI h298 97 14).toInt ∧ 48 ≤ (R z229.toInt.toNat).toInt ∧ (R z229.toInt.toNat).toInt ≤ 57) → (hs_fI h298 97 13).toInt = (hs_fI h284 97 13).toInt → (hs_fI h298 97 14).toInt = (hs_fI h284 97 14).toInt → (hs_fI h298 97 16).toInt = (hs_fI h284 97 16).toInt → J h298 → hq_W X d 11 false (none) pm_c172 (243, [some (.ref 97)], [], h298) (fun h' v => J h' ∧ (fun h1 v => v = none ∧ (hs_fI h 97 15).toInt ≤ (hs_fI h1 97 14).toInt ∧ tk_ok h1) h' v) := by
                      intro n299
                      induction n299 using Nat.strongRecOn with
                      | ind n299 ihn299 =>
                        intro h298 mn299 x0n299 x1n299 x2n299 x3n299 x4n299 x5n299 Jh298
                        have Ih298 := H.1 h298 Jh298
                        refine hq_p rfl rfl ?_
                        refine ty_gI Ih298 rfl rfl (by decide) (by decide) rfl rfl (fun z300 ez300 az300 bz300 => ?_)
                        refine hq_p rfl rfl (ty_ge (n := 2) nk_i2 (fun z301 ez301 => ?_))
                        refine ty_ine rfl (fun c302 => ?_) (fun c302 => ?_)
                        · exfalso; omega
                        · refine hq_p rfl rfl ?_
                          refine ty_gI Ih298 rfl rfl (by decide) (by decide) rfl rfl (fun z303 ez303 az303 bz303 => ?_)
                          refine hq_p rfl rfl ?_
                          refine ty_gI Ih298 rfl rfl (by decide) (by decide) rfl rfl (fun z304 ez304 az304 bz304 => ?_)
                          refine ty_ige rfl (fun c305 => ?_) (fun c305 => ?_)
                          · exact hq_W.ret rfl rfl rfl ⟨Jh298, rfl, by omega, by omega, by omega, (fun _ => by rcases x2n299 with q | q <;> omega), (fun q => by exfalso; omega)⟩
                          · refine hq_p rfl rfl ?_
                            refine hq_gR Ih298.1 rfl rfl (by decide) (by decide) rfl ?_
                            refine hq_p rfl rfl ?_
                            refine ty_gI Ih298 rfl rfl (by decide) (by decide) rfl rfl (fun z306 ez306 az306 bz306 => ?_)
                            refine ty_aL Ih298 rfl rfl (by decide) (by omega) (by omega) (fun _ _ => ty_le rfl) (fun z307 ez307 az307 bz307 => ?_)
                            have rrh298 : hs_aI h298 106 = R := by have q := Jh298; rw [eJ] at q; exact q.2
                            refine ty_callp 1 Ih298 rfl (fun _ => rfl) rfl rfl rfl rfl (ct_170n (x0 := z307) (by omega)) (fun _ P308 => ?_)
                            obtain ⟨z309, rfl, dz309⟩ := P308
                            refine ty_zeq rfl (fun c310 => ?_) (fun c310 => ?_)
                            · exact hq_W.ret rfl rfl rfl ⟨Jh298, rfl, by omega, by omega, by omega, (fun _ => by rcases x2n299 with q | q <;> first | omega | (rw [rrh298, show z306.toInt.toNat = z229.toInt.toNat by omega] at ez307; omega)), (fun q => by exfalso; omega)⟩
                            · replace c310 : 1 ≤ z309.toInt ∧ z309.toInt ≤ 1 := by omega
                              refine hq_p rfl rfl ?_
                              refine hq_p rfl rfl ?_
                              refine ty_gL Ih298 rfl rfl (by decide) (by decide) rfl rfl (fun z311 ez311 az311 bz311 => ?_)
                              refine hq_p rfl rfl (ty_gle (n := 1000000) (by decide) (fun z312 ez312 => ?_))
                              refine hq_p rfl rfl (ty_gc (fun z313 ez313 => ?_))
                              refine ty_zle rfl (fun c314 => ?_) (fun c314 => ?_)
                              · replace ez313 : z311.toInt ≤ z312.toInt := by omega
                                clear c314
                                refine hq_p rfl rfl ?_
                                refine ty_gL Ih298 rfl rfl (by decide) (by decide) rfl rfl (fun z315 ez315 az315 bz315 => ?_)
                                refine hq_p rfl rfl (ty_gle (n := 10) (by decide) (fun z316 ez316 => ?_))
                                refine hq_p rfl rfl (ty_gla (fun z317 az317 bz317 => ?_))
                                refine hq_p rfl rfl ?_
                                refine hq_gR Ih298.1 rfl rfl (by decide) (by decide) rfl ?_
                                refine hq_p rfl rfl ?_
                                refine ty_gI Ih298 rfl rfl (by decide) (by decide) rfl rfl (fun z318 ez318 az318 bz318 => ?_)
                                refine ty_aL Ih298 rfl rfl (by decide) (by omega) (by omega) (fun _ _ => ty_le rfl) (fun z319 ez319 az319 bz319 => ?_)
                                refine hq_p rfl rfl (ty_gle (n := z319.toInt) (nm_i2l _) (fun z320 ez320 => ?_))
                                refine hq_p rfl rfl (ty_gla (fun z321 az321 bz321 => ?_))
                                refine hq_p rfl rfl (ty_gle (n := 48) (by decide) (fun z322 ez322 => ?_))
                                refine hq_p rfl rfl (ty_gla (fun z323 az323 bz323 => ?_))
                                refine ty_pL (W := ty_Wn) H Jh298 rfl rfl (by decide) rfl rfl (by unfold ty_Wn; omega) rfl (by omega) (by omega) (fun h324 eh324 Jh324 => ?_)
                                have wh324 : (hs_fL h324 97 17).toInt = z323.toInt := by rw [eh324]; exact congrArg Int64.toInt (ty_fL_eq Ih298.1 rfl (by decide) rfl)
                                have Ih324 := H.1 h324 Jh324
                                refine hq_p rfl rfl ?_
                                refine hq_p rfl rfl ?_
                                have r326 : (hs_fI h324 97 15).toInt = (hs_fI h298 97 15).toInt := by rw [eh324]; exact congrArg Int32.toInt (ty_fI_sF (by decide))
                                refine ty_gI Ih324 rfl rfl (by decide) (by decide) rfl rfl (fun z325 ez325 az325 bz325 => ?_)
                                refine hq_p rfl rfl (ty_ge (n := 1) nk_i1 (fun z327 ez327 => ?_))
                                refine hq_p rfl rfl (ty_ge (n := z325.toInt + z327.toInt) (nm_add (by omega) (by omega)) (fun z328 ez328 => ?_))
                                refine ty_pI (W := ty_Wn) H Jh324 rfl rfl (by decide) rfl rfl (by unfold ty_Wn; omega) rfl (by omega) (by omega) (fun h329 eh329 Jh329 => ?_)
                                have wh329 : (hs_fI h329 97 15).toInt = z328.toInt := by rw [eh329]; exact congrArg Int32.toInt (ty_fI_eq Ih324.1 rfl (by decide) rfl)
                                have Ih329 := H.1 h329 Jh329
                                refine hq_p rfl rfl ?_
                                have r330 : (hs_fI h324 97 13).toInt = (hs_fI h298 97 13).toInt := by rw [eh324]; exact congrArg Int32.toInt (ty_fI_sF (by decide))
                                have r331 : (hs_fI h329 97 13).toInt = (hs_fI h324 97 13).toInt := by rw [eh329]; exact congrArg Int32.toInt (ty_fI_sF (by decide))
                                have r332 : (hs_fI h324 97 14).toInt = (hs_fI h298 97 14).toInt := by rw [eh324]; exact congrArg Int32.toInt (ty_fI_sF (by decide))
                                have r333 : (hs_fI h329 97 14).toInt = (hs_fI h324 97 14).toInt := by rw [eh329]; exact congrArg Int32.toInt (ty_fI_sF (by decide))
                                have r334 : (hs_fI h324 97 16).toInt = (hs_fI h298 97 16).toInt := by rw [eh324]; exact congrArg Int32.toInt (ty_fI_sF (by decide))
                                have r335 : (hs_fI h329 97 16).toInt = (hs_fI h324 97 16).toInt := by rw [eh329]; exact congrArg Int32.toInt (ty_fI_sF (by decide))
                                exact ihn299 ((400 - (hs_fI h329 97 15).toInt).toNat) (by omega) h329 rfl (by omega) (by omega) (by omega) (by omega) (by omega) (by omega) Jh329
                              · replace ez313 : z311.toInt > z312.toInt := by omega
                                clear c314
                                refine hq_p rfl rfl ?_
                                refine ty_gL Ih298 rfl rfl (by decide) (by decide) rfl rfl (fun z336 ez336 az336 bz336 => ?_)
                                refine hq_p rfl rfl ?_
                                refine ty_pL (W := ty_Wn) H Jh298 rfl rfl (by decide) rfl rfl (by unfold ty_Wn; omega) rfl (by omega) (by omega) (fun h337 eh337 Jh337 => ?_)
                                have wh337 : (hs_fL h337 97 17).toInt = z336.toInt := by rw [eh337]; exact congrArg Int64.toInt (ty_fL_eq Ih298.1 rfl (by decide) rfl)
                                have Ih337 := H.1 h337 Jh337
                                refine hq_p rfl rfl ?_
                                refine hq_p rfl rfl ?_
                                have r339 : (hs_fI h337 97 15).toInt = (hs_fI h298 97 15).toInt := by rw [eh337]; exact congrArg Int32.toInt (ty_fI_sF (by decide))
                                refine ty_gI Ih337 rfl rfl (by decide) (by decide) rfl rfl (fun z338 ez338 az338 bz338 => ?_)
                                refine hq_p rfl rfl (ty_ge (n := 1) nk_i1 (fun z340 ez340 => ?_))
                                refine hq_p rfl rfl (ty_ge (n := z338.toInt + z340.toInt) (nm_add (by omega) (by omega)) (fun z341 ez341 => ?_))
                                refine ty_pI (W := ty_Wn) H Jh337 rfl rfl (by decide) rfl rfl (by unfold ty_Wn; omega) rfl (by omega) (by omega) (fun h342 eh342 Jh342 => ?_)
                                have wh342 : (hs_fI h342 97 15).toInt = z341.toInt := by rw [eh342]; exact congrArg Int32.toInt (ty_fI_eq Ih337.1 rfl (by decide) rfl)
                                have Ih342 := H.1 h342 Jh342
                                refine hq_p rfl rfl ?_
                                have r343 : (hs_fI h337 97 13).toInt = (hs_fI h298 97 13).toInt := by rw [eh337]; exact congrArg Int32.toInt (ty_fI_sF (by decide))
                                have r344 : (hs_fI h342 97 13).toInt = (hs_fI h337 97 13).toInt := by rw [eh342]; exact congrArg Int32.toInt (ty_fI_sF (by decide))
                                have r345 : (hs_fI h337 97 14).toInt = (hs_fI h298 97 14).toInt := by rw [eh337]; exact congrArg Int32.toInt (ty_fI_sF (by decide))
                                have r346 : (hs_fI h342 97 14).toInt = (hs_fI h337 97 14).toInt := by rw [eh342]; exact congrArg Int32.toInt (ty_fI_sF (by decide))
                                have r347 : (hs_fI h337 97 16).toInt = (hs_fI h298 97 16).toInt := by rw [eh337]; exact congrArg Int32.toInt (ty_fI_sF (by decide))
                                have r348 : (hs_fI h342 97 16).toInt = (hs_fI h337 97 16).toInt := by rw [eh342]; exact congrArg Int32.toInt (ty_fI_sF (by decide))
                                exact ihn299 ((400 - (hs_fI h342 97 15).toInt).toNat) (by omega) h342 rfl (by omega) (by omega) (by omega) (by omega) (by omega) (by omega) Jh342
                    exact L243_n299 _ h284 rfl (by omega) (by omega) (by omega) (by omega) (by omega) (by omega) Jh284
                  · exfalso; omega
                · exfalso; omega
            · replace c244 : 1 ≤ z243.toInt ∧ z243.toInt ≤ 1 := by omega
              have rrh232 : hs_aI h232 106 = R := by have q := Jh232; rw [eJ] at q; exact q.2
              have sm : 97 ≤ (R z229.toInt.toNat).toInt ∧ (R z229.toInt.toNat).toInt ≤ 122 := by rw [rrh232, show z240.toInt.toNat = z229.toInt.toNat by omega] at ez241; omega
              refine hq_p rfl rfl (ty_ge (n := 1) nk_i1 (fun z349 ez349 => ?_))
              refine hq_p rfl rfl ?_
              refine ty_pI (W := ty_Wn) H Jh232 rfl rfl (by decide) rfl rfl (by unfold ty_Wn; omega) rfl (by omega) (by omega) (fun h350 eh350 Jh350 => ?_)
              have wh350 : (hs_fI h350 97 16).toInt = z349.toInt := by rw [eh350]; exact congrArg Int32.toInt (ty_fI_eq Ih232.1 rfl (by decide) rfl)
              have Ih350 := H.1 h350 Jh350
              refine hq_p rfl rfl ?_
              refine ty_gI Ih350 rfl rfl (by decide) (by decide) rfl rfl (fun z351 ez351 az351 bz351 => ?_)
              refine hq_p rfl rfl (ty_ge (n := 3) nk_i3 (fun z352 ez352 => ?_))
              refine ty_ine rfl (fun c353 => ?_) (fun c353 => ?_)
              · clear c353
                have r354 : (hs_fI h350 97 13).toInt = (hs_fI h232 97 13).toInt := by rw [eh350]; exact congrArg Int32.toInt (ty_fI_sF (by decide))
                have r355 : (hs_fI h350 97 14).toInt = (hs_fI h232 97 14).toInt := by rw [eh350]; exact congrArg Int32.toInt (ty_fI_sF (by decide))
                have r356 : (hs_fI h232 97 15).toInt = (hs_fI h230 97 15).toInt := by rw [eh232]; exact congrArg Int32.toInt (ty_fI_sF (by decide))
                have r357 : (hs_fI h350 97 15).toInt = (hs_fI h232 97 15).toInt := by rw [eh350]; exact congrArg Int32.toInt (ty_fI_sF (by decide))
                have r358 : (hs_fL h350 97 17).toInt = (hs_fL h232 97 17).toInt := by rw [eh350]; exact congrArg Int64.toInt (ty_fL_sF (by decide))
                have L149_n361 : ∀ n361 : Nat, ∀ (h360 : pm_H), (400 - (hs_fI h360 97 15).toInt).toNat = n361 → (hs_fI h360 97 14).toInt ≤ (hs_fI h360 97 15).toInt → (hs_fI h360 97 15).toInt ≤ (hs_fI h360 97 13).toInt → (hs_fI h360 97 14).toInt + 1 ≤ (hs_fI h360 97 15).toInt ∨ ((hs_fI h360 97 15).toInt = (hs_fI h360 97 14).toInt ∧ 97 ≤ (R z229.toInt.toNat).toInt ∧ (R z229.toInt.toNat).toInt ≤ 122) → tk_w (hs_fI h360 97 16).toInt (hs_fI h360 97 15).toInt (hs_fI h360 97 14).toInt (hs_fL h360 97 17).toInt → (hs_fI h360 97 13).toInt = (hs_fI h350 97 13).toInt → (hs_fI h360 97 14).toInt = (hs_fI h350 97 14).toInt → (hs_fI h360 97 16).toInt = (hs_fI h350 97 16).toInt → J h360 → hq_W X d 11 false (none) pm_c172 (149, [some (.ref 97)], [], h360) (fun h' v => J h' ∧ (fun h1 v => v = none ∧ (hs_fI h 97 15).toInt ≤ (hs_fI h1 97 14).toInt ∧ tk_ok h1) h' v) := by
                  intro n361
                  induction n361 using Nat.strongRecOn with
                  | ind n361 ihn361 =>
                    intro h360 mn361 x0n361 x1n361 x2n361 x3n361 x4n361 x5n361 x6n361 Jh360
                    have Ih360 := H.1 h360 Jh360
                    refine hq_p rfl rfl ?_
                    refine ty_gI Ih360 rfl rfl (by decide) (by decide) rfl rfl (fun z362 ez362 az362 bz362 => ?_)
                    refine hq_p rfl rfl (ty_ge (n := 1) nk_i1 (fun z363 ez363 => ?_))
                    refine ty_ine rfl (fun c364 => ?_) (fun c364 => ?_)
                    · exfalso; omega
                    · refine hq_p rfl rfl ?_
                      refine ty_gI Ih360 rfl rfl (by decide) (by decide) rfl rfl (fun z365 ez365 az365 bz365 => ?_)
                      refine hq_p rfl rfl ?_
                      refine ty_gI Ih360 rfl rfl (by decide) (by decide) rfl rfl (fun z366 ez366 az366 bz366 => ?_)
                      refine ty_ige rfl (fun c367 => ?_) (fun c367 => ?_)
                      · refine hq_p rfl rfl ?_
                        refine ty_gI Ih360 rfl rfl (by decide) (by decide) rfl rfl (fun z369 ez369 az369 bz369 => ?_)
                        refine hq_p rfl rfl (ty_ge (n := 2) nk_i2 (fun z370 ez370 => ?_))
                        refine ty_ine rfl (fun c371 => ?_) (fun c371 => ?_)
                        · clear c371
                          exact hq_W.ret rfl rfl rfl ⟨Jh360, rfl, by omega, by omega, by omega, (fun _ => by rcases x2n361 with q | q <;> omega), (fun q => by have e1 : (hs_fI h360 97 14).toInt + 1 ≤ (hs_fI h360 97 15).toInt := (by rcases x2n361 with q | q <;> omega); rcases x3n361 (by omega) with o | o | o <;> omega)⟩
                        · exfalso; omega
                      · refine hq_p rfl rfl ?_
                        refine hq_gR Ih360.1 rfl rfl (by decide) (by decide) rfl ?_
                        refine hq_p rfl rfl ?_
                        refine ty_gI Ih360 rfl rfl (by decide) (by decide) rfl rfl (fun z372 ez372 az372 bz372 => ?_)
                        refine ty_aL Ih360 rfl rfl (by decide) (by omega) (by omega) (fun _ _ => ty_le rfl) (fun z373 ez373 az373 bz373 => ?_)
                        have rrh360 : hs_aI h360 106 = R := by have q := Jh360; rw [eJ] at q; exact q.2
                        refine ty_callp 1 Ih360 rfl (fun _ => rfl) rfl rfl rfl rfl (ct_169n (x0 := z373) (by omega)) (fun _ P374 => ?_)
                        obtain ⟨z375, rfl, dz375⟩ := P374
                        refine ty_zeq rfl (fun c376 => ?_) (fun c376 => ?_)
                        · refine hq_p rfl rfl ?_
                          refine ty_gI Ih360 rfl rfl (by decide) (by decide) rfl rfl (fun z378 ez378 az378 bz378 => ?_)
                          refine hq_p rfl rfl (ty_ge (n := 2) nk_i2 (fun z379 ez379 => ?_))
                          refine ty_ine rfl (fun c380 => ?_) (fun c380 => ?_)
                          · clear c380
                            exact hq_W.ret rfl rfl rfl ⟨Jh360, rfl, by omega, by omega, by omega, (fun _ => by rcases x2n361 with q | q <;> first | omega | (rw [rrh360, show z372.toInt.toNat = z229.toInt.toNat by omega] at ez373; omega)), (fun q => by have e1 : (hs_fI h360 97 14).toInt + 1 ≤ (hs_fI h360 97 15).toInt := (by rcases x2n361 with q | q <;> first | omega | (rw [rrh360, show z372.toInt.toNat = z229.toInt.toNat by omega] at ez373; omega)); rcases x3n361 (by omega) with o | o | o <;> omega)⟩
                          · exfalso; omega
                        · replace c376 : 1 ≤ z375.toInt ∧ z375.toInt ≤ 1 := by omega
                          refine hq_p rfl rfl ?_
                          refine hq_p rfl rfl ?_
                          refine ty_gI Ih360 rfl rfl (by decide) (by decide) rfl rfl (fun z381 ez381 az381 bz381 => ?_)
                          refine hq_p rfl rfl ?_
                          refine ty_gI Ih360 rfl rfl (by decide) (by decide) rfl rfl (fun z382 ez382 az382 bz382 => ?_)
                          refine hq_p rfl rfl (ty_ge (n := z381.toInt - z382.toInt) (nm_sub (by omega) (by omega)) (fun z383 ez383 => ?_))
                          refine hq_p rfl rfl (ty_ge (n := 10) nk_b10 (fun z384 ez384 => ?_))
                          refine ty_ige rfl (fun c385 => ?_) (fun c385 => ?_)
                          · refine hq_p rfl rfl (ty_gle (n := -1) (by decide) (fun z386 ez386 => ?_))
                            have k387 : (hs_fI h360 97 15).toInt = (hs_fI h360 97 14).toInt → z386.toInt ≤ 26 := fun _ => by omega
                            refine ty_pL (W := ty_Wn) H Jh360 rfl rfl (by decide) rfl rfl (by unfold ty_Wn; omega) rfl (by omega) (by omega) (fun h388 eh388 Jh388 => ?_)
                            have wh388 : (hs_fL h388 97 17).toInt = z386.toInt := by rw [eh388]; exact congrArg Int64.toInt (ty_fL_eq Ih360.1 rfl (by decide) rfl)
                            have Ih388 := H.1 h388 Jh388
                            refine hq_p rfl rfl ?_
                            refine hq_p rfl rfl ?_
                            have r390 : (hs_fI h388 97 15).toInt = (hs_fI h360 97 15).toInt := by rw [eh388]; exact congrArg Int32.toInt (ty_fI_sF (by decide))
                            refine ty_gI Ih388 rfl rfl (by decide) (by decide) rfl rfl (fun z389 ez389 az389 bz389 => ?_)
                            refine hq_p rfl rfl (ty_ge (n := 1) nk_i1 (fun z391 ez391 => ?_))
                            refine hq_p rfl rfl (ty_ge (n := z389.toInt + z391.toInt) (nm_add (by omega) (by omega)) (fun z392 ez392 => ?_))
                            refine ty_pI (W := ty_Wn) H Jh388 rfl rfl (by decide) rfl rfl (by unfold ty_Wn; omega) rfl (by omega) (by omega) (fun h393 eh393 Jh393 => ?_)
                            have wh393 : (hs_fI h393 97 15).toInt = z392.toInt := by rw [eh393]; exact congrArg Int32.toInt (ty_fI_eq Ih388.1 rfl (by decide) rfl)
                            have Ih393 := H.1 h393 Jh393
                            have r394 : (hs_fI h388 97 13).toInt = (hs_fI h360 97 13).toInt := by rw [eh388]; exact congrArg Int32.toInt (ty_fI_sF (by decide))
                            have r395 : (hs_fI h393 97 13).toInt = (hs_fI h388 97 13).toInt := by rw [eh393]; exact congrArg Int32.toInt (ty_fI_sF (by decide))
                            have r396 : (hs_fI h388 97 14).toInt = (hs_fI h360 97 14).toInt := by rw [eh388]; exact congrArg Int32.toInt (ty_fI_sF (by decide))
                            have r397 : (hs_fI h393 97 14).toInt = (hs_fI h388 97 14).toInt := by rw [eh393]; exact congrArg Int32.toInt (ty_fI_sF (by decide))
                            have r398 : (hs_fI h388 97 16).toInt = (hs_fI h360 97 16).toInt := by rw [eh388]; exact congrArg Int32.toInt (ty_fI_sF (by decide))
                            have r399 : (hs_fI h393 97 16).toInt = (hs_fI h388 97 16).toInt := by rw [eh393]; exact congrArg Int32.toInt (ty_fI_sF (by decide))
                            have r400 : (hs_fL h393 97 17).toInt = (hs_fL h388 97 17).toInt := by rw [eh393]; exact congrArg Int64.toInt (ty_fL_sF (by decide))
                            have k401 : (hs_fI h360 97 15).toInt = (hs_fI h360 97 14).toInt → (hs_fL h393 97 17).toInt ≤ 26 := fun q => by have o := k387 q; omega
                            refine hq_p rfl rfl ?_
                            exact ihn361 ((400 - (hs_fI h393 97 15).toInt).toNat) (by omega) h393 rfl (by omega) (by omega) (by omega) (by have q := x3n361; rw [show (hs_fI h360 97 16).toInt = (hs_fI h393 97 16).toInt by omega, show (hs_fI h360 97 14).toInt = (hs_fI h393 97 14).toInt by omega] at q; exact tk_ws q (by omega) (fun e => k401 (by omega))) (by omega) (by omega) (by omega) Jh393
                          · refine hq_p rfl rfl ?_
                            refine ty_gL Ih360 rfl rfl (by decide) (by decide) rfl rfl (fun z402 ez402 az402 bz402 => ?_)
                            refine hq_p rfl rfl (ty_gle (n := 32) (by decide) (fun z403 ez403 => ?_))
                            refine hq_p rfl rfl (ty_gle (n := (z402 * z403).toInt) rfl (fun z404 ez404 => ?_))
                            have az404 := nm_llo z404
                            have bz404 := nm_lhi z404
                            refine hq_p rfl rfl ?_
                            refine hq_gR Ih360.1 rfl rfl (by decide) (by decide) rfl ?_
                            refine hq_p rfl rfl ?_
                            refine ty_gI Ih360 rfl rfl (by decide) (by decide) rfl rfl (fun z405 ez405 az405 bz405 => ?_)
                            refine ty_aL Ih360 rfl rfl (by decide) (by omega) (by omega) (fun _ _ => ty_le rfl) (fun z406 ez406 az406 bz406 => ?_)
                            refine hq_p rfl rfl (ty_gle (n := z406.toInt) (nm_i2l _) (fun z407 ez407 => ?_))
                            refine hq_p rfl rfl (ty_gle (n := (z404 + z407).toInt) rfl (fun z408 ez408 => ?_))
                            have az408 := nm_llo z408
                            have bz408 := nm_lhi z408
                            refine hq_p rfl rfl (ty_gle (n := 96) (by decide) (fun z409 ez409 => ?_))
                            refine hq_p rfl rfl (ty_gle (n := (z408 - z409).toInt) rfl (fun z410 ez410 => ?_))
                            have az410 := nm_llo z410
                            have bz410 := nm_lhi z410
                            refine hq_p rfl rfl ?_
                            have k411 : (hs_fI h360 97 15).toInt = (hs_fI h360 97 14).toInt → z410.toInt ≤ 26 := fun q => by
                              have q0 : z402.toInt = 0 := by have o := x3n361 (by omega); omega
                              have q1 : z404.toInt = 0 := by rw [ez404]; exact nm_lmul (n := 0) (by rw [q0, Int.zero_mul]) (by omega) (by omega)
                              have c1 : z406.toInt ≤ 122 ∧ 97 ≤ z406.toInt := by rw [ez406, rrh360, show z405.toInt.toNat = z229.toInt.toNat by omega]; rcases x2n361 with o | o <;> omega
                              have q2 : z408.toInt = z406.toInt := by rw [ez408, nm_ladd (by omega) (by omega)]; omega
                              have q3 : z410.toInt = z406.toInt - 96 := by rw [ez410, nm_lsub (by omega) (by omega)]; omega
                              omega
                            refine ty_pL (W := ty_Wn) H Jh360 rfl rfl (by decide) rfl rfl (by unfold ty_Wn; omega) rfl (by omega) (by omega) (fun h412 eh412 Jh412 => ?_)
                            have wh412 : (hs_fL h412 97 17).toInt = z410.toInt := by rw [eh412]; exact congrArg Int64.toInt (ty_fL_eq Ih360.1 rfl (by decide) rfl)
                            have Ih412 := H.1 h412 Jh412
                            refine hq_p rfl rfl ?_
                            refine hq_p rfl rfl ?_
                            have r414 : (hs_fI h412 97 15).toInt = (hs_fI h360 97 15).toInt := by rw [eh412]; exact congrArg Int32.toInt (ty_fI_sF (by decide))
                            refine ty_gI Ih412 rfl rfl (by decide) (by decide) rfl rfl (fun z413 ez413 az413 bz413 => ?_)
                            refine hq_p rfl rfl (ty_ge (n := 1) nk_i1 (fun z415 ez415 => ?_))
                            refine hq_p rfl rfl (ty_ge (n := z413.toInt + z415.toInt) (nm_add (by omega) (by omega)) (fun z416 ez416 => ?_))
                            refine ty_pI (W := ty_Wn) H Jh412 rfl rfl (by decide) rfl rfl (by unfold ty_Wn; omega) rfl (by omega) (by omega) (fun h417 eh417 Jh417 => ?_)
                            have wh417 : (hs_fI h417 97 15).toInt = z416.toInt := by rw [eh417]; exact congrArg Int32.toInt (ty_fI_eq Ih412.1 rfl (by decide) rfl)
                            have Ih417 := H.1 h417 Jh417
                            have r418 : (hs_fI h412 97 13).toInt = (hs_fI h360 97 13).toInt := by rw [eh412]; exact congrArg Int32.toInt (ty_fI_sF (by decide))
                            have r419 : (hs_fI h417 97 13).toInt = (hs_fI h412 97 13).toInt := by rw [eh417]; exact congrArg Int32.toInt (ty_fI_sF (by decide))
                            have r420 : (hs_fI h412 97 14).toInt = (hs_fI h360 97 14).toInt := by rw [eh412]; exact congrArg Int32.toInt (ty_fI_sF (by decide))
                            have r421 : (hs_fI h417 97 14).toInt = (hs_fI h412 97 14).toInt := by rw [eh417]; exact congrArg Int32.toInt (ty_fI_sF (by decide))
                            have r422 : (hs_fI h412 97 16).toInt = (hs_fI h360 97 16).toInt := by rw [eh412]; exact congrArg Int32.toInt (ty_fI_sF (by decide))
                            have r423 : (hs_fI h417 97 16).toInt = (hs_fI h412 97 16).toInt := by rw [eh417]; exact congrArg Int32.toInt (ty_fI_sF (by decide))
                            have r424 : (hs_fL h417 97 17).toInt = (hs_fL h412 97 17).toInt := by rw [eh417]; exact congrArg Int64.toInt (ty_fL_sF (by decide))
                            have k425 : (hs_fI h360 97 15).toInt = (hs_fI h360 97 14).toInt → (hs_fL h417 97 17).toInt ≤ 26 := fun q => by have o := k411 q; omega
                            refine hq_p rfl rfl ?_
                            exact ihn361 ((400 - (hs_fI h417 97 15).toInt).toNat) (by omega) h417 rfl (by omega) (by omega) (by omega) (by have q := x3n361; rw [show (hs_fI h360 97 16).toInt = (hs_fI h417 97 16).toInt by omega, show (hs_fI h360 97 14).toInt = (hs_fI h417 97 14).toInt by omega] at q; exact tk_ws q (by omega) (fun e => k425 (by omega))) (by omega) (by omega) (by omega) Jh417
                exact L149_n361 _ h350 rfl (by omega) (by omega) (by omega) (tk_w0 (by omega) (by omega)) (by omega) (by omega) (by omega) Jh350
              · exfalso; omega
          · refine hq_p rfl rfl (ty_ge (n := 0) nk_i0 (fun z426 ez426 => ?_))
            refine hq_p rfl rfl ?_
            refine ty_pI (W := ty_Wn) H Jh232 rfl rfl (by decide) rfl rfl (by unfold ty_Wn; omega) rfl (by omega) (by omega) (fun h427 eh427 Jh427 => ?_)
            have wh427 : (hs_fI h427 97 16).toInt = z426.toInt := by rw [eh427]; exact congrArg Int32.toInt (ty_fI_eq Ih232.1 rfl (by decide) rfl)
            have Ih427 := H.1 h427 Jh427
            refine hq_p rfl rfl ?_
            refine ty_gI Ih427 rfl rfl (by decide) (by decide) rfl rfl (fun z428 ez428 az428 bz428 => ?_)
            refine hq_p rfl rfl (ty_ge (n := 3) nk_i3 (fun z429 ez429 => ?_))
            refine ty_ine rfl (fun c430 => ?_) (fun c430 => ?_)
            · clear c430
              have r431 : (hs_fI h427 97 13).toInt = (hs_fI h232 97 13).toInt := by rw [eh427]; exact congrArg Int32.toInt (ty_fI_sF (by decide))
              have r432 : (hs_fI h427 97 14).toInt = (hs_fI h232 97 14).toInt := by rw [eh427]; exact congrArg Int32.toInt (ty_fI_sF (by decide))
              have r433 : (hs_fI h232 97 15).toInt = (hs_fI h230 97 15).toInt := by rw [eh232]; exact congrArg Int32.toInt (ty_fI_sF (by decide))
              have r434 : (hs_fI h427 97 15).toInt = (hs_fI h232 97 15).toInt := by rw [eh427]; exact congrArg Int32.toInt (ty_fI_sF (by decide))
              have r435 : (hs_fL h427 97 17).toInt = (hs_fL h232 97 17).toInt := by rw [eh427]; exact congrArg Int64.toInt (ty_fL_sF (by decide))
              refine hq_p rfl rfl ?_
              refine ty_gI Ih427 rfl rfl (by decide) (by decide) rfl rfl (fun z437 ez437 az437 bz437 => ?_)
              refine hq_p rfl rfl (ty_ge (n := 1) nk_i1 (fun z438 ez438 => ?_))
              refine ty_ine rfl (fun c439 => ?_) (fun c439 => ?_)
              · clear c439
                refine hq_p rfl rfl ?_
                refine ty_gI Ih427 rfl rfl (by decide) (by decide) rfl rfl (fun z441 ez441 az441 bz441 => ?_)
                refine hq_p rfl rfl (ty_ge (n := 2) nk_i2 (fun z442 ez442 => ?_))
                refine ty_ine rfl (fun c443 => ?_) (fun c443 => ?_)
                · clear c443
                  exact hq_W.ret rfl rfl rfl ⟨Jh427, rfl, by omega, by omega, by omega, (fun _ => by omega), (fun q => by exfalso; omega)⟩
                · exfalso; omega
              · exfalso; omega
            · exfalso; omega
        · refine hq_p rfl rfl ?_
          refine hq_p rfl rfl ?_
          refine ty_gI Ih5 rfl rfl (by decide) (by decide) rfl rfl (fun z444 ez444 az444 bz444 => ?_)
          refine hq_p rfl rfl (ty_ge (n := 1) nk_i1 (fun z445 ez445 => ?_))
          refine hq_p rfl rfl (ty_ge (n := z444.toInt + z445.toInt) (nm_add (by omega) (by omega)) (fun z446 ez446 => ?_))
          refine ty_pI (W := ty_Wn) H Jh5 rfl rfl (by decide) rfl rfl (by unfold ty_Wn; omega) rfl (by omega) (by omega) (fun h447 eh447 Jh447 => ?_)
          have wh447 : (hs_fI h447 97 14).toInt = z446.toInt := by rw [eh447]; exact congrArg Int32.toInt (ty_fI_eq Ih5.1 rfl (by decide) rfl)
          have Ih447 := H.1 h447 Jh447
          refine hq_p rfl rfl ?_
          have r448 : (hs_fI h447 97 13).toInt = (hs_fI h5 97 13).toInt := by rw [eh447]; exact congrArg Int32.toInt (ty_fI_sF (by decide))
          exact ihn6 ((400 - (hs_fI h447 97 14).toInt).toNat) (by omega) h447 rfl (by omega) (by omega) (by omega) Jh447
  exact L8_n6 _ h2 rfl (by omega) (by omega) (by omega) Jh2
end CT44
