/-! CONTRACTS (printed by wip/pm/cts.py) -/
section CT35
theorem ct_224e {X : pm_X} {d : Nat} {h : pm_H} {x1 : Int32} {x2 : Int32} {x3 : Int32} (hd : 1 ≤ d) (ax1 : 0 ≤ x1.toInt) (bx1 : x1.toInt ≤ 7) (ax2 : 0 ≤ x2.toInt) (bx2 : x2.toInt ≤ 255) (ax3 : 0 ≤ x3.toInt) (bx3 : x3.toInt ≤ 255) (hC : 0 ≤ (hs_aI h 120 (256 * x1.toInt.toNat + x3.toInt.toNat)).toInt ∧ (hs_aI h 120 (256 * x1.toInt.toNat + x3.toInt.toNat)).toInt ≤ 100000000) (hL : 0 ≤ (hs_aI h 121 (256 * (x1.toInt.toNat + 1) + (x2 ||| x3).toInt.toNat)).toInt ∧ (hs_aI h 121 (256 * (x1.toInt.toNat + 1) + (x2 ||| x3).toInt.toNat)).toInt ≤ 100000000) : ty_M X ty_W0 d 224 [.ref 97, .int x1, .int x2, .int x3] h (fun _ v => ∃ z : Int32, v = some (.int z) ∧ z.toInt = bo_w (hs_aI h 120) (hs_aI h 121) x1.toInt.toNat x2 x3) := by
  intro J H hJ
  obtain ⟨d, rfl⟩ : ∃ e, d = e + 1 := ⟨d - 1, by omega⟩
  have I := H.1 h hJ
  refine hq_M.enter (q := (⟨"TrainBearersModel", "with", "(III)I"⟩, _, 4, some .int, 11, 4, pm_c224)) rfl rfl ?_
  show hq_W X d 11 false (some .int) pm_c224 (0, [some (.ref 97), some (.int x1), some (.int x2), some (.int x3)], [], h) (fun h' v => J h' ∧ (fun _ v => ∃ z : Int32, v = some (.int z) ∧ z.toInt = bo_w (hs_aI h 120) (hs_aI h 121) x1.toInt.toNat x2 x3) h' v)
  refine hq_p rfl rfl ?_
  refine hq_p rfl rfl ?_
  refine hq_p rfl rfl (ty_ge (n := (x2 &&& x3).toInt) rfl (fun z1 ez1 => ?_))
  have bz1 : 0 ≤ z1.toInt ∧ z1.toInt ≤ 255 := by rw [ez1]; have q := nm_and_r (x := x2) (y := x3) (by omega); omega
  refine ty_zne rfl (fun c2 => ?_) (fun c2 => ?_)
  · replace c2 : 1 ≤ z1.toInt ∧ z1.toInt ≤ 255 := by omega
    refine hq_p rfl rfl (ty_ge (n := 100000000) nk_d100000000 (fun z3 ez3 => ?_))
    refine hq_p rfl rfl ?_
    exact hq_W.ret rfl rfl rfl ⟨hJ, _, rfl, by unfold bo_w; split <;> omega⟩
  · refine hq_p rfl rfl ?_
    refine hq_gR I.1 rfl rfl (by decide) (by decide) rfl ?_
    refine hq_p rfl rfl (ty_ge (n := 256) nk_s256 (fun z4 ez4 => ?_))
    refine hq_p rfl rfl ?_
    refine hq_p rfl rfl (ty_ge (n := 256 * x1.toInt) (nm_cmul ez4 (by omega) (by omega)) (fun z5 ez5 => ?_))
    refine hq_p rfl rfl ?_
    refine hq_p rfl rfl (ty_ge (n := z5.toInt + x3.toInt) (nm_add (by omega) (by omega)) (fun z6 ez6 => ?_))
    refine ty_aL I rfl rfl (by decide) (by omega) (by omega) (fun _ _ => ty_le rfl) (fun z7 ez7 az7 bz7 => ?_)
    have ecz7 : z7.toInt = (hs_aI h 120 (256 * x1.toInt.toNat + x3.toInt.toNat)).toInt := by rw [ez7, show z6.toInt.toNat = 256 * x1.toInt.toNat + x3.toInt.toNat by omega]
    have edz7 : 0 ≤ z7.toInt ∧ z7.toInt ≤ 100000000 := by rw [ecz7]; exact hC
    refine hq_p rfl rfl (ty_ge (n := 100000000) nk_d100000000 (fun z8 ez8 => ?_))
    refine ty_ine rfl (fun c9 => ?_) (fun c9 => ?_)
    · replace c9 : z7.toInt < z8.toInt := by omega
      refine hq_p rfl rfl ?_
      refine hq_gR I.1 rfl rfl (by decide) (by decide) rfl ?_
      refine hq_p rfl rfl (ty_ge (n := 256) nk_s256 (fun z10 ez10 => ?_))
      refine hq_p rfl rfl ?_
      refine hq_p rfl rfl (ty_ge (n := 256 * x1.toInt) (nm_cmul ez10 (by omega) (by omega)) (fun z11 ez11 => ?_))
      refine hq_p rfl rfl ?_
      refine hq_p rfl rfl (ty_ge (n := z11.toInt + x3.toInt) (nm_add (by omega) (by omega)) (fun z12 ez12 => ?_))
      refine ty_aL I rfl rfl (by decide) (by omega) (by omega) (fun _ _ => ty_le rfl) (fun z13 ez13 az13 bz13 => ?_)
      have ecz13 : z13.toInt = (hs_aI h 120 (256 * x1.toInt.toNat + x3.toInt.toNat)).toInt := by rw [ez13, show z12.toInt.toNat = 256 * x1.toInt.toNat + x3.toInt.toNat by omega]
      have edz13 : 0 ≤ z13.toInt ∧ z13.toInt ≤ 100000000 := by rw [ecz13]; exact hC
      refine hq_p rfl rfl ?_
      refine hq_gR I.1 rfl rfl (by decide) (by decide) rfl ?_
      refine hq_p rfl rfl (ty_ge (n := 256) nk_s256 (fun z14 ez14 => ?_))
      refine hq_p rfl rfl ?_
      refine hq_p rfl rfl (ty_ge (n := 1) nk_i1 (fun z15 ez15 => ?_))
      refine hq_p rfl rfl (ty_ge (n := x1.toInt + z15.toInt) (nm_add (by omega) (by omega)) (fun z16 ez16 => ?_))
      refine hq_p rfl rfl (ty_ge (n := 256 * z16.toInt) (nm_cmul ez14 (by omega) (by omega)) (fun z17 ez17 => ?_))
      refine hq_p rfl rfl ?_
      refine hq_p rfl rfl ?_
      refine hq_p rfl rfl (ty_ge (n := (x2 ||| x3).toInt) rfl (fun z18 ez18 => ?_))
      have bz18 : 0 ≤ z18.toInt ∧ z18.toInt ≤ 255 := by rw [ez18]; have q := nm_or8 (x := x2) (y := x3) (by omega) (by omega) (by omega) (by omega); omega
      refine hq_p rfl rfl (ty_ge (n := z17.toInt + z18.toInt) (nm_add (by omega) (by omega)) (fun z19 ez19 => ?_))
      refine ty_aL I rfl rfl (by decide) (by omega) (by omega) (fun _ _ => ty_le rfl) (fun z20 ez20 az20 bz20 => ?_)
      have ecz20 : z20.toInt = (hs_aI h 121 (256 * (x1.toInt.toNat + 1) + (x2 ||| x3).toInt.toNat)).toInt := by rw [ez20, show z19.toInt.toNat = 256 * (x1.toInt.toNat + 1) + (x2 ||| x3).toInt.toNat by omega]
      have edz20 : 0 ≤ z20.toInt ∧ z20.toInt ≤ 100000000 := by rw [ecz20]; exact hL
      refine hq_p rfl rfl (ty_ge (n := z13.toInt + z20.toInt) (nm_add (by omega) (by omega)) (fun z21 ez21 => ?_))
      exact hq_W.ret rfl rfl rfl ⟨hJ, _, rfl, by unfold bo_w; split <;> omega⟩
    · refine hq_p rfl rfl (ty_ge (n := 100000000) nk_d100000000 (fun z22 ez22 => ?_))
      refine hq_p rfl rfl ?_
      exact hq_W.ret rfl rfl rfl ⟨hJ, _, rfl, by unfold bo_w; split <;> omega⟩
theorem ct_225e {X : pm_X} {d : Nat} {h : pm_H}  (hd : 2 ≤ d)  (hCo : bo_p (hs_aI h 120) (bo_G (hs_aI h 99 1)) (hs_aI h 99 0).toInt 0) : ty_M X ty_Wle d 225 [.ref 97] h (fun h1 v => v = none ∧ bo_q (hs_aI h 120) (hs_aI h1 121) (bo_G (hs_aI h 99 1)) (hs_aI h 99 0).toInt (-1) 0) := by
  intro J0 H0 hJ0
  obtain ⟨R99, eR99⟩ : ∃ R, hs_aI h 99 = R := ⟨_, rfl⟩
  obtain ⟨R120, eR120⟩ : ∃ R, hs_aI h 120 = R := ⟨_, rfl⟩
  obtain ⟨J, eJ⟩ : ∃ J : pm_H → Prop, J = fun h' => (J0 h' ∧ hs_aI h' 99 = R99) ∧ hs_aI h' 120 = R120 := ⟨_, rfl⟩
  have H : ty_C ty_Wle J := by rw [eJ]; exact (H0.arr 99 (by decide) (fun k => by unfold ty_Wle; omega) R99).arr 120 (by decide) (fun k => by unfold ty_Wle; omega) R120
  have hJ : J h := by rw [eJ]; exact ⟨⟨hJ0, eR99⟩, eR120⟩
  refine hq_M.mono (Nat.le_refl _) (Q := fun h' v => J h' ∧ (fun h1 v => v = none ∧ bo_q (hs_aI h 120) (hs_aI h1 121) (bo_G (hs_aI h 99 1)) (hs_aI h 99 0).toInt (-1) 0) h' v) (fun h' v q => ⟨by have q1 := q.1; rw [eJ] at q1; exact q1.1.1, q.2⟩) ?_
  have hG := bo_Gb (r := R99 1) (by rw [← eR99]; exact ((H0.1 h hJ0).2.2.2.1 99 1 (by decide) (by decide)).1) (by rw [← eR99]; exact ((H0.1 h hJ0).2.2.2.1 99 1 (by decide) (by decide)).2)
  have hG1 := hG.1
  have hG2 := hG.2
  have hm0 : 0 ≤ (R99 0).toInt := by rw [← eR99]; exact ((H0.1 h hJ0).2.2.2.1 99 0 (by decide) (by decide)).1
  have hr0 : 0 ≤ (R99 1).toInt := by rw [← eR99]; exact ((H0.1 h hJ0).2.2.2.1 99 1 (by decide) (by decide)).1
  have hr1 : (R99 1).toInt ≤ 8 := by rw [← eR99]; exact ((H0.1 h hJ0).2.2.2.1 99 1 (by decide) (by decide)).2
  have hn0 : 0 ≤ (R99 0).toInt := by rw [← eR99]; exact ((H0.1 h hJ0).2.2.2.1 99 0 (by decide) (by decide)).1
  have hn1 : (R99 0).toInt ≤ 8 := by rw [← eR99]; exact ((H0.1 h hJ0).2.2.2.1 99 0 (by decide) (by decide)).2
  rw [eR99, eR120] at hCo
  obtain ⟨d, rfl⟩ : ∃ e, d = e + 1 := ⟨d - 1, by omega⟩
  have I := H.1 h hJ
  refine hq_M.enter (q := (⟨"TrainBearersModel", "layBorne", "()V"⟩, _, 7, none, 11, 1, pm_c225)) rfl rfl ?_
  show hq_W X d 11 false (none) pm_c225 (0, [some (.ref 97), none, none, none, none, none, none], [], h) (fun h' v => J h' ∧ (fun h1 v => v = none ∧ bo_q (hs_aI h 120) (hs_aI h1 121) (bo_G (hs_aI h 99 1)) (hs_aI h 99 0).toInt (-1) 0) h' v)
  refine hq_p rfl rfl ?_
  refine hq_gR I.1 rfl rfl (by decide) (by decide) rfl ?_
  refine hq_p rfl rfl (ty_ge (n := 0) nk_i0 (fun z1 ez1 => ?_))
  refine ty_aL I rfl rfl (by decide) (by omega) (by omega) (fun i e => ty_le (ty_w0 (by omega) (by omega))) (fun z2 ez2 az2 bz2 => ?_)
  rw [show z1.toInt.toNat = 0 by omega] at ez2
  have rr99h : hs_aI h 99 = R99 := by have q := hJ; rw [eJ] at q; exact q.1.2
  have n0 : z2.toInt = (R99 0).toInt := by rw [← rr99h]; omega
  refine hq_p (ls' := [some (.ref 97), some (.int z2), none, none, none, none, none]) rfl rfl ?_
  refine hq_p rfl rfl (ty_ge (n := 0) nk_i0 (fun z3 ez3 => ?_))
  refine hq_p (ls' := [some (.ref 97), some (.int z2), some (.int z3), none, none, none, none]) rfl rfl ?_
  have L9_n76 : ∀ n76 : Nat, ∀ (y72 : Int32) (h73 : pm_H), (256 - y72.toInt).toNat = n76 → 0 ≤ y72.toInt → y72.toInt ≤ 256 → (∀ q : Nat, (q : Int) < y72.toInt → ((hs_aI h73 121) (256 * (R99 0).toInt.toNat + q)).toInt = 0) → J h73 → hq_W X d 11 false (none) pm_c225 (9, [some (.ref 97), some (.int z2), some (.int y72), none, none, none, none], [], h73) (fun h' v => J h' ∧ (fun h1 v => v = none ∧ bo_q (hs_aI h 120) (hs_aI h1 121) (bo_G (hs_aI h 99 1)) (hs_aI h 99 0).toInt (-1) 0) h' v) := by
    intro n76
    induction n76 using Nat.strongRecOn with
    | ind n76 ihn76 =>
      intro y72 h73 mn76 ay72 by72 x0n76 Jh73
      have Ih73 := H.1 h73 Jh73
      refine hq_p rfl rfl ?_
      refine hq_p rfl rfl (ty_ge (n := 256) nk_s256 (fun z77 ez77 => ?_))
      refine ty_ige rfl (fun c78 => ?_) (fun c78 => ?_)
      · refine hq_p rfl rfl ?_
        refine hq_p rfl rfl (ty_ge (n := 1) nk_i1 (fun z79 ez79 => ?_))
        refine hq_p rfl rfl (ty_ge (n := z2.toInt - z79.toInt) (nm_sub (by omega) (by omega)) (fun z80 ez80 => ?_))
        refine hq_p (ls' := [some (.ref 97), some (.int z2), some (.int z80), none, none, none, none]) rfl rfl ?_
        have L39_n99 : ∀ n99 : Nat, ∀ (y87 : Int32) (w88 : Option Value) (w89 : Option Value) (w90 : Option Value) (w91 : Option Value) (h92 : pm_H), (y87.toInt - (-1)).toNat = n99 → -1 ≤ y87.toInt → y87.toInt ≤ 7 → pm_two w88 = false → pm_two w89 = false → pm_two w90 = false → pm_two w91 = false → bo_q R120 (hs_aI h92 121) (bo_G (R99 1)) (R99 0).toInt y87.toInt 0 → y87.toInt ≤ (R99 0).toInt - 1 → J h92 → hq_W X d 11 false (none) pm_c225 (39, [some (.ref 97), some (.int z2), some (.int y87), w88, w89, w90, w91], [], h92) (fun h' v => J h' ∧ (fun h1 v => v = none ∧ bo_q (hs_aI h 120) (hs_aI h1 121) (bo_G (hs_aI h 99 1)) (hs_aI h 99 0).toInt (-1) 0) h' v) := by
          intro n99
          induction n99 using Nat.strongRecOn with
          | ind n99 ihn99 =>
            intro y87 w88 w89 w90 w91 h92 mn99 ay87 by87 kw88 kw89 kw90 kw91 x0n99 x1n99 Jh92
            have Ih92 := H.1 h92 Jh92
            refine hq_p rfl rfl ?_
            refine ty_zlt rfl (fun c100 => ?_) (fun c100 => ?_)
            · exact hq_W.ret rfl rfl rfl ⟨Jh92, rfl, (by rw [eR99, eR120]; have q := x0n99; rw [show y87.toInt = -1 by omega] at q; exact q)⟩
            · refine hq_p rfl rfl (ty_ge (n := 0) nk_i0 (fun z101 ez101 => ?_))
              refine hq_p (ls' := [some (.ref 97), some (.int z2), some (.int y87), some (.int z101), w89, w90, w91]) rfl rfl ?_
              have L45_n282 : ∀ n282 : Nat, ∀ (y272 : Int32) (w273 : Option Value) (w274 : Option Value) (w275 : Option Value) (h276 : pm_H), (256 - y272.toInt).toNat = n282 → 0 ≤ y272.toInt → y272.toInt ≤ 256 → pm_two w273 = false → pm_two w274 = false → pm_two w275 = false → bo_q R120 (hs_aI h276 121) (bo_G (R99 1)) (R99 0).toInt y87.toInt y272.toInt → J h276 → hq_W X d 11 false (none) pm_c225 (45, [some (.ref 97), some (.int z2), some (.int y87), some (.int y272), w273, w274, w275], [], h276) (fun h' v => J h' ∧ (fun h1 v => v = none ∧ bo_q (hs_aI h 120) (hs_aI h1 121) (bo_G (hs_aI h 99 1)) (hs_aI h 99 0).toInt (-1) 0) h' v) := by
                intro n282
                induction n282 using Nat.strongRecOn with
                | ind n282 ihn282 =>
                  intro y272 w273 w274 w275 h276 mn282 ay272 by272 kw273 kw274 kw275 x0n282 Jh276
                  have Ih276 := H.1 h276 Jh276
                  refine hq_p rfl rfl ?_
                  refine hq_p rfl rfl (ty_ge (n := 1) nk_i1 (fun z283 ez283 => ?_))
                  refine hq_p rfl rfl ?_
                  refine hq_gR Ih276.1 rfl rfl (by decide) (by decide) rfl ?_
                  refine hq_p rfl rfl (ty_ge (n := 1) nk_i1 (fun z284 ez284 => ?_))
                  refine ty_aL Ih276 rfl rfl (by decide) (by omega) (by omega) (fun i e => ty_le (ty_w0 (by omega) (by omega))) (fun z285 ez285 az285 bz285 => ?_)
                  rw [show z284.toInt.toNat = 1 by omega] at ez285
                  refine hq_p rfl rfl (ty_ge (n := (z283 <<< (z285 &&& 31)).toInt) rfl (fun z286 ez286 => ?_))
                  have bz286 : 1 ≤ z286.toInt ∧ z286.toInt ≤ 256 := by rw [ez286]; have q := nm_shl1 (x := z283) (y := z285) (by omega) (by omega) (by omega); omega
                  have rr99h276 : hs_aI h276 99 = R99 := by have q := Jh276; rw [eJ] at q; exact q.1.2
                  have eGz286 : z286.toInt = bo_G (R99 1) := by rw [ez286]; exact bo_Ge (by omega) (by rw [← rr99h276]; omega)
                  refine ty_ige rfl (fun c287 => ?_) (fun c287 => ?_)
                  · refine ty_inc (ls' := fun z288 => [some (.ref 97), some (.int z2), some (.int z288), some (.int y272), w273, w274, w275]) rfl rfl (fun _ => rfl) (nm_addc nk_im1 (by omega) (by omega)) (fun z288 ez288 => ?_)
                    refine hq_p rfl rfl ?_
                    exact ihn99 ((z288.toInt - (-1)).toNat) (by omega) z288 (some (.int y272)) (w273) (w274) (w275) h276 rfl (by omega) (by omega) rfl kw273 kw274 kw275 (bo_qn x0n282 (by omega) (by omega) (by omega)) (by omega) Jh276
                  · refine hq_p rfl rfl (ty_ge (n := 100000000) nk_d100000000 (fun z289 ez289 => ?_))
                    refine hq_p (ls' := [some (.ref 97), some (.int z2), some (.int y87), some (.int y272), some (.int z289), w274, w275]) rfl rfl ?_
                    refine hq_p rfl rfl (ty_ge (n := 0) nk_i0 (fun z290 ez290 => ?_))
                    refine hq_p (ls' := [some (.ref 97), some (.int z2), some (.int y87), some (.int y272), some (.int z289), some (.int z290), w275]) rfl rfl ?_
                    have L64_n399 : ∀ n399 : Nat, ∀ (y393 : Int32) (y394 : Int32) (w395 : Option Value), (256 - y394.toInt).toNat = n399 → 0 ≤ y393.toInt → y393.toInt ≤ 100000000 → 0 ≤ y394.toInt → y394.toInt ≤ 256 → pm_two w395 = false → bo_n R120 (hs_aI h276 121) y87.toInt.toNat y272 y394.toInt y393.toInt → y394.toInt ≤ (bo_G (R99 1)) → hq_W X d 11 false (none) pm_c225 (64, [some (.ref 97), some (.int z2), some (.int y87), some (.int y272), some (.int y393), some (.int y394), w395], [], h276) (fun h' v => J h' ∧ (fun h1 v => v = none ∧ bo_q (hs_aI h 120) (hs_aI h1 121) (bo_G (hs_aI h 99 1)) (hs_aI h 99 0).toInt (-1) 0) h' v) := by
                      intro n399
                      induction n399 using Nat.strongRecOn with
                      | ind n399 ihn399 =>
                        intro y393 y394 w395 mn399 ay393 by393 ay394 by394 kw395 x0n399 x1n399
                        refine hq_p rfl rfl ?_
                        refine hq_p rfl rfl (ty_ge (n := 1) nk_i1 (fun z400 ez400 => ?_))
                        refine hq_p rfl rfl ?_
                        refine hq_gR Ih276.1 rfl rfl (by decide) (by decide) rfl ?_
                        refine hq_p rfl rfl (ty_ge (n := 1) nk_i1 (fun z401 ez401 => ?_))
                        refine ty_aL Ih276 rfl rfl (by decide) (by omega) (by omega) (fun i e => ty_le (ty_w0 (by omega) (by omega))) (fun z402 ez402 az402 bz402 => ?_)
                        rw [show z401.toInt.toNat = 1 by omega] at ez402
                        refine hq_p rfl rfl (ty_ge (n := (z400 <<< (z402 &&& 31)).toInt) rfl (fun z403 ez403 => ?_))
                        have bz403 : 1 ≤ z403.toInt ∧ z403.toInt ≤ 256 := by rw [ez403]; have q := nm_shl1 (x := z400) (y := z402) (by omega) (by omega) (by omega); omega
                        have rr99h276 : hs_aI h276 99 = R99 := by have q := Jh276; rw [eJ] at q; exact q.1.2
                        have eGz403 : z403.toInt = bo_G (R99 1) := by rw [ez403]; exact bo_Ge (by omega) (by rw [← rr99h276]; omega)
                        refine ty_ige rfl (fun c404 => ?_) (fun c404 => ?_)
                        · have we := bo_we x0n399 hCo (bo_qw x0n282 (by omega)) (yi := y87.toInt) (by omega) (by omega) (by omega) (by omega) (by omega) (by omega) (by omega) hG1
                          have we1 := we.1
                          refine hq_p rfl rfl ?_
                          refine hq_gR Ih276.1 rfl rfl (by decide) (by decide) rfl ?_
                          refine hq_p rfl rfl (ty_ge (n := 256) nk_s256 (fun z405 ez405 => ?_))
                          refine hq_p rfl rfl ?_
                          refine hq_p rfl rfl (ty_ge (n := 256 * y87.toInt) (nm_cmul ez405 (by omega) (by omega)) (fun z406 ez406 => ?_))
                          refine hq_p rfl rfl ?_
                          refine hq_p rfl rfl (ty_ge (n := z406.toInt + y272.toInt) (nm_add (by omega) (by omega)) (fun z407 ez407 => ?_))
                          refine hq_p rfl rfl ?_
                          refine ty_aS (W := ty_Wle) H Jh276 rfl rfl (by decide) (by omega) (by omega) (fun i e => by unfold ty_Wle; omega) (fun _ _ => ty_eg rfl) (by omega) (by omega) (fun e1 e2 w => by omega) (fun h408 eh408 Jh408 => ?_)
                          have Ih408 := H.1 h408 Jh408
                          have qn : bo_q R120 (hs_aI h408 121) (bo_G (R99 1)) (R99 0).toInt y87.toInt (y272.toInt + 1) := by rw [eh408, hs_aI_sA]; exact bo_qs x0n282 hG2 (by omega) (by omega) (by omega) (by omega) (by omega) (by omega) (by omega) we.2 rfl
                          refine ty_inc (ls' := fun z409 => [some (.ref 97), some (.int z2), some (.int y87), some (.int z409), some (.int y393), some (.int y394), w395]) rfl rfl (fun _ => rfl) (nm_addc nk_i1 (by omega) (by omega)) (fun z409 ez409 => ?_)
                          refine hq_p rfl rfl ?_
                          exact ihn282 ((256 - z409.toInt).toNat) (by omega) z409 (some (.int y393)) (some (.int y394)) (w395) h408 rfl (by omega) (by omega) rfl rfl kw395 (by have q := qn; rw [show y272.toInt + 1 = z409.toInt by omega] at q; exact q) Jh408
                        · refine hq_p rfl rfl ?_
                          refine hq_p rfl rfl ?_
                          refine hq_p rfl rfl ?_
                          refine hq_p rfl rfl ?_
                          have rr120h276 : hs_aI h276 120 = R120 := by have q := Jh276; rw [eJ] at q; exact q.2
                          have rr99h276 : hs_aI h276 99 = R99 := by have q := Jh276; rw [eJ] at q; exact q.1.2
                          have oo := bo_or (r := R99 1) hr0 hr1 (a := y272) (b := y394) (by omega) (by omega) (by omega) (by omega)
                          have o1 := oo.1
                          have o2 := oo.2
                          have hC : 0 ≤ (hs_aI h276 120 (256 * y87.toInt.toNat + y394.toInt.toNat)).toInt ∧ (hs_aI h276 120 (256 * y87.toInt.toNat + y394.toInt.toNat)).toInt ≤ 100000000 := by rw [rr120h276]; have q := hCo y87.toInt.toNat y394.toInt.toNat (by omega) (Or.inl (by omega)); exact ⟨q.1, q.2.1⟩
                          have hL : 0 ≤ (hs_aI h276 121 (256 * (y87.toInt.toNat + 1) + (y272 ||| y394).toInt.toNat)).toInt ∧ (hs_aI h276 121 (256 * (y87.toInt.toNat + 1) + (y272 ||| y394).toInt.toNat)).toInt ≤ 100000000 := by have q := x0n282 (y87.toInt.toNat + 1) (y272 ||| y394).toInt.toNat (by omega) (by omega) (Or.inl (by omega)); have q2 := q.2.1; rw [show ((y87.toInt.toNat + 1 : Nat) : Int) = y87.toInt + 1 by omega] at q2; exact ⟨q.1, by omega⟩
                          refine ty_callp 0 Ih276 rfl (fun _ => rfl) rfl rfl rfl (hq_pre_o Ih276.1 (x := 97) (ci := 11) rfl (by decide) rfl rfl rfl rfl) (ct_224e (x1 := y87) (x2 := y272) (x3 := y394) (by omega) (by omega) (by omega) (by omega) (by omega) (by omega) (by omega) hC hL) (fun _ P410 => ?_)
                          obtain ⟨z411, rfl, fz411⟩ := P410
                          have az411 := nm_lo z411
                          have bz411 := nm_hi z411
                          have fw : z411.toInt = bo_w R120 (hs_aI h276 121) y87.toInt.toNat y272 y394 := by rw [fz411, rr120h276]
                          have wb : 0 ≤ z411.toInt := by rw [fw]; unfold bo_w; have q1 := hC.1; have q2 := hL.1; rw [rr120h276] at q1; split <;> omega
                          refine hq_p (ls' := [some (.ref 97), some (.int z2), some (.int y87), some (.int y272), some (.int y393), some (.int y394), some (.int z411)]) rfl rfl ?_
                          refine hq_p rfl rfl ?_
                          refine hq_p rfl rfl ?_
                          refine ty_ige rfl (fun c412 => ?_) (fun c412 => ?_)
                          · refine hq_p rfl rfl ?_
                            refine hq_p (ls' := [some (.ref 97), some (.int z2), some (.int y87), some (.int y272), some (.int y393), some (.int y394), some (.int z411)]) rfl rfl ?_
                            refine ty_inc (ls' := fun z413 => [some (.ref 97), some (.int z2), some (.int y87), some (.int y272), some (.int y393), some (.int z413), some (.int z411)]) rfl rfl (fun _ => rfl) (nm_addc nk_i1 (by omega) (by omega)) (fun z413 ez413 => ?_)
                            refine hq_p rfl rfl ?_
                            exact ihn399 ((256 - z413.toInt).toNat) (by omega) y393 z413 (some (.int z411)) rfl (by omega) (by omega) (by omega) (by omega) rfl (bo_ns x0n399 rfl (by omega) fw (by omega) (by omega) (by omega)) (by omega)
                          · refine hq_p rfl rfl ?_
                            refine hq_p rfl rfl ?_
                            refine hq_p (ls' := [some (.ref 97), some (.int z2), some (.int y87), some (.int y272), some (.int z411), some (.int y394), some (.int z411)]) rfl rfl ?_
                            refine ty_inc (ls' := fun z414 => [some (.ref 97), some (.int z2), some (.int y87), some (.int y272), some (.int z411), some (.int z414), some (.int z411)]) rfl rfl (fun _ => rfl) (nm_addc nk_i1 (by omega) (by omega)) (fun z414 ez414 => ?_)
                            refine hq_p rfl rfl ?_
                            exact ihn399 ((256 - z414.toInt).toNat) (by omega) z411 z414 (some (.int z411)) rfl (by omega) (by omega) (by omega) (by omega) rfl (bo_ns x0n399 rfl (by omega) fw (by omega) (by omega) (by omega)) (by omega)
                    exact L64_n399 _ z289 z290 (w275) rfl (by omega) (by omega) (by omega) (by omega) kw275 (bo_n0 (by omega) (by omega)) (by omega)
              exact L45_n282 _ z101 (w89) (w90) (w91) h92 rfl (by omega) (by omega) kw89 kw90 kw91 (by rw [show z101.toInt = 0 by omega]; exact x0n99) Jh92
        exact L39_n99 _ z80 none none none none h73 rfl (by omega) (by omega) rfl rfl rfl rfl (bo_q0 hG2 (by omega) (by omega) (by omega) (fun k hk => x0n76 k (by omega))) (by omega) Jh73
      · refine hq_p rfl rfl ?_
        refine hq_gR Ih73.1 rfl rfl (by decide) (by decide) rfl ?_
        refine hq_p rfl rfl (ty_ge (n := 256) nk_s256 (fun z415 ez415 => ?_))
        refine hq_p rfl rfl ?_
        refine hq_p rfl rfl (ty_ge (n := 256 * z2.toInt) (nm_cmul ez415 (by omega) (by omega)) (fun z416 ez416 => ?_))
        refine hq_p rfl rfl ?_
        refine hq_p rfl rfl (ty_ge (n := z416.toInt + y72.toInt) (nm_add (by omega) (by omega)) (fun z417 ez417 => ?_))
        refine hq_p rfl rfl (ty_ge (n := 0) nk_i0 (fun z418 ez418 => ?_))
        refine ty_aS (W := ty_Wle) H Jh73 rfl rfl (by decide) (by omega) (by omega) (fun i e => by unfold ty_Wle; omega) (fun _ _ => ty_eg rfl) (by omega) (by omega) (fun e1 e2 w => by omega) (fun h419 eh419 Jh419 => ?_)
        have Ih419 := H.1 h419 Jh419
        refine ty_inc (ls' := fun z420 => [some (.ref 97), some (.int z2), some (.int z420), none, none, none, none]) rfl rfl (fun _ => rfl) (nm_addc nk_i1 (by omega) (by omega)) (fun z420 ez420 => ?_)
        refine hq_p rfl rfl ?_
        exact ihn76 ((256 - z420.toInt).toNat) (by omega) z420 h419 rfl (by omega) (by omega) (fun q hq => if e : 256 * (R99 0).toInt.toNat + q = z417.toInt.toNat then (by rw [eh419, ty_aI_eq e]; omega) else (by rw [eh419, ty_aI_sA e]; exact x0n76 q (by omega))) Jh419
  exact L9_n76 _ z3 h rfl (by omega) (by omega) (fun q hq => by exfalso; omega) hJ
end CT35
