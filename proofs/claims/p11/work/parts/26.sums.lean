/-! CONTRACTS (printed by wip/pm/cts.py) -/
section CT2
theorem ct_199 {X : pm_X} {d : Nat} {h : pm_H} {x1 : Int32} {x2 : Int64} {x3 : Int64} (hd : 1 ≤ d)  : ty_M X ty_Wb d 199 [.ref 97, .int x1, .long x2, .long x3] h ty_pl := by
  intro J H hJ
  obtain ⟨d, rfl⟩ : ∃ e, d = e + 1 := ⟨d - 1, by omega⟩
  have I := H.1 h hJ
  have ax1 := nm_lo x1
  have bx1 := nm_hi x1
  have ax2 := nm_llo x2
  have bx2 := nm_lhi x2
  have ax3 := nm_llo x3
  have bx3 := nm_lhi x3
  refine hq_M.enter (q := (⟨"TrainBearersModel", "reckon", "(IJJ)J"⟩, _, 6, some .long, 11, 4, pm_c199)) rfl rfl ?_
  show hq_W X d 11 false (some .long) pm_c199 (0, [some (.ref 97), some (.int x1), some (.long x2), none, some (.long x3), none], [], h) (fun h' v => J h' ∧ ty_pl h' v)
  refine hq_p rfl rfl ?_
  rcases (show x1.toInt = 20 ∨ x1.toInt = 21 ∨ x1.toInt = 22 ∨ x1.toInt = 23 ∨ x1.toInt = 24 ∨ x1.toInt = 25 ∨ x1.toInt = 26 ∨ (x1.toInt < 20 ∨ 26 < x1.toInt) by omega) with c1 | c1 | c1 | c1 | c1 | c1 | c1 | c1
  · refine ty_ts (n := 20) rfl c1 rfl rfl (by decide) ?_
    refine hq_p rfl rfl ?_
    refine hq_p rfl rfl ?_
    refine hq_p rfl rfl (ty_gla (fun z2 az2 bz2 => ?_))
    exact hq_W.ret rfl rfl rfl ⟨hJ, _, rfl⟩
  · refine ty_ts (n := 21) rfl c1 rfl rfl (by decide) ?_
    refine hq_p rfl rfl ?_
    refine hq_p rfl rfl ?_
    refine hq_p rfl rfl (ty_gla (fun z3 az3 bz3 => ?_))
    exact hq_W.ret rfl rfl rfl ⟨hJ, _, rfl⟩
  · refine ty_ts (n := 22) rfl c1 rfl rfl (by decide) ?_
    refine hq_p rfl rfl ?_
    refine hq_p rfl rfl ?_
    refine hq_p rfl rfl (ty_gla (fun z4 az4 bz4 => ?_))
    exact hq_W.ret rfl rfl rfl ⟨hJ, _, rfl⟩
  · refine ty_ts (n := 23) rfl c1 rfl rfl (by decide) ?_
    refine hq_p rfl rfl ?_
    refine hq_p rfl rfl ?_
    refine hq_p rfl rfl (ty_gle (n := 0) (by decide) (fun z5 ez5 => ?_))
    refine hq_p rfl rfl (ty_gc (fun z6 ez6 => ?_))
    refine ty_zne rfl (fun c7 => ?_) (fun c7 => ?_)
    · replace ez6 : x3.toInt ≠ 0 := by omega
      clear c7
      refine hq_p rfl rfl (ty_ge (n := 0) nk_i0 (fun z8 ez8 => ?_))
      refine ty_pB (W := ty_Wb) H hJ rfl rfl (by decide) rfl rfl rfl (by unfold ty_Wb; omega) rfl (by omega) (by omega) (fun h9 eh9 Jh9 => ?_)
      have wh9 : (hs_fI h9 97 38).toInt = z8.toInt := by rw [eh9]; exact congrArg Int32.toInt (ty_fI_eq I.1 rfl (by decide) rfl)
      have Ih9 := H.1 h9 Jh9
      refine hq_p rfl rfl ?_
      refine ty_gB Ih9 rfl rfl (by decide) (by decide) rfl (fun z10 ez10 az10 bz10 => ?_)
      refine ty_zeq rfl (fun c11 => ?_) (fun c11 => ?_)
      · refine hq_p rfl rfl ?_
        refine hq_p rfl rfl ?_
        refine hq_ldiv rfl (nm_lnz (by omega)) (ty_gla (fun z12 az12 bz12 => ?_))
        exact hq_W.ret rfl rfl rfl ⟨Jh9, _, rfl⟩
      · exfalso; omega
    · replace ez6 : x3.toInt = z5.toInt := by omega
      clear c7
      refine hq_p rfl rfl (ty_ge (n := 1) nk_i1 (fun z13 ez13 => ?_))
      refine hq_p rfl rfl ?_
      refine ty_pB (W := ty_Wb) H hJ rfl rfl (by decide) rfl rfl rfl (by unfold ty_Wb; omega) rfl (by omega) (by omega) (fun h14 eh14 Jh14 => ?_)
      have wh14 : (hs_fI h14 97 38).toInt = z13.toInt := by rw [eh14]; exact congrArg Int32.toInt (ty_fI_eq I.1 rfl (by decide) rfl)
      have Ih14 := H.1 h14 Jh14
      refine hq_p rfl rfl ?_
      refine ty_gB Ih14 rfl rfl (by decide) (by decide) rfl (fun z15 ez15 az15 bz15 => ?_)
      refine ty_zeq rfl (fun c16 => ?_) (fun c16 => ?_)
      · exfalso; omega
      · clear c16
        refine hq_p rfl rfl (ty_gle (n := 0) (by decide) (fun z17 ez17 => ?_))
        refine hq_p rfl rfl ?_
        exact hq_W.ret rfl rfl rfl ⟨Jh14, _, rfl⟩
  · refine ty_ts (n := 24) rfl c1 rfl rfl (by decide) ?_
    refine hq_p rfl rfl ?_
    refine hq_p rfl rfl ?_
    refine hq_p rfl rfl (ty_gle (n := 0) (by decide) (fun z18 ez18 => ?_))
    refine hq_p rfl rfl (ty_gc (fun z19 ez19 => ?_))
    refine ty_zne rfl (fun c20 => ?_) (fun c20 => ?_)
    · replace ez19 : x3.toInt ≠ 0 := by omega
      clear c20
      refine hq_p rfl rfl (ty_ge (n := 0) nk_i0 (fun z21 ez21 => ?_))
      refine ty_pB (W := ty_Wb) H hJ rfl rfl (by decide) rfl rfl rfl (by unfold ty_Wb; omega) rfl (by omega) (by omega) (fun h22 eh22 Jh22 => ?_)
      have wh22 : (hs_fI h22 97 38).toInt = z21.toInt := by rw [eh22]; exact congrArg Int32.toInt (ty_fI_eq I.1 rfl (by decide) rfl)
      have Ih22 := H.1 h22 Jh22
      refine hq_p rfl rfl ?_
      refine ty_gB Ih22 rfl rfl (by decide) (by decide) rfl (fun z23 ez23 az23 bz23 => ?_)
      refine ty_zeq rfl (fun c24 => ?_) (fun c24 => ?_)
      · refine hq_p rfl rfl ?_
        refine hq_p rfl rfl ?_
        refine hq_lrem rfl (nm_lnz (by omega)) (ty_gla (fun z25 az25 bz25 => ?_))
        exact hq_W.ret rfl rfl rfl ⟨Jh22, _, rfl⟩
      · exfalso; omega
    · replace ez19 : x3.toInt = z18.toInt := by omega
      clear c20
      refine hq_p rfl rfl (ty_ge (n := 1) nk_i1 (fun z26 ez26 => ?_))
      refine hq_p rfl rfl ?_
      refine ty_pB (W := ty_Wb) H hJ rfl rfl (by decide) rfl rfl rfl (by unfold ty_Wb; omega) rfl (by omega) (by omega) (fun h27 eh27 Jh27 => ?_)
      have wh27 : (hs_fI h27 97 38).toInt = z26.toInt := by rw [eh27]; exact congrArg Int32.toInt (ty_fI_eq I.1 rfl (by decide) rfl)
      have Ih27 := H.1 h27 Jh27
      refine hq_p rfl rfl ?_
      refine ty_gB Ih27 rfl rfl (by decide) (by decide) rfl (fun z28 ez28 az28 bz28 => ?_)
      refine ty_zeq rfl (fun c29 => ?_) (fun c29 => ?_)
      · exfalso; omega
      · clear c29
        refine hq_p rfl rfl (ty_gle (n := 0) (by decide) (fun z30 ez30 => ?_))
        refine hq_p rfl rfl ?_
        exact hq_W.ret rfl rfl rfl ⟨Jh27, _, rfl⟩
  · refine ty_ts (n := 25) rfl c1 rfl rfl (by decide) ?_
    refine hq_p rfl rfl ?_
    refine hq_p rfl rfl ?_
    refine hq_p rfl rfl (ty_gc (fun z31 ez31 => ?_))
    refine ty_zge rfl (fun c32 => ?_) (fun c32 => ?_)
    · replace ez31 : x2.toInt ≥ x3.toInt := by omega
      clear c32
      refine hq_p rfl rfl (ty_gle (n := 0) (by decide) (fun z33 ez33 => ?_))
      exact hq_W.ret rfl rfl rfl ⟨hJ, _, rfl⟩
    · replace ez31 : x2.toInt < x3.toInt := by omega
      clear c32
      refine hq_p rfl rfl (ty_gle (n := 1) (by decide) (fun z34 ez34 => ?_))
      refine hq_p rfl rfl ?_
      exact hq_W.ret rfl rfl rfl ⟨hJ, _, rfl⟩
  · refine ty_ts (n := 26) rfl c1 rfl rfl (by decide) ?_
    refine hq_p rfl rfl ?_
    refine hq_p rfl rfl ?_
    refine hq_p rfl rfl (ty_gc (fun z35 ez35 => ?_))
    refine ty_zle rfl (fun c36 => ?_) (fun c36 => ?_)
    · replace ez35 : x2.toInt ≤ x3.toInt := by omega
      clear c36
      refine hq_p rfl rfl (ty_gle (n := 0) (by decide) (fun z37 ez37 => ?_))
      exact hq_W.ret rfl rfl rfl ⟨hJ, _, rfl⟩
    · replace ez35 : x2.toInt > x3.toInt := by omega
      clear c36
      refine hq_p rfl rfl (ty_gle (n := 1) (by decide) (fun z38 ez38 => ?_))
      refine hq_p rfl rfl ?_
      exact hq_W.ret rfl rfl rfl ⟨hJ, _, rfl⟩
  · refine ty_td rfl c1 (by decide) ?_
    refine hq_p rfl rfl ?_
    refine hq_p rfl rfl ?_
    refine hq_p rfl rfl (ty_gc (fun z39 ez39 => ?_))
    refine ty_zne rfl (fun c40 => ?_) (fun c40 => ?_)
    · clear ez39 c40
      refine hq_p rfl rfl (ty_gle (n := 0) (by decide) (fun z41 ez41 => ?_))
      exact hq_W.ret rfl rfl rfl ⟨hJ, _, rfl⟩
    · replace ez39 : x2.toInt = x3.toInt := by omega
      clear c40
      refine hq_p rfl rfl (ty_gle (n := 1) (by decide) (fun z42 ez42 => ?_))
      refine hq_p rfl rfl ?_
      exact hq_W.ret rfl rfl rfl ⟨hJ, _, rfl⟩
set_option maxRecDepth 8000 in
set_option maxHeartbeats 20000000 in
theorem ct_200 {X : pm_X} {d : Nat} {h : pm_H} {x1 : Int32} {x2 : Int32} {b : Int} (hd : 2 ≤ d) (ax1 : 0 ≤ x1.toInt) (bx1 : x1.toInt ≤ 400) (ax2 : 0 ≤ x2.toInt) (bx2 : x2.toInt ≤ 400) (hR : ty_rw (hs_aI h 99) b.toNat x1.toInt x2.toInt) (hb : (hs_fI h 97 34).toInt = b) : ty_M X ty_Ws d 200 [.ref 97, .int x1, .int x2] h ty_pv := by
  intro J0 H0 hJ0
  obtain ⟨hr0, hr2, hr1, D, hD⟩ := hR
  dsimp only at hD
  have d0 : D x1.toInt.toNat = 0 := by have q := hD x1.toInt.toNat (by omega) (by omega); omega
  obtain ⟨R, eR⟩ : ∃ R, hs_aI h 99 = R := ⟨_, rfl⟩
  rw [eR] at hD
  obtain ⟨J, eJ⟩ : ∃ J : pm_H → Prop, J = fun h' => (J0 h' ∧ (hs_fI h' 97 34).toInt = b) ∧ hs_aI h' 99 = R := ⟨_, rfl⟩
  have H : ty_C ty_Ws J := by rw [eJ]; exact H0.law (by unfold ty_Ws; omega) (fun k => by unfold ty_Ws; omega) b R
  have hJ : J h := by rw [eJ]; exact ⟨⟨hJ0, hb⟩, eR⟩
  refine hq_M.mono (Nat.le_refl _) (Q := fun h' v => J h' ∧ ty_pv h' v) (fun h' v q => ⟨by have q1 := q.1; rw [eJ] at q1; exact q1.1.1, q.2⟩) ?_
  obtain ⟨d, rfl⟩ : ∃ e, d = e + 1 := ⟨d - 1, by omega⟩
  have I := H.1 h hJ
  refine hq_M.enter (q := (⟨"TrainBearersModel", "reckonAll", "(II)V"⟩, _, 7, none, 11, 3, pm_c200)) rfl rfl ?_
  show hq_W X d 11 false (none) pm_c200 (0, [some (.ref 97), some (.int x1), some (.int x2), none, none, none, none], [], h) (fun h' v => J h' ∧ ty_pv h' v)
  refine hq_p rfl rfl ?_
  refine hq_p rfl rfl (ty_ge (n := 0) nk_i0 (fun z1 ez1 => ?_))
  refine ty_pB (W := ty_Ws) H hJ rfl rfl (by decide) rfl rfl rfl (by unfold ty_Ws; omega) rfl (by omega) (by omega) (fun h2 eh2 Jh2 => ?_)
  have wh2 : (hs_fI h2 97 38).toInt = z1.toInt := by rw [eh2]; exact congrArg Int32.toInt (ty_fI_eq I.1 rfl (by decide) rfl)
  have Ih2 := H.1 h2 Jh2
  refine hq_p rfl rfl (ty_ge (n := 0) nk_i0 (fun z3 ez3 => ?_))
  refine hq_p (ls' := [some (.ref 97), some (.int x1), some (.int x2), some (.int z3), none, none, none]) rfl rfl ?_
  refine hq_p rfl rfl ?_
  refine hq_p (ls' := [some (.ref 97), some (.int x1), some (.int x2), some (.int z3), some (.int x1), none, none]) rfl rfl ?_
  have L10_n14 : ∀ n14 : Nat, ∀ (y9 : Int32) (y10 : Int32) (w11 : Option Value) (w12 : Option Value) (h13 : pm_H), (400 - y10.toInt).toNat = n14 → 0 ≤ y9.toInt → y9.toInt ≤ 400 → 0 ≤ y10.toInt → y10.toInt ≤ 400 → pm_two w11 = false → pm_two w12 = false → y9.toInt = D y10.toInt.toNat → x1.toInt ≤ y10.toInt → y10.toInt ≤ x2.toInt → J h13 → hq_W X d 11 false (none) pm_c200 (10, [some (.ref 97), some (.int x1), some (.int x2), some (.int y9), some (.int y10), w11, w12], [], h13) (fun h' v => J h' ∧ ty_pv h' v) := by
    intro n14
    induction n14 using Nat.strongRecOn with
    | ind n14 ihn14 =>
      intro y9 y10 w11 w12 h13 mn14 ay9 by9 ay10 by10 kw11 kw12 x0n14 x1n14 x2n14 Jh13
      have Ih13 := H.1 h13 Jh13
      refine hq_p rfl rfl ?_
      refine hq_p rfl rfl ?_
      refine ty_ige rfl (fun c15 => ?_) (fun c15 => ?_)
      · refine hq_p rfl rfl ?_
        refine hq_p rfl rfl ?_
        refine ty_zle rfl (fun c16 => ?_) (fun c16 => ?_)
        · refine hq_p rfl rfl (ty_gle (n := 0) (by decide) (fun z17 ez17 => ?_))
          refine ty_pL (W := ty_Ws) H Jh13 rfl rfl (by decide) rfl rfl (by unfold ty_Ws; omega) rfl (by omega) (by omega) (fun h18 eh18 Jh18 => ?_)
          have Ih18 := H.1 h18 Jh18
          exact hq_W.ret rfl rfl rfl ⟨Jh18, rfl⟩
        · refine hq_p rfl rfl ?_
          refine hq_gR Ih13.1 rfl rfl (by decide) (by decide) rfl ?_
          refine hq_p rfl rfl (ty_ge (n := 0) nk_i0 (fun z19 ez19 => ?_))
          refine ty_lL Ih13 rfl rfl (by decide) (by omega) (by omega) (fun z20 ez20 az20 bz20 => ?_)
          refine hq_p rfl rfl ?_
          refine ty_pL (W := ty_Ws) H Jh13 rfl rfl (by decide) rfl rfl (by unfold ty_Ws; omega) rfl (by omega) (by omega) (fun h21 eh21 Jh21 => ?_)
          have Ih21 := H.1 h21 Jh21
          exact hq_W.ret rfl rfl rfl ⟨Jh21, rfl⟩
      · refine hq_p rfl rfl ?_
        refine ty_gB Ih13 rfl rfl (by decide) (by decide) rfl (fun z22 ez22 az22 bz22 => ?_)
        refine ty_zne rfl (fun c23 => ?_) (fun c23 => ?_)
        · replace c23 : 1 ≤ z22.toInt ∧ z22.toInt ≤ 1 := by omega
          refine hq_p rfl rfl ?_
          refine hq_p rfl rfl ?_
          refine ty_zle rfl (fun c24 => ?_) (fun c24 => ?_)
          · refine hq_p rfl rfl (ty_gle (n := 0) (by decide) (fun z25 ez25 => ?_))
            refine ty_pL (W := ty_Ws) H Jh13 rfl rfl (by decide) rfl rfl (by unfold ty_Ws; omega) rfl (by omega) (by omega) (fun h26 eh26 Jh26 => ?_)
            have Ih26 := H.1 h26 Jh26
            exact hq_W.ret rfl rfl rfl ⟨Jh26, rfl⟩
          · refine hq_p rfl rfl ?_
            refine hq_gR Ih13.1 rfl rfl (by decide) (by decide) rfl ?_
            refine hq_p rfl rfl (ty_ge (n := 0) nk_i0 (fun z27 ez27 => ?_))
            refine ty_lL Ih13 rfl rfl (by decide) (by omega) (by omega) (fun z28 ez28 az28 bz28 => ?_)
            refine hq_p rfl rfl ?_
            refine ty_pL (W := ty_Ws) H Jh13 rfl rfl (by decide) rfl rfl (by unfold ty_Ws; omega) rfl (by omega) (by omega) (fun h29 eh29 Jh29 => ?_)
            have Ih29 := H.1 h29 Jh29
            exact hq_W.ret rfl rfl rfl ⟨Jh29, rfl⟩
        · have ooh13 := H.2.2.2.2.2.2.1 (Or.inl rfl) h13 Jh13
          refine hq_p rfl rfl ?_
          refine ty_gB Ih13 rfl rfl (by decide) (by decide) rfl (fun z30 ez30 az30 bz30 => ?_)
          refine ty_zeq rfl (fun c31 => ?_) (fun c31 => ?_)
          · refine hq_p rfl rfl ?_
            refine hq_gR Ih13.1 rfl rfl (by decide) (by decide) rfl ?_
            refine hq_p rfl rfl ?_
            refine ty_gI Ih13 rfl rfl (by decide) (by decide) rfl rfl (fun z32 ez32 az32 bz32 => ?_)
            refine hq_p rfl rfl (ty_ge (n := 98) nk_b98 (fun z33 ez33 => ?_))
            refine hq_p rfl rfl (ty_ge (n := z32.toInt + z33.toInt) (nm_add (by omega) (by omega)) (fun z34 ez34 => ?_))
            refine hq_p rfl rfl (ty_ge (n := 2) nk_i2 (fun z35 ez35 => ?_))
            refine hq_p rfl rfl ?_
            refine hq_p rfl rfl (ty_ge (n := 2 * y10.toInt) (nm_cmul ez35 (by omega) (by omega)) (fun z36 ez36 => ?_))
            refine hq_p rfl rfl (ty_ge (n := z34.toInt + z36.toInt) (nm_add (by omega) (by omega)) (fun z37 ez37 => ?_))
            refine ty_aL Ih13 rfl rfl (by decide) (by omega) (by omega) (fun i _ => ty_rbF i) (fun z38 ez38 az38 bz38 => ?_)
            refine hq_p (ls' := [some (.ref 97), some (.int x1), some (.int x2), some (.int y9), some (.int y10), some (.int z38), w12]) rfl rfl ?_
            refine hq_p rfl rfl ?_
            refine ty_gB Ih13 rfl rfl (by decide) (by decide) rfl (fun z39 ez39 az39 bz39 => ?_)
            refine ty_zeq rfl (fun c40 => ?_) (fun c40 => ?_)
            · refine hq_p rfl rfl ?_
              refine hq_gR Ih13.1 rfl rfl (by decide) (by decide) rfl ?_
              refine hq_p rfl rfl ?_
              refine ty_gI Ih13 rfl rfl (by decide) (by decide) rfl rfl (fun z41 ez41 az41 bz41 => ?_)
              refine hq_p rfl rfl (ty_ge (n := 98) nk_b98 (fun z42 ez42 => ?_))
              refine hq_p rfl rfl (ty_ge (n := z41.toInt + z42.toInt) (nm_add (by omega) (by omega)) (fun z43 ez43 => ?_))
              refine hq_p rfl rfl (ty_ge (n := 2) nk_i2 (fun z44 ez44 => ?_))
              refine hq_p rfl rfl ?_
              refine hq_p rfl rfl (ty_ge (n := 2 * y10.toInt) (nm_cmul ez44 (by omega) (by omega)) (fun z45 ez45 => ?_))
              refine hq_p rfl rfl (ty_ge (n := z43.toInt + z45.toInt) (nm_add (by omega) (by omega)) (fun z46 ez46 => ?_))
              refine hq_p rfl rfl (ty_ge (n := 1) nk_i1 (fun z47 ez47 => ?_))
              refine hq_p rfl rfl (ty_ge (n := z46.toInt + z47.toInt) (nm_add (by omega) (by omega)) (fun z48 ez48 => ?_))
              refine ty_aL Ih13 rfl rfl (by decide) (by omega) (by omega) (fun i _ => ty_rbF i) (fun z49 ez49 az49 bz49 => ?_)
              refine hq_p (ls' := [some (.ref 97), some (.int x1), some (.int x2), some (.int y9), some (.int y10), some (.int z38), some (.int z49)]) rfl rfl ?_
              have rr : hs_aI h13 99 = R := by have q := Jh13; rw [eJ] at q; exact q.2
              have bb : (hs_fI h13 97 34).toInt = b := by have q := Jh13; rw [eJ] at q; exact q.1.2
              rw [rr, show z37.toInt.toNat = b.toNat + 98 + 2 * y10.toInt.toNat by omega] at ez38
              rw [rr, show z48.toInt.toNat = b.toNat + 98 + 2 * y10.toInt.toNat + 1 by omega] at ez49
              obtain ⟨q0, q1, q2⟩ := hD y10.toInt.toNat (by omega) (by omega)
              obtain ⟨q3, qa, qb, qc, qd⟩ := q2 (by omega)
              clear q2
              rw [← ez38] at q3 qa qb qc qd
              rw [← ez49] at qd
              obtain ⟨k0, ek0⟩ : ∃ q : Int, q = D y10.toInt.toNat := ⟨_, rfl⟩
              obtain ⟨k1, ek1⟩ : ∃ q : Int, q = D (y10.toInt.toNat + 1) := ⟨_, rfl⟩
              rw [← ek0] at q0 q1 qa qb qc qd
              rw [← ek1] at qa qb qc qd
              have xx : y9.toInt = k0 := by omega
              refine ty_inc (ls' := fun z50 => [some (.ref 97), some (.int x1), some (.int x2), some (.int y9), some (.int z50), some (.int z38), some (.int z49)]) rfl rfl (fun _ => rfl) (nm_addc nk_i1 (by omega) (by omega)) (fun z50 ez50 => ?_)
              refine hq_p rfl rfl ?_
              refine hq_p rfl rfl (ty_ge (n := 20) nk_b20 (fun z51 ez51 => ?_))
              refine ty_ige rfl (fun c52 => ?_) (fun c52 => ?_)
              · refine hq_p rfl rfl ?_
                refine hq_p rfl rfl (ty_ge (n := 28) nk_b28 (fun z53 ez53 => ?_))
                refine ty_ige rfl (fun c54 => ?_) (fun c54 => ?_)
                · refine hq_p rfl rfl ?_
                  refine hq_p rfl rfl (ty_ge (n := 28) nk_b28 (fun z55 ez55 => ?_))
                  refine ty_ine rfl (fun c56 => ?_) (fun c56 => ?_)
                  · replace c56 : 29 ≤ z38.toInt ∧ z38.toInt ≤ 2147483647 := by omega
                    have qq := qd (by omega)
                    clear qa qb qc qd
                    have dd : D z50.toInt.toNat = k1 := by rw [ek1]; exact congrArg D (by omega)
                    refine hq_p rfl rfl ?_
                    refine hq_gR Ih13.1 rfl rfl (by decide) (by decide) rfl ?_
                    refine hq_p rfl rfl ?_
                    refine hq_p rfl rfl (ty_ge (n := 1) nk_i1 (fun z57 ez57 => ?_))
                    refine hq_p rfl rfl (ty_ge (n := y9.toInt - z57.toInt) (nm_sub (by omega) (by omega)) (fun z58 ez58 => ?_))
                    refine ty_lL Ih13 rfl rfl (by decide) (by omega) (by omega) (fun z59 ez59 az59 bz59 => ?_)
                    refine hq_p rfl rfl ?_
                    refine hq_p rfl rfl (ty_ge (n := 29) nk_b29 (fun z60 ez60 => ?_))
                    refine ty_ine rfl (fun c61 => ?_) (fun c61 => ?_)
                    · replace c61 : 30 ≤ z38.toInt ∧ z38.toInt ≤ 2147483647 := by omega
                      refine hq_p rfl rfl (ty_gle (n := 1) (by decide) (fun z62 ez62 => ?_))
                      refine hq_p rfl rfl (ty_gc (fun z63 ez63 => ?_))
                      refine ty_zne rfl (fun c64 => ?_) (fun c64 => ?_)
                      · clear ez63 c64
                        refine ty_inc (ls' := fun z65 => [some (.ref 97), some (.int x1), some (.int x2), some (.int z65), some (.int z50), some (.int z38), some (.int z49)]) rfl rfl (fun _ => rfl) (nm_addc nk_im1 (by omega) (by omega)) (fun z65 ez65 => ?_)
                        refine hq_p rfl rfl ?_
                        exact ihn14 ((400 - z50.toInt).toNat) (by omega) z65 z50 (some (.int z38)) (some (.int z49)) h13 rfl (by omega) (by omega) (by omega) (by omega) rfl rfl (by omega) (by omega) (by omega) Jh13
                      · replace ez63 : z59.toInt = z62.toInt := by omega
                        clear c64
                        have da : D z49.toInt.toNat = k0 := qq.2.2.2.2
                        refine hq_p rfl rfl ?_
                        refine hq_p (ls' := [some (.ref 97), some (.int x1), some (.int x2), some (.int y9), some (.int z49), some (.int z38), some (.int z49)]) rfl rfl ?_
                        refine hq_p rfl rfl ?_
                        refine hq_p rfl rfl ?_
                        exact ihn14 ((400 - z49.toInt).toNat) (by omega) y9 z49 (some (.int z38)) (some (.int z49)) h13 rfl (by omega) (by omega) (by omega) (by omega) rfl rfl (by omega) (by omega) (by omega) Jh13
                    · refine hq_p rfl rfl (ty_gle (n := 0) (by decide) (fun z66 ez66 => ?_))
                      refine hq_p rfl rfl ?_
                      refine hq_p rfl rfl (ty_gc (fun z67 ez67 => ?_))
                      refine ty_zne rfl (fun c68 => ?_) (fun c68 => ?_)
                      · replace ez67 : z59.toInt ≠ 0 := by omega
                        clear c68
                        refine ty_inc (ls' := fun z69 => [some (.ref 97), some (.int x1), some (.int x2), some (.int z69), some (.int z50), some (.int z38), some (.int z49)]) rfl rfl (fun _ => rfl) (nm_addc nk_im1 (by omega) (by omega)) (fun z69 ez69 => ?_)
                        refine hq_p rfl rfl ?_
                        exact ihn14 ((400 - z50.toInt).toNat) (by omega) z69 z50 (some (.int z38)) (some (.int z49)) h13 rfl (by omega) (by omega) (by omega) (by omega) rfl rfl (by omega) (by omega) (by omega) Jh13
                      · replace ez67 : z59.toInt = z66.toInt := by omega
                        clear c68
                        have da : D z49.toInt.toNat = k0 := qq.2.2.2.2
                        refine hq_p rfl rfl ?_
                        refine hq_p (ls' := [some (.ref 97), some (.int x1), some (.int x2), some (.int y9), some (.int z49), some (.int z38), some (.int z49)]) rfl rfl ?_
                        refine hq_p rfl rfl ?_
                        refine hq_p rfl rfl ?_
                        exact ihn14 ((400 - z49.toInt).toNat) (by omega) y9 z49 (some (.int z38)) (some (.int z49)) h13 rfl (by omega) (by omega) (by omega) (by omega) rfl rfl (by omega) (by omega) (by omega) Jh13
                  · have qq := qc (by omega)
                    clear qa qb qc qd
                    have dd : D z50.toInt.toNat = k1 := by rw [ek1]; exact congrArg D (by omega)
                    refine hq_p rfl rfl ?_
                    refine hq_gR Ih13.1 rfl rfl (by decide) (by decide) rfl ?_
                    refine hq_p rfl rfl ?_
                    refine hq_p rfl rfl (ty_ge (n := 1) nk_i1 (fun z70 ez70 => ?_))
                    refine hq_p rfl rfl (ty_ge (n := y9.toInt - z70.toInt) (nm_sub (by omega) (by omega)) (fun z71 ez71 => ?_))
                    refine hq_p rfl rfl (ty_gle (n := 1) (by decide) (fun z72 ez72 => ?_))
                    refine hq_p rfl rfl ?_
                    refine hq_gR Ih13.1 rfl rfl (by decide) (by decide) rfl ?_
                    refine hq_p rfl rfl ?_
                    refine hq_p rfl rfl (ty_ge (n := 1) nk_i1 (fun z73 ez73 => ?_))
                    refine hq_p rfl rfl (ty_ge (n := y9.toInt - z73.toInt) (nm_sub (by omega) (by omega)) (fun z74 ez74 => ?_))
                    refine ty_lL Ih13 rfl rfl (by decide) (by omega) (by omega) (fun z75 ez75 az75 bz75 => ?_)
                    refine hq_p rfl rfl (ty_gla (fun z76 az76 bz76 => ?_))
                    refine ty_lS (W := ty_Ws) H Jh13 rfl rfl (by decide) (by omega) (by omega) (fun i e => by unfold ty_Ws; omega) (fun h77 eh77 Jh77 => ?_)
                    have Ih77 := H.1 h77 Jh77
                    refine hq_p rfl rfl ?_
                    refine hq_p rfl rfl ?_
                    exact ihn14 ((400 - z50.toInt).toNat) (by omega) y9 z50 (some (.int z38)) (some (.int z49)) h77 rfl (by omega) (by omega) (by omega) (by omega) rfl rfl (by omega) (by omega) (by omega) Jh77
                · have qq := qb (by omega) (by omega)
                  clear qa qb qc qd
                  have dd : D z50.toInt.toNat = k1 := by rw [ek1]; exact congrArg D (by omega)
                  refine ty_inc (ls' := fun z78 => [some (.ref 97), some (.int x1), some (.int x2), some (.int z78), some (.int z50), some (.int z38), some (.int z49)]) rfl rfl (fun _ => rfl) (nm_addc nk_im1 (by omega) (by omega)) (fun z78 ez78 => ?_)
                  refine hq_p rfl rfl ?_
                  refine hq_gR Ih13.1 rfl rfl (by decide) (by decide) rfl ?_
                  refine hq_p rfl rfl ?_
                  refine hq_p rfl rfl (ty_ge (n := 1) nk_i1 (fun z79 ez79 => ?_))
                  refine hq_p rfl rfl (ty_ge (n := z78.toInt - z79.toInt) (nm_sub (by omega) (by omega)) (fun z80 ez80 => ?_))
                  refine hq_p rfl rfl ?_
                  refine hq_p rfl rfl ?_
                  refine hq_p rfl rfl ?_
                  refine hq_gR Ih13.1 rfl rfl (by decide) (by decide) rfl ?_
                  refine hq_p rfl rfl ?_
                  refine hq_p rfl rfl (ty_ge (n := 1) nk_i1 (fun z81 ez81 => ?_))
                  refine hq_p rfl rfl (ty_ge (n := z78.toInt - z81.toInt) (nm_sub (by omega) (by omega)) (fun z82 ez82 => ?_))
                  refine ty_lL Ih13 rfl rfl (by decide) (by omega) (by omega) (fun z83 ez83 az83 bz83 => ?_)
                  refine hq_p rfl rfl ?_
                  refine hq_gR Ih13.1 rfl rfl (by decide) (by decide) rfl ?_
                  refine hq_p rfl rfl ?_
                  refine ty_lL Ih13 rfl rfl (by decide) (by omega) (by omega) (fun z84 ez84 az84 bz84 => ?_)
                  refine ty_callj 0 (W := ty_Ws) H Jh13 rfl (fun _ => rfl) rfl rfl rfl (hq_pre_o Ih13.1 (x := 97) (ci := 11) rfl (by decide) rfl rfl rfl rfl) (fun a k w => by unfold ty_Wb at w; unfold ty_Ws; omega) (by unfold ty_Wb ty_Ws; omega) (ct_199 (x1 := z38) (x2 := z83) (x3 := z84) (by omega)) (fun h86 _ Jh86 P85 => ?_)
                  have Ih86 := H.1 h86 Jh86
                  obtain ⟨z87, rfl⟩ := P85
                  refine ty_lS (W := ty_Ws) H Jh86 rfl rfl (by decide) (by omega) (by omega) (fun i e => by unfold ty_Ws; omega) (fun h88 eh88 Jh88 => ?_)
                  have Ih88 := H.1 h88 Jh88
                  refine hq_p rfl rfl ?_
                  refine hq_p rfl rfl ?_
                  refine ty_gB Ih88 rfl rfl (by decide) (by decide) rfl (fun z89 ez89 az89 bz89 => ?_)
                  refine ty_zne rfl (fun c90 => ?_) (fun c90 => ?_)
                  · replace c90 : 1 ≤ z89.toInt ∧ z89.toInt ≤ 1 := by omega
                    refine hq_p rfl rfl (ty_ge (n := 1) nk_i1 (fun z91 ez91 => ?_))
                    refine hq_p rfl rfl ?_
                    refine ty_pB (W := ty_Ws) H Jh88 rfl rfl (by decide) rfl rfl rfl (by unfold ty_Ws; omega) rfl (by omega) (by omega) (fun h92 eh92 Jh92 => ?_)
                    have wh92 : (hs_fI h92 97 38).toInt = z91.toInt := by rw [eh92]; exact congrArg Int32.toInt (ty_fI_eq Ih88.1 rfl (by decide) rfl)
                    have Ih92 := H.1 h92 Jh92
                    refine hq_p rfl rfl ?_
                    refine hq_p rfl rfl ?_
                    exact ihn14 ((400 - z50.toInt).toNat) (by omega) z78 z50 (some (.int z38)) (some (.int z49)) h92 rfl (by omega) (by omega) (by omega) (by omega) rfl rfl (by omega) (by omega) (by omega) Jh92
                  · refine hq_p rfl rfl ?_
                    refine hq_gR Ih88.1 rfl rfl (by decide) (by decide) rfl ?_
                    refine hq_p rfl rfl ?_
                    refine hq_p rfl rfl (ty_ge (n := 1) nk_i1 (fun z93 ez93 => ?_))
                    refine hq_p rfl rfl (ty_ge (n := z78.toInt - z93.toInt) (nm_sub (by omega) (by omega)) (fun z94 ez94 => ?_))
                    refine ty_lL Ih88 rfl rfl (by decide) (by omega) (by omega) (fun z95 ez95 az95 bz95 => ?_)
                    refine hq_p rfl rfl (ty_gle (n := -1000000000) (by decide) (fun z96 ez96 => ?_))
                    refine hq_p rfl rfl (ty_gle (n := 1000000000) (by decide) (fun z97 ez97 => ?_))
                    refine ty_callp 1 Ih88 rfl (fun _ => rfl) rfl rfl rfl rfl (ct_136 (x0 := z95) (x1 := z96) (x2 := z97) (by omega)) (fun _ P98 => ?_)
                    obtain ⟨z99, rfl, az99, bz99, iz99⟩ := P98
                    refine ty_zne rfl (fun c100 => ?_) (fun c100 => ?_)
                    · replace c100 : 1 ≤ z99.toInt ∧ z99.toInt ≤ 1 := by omega
                      have f101 := iz99 (by omega)
                      clear iz99
                      refine hq_p rfl rfl (ty_ge (n := 0) nk_i0 (fun z102 ez102 => ?_))
                      refine ty_pB (W := ty_Ws) H Jh88 rfl rfl (by decide) rfl rfl rfl (by unfold ty_Ws; omega) rfl (by omega) (by omega) (fun h103 eh103 Jh103 => ?_)
                      have wh103 : (hs_fI h103 97 38).toInt = z102.toInt := by rw [eh103]; exact congrArg Int32.toInt (ty_fI_eq Ih88.1 rfl (by decide) rfl)
                      have Ih103 := H.1 h103 Jh103
                      refine hq_p rfl rfl ?_
                      refine hq_p rfl rfl ?_
                      exact ihn14 ((400 - z50.toInt).toNat) (by omega) z78 z50 (some (.int z38)) (some (.int z49)) h103 rfl (by omega) (by omega) (by omega) (by omega) rfl rfl (by omega) (by omega) (by omega) Jh103
                    · clear iz99
                      refine hq_p rfl rfl (ty_ge (n := 1) nk_i1 (fun z104 ez104 => ?_))
                      refine hq_p rfl rfl ?_
                      refine ty_pB (W := ty_Ws) H Jh88 rfl rfl (by decide) rfl rfl rfl (by unfold ty_Ws; omega) rfl (by omega) (by omega) (fun h105 eh105 Jh105 => ?_)
                      have wh105 : (hs_fI h105 97 38).toInt = z104.toInt := by rw [eh105]; exact congrArg Int32.toInt (ty_fI_eq Ih88.1 rfl (by decide) rfl)
                      have Ih105 := H.1 h105 Jh105
                      refine hq_p rfl rfl ?_
                      refine hq_p rfl rfl ?_
                      exact ihn14 ((400 - z50.toInt).toNat) (by omega) z78 z50 (some (.int z38)) (some (.int z49)) h105 rfl (by omega) (by omega) (by omega) (by omega) rfl rfl (by omega) (by omega) (by omega) Jh105
              · have qq := qa (by omega)
                clear qa qb qc qd
                have dd : D z50.toInt.toNat = k1 := by rw [ek1]; exact congrArg D (by omega)
                refine hq_p rfl rfl ?_
                refine hq_gR Ih13.1 rfl rfl (by decide) (by decide) rfl ?_
                refine hq_p rfl rfl ?_
                refine hq_p rfl rfl ?_
                refine ty_zne rfl (fun c106 => ?_) (fun c106 => ?_)
                · replace c106 : 1 ≤ z38.toInt ∧ z38.toInt ≤ 12 := by omega
                  refine hq_p rfl rfl ?_
                  refine ty_gB Ih13 rfl rfl (by decide) (by decide) rfl (fun z107 ez107 az107 bz107 => ?_)
                  refine ty_zne rfl (fun c108 => ?_) (fun c108 => ?_)
                  · exfalso; omega
                  · refine hq_p rfl rfl ?_
                    refine hq_gR Ih13.1 rfl rfl (by decide) (by decide) rfl ?_
                    refine hq_p rfl rfl ?_
                    refine ty_lL Ih13 rfl rfl (by decide) (by omega) (by omega) (fun z109 ez109 az109 bz109 => ?_)
                    refine hq_p rfl rfl ?_
                    refine ty_lS (W := ty_Ws) H Jh13 rfl rfl (by decide) (by omega) (by omega) (fun i e => by unfold ty_Ws; omega) (fun h110 eh110 Jh110 => ?_)
                    have Ih110 := H.1 h110 Jh110
                    refine ty_inc (ls' := fun z111 => [some (.ref 97), some (.int x1), some (.int x2), some (.int z111), some (.int z50), some (.int z38), some (.int z49)]) rfl rfl (fun _ => rfl) (nm_addc nk_i1 (by omega) (by omega)) (fun z111 ez111 => ?_)
                    refine hq_p rfl rfl ?_
                    refine hq_p rfl rfl ?_
                    exact ihn14 ((400 - z50.toInt).toNat) (by omega) z111 z50 (some (.int z38)) (some (.int z49)) h110 rfl (by omega) (by omega) (by omega) (by omega) rfl rfl (by omega) (by omega) (by omega) Jh110
                · refine hq_p rfl rfl ?_
                  refine hq_p rfl rfl (ty_gle (n := z49.toInt) (nm_i2l _) (fun z112 ez112 => ?_))
                  refine hq_p rfl rfl ?_
                  refine ty_lS (W := ty_Ws) H Jh13 rfl rfl (by decide) (by omega) (by omega) (fun i e => by unfold ty_Ws; omega) (fun h113 eh113 Jh113 => ?_)
                  have Ih113 := H.1 h113 Jh113
                  refine ty_inc (ls' := fun z114 => [some (.ref 97), some (.int x1), some (.int x2), some (.int z114), some (.int z50), some (.int z38), some (.int z49)]) rfl rfl (fun _ => rfl) (nm_addc nk_i1 (by omega) (by omega)) (fun z114 ez114 => ?_)
                  refine hq_p rfl rfl ?_
                  refine hq_p rfl rfl ?_
                  exact ihn14 ((400 - z50.toInt).toNat) (by omega) z114 z50 (some (.int z38)) (some (.int z49)) h113 rfl (by omega) (by omega) (by omega) (by omega) rfl rfl (by omega) (by omega) (by omega) Jh113
            · exfalso; omega
          · exfalso; omega
  exact L10_n14 _ z3 x1 none none h2 rfl (by omega) (by omega) (by omega) (by omega) rfl rfl (by omega) (by omega) (by omega) Jh2
end CT2
