/-! CONTRACTS (printed by wip/pm/cts.py) -/
section CT2
theorem ct_199 {X : pm_X} {d : Nat} {h : pm_H} {x1 : Int32} {x2 : Int64} {x3 : Int64} (hd : 1 ≤ d)  : ty_M X ty_Wb d 199 [.ref 97, .int x1, .long x2, .long x3] h ty_pl := by
  intro J H hJ
  obtain ⟨d, rfl⟩ : ∃ e, d = e + 1 := ⟨d - 1, by omega⟩
  have I := H.1 h hJ
  have ax1 := nm_lo x1
  have bx1 := nm_hi x1
  have ax2 := nm_llo x2
  have bx2 := nm_lhi x2
  have ax3 := nm_llo x3
  have bx3 := nm_lhi x3
  refine hq_M.enter (q := (⟨"TrainBearersModel", "reckon", "(IJJ)J"⟩, _, 6, some .long, 11, 4, pm_c199)) rfl rfl ?_
  show hq_W X d 11 false (some .long) pm_c199 (0, [some (.ref 97), some (.int x1), some (.long x2), none, some (.long x3), none], [], h) (fun h' v => J h' ∧ ty_pl h' v)
  refine hq_p rfl rfl ?_
  rcases (show x1.toInt = 20 ∨ x1.toInt = 21 ∨ x1.toInt = 22 ∨ x1.toInt = 23 ∨ x1.toInt = 24 ∨ x1.toInt = 25 ∨ x1.toInt = 26 ∨ (x1.toInt < 20 ∨ 26 < x1.toInt) by omega) with c1 | c1 | c1 | c1 | c1 | c1 | c1 | c1
  · refine ty_ts (n := 20) rfl c1 rfl rfl (by decide) ?_
    refine hq_p rfl rfl ?_
    refine hq_p rfl rfl ?_
    refine hq_p rfl rfl (ty_gla (fun z2 az2 bz2 => ?_))
    exact hq_W.ret rfl rfl rfl ⟨hJ, _, rfl⟩
  · refine ty_ts (n := 21) rfl c1 rfl rfl (by decide) ?_
    refine hq_p rfl rfl ?_
    refine hq_p rfl rfl ?_
    refine hq_p rfl rfl (ty_gla (fun z3 az3 bz3 => ?_))
    exact hq_W.ret rfl rfl rfl ⟨hJ, _, rfl⟩
  · refine ty_ts (n := 22) rfl c1 rfl rfl (by decide) ?_
    refine hq_p rfl rfl ?_
    refine hq_p rfl rfl ?_
    refine hq_p rfl rfl (ty_gla (fun z4 az4 bz4 => ?_))
    exact hq_W.ret rfl rfl rfl ⟨hJ, _, rfl⟩
  · refine ty_ts (n := 23) rfl c1 rfl rfl (by decide) ?_
    refine hq_p rfl rfl ?_
    refine hq_p rfl rfl ?_
    refine hq_p rfl rfl (ty_gle (n := 0) (by decide) (fun z5 ez5 => ?_))
    refine hq_p rfl rfl (ty_gc (fun z6 ez6 => ?_))
    refine ty_zne rfl (fun c7 => ?_) (fun c7 => ?_)
    · replace ez6 : x3.toInt ≠ 0 := by omega
      clear c7
      refine hq_p rfl rfl (ty_ge (n := 0) nk_i0 (fun z8 ez8 => ?_))
      refine ty_pB (W := ty_Wb) H hJ rfl rfl (by decide) rfl rfl rfl (by unfold ty_Wb; omega) rfl (by omega) (by omega) (fun h9 eh9 Jh9 => ?_)
      have wh9 : (hs_fI h9 97 38).toInt = z8.toInt := by rw [eh9]; exact congrArg Int32.toInt (ty_fI_eq I.1 rfl (by decide) rfl)
      have Ih9 := H.1 h9 Jh9
      refine hq_p rfl rfl ?_
      refine ty_gB Ih9 rfl rfl (by decide) (by decide) rfl (fun z10 ez10 az10 bz10 => ?_)
      refine ty_zeq rfl (fun c11 => ?_) (fun c11 => ?_)
      · refine hq_p rfl rfl ?_
        refine hq_p rfl rfl ?_
        refine hq_ldiv rfl (nm_lnz (by omega)) (ty_gla (fun z12 az12 bz12 => ?_))
        exact hq_W.ret rfl rfl rfl ⟨Jh9, _, rfl⟩
      · exfalso; omega
    · replace ez6 : x3.toInt = z5.toInt := by omega
      clear c7
      refine hq_p rfl rfl (ty_ge (n := 1) nk_i1 (fun z13 ez13 => ?_))
      refine hq_p rfl rfl ?_
      refine ty_pB (W := ty_Wb) H hJ rfl rfl (by decide) rfl rfl rfl (by unfold ty_Wb; omega) rfl (by omega) (by omega) (fun h14 eh14 Jh14 => ?_)
      have wh14 : (hs_fI h14 97 38).toInt = z13.toInt := by rw [eh14]; exact congrArg Int32.toInt (ty_fI_eq I.1 rfl (by decide) rfl)
      have Ih14 := H.1 h14 Jh14
      refine hq_p rfl rfl ?_
      refine ty_gB Ih14 rfl rfl (by decide) (by decide) rfl (fun z15 ez15 az15 bz15 => ?_)
      refine ty_zeq rfl (fun c16 => ?_) (fun c16 => ?_)
      · exfalso; omega
      · clear c16
        refine hq_p rfl rfl (ty_gle (n := 0) (by decide) (fun z17 ez17 => ?_))
        refine hq_p rfl rfl ?_
        exact hq_W.ret rfl rfl rfl ⟨Jh14, _, rfl⟩
  · refine ty_ts (n := 24) rfl c1 rfl rfl (by decide) ?_
    refine hq_p rfl rfl ?_
    refine hq_p rfl rfl ?_
    refine hq_p rfl rfl (ty_gle (n := 0) (by decide) (fun z18 ez18 => ?_))
    refine hq_p rfl rfl (ty_gc (fun z19 ez19 => ?_))
    refine ty_zne rfl (fun c20 => ?_) (fun c20 => ?_)
    · replace ez19 : x3.toInt ≠ 0 := by omega
      clear c20
      refine hq_p rfl rfl (ty_ge (n := 0) nk_i0 (fun z21 ez21 => ?_))
      refine ty_pB (W := ty_Wb) H hJ rfl rfl (by decide) rfl rfl rfl (by unfold ty_Wb; omega) rfl (by omega) (by omega) (fun h22 eh22 Jh22 => ?_)
      have wh22 : (hs_fI h22 97 38).toInt = z21.toInt := by rw [eh22]; exact congrArg Int32.toInt (ty_fI_eq I.1 rfl (by decide) rfl)
      have Ih22 := H.1 h22 Jh22
      refine hq_p rfl rfl ?_
      refine ty_gB Ih22 rfl rfl (by decide) (by decide) rfl (fun z23 ez23 az23 bz23 => ?_)
      refine ty_zeq rfl (fun c24 => ?_) (fun c24 => ?_)
      · refine hq_p rfl rfl ?_
        refine hq_p rfl rfl ?_
        refine hq_lrem rfl (nm_lnz (by omega)) (ty_gla (fun z25 az25 bz25 => ?_))
        exact hq_W.ret rfl rfl rfl ⟨Jh22, _, rfl⟩
      · exfalso; omega
    · replace ez19 : x3.toInt = z18.toInt := by omega
      clear c20
      refine hq_p rfl rfl (ty_ge (n := 1) nk_i1 (fun z26 ez26 => ?_))
      refine hq_p rfl rfl ?_
      refine ty_pB (W := ty_Wb) H hJ rfl rfl (by decide) rfl rfl rfl (by unfold ty_Wb; omega) rfl (by omega) (by omega) (fun h27 eh27 Jh27 => ?_)
      have wh27 : (hs_fI h27 97 38).toInt = z26.toInt := by rw [eh27]; exact congrArg Int32.toInt (ty_fI_eq I.1 rfl (by decide) rfl)
      have Ih27 := H.1 h27 Jh27
      refine hq_p rfl rfl ?_
      refine ty_gB Ih27 rfl rfl (by decide) (by decide) rfl (fun z28 ez28 az28 bz28 => ?_)
      refine ty_zeq rfl (fun c29 => ?_) (fun c29 => ?_)
      · exfalso; omega
      · clear c29
        refine hq_p rfl rfl (ty_gle (n := 0) (by decide) (fun z30 ez30 => ?_))
        refine hq_p rfl rfl ?_
        exact hq_W.ret rfl rfl rfl ⟨Jh27, _, rfl⟩
  · refine ty_ts (n := 25) rfl c1 rfl rfl (by decide) ?_
    refine hq_p rfl rfl ?_
    refine hq_p rfl rfl ?_
    refine hq_p rfl rfl (ty_gc (fun z31 ez31 => ?_))
    refine ty_zge rfl (fun c32 => ?_) (fun c32 => ?_)
    · replace ez31 : x2.toInt ≥ x3.toInt := by omega
      clear c32
      refine hq_p rfl rfl (ty_gle (n := 0) (by decide) (fun z33 ez33 => ?_))
      exact hq_W.ret rfl rfl rfl ⟨hJ, _, rfl⟩
    · replace ez31 : x2.toInt < x3.toInt := by omega
      clear c32
      refine hq_p rfl rfl (ty_gle (n := 1) (by decide) (fun z34 ez34 => ?_))
      refine hq_p rfl rfl ?_
      exact hq_W.ret rfl rfl rfl ⟨hJ, _, rfl⟩
  · refine ty_ts (n := 26) rfl c1 rfl rfl (by decide) ?_
    refine hq_p rfl rfl ?_
    refine hq_p rfl rfl ?_
    refine hq_p rfl rfl (ty_gc (fun z35 ez35 => ?_))
    refine ty_zle rfl (fun c36 => ?_) (fun c36 => ?_)
    · replace ez35 : x2.toInt ≤ x3.toInt := by omega
      clear c36
      refine hq_p rfl rfl (ty_gle (n := 0) (by decide) (fun z37 ez37 => ?_))
      exact hq_W.ret rfl rfl rfl ⟨hJ, _, rfl⟩
    · replace ez35 : x2.toInt > x3.toInt := by omega
      clear c36
      refine hq_p rfl rfl (ty_gle (n := 1) (by decide) (fun z38 ez38 => ?_))
      refine hq_p rfl rfl ?_
      exact hq_W.ret rfl rfl rfl ⟨hJ, _, rfl⟩
  · refine ty_td rfl c1 (by decide) ?_
    refine hq_p rfl rfl ?_
    refine hq_p rfl rfl ?_
    refine hq_p rfl rfl (ty_gc (fun z39 ez39 => ?_))
    refine ty_zne rfl (fun c40 => ?_) (fun c40 => ?_)
    · clear ez39 c40
      refine hq_p rfl rfl (ty_gle (n := 0) (by decide) (fun z41 ez41 => ?_))
      exact hq_W.ret rfl rfl rfl ⟨hJ, _, rfl⟩
    · replace ez39 : x2.toInt = x3.toInt := by omega
      clear c40
      refine hq_p rfl rfl (ty_gle (n := 1) (by decide) (fun z42 ez42 => ?_))
      refine hq_p rfl rfl ?_
      exact hq_W.ret rfl rfl rfl ⟨hJ, _, rfl⟩
set_option maxRecDepth 8000 in
set_option maxHeartbeats 20000000 in
theorem ct_200 {X : pm_X} {d : Nat} {h : pm_H} {x1 : Int32} {x2 : Int32} {b : Int} (hd : 2 ≤ d) (ax1 : 0 ≤ x1.toInt) (bx1 : x1.toInt ≤ 400) (ax2 : 0 ≤ x2.toInt) (bx2 : x2.toInt ≤ 400) (hR : ty_rw (hs_aI h 99) b.toNat x1.toInt x2.toInt) (hb : (hs_fI h 97 34).toInt = b) : ty_M X ty_Ws d 200 [.ref 97, .int x1, .int x2] h ty_pv := by
  intro J0 H0 hJ0
  obtain ⟨hr0, hr2, hr1, D, hD⟩ := hR
  dsimp only at hD
  have d0 : D x1.toInt.toNat = 0 := by have q := hD x1.toInt.toNat (by omega) (by omega); omega
  obtain ⟨R, eR⟩ : ∃ R, hs_aI h 99 = R := ⟨_, rfl⟩
  rw [eR] at hD
  obtain ⟨J, eJ⟩ : ∃ J : pm_H → Prop, J = fun h' => (J0 h' ∧ (hs_fI h' 97 34).toInt = b) ∧ hs_aI h' 99 = R := ⟨_, rfl⟩
  have H : ty_C ty_Ws J := by rw [eJ]; exact H0.law (by unfold ty_Ws; omega) (fun k => by unfold ty_Ws; omega) b R
  have hJ : J h := by rw [eJ]; exact ⟨⟨hJ0, hb⟩, eR⟩
  refine hq_M.mono (Nat.le_refl _) (Q := fun h' v => J h' ∧ ty_pv h' v) (fun h' v q => ⟨by have q1 := q.1; rw [eJ] at q1; exact q1.1.1, q.2⟩) ?_
  obtain ⟨d, rfl⟩ : ∃ e, d = e + 1 := ⟨d - 1, by omega⟩
  have I := H.1 h hJ
  refine hq_M.enter (q := (⟨"TrainBearersModel", "reckonAll", "(II)V"⟩, _, 7, none, 11, 3, pm_c200)) rfl rfl ?_
  show hq_W X d 11 false (none) pm_c200 (0, [some (.ref 97), some (.int x1), some (.int x2), none, none, none, none], [], h) (fun h' v => J h' ∧ ty_pv h' v)
  refine hq_p rfl rfl ?_
  refine hq_p rfl rfl (ty_ge (n := 0) nk_i0 (fun z1 ez1 => ?_))
  refine ty_pB (W := ty_Ws) H hJ rfl rfl (by decide) rfl rfl rfl (by unfold ty_Ws; omega) rfl (by omega) (by omega) (fun h2 eh2 Jh2 => ?_)
  have wh2 : (hs_fI h2 97 38).toInt = z1.toInt := by rw [eh2]; exact congrArg Int32.toInt (ty_fI_eq I.1 rfl (by decide) rfl)
  have Ih2 := H.1 h2 Jh2
  refine hq_p rfl rfl (ty_ge (n := 0) nk_i0 (fun z3 ez3 => ?_))
  refine hq_p (ls' := [some (.ref 97), some (.int x1), some (.int x2), some (.int z3), none, none, none]) rfl rfl ?_
  refine hq_p rfl rfl ?_
  refine hq_p (ls' := [some (.ref 97), some (.int x1), some (.int x2), some (.int z3), some (.int x1), none, none]) rfl rfl ?_
  have L10_n14 : ∀ n14 : Nat, ∀ (y9 : Int32) (y10 : Int32) (w11 : Option Value) (w12 : Option Value) (h13 : pm_H), (400 - y10.toInt).toNat = n14 → 0 ≤ y9.toInt → y9.toInt ≤ 400 → 0 ≤ y10.toInt → y10.toInt ≤ 400 → pm_two w11 = false → pm_two w12 = false → y9.toInt = D y10.toInt.toNat → x1.toInt ≤ y10.toInt → y10.toInt ≤ x2.toInt → J h13 → hq_W X d 11 false (none) pm_c200 (10, [some (.ref 97), some (.int x1), some (.int x2), some (.int y9), some (.int y10), w11, w12], [], h13) (fun h' v => J h' ∧ ty_pv h' v) := by
    intro n14
    induction n14 using Nat.strongRecOn with
    | ind n14 ihn14 =>
      intro y9 y10 w11 w12 h13 mn14 ay9 by9 ay10 by10 kw11 kw12 x0n14 x1n14 x2n14 Jh13
      have Ih13 := H.1 h13 Jh13
      refine hq_p rfl rfl ?_
      refine hq_p rfl rfl ?_
      refine ty_ige rfl (fun c15 => ?_) (fun c15 => ?_)
      · refine hq_p rfl rfl ?_
        refine hq_p rfl rfl ?_
        refine ty_zle rfl (fun c16 => ?_) (fun c16 => ?_)
        · refine hq_p rfl rfl (ty_gle (n := 0) (by decide) (fun z17 ez17 => ?_))
          refine ty_pL (W := ty_Ws) H Jh13 rfl rfl (by decide) rfl rfl (by unfold ty_Ws; omega) rfl (by omega) (by omega) (fun h18 eh18 Jh18 => ?_)
          have Ih18 := H.1 h18 Jh18
          exact hq_W.ret rfl rfl rfl ⟨Jh18, rfl⟩
        · refine hq_p rfl rfl ?_
          refine hq_gR Ih13.1 rfl rfl (by decide) (by decide) rfl ?_
          refine hq_p rfl rfl (ty_ge (n := 0) nk_i0 (fun z19 ez19 => ?_))
          refine ty_lL Ih13 rfl rfl (by decide) (by omega) (by omega) (fun z20 ez20 az20 bz20 => ?_)
          refine hq_p rfl rfl ?_
          refine ty_pL (W := ty_Ws) H Jh13 rfl rfl (by decide) rfl rfl (by unfold ty_Ws; omega) rfl (by omega) (by omega) (fun h21 eh21 Jh21 => ?_)
          have Ih21 := H.1 h21 Jh21
          exact hq_W.ret rfl rfl rfl ⟨Jh21, rfl⟩
      · refine hq_p rfl rfl ?_
        refine ty_gB Ih13 rfl rfl (by decide) (by decide) rfl (fun z22 ez22 az22 bz22 => ?_)
        refine ty_zne rfl (fun c23 => ?_) (fun c23 => ?_)
        · replace c23 : 1 ≤ z22.toInt ∧ z22.toInt ≤ 1 := by omega
          refine hq_p rfl rfl ?_
          refine hq_p rfl rfl ?_
          refine ty_zle rfl (fun c24 => ?_) (fun c24 => ?_)
          · refine hq_p rfl rfl (ty_gle (n := 0) (by decide) (fun z25 ez25 => ?_))
            refine ty_pL (W := ty_Ws) H Jh13 rfl rfl (by decide) rfl rfl (by unfold ty_Ws; omega) rfl (by omega) (by omega) (fun h26 eh26 Jh26 => ?_)
            have Ih26 := H.1 h26 Jh26
            exact hq_W.ret rfl rfl rfl ⟨Jh26, rfl⟩
          · refine hq_p rfl rfl ?_
            refine hq_gR Ih13.1 rfl rfl (by decide) (by decide) rfl ?_
            refine hq_p rfl rfl (ty_ge (n := 0) nk_i0 (fun z27 ez27 => ?_))
            refine ty_lL Ih13 rfl rfl (by decide) (by omega) (by omega) (fun z28 ez28 az28 bz28 => ?_)
            refine hq_p rfl rfl ?_
            refine ty_pL (W := ty_Ws) H Jh13 rfl rfl (by decide) rfl rfl (by unfold ty_Ws; omega) rfl (by omega) (by omega) (fun h29 eh29 Jh29 => ?_)
            have Ih29 := H.1 h29 Jh29
            exact hq_W.ret rfl rfl rfl ⟨Jh29, rfl⟩
        · have ooh13 := H.2.2.2.2.2.2.1 (Or.inl rfl) h13 Jh13
          refine hq_p rfl rfl ?_
          refine ty_gB Ih13 rfl rfl (by decide) (by decide) rfl (fun z30 ez30 az30 bz30 => ?_)
          refine ty_zeq rfl (fun c31 => ?_) (fun c31 => ?_)
          · refine hq_p rfl rfl ?_
            refine hq_gR Ih13.1 rfl rfl (by decide) (by decide) rfl ?_
            refine hq_p rfl rfl ?_
            refine ty_gI Ih13 rfl rfl (by decide) (by decide) rfl rfl (fun z32 ez32 az32 bz32 => ?_)
            refine hq_p rfl rfl (ty_ge (n := 98) nk_b98 (fun z33 ez33 => ?_))
            refine hq_p rfl rfl (ty_ge (n := z32.toInt + z33.toInt) (nm_add (by omega) (by omega)) (fun z34 ez34 => ?_))
            refine hq_p rfl rfl (ty_ge (n := 2) nk_i2 (fun z35 ez35 => ?_))
            refine hq_p rfl rfl ?_
            refine hq_p rfl rfl (ty_ge (n := 2 * y10.toInt) (nm_cmul ez35 (by omega) (by omega)) (fun z36 ez36 => ?_))
            refine hq_p rfl rfl (ty_ge (n := z34.toInt + z36.toInt) (nm_add (by omega) (by omega)) (fun z37 ez37 => ?_))
            refine ty_aL Ih13 rfl rfl (by decide) (by omega) (by omega) (fun i _ => ty_rbF i) (fun z38 ez38 az38 bz38 => ?_)
            refine hq_p (ls' := [some (.ref 97), some (.int x1), some (.int x2), some (.int y9), some (.int y10), some (.int z38), w12]) rfl rfl ?_
            refine hq_p rfl rfl ?_
            refine ty_gB Ih13 rfl rfl (by decide) (by decide) rfl (fun z39 ez39 az39 bz39 => ?_)
            refine ty_zeq rfl (fun c40 => ?_) (fun c40 => ?_)
            · refine hq_p rfl rfl ?_
              refine hq_gR Ih13.1 rfl rfl (by decide) (by decide) rfl ?_
              refine hq_p rfl rfl ?_
              refine ty_gI Ih13 rfl rfl (by decide) (by decide) rfl rfl (fun z41 ez41 az41 bz41 => ?_)
              refine hq_p rfl rfl (ty_ge (n := 98) nk_b98 (fun z42 ez42 => ?_))
              refine hq_p rfl rfl (ty_ge (n := z41.toInt + z42.toInt) (nm_add (by omega) (by omega)) (fun z43 ez43 => ?_))
              refine hq_p rfl rfl (ty_ge (n := 2) nk_i2 (fun z44 ez44 => ?_))
              refine hq_p rfl rfl ?_
              refine hq_p rfl rfl (ty_ge (n := 2 * y10.toInt) (nm_cmul ez44 (by omega) (by omega)) (fun z45 ez45 => ?_))
              refine hq_p rfl rfl (ty_ge (n := z43.toInt + z45.toInt) (nm_add (by omega) (by omega)) (fun z46 ez46 => ?_))
              refine hq_p rfl rfl (ty_ge (n := 1) nk_i1 (fun z47 ez47 => ?_))
              refine hq_p rfl rfl (ty_ge (n := z46.toInt + z47.toInt) (nm_add (by omega) (by omega)) (fun z48 ez48 => ?_))
              refine ty_aL Ih13 rfl rfl (by decide) (by omega) (by omega) (fun i _ => ty_rbF i) (fun z49 ez49 az49 bz49 => ?_)
              refine hq_p (ls' := [some (.ref 97), some (.int x1), some (.int x2), some (.int y9), some (.int y10), some (.int z38), some (.int z49)]) rfl rfl ?_
              have rr : hs_aI h13 99 = R := by have q := Jh13; rw [eJ] at q; exact q.2
              have bb : (hs_fI h13 97 34).toInt = b := by have q := Jh13; rw [eJ] at q; exact q.1.2
              rw [rr, show z37.toInt.toNat = b.toNat + 98 + 2 * y10.toInt.toNat by omega] at ez38
              rw [rr, show z48.toInt.toNat = b.toNat + 98 + 2 * y10.toInt.toNat + 1 by omega] at ez49
              obtain ⟨q0, q1, q2⟩ := hD y10.toInt.toNat (by omega) (by omega)
              obtain ⟨q3, qa, qb, qc, qd⟩ := q2 (by omega)
              clear q2
              rw [← ez38] at q3 qa qb qc qd
              rw [← ez49] at qd
              obtain ⟨k0, ek0⟩ : ∃ q : Int, q = D y10.toInt.toNat := ⟨_, rfl⟩
              obtain ⟨k1, ek1⟩ : ∃ q : Int, q = D (y10.toInt.toNat + 1) := ⟨_, rfl⟩
              rw [← ek0] at q0 q1 qa qb qc qd
              rw [← ek1] at qa qb qc qd
              have xx : y9.toInt = k0 := by omega
              refine ty_inc (ls' := fun z50 => [some (.ref 97), some (.int x1), some (.int x2), some (.int y9), some (.int z50), some (.int z38), some (.int z49)]) rfl rfl (fun _ => rfl) (nm_addc nk_i1 (by omega) (by omega)) (fun z50 ez50 => ?_)
              refine hq_p rfl rfl ?_
              refine hq_p rfl rfl (ty_ge (n := 20) nk_b20 (fun z51 ez51 => ?_))
              refine ty_ige rfl (fun c52 => ?_) (fun c52 => ?_)
              · refine hq_p rfl rfl ?_
                refine hq_p rfl rfl (ty_ge (n := 28) nk_b28 (fun z53 ez53 => ?_))
                refine ty_ige rfl (fun c54 => ?_) (fun c54 => ?_)
                · refine hq_p rfl rfl ?_
                  refine hq_p rfl rfl (ty_ge (n := 28) nk_b28 (fun z55 ez55 => ?_))
                  refine ty_ine rfl (fun c56 => ?_) (fun c56 => ?_)
                  · replace c56 : 29 ≤ z38.toInt ∧ z38.toInt ≤ 2147483647 := by omega
                    have qq := qd (by omega)
                    clear qa qb qc qd
                    have dd : D z50.toInt.toNat = k1 := by rw [ek1]; exact congrArg D (by omega)
                    refine hq_p rfl rfl ?_
                    refine hq_gR Ih13.1 rfl rfl (by decide) (by decide) rfl ?_
                    refine hq_p rfl rfl ?_
                    refine hq_p rfl rfl (ty_ge (n := 1) nk_i1 (fun z57 ez57 => ?_))
                    refine hq_p rfl rfl (ty_ge (n := y9.toInt - z57.toInt) (nm_sub (by omega) (by omega)) (fun z58 ez58 => ?_))
                    refine ty_lL Ih13 rfl rfl (by decide) (by omega) (by omega) (fun z59 ez59 az59 bz59 => ?_)
                    refine hq_p rfl rfl ?_
                    refine hq_p rfl rfl (ty_ge (n := 29) nk_b29 (fun z60 ez60 => ?_))
                    refine ty_ine rfl (fun c61 => ?_) (fun c61 => ?_)
                    · replace c61 : 30 ≤ z38.toInt ∧ z38.toInt ≤ 2147483647 := by omega
                      refine hq_p rfl rfl (ty_gle (n := 1) (by decide) (fun z62 ez62 => ?_))
                      refine hq_p rfl rfl (ty_gc (fun z63 ez63 => ?_))
                      refine ty_zne rfl (fun c64 => ?_) (fun c64 => ?_)
                      · clear ez63 c64
                        refine ty_inc (ls' := fun z65 => [some (.ref 97), some (.int x1), some (.int x2), some (.int z65), some (.int z50), some (.int z38), some (.int z49)]) rfl rfl (fun _ => rfl) (nm_addc nk_im1 (by omega) (by omega)) (fun z65 ez65 => ?_)
                        refine hq_p rfl rfl ?_
                        exact ihn14 ((400 - z50.toInt).toNat) (by omega) z65 z50 (some (.int z38)) (some (.int z49)) h13 rfl (by omega) (by omega) (by omega) (by omega) rfl rfl (by omega) (by omega) (by omega) Jh13
                      · replace ez63 : z59.toInt = z62.toInt := by omega
                        clear c64
                        have da : D z49.toInt.toNat = k0 := qq.2.2.2.2
                        refine hq_p rfl rfl ?_
                        refine hq_p (ls' := [some (.ref 97), some (.int x1), some (.int x2), some (.int y9), some (.int z49), some (.int z38), some (.int z49)]) rfl rfl ?_
                        refine hq_p rfl rfl ?_
                        refine hq_p rfl rfl ?_
                        exact ihn14 ((400 - z49.toInt).toNat) (by omega) y9 z49 (some (.int z38)) (some (.int z49)) h13 rfl (by omega) (by omega) (by omega) (by omega) rfl rfl (by omega) (by omega) (by omega) Jh13
                    · refine hq_p rfl rfl (ty_gle (n := 0) (by decide) (fun z66 ez66 => ?_))
                      refine hq_p rfl rfl ?_
                      refine hq_p rfl rfl (ty_gc (fun z67 ez67 => ?_))
                      refine ty_zne rfl (fun c68 => ?_) (fun c68 => ?_)
                      · replace ez67 : z59.toInt ≠ 0 := by omega
                        clear c68
                        refine ty_inc (ls' := fun z69 => [some (.ref 97), some (.int x1), some (.int x2), some (.int z69), some (.int z50), some (.int z38), some (.int z49)]) rfl rfl (fun _ => rfl) (nm_addc nk_im1 (by omega) (by omega)) (fun z69 ez69 => ?_)
                        refine hq_p rfl rfl ?_
                        exact ihn14 ((400 - z50.toInt).toNat) (by omega) z69 z50 (some (.int z38)) (some (.int z49)) h13 rfl (by omega) (by omega) (by omega) (by omega) rfl rfl (by omega) (by omega) (by omega) Jh13
                      · replace ez67 : z59.toInt = z66.toInt := by omega
                        clear c68
                        have da : D z49.toInt.toNat = k0 := qq.2.2.2.2
                        refine hq_p rfl rfl ?_
                        refine hq_p (ls' := [some (.ref 97), some (.int x1), some (.int x2), some (.int y9), some (.int z49), some (.int z38), some (.int z49)]) rfl rfl ?_
                        refine hq_p rfl rfl ?_
                        refine hq_p rfl rfl ?_
                        exact ihn14 ((400 - z49.toInt).toNat) (by omega) y9 z49 (some (.int z38)) (some (.int z49)) h13 rfl (by omega) (by omega) (by omega) (by omega) rfl rfl (by omega) (by omega) (by omega) Jh13
                  · have qq := qc (by omega)
                    clear qa qb qc qd
                    have dd : D z50.toInt.toNat = k1 := by rw [ek1]; exact congrArg D (by omega)
                    refine hq_p rfl rfl ?_
                    refine hq_gR Ih13.1 rfl rfl (by decide) (by decide) rfl ?_
                    refine hq_p rfl rfl ?_
                    refine hq_p rfl rfl (ty_ge (n := 1) nk_i1 (fun z70 ez70 => ?_))
                    refine hq_p rfl rfl (ty_ge (n := y9.toInt - z70.toInt) (nm_sub (by omega) (by omega)) (fun z71 ez71 => ?_))
                    refine hq_p rfl rfl (ty_gle (n := 1) (by decide) (fun z72 ez72 => ?_))
                    refine hq_p rfl rfl ?_
                    refine hq_gR Ih13.1 rfl rfl (by decide) (by decide) rfl ?_
                    refine hq_p rfl rfl ?_
                    refine hq_p rfl rfl (ty_ge (n := 1) nk_i1 (fun z73 ez73 => ?_))
                    refine hq_p rfl rfl (ty_ge (n := y9.toInt - z73.toInt) (nm_sub (by omega) (by omega)) (fun z74 ez74 => ?_))
                    refine ty_lL Ih13 rfl rfl (by decide) (by omega) (by omega) (fun z75 ez75 az75 bz75 => ?_)
                    refine hq_p rfl rfl (ty_gla (fun z76 az76 bz76 => ?_))
                    refine ty_lS (W := ty_Ws) H Jh13 rfl rfl (by decide) (by omega) (by omega) (fun i e => by unfold ty_Ws; omega) (fun h77 eh77 Jh77 => ?_)
                    have Ih77 := H.1 h77 Jh77
                    refine hq_p rfl rfl ?_
                    refine hq_p rfl rfl ?_
                    exact ihn14 ((400 - z50.toInt).toNat) (by omega) y9 z50 (some (.int z38)) (some (.int z49)) h77 rfl (by omega) (by omega) (by omega) (by omega) rfl rfl (by omega) (by omega) (by omega) Jh77
                · have qq := qb (by omega) (by omega)
                  clear qa qb qc qd
                  have dd : D z50.toInt.toNat = k1 := by rw [ek1]; exact congrArg D (by omega)
                  refine ty_inc (ls' := fun z78 => [some (.ref 97), some (.int x1), some (.int x2), some (.int z78), some (.int z50), some (.int z38), some (.int z49)]) rfl rfl (fun _ => rfl) (nm_addc nk_im1 (by omega) (by omega)) (fun z78 ez78 => ?_)
                  refine hq_p rfl rfl ?_
                  refine hq_gR Ih13.1 rfl rfl (by decide) (by decide) rfl ?_
                  refine hq_p rfl rfl ?_
                  refine hq_p rfl rfl (ty_ge (n := 1) nk_i1 (fun z79 ez79 => ?_))
                  refine hq_p rfl rfl (ty_ge (n := z78.toInt - z79.toInt) (nm_sub (by omega) (by omega)) (fun z80 ez80 => ?_))
                  refine hq_p rfl rfl ?_
                  refine hq_p rfl rfl ?_
                  refine hq_p rfl rfl ?_
                  refine hq_gR Ih13.1 rfl rfl (by decide) (by decide) rfl ?_
                  refine hq_p rfl rfl ?_
                  refine hq_p rfl rfl (ty_ge (n := 1) nk_i1 (fun z81 ez81 => ?_))
                  refine hq_p rfl rfl (ty_ge (n := z78.toInt - z81.toInt) (nm_sub (by omega) (by omega)) (fun z82 ez82 => ?_))
                  refine ty_lL Ih13 rfl rfl (by decide) (by omega) (by omega) (fun z83 ez83 az83 bz83 => ?_)
                  refine hq_p rfl rfl ?_
                  refine hq_gR Ih13.1 rfl rfl (by decide) (by decide) rfl ?_
                  refine hq_p rfl rfl ?_
                  refine ty_lL Ih13 rfl rfl (by decide) (by omega) (by omega) (fun z84 ez84 az84 bz84 => ?_)
                  refine ty_callj 0 (W := ty_Ws) H Jh13 rfl (fun _ => rfl) rfl rfl rfl (hq_pre_o Ih13.1 (x := 97) (ci := 11) rfl (by decide) rfl rfl rfl rfl) (fun a k w => by unfold ty_Wb at w; unfold ty_Ws; omega) (by unfold ty_Wb ty_Ws; omega) (ct_199 (x1 := z38) (x2 := z83) (x3 := z84) (by omega)) (fun h86 _ Jh86 P85 => ?_)
                  have Ih86 := H.1 h86 Jh86
                  obtain ⟨z87, rfl⟩ := P85
                  refine ty_lS (W := ty_Ws) H Jh86 rfl rfl (by decide) (by omega) (by omega) (fun i e => by unfold ty_Ws; omega) (fun h88 eh88 Jh88 => ?_)
                  have Ih88 := H.1 h88 Jh88
                  refine hq_p rfl rfl ?_
                  refine hq_p rfl rfl ?_
                  refine ty_gB Ih88 rfl rfl (by decide) (by decide) rfl (fun z89 ez89 az89 bz89 => ?_)
                  refine ty_zne rfl (fun c90 => ?_) (fun c90 => ?_)
                  · replace c90 : 1 ≤ z89.toInt ∧ z89.toInt ≤ 1 := by omega
                    refine hq_p rfl rfl (ty_ge (n := 1) nk_i1 (fun z91 ez91 => ?_))
                    refine hq_p rfl rfl ?_
                    refine ty_pB (W := ty_Ws) H Jh88 rfl rfl (by decide) rfl rfl rfl (by unfold ty_Ws; omega) rfl (by omega) (by omega) (fun h92 eh92 Jh92 => ?_)
                    have wh92 : (hs_fI h92 97 38).toInt = z91.toInt := by rw [eh92]; exact congrArg Int32.toInt (ty_fI_eq Ih88.1 rfl (by decide) rfl)
                    have Ih92 := H.1 h92 Jh92
                    refine hq_p rfl rfl ?_
                    refine hq_p rfl rfl ?_
                    exact ihn14 ((400 - z50.toInt).toNat) (by omega) z78 z50 (some (.int z38)) (some (.int z49)) h92 rfl (by omega) (by omega) (by omega) (by omega) rfl rfl (by omega) (by omega) (by omega) Jh92
                  · refine hq_p rfl rfl ?_
                    refine hq_gR Ih88.1 rfl rfl (by decide) (by decide) rfl ?_
                    refine hq_p rfl rfl ?_
                    refine hq_p rfl rfl (ty_ge (n := 1) nk_i1 (fun z93 ez93 => ?_))
                    refine hq_p rfl rfl (ty_ge (n := z78.toInt - z93.toInt) (nm_sub (by omega) (by omega)) (fun z94 ez94 => ?_))
                    refine ty_lL Ih88 rfl rfl (by decide) (by omega) (by omega) (fun z95 ez95 az95 bz95 => ?_)
                    refine hq_p rfl rfl (ty_gle (n := -1000000000) (by decide) (fun z96 ez96 => ?_))
                    refine hq_p rfl rfl (ty_gle (n := 1000000000) (by decide) (fun z97 ez97 => ?_))
                    refine ty_callp 1 Ih88 rfl (fun _ => rfl) rfl rfl rfl rfl (ct_136 (x0 := z95) (x1 := z96) (x2 := z97) (by omega)) (fun _ P98 => ?_)
                    obtain ⟨z99, rfl, az99, bz99, iz99⟩ := P98
                    refine ty_zne rfl (fun c100 => ?_) (fun c100 => ?_)
                    · replace c100 : 1 ≤ z99.toInt ∧ z99.toInt ≤ 1 := by omega
                      have f101 := iz99 (by omega)
                      clear iz99
                      refine hq_p rfl rfl (ty_ge (n := 0) nk_i0 (fun z102 ez102 => ?_))
                      refine ty_pB (W := ty_Ws) H Jh88 rfl rfl (by decide) rfl rfl rfl (by unfold ty_Ws; omega) rfl (by omega) (by omega) (fun h103 eh103 Jh103 => ?_)
                      have wh103 : (hs_fI h103 97 38).toInt = z102.toInt := by rw [eh103]; exact congrArg Int32.toInt (ty_fI_eq Ih88.1 rfl (by decide) rfl)
                      have Ih103 := H.1 h103 Jh103
                      refine hq_p rfl rfl ?_
                      refine hq_p rfl rfl ?_
                      exact ihn14 ((400 - z50.toInt).toNat) (by omega) z78 z50 (some (.int z38)) (some (.int z49)) h103 rfl (by omega) (by omega) (by omega) (by omega) rfl rfl (by omega) (by omega) (by omega) Jh103
                    · clear iz99
                      refine hq_p rfl rfl (ty_ge (n := 1) nk_i1 (fun z104 ez104 => ?_))
                      refine hq_p rfl rfl ?_
                      refine ty_pB (W := ty_Ws) H Jh88 rfl rfl (by decide) rfl rfl rfl (by unfold ty_Ws; omega) rfl (by omega) (by omega) (fun h105 eh105 Jh105 => ?_)
                      have wh105 : (hs_fI h105 97 38).toInt = z104.toInt := by rw [eh105]; exact congrArg Int32.toInt (ty_fI_eq Ih88.1 rfl (by decide) rfl)
                      have Ih105 := H.1 h105 Jh105
                      refine hq_p rfl rfl ?_
                      refine hq_p rfl rfl ?_
                      exact ihn14 ((400 - z50.toInt).toNat) (by omega) z78 z50 (some (.int z38)) (some (.int z49)) h105 rfl (by omega) (by omega) (by omega) (by omega) rfl rfl (by omega) (by omega) (by omega) Jh105
              · have qq := qa (by omega)
                clear qa qb qc qd
                have dd : D z50.toInt.toNat = k1 := by rw [ek1]; exact congrArg D (by omega)
                refine hq_p rfl rfl ?_
                refine hq_gR Ih13.1 rfl rfl (by decide) (by decide) rfl ?_
                refine hq_p rfl rfl ?_
                refine hq_p rfl rfl ?_
                refine ty_zne rfl (fun c106 => ?_) (fun c106 => ?_)
                · replace c106 : 1 ≤ z38.toInt ∧ z38.toInt ≤ 12 := by omega
                  refine hq_p rfl rfl ?_
                  refine ty_gB Ih13 rfl rfl (by decide) (by decide) rfl (fun z107 ez107 az107 bz107 => ?_)
                  refine ty_zne rfl (fun c108 => ?_) (fun c108 => ?_)
                  · exfalso; omega
                  · refine hq_p rfl rfl ?_
                    refine hq_gR Ih13.1 rfl rfl (by decide) (by decide) rfl ?_
                    refine hq_p rfl rfl ?_
                    refine ty_lL Ih13 rfl rfl (by decide) (by omega) (by omega) (fun z109 ez109 az109 bz109 => ?_)
                    refine hq_p rfl rfl ?_
                    refine ty_lS (W := ty_Ws) H Jh13 rfl rfl (by decide) (by omega) (by omega) (fun i e => by unfold ty_Ws; omega) (fun h110 eh110 Jh110 => ?_)
                    have Ih110 := H.1 h110 Jh110
                    refine ty_inc (ls' := fun z111 => [some (.ref 97), some (.int x1), some (.int x2), some (.int z111), some (.int z50), some (.int z38), some (.int z49)]) rfl rfl (fun _ => rfl) (nm_addc nk_i1 (by omega) (by omega)) (fun z111 ez111 => ?_)
                    refine hq_p rfl rfl ?_
                    refine hq_p rfl rfl ?_
                    exact ihn14 ((400 - z50.toInt).toNat) (by omega) z111 z50 (some (.int z38)) (some (.int z49)) h110 rfl (by omega) (by omega) (by omega) (by omega) rfl rfl (by omega) (by omega) (by omega) Jh110
                · refine hq_p rfl rfl ?_
                  refine hq_p rfl rfl (ty_gle (n := z49.toInt) (nm_i2l _) (fun z112 ez112 => ?_))
                  refine hq_p rfl rfl ?_
                  refine ty_lS (W := ty_Ws) H Jh13 rfl rfl (by decide) (by omega) (by omega) (fun i e => by unfold ty_Ws; omega) (fun h113 eh113 Jh113 => ?_)
                  have Ih113 := H.1 h113 Jh113
                  refine ty_inc (ls' := fun z114 => [some (.ref 97), some (.int x1), some (.int x2), some (.int z114), some (.int z50), some (.int z38), some (.int z49)]) rfl rfl (fun _ => rfl) (nm_addc nk_i1 (by omega) (by omega)) (fun z114 ez114 => ?_)
                  refine hq_p rfl rfl ?_
                  refine hq_p rfl rfl ?_
                  exact ihn14 ((400 - z50.toInt).toNat) (by omega) z114 z50 (some (.int z38)) (some (.int z49)) h113 rfl (by omega) (by omega) (by omega) (by omega) rfl rfl (by omega) (by omega) (by omega) Jh113
            · exfalso; omega
          · exfalso; omega
  exact L10_n14 _ z3 x1 none none h2 rfl (by omega) (by omega) (by omega) (by omega) rfl rfl (by omega) (by omega) (by omega) Jh2
theorem ct_201 {X : pm_X} {d : Nat} {h : pm_H} {x1 : Int32} {b : Int} {c : Nat} (hd : 3 ≤ d) (ax1 : 100 ≤ x1.toInt) (bx1 : x1.toInt ≤ 4688) (hb0 : 0 ≤ b) (hb : (hs_fI h 97 34).toInt = b) (hL : ty_lw (hs_aI h 99) b.toNat) (hc : (c : Int) < (hs_aI h 99 (b.toNat + 1)).toInt) (hx : x1.toInt = b + 2 + 8 * c) : ty_M X ty_Wv d 201 [.ref 97, .int x1] h (ty_pi 0 1) := by
  intro J0 H0 hJ0
  obtain ⟨R, eR⟩ : ∃ R, hs_aI h 99 = R := ⟨_, rfl⟩
  rw [eR] at hL hc
  have hT := hL.2.2 c hc
  obtain ⟨J, eJ⟩ : ∃ J : pm_H → Prop, J = fun h' => (J0 h' ∧ (hs_fI h' 97 34).toInt = b) ∧ hs_aI h' 99 = R := ⟨_, rfl⟩
  have H : ty_C ty_Wv J := by rw [eJ]; exact H0.law (by unfold ty_Wv; omega) (fun k => by unfold ty_Wv; omega) b R
  have hJ : J h := by rw [eJ]; exact ⟨⟨hJ0, hb⟩, eR⟩
  refine hq_M.mono (Nat.le_refl _) (Q := fun h' v => J h' ∧ ty_pi 0 1 h' v) (fun h' v q => ⟨by have q1 := q.1; rw [eJ] at q1; exact q1.1.1, q.2⟩) ?_
  obtain ⟨d, rfl⟩ : ∃ e, d = e + 1 := ⟨d - 1, by omega⟩
  have I := H.1 h hJ
  refine hq_M.enter (q := (⟨"TrainBearersModel", "isSo", "(I)Z"⟩, _, 2, some .boolean, 11, 2, pm_c201)) rfl rfl ?_
  show hq_W X d 11 false (some .boolean) pm_c201 (0, [some (.ref 97), some (.int x1)], [], h) (fun h' v => J h' ∧ (ty_pi 0 1) h' v)
  refine hq_p rfl rfl ?_
  refine hq_gR I.1 rfl rfl (by decide) (by decide) rfl ?_
  refine hq_p rfl rfl ?_
  refine hq_p rfl rfl (ty_ge (n := 5) nk_i5 (fun z1 ez1 => ?_))
  refine hq_p rfl rfl (ty_ge (n := x1.toInt + z1.toInt) (nm_add (by omega) (by omega)) (fun z2 ez2 => ?_))
  refine ty_aL I rfl rfl (by decide) (by omega) (by omega) (fun i _ => ty_rbF i) (fun z3 ez3 az3 bz3 => ?_)
  refine hq_p rfl rfl ?_
  refine hq_gR I.1 rfl rfl (by decide) (by decide) rfl ?_
  refine hq_p rfl rfl ?_
  refine hq_p rfl rfl (ty_ge (n := 6) nk_b6 (fun z4 ez4 => ?_))
  refine hq_p rfl rfl (ty_ge (n := x1.toInt + z4.toInt) (nm_add (by omega) (by omega)) (fun z5 ez5 => ?_))
  refine ty_aL I rfl rfl (by decide) (by omega) (by omega) (fun i _ => ty_rbF i) (fun z6 ez6 az6 bz6 => ?_)
  refine ty_ige rfl (fun c7 => ?_) (fun c7 => ?_)
  · refine hq_p rfl rfl ?_
    refine hq_gR I.1 rfl rfl (by decide) (by decide) rfl ?_
    refine hq_p rfl rfl ?_
    refine ty_aL I rfl rfl (by decide) (by omega) (by omega) (fun i _ => ty_rbF i) (fun z8 ez8 az8 bz8 => ?_)
    refine hq_p rfl rfl (ty_ge (n := 3) nk_i3 (fun z9 ez9 => ?_))
    refine ty_ieq rfl (fun c10 => ?_) (fun c10 => ?_)
    · refine hq_p rfl rfl (ty_ge (n := 1) nk_i1 (fun z11 ez11 => ?_))
      exact ty_rB rfl rfl (by omega) (by omega) ⟨hJ, _, rfl, by omega, by omega⟩
    · clear c10
      refine hq_p rfl rfl ?_
      refine hq_p rfl rfl ?_
      refine hq_gR I.1 rfl rfl (by decide) (by decide) rfl ?_
      refine hq_p rfl rfl ?_
      refine hq_p rfl rfl (ty_ge (n := 3) nk_i3 (fun z12 ez12 => ?_))
      refine hq_p rfl rfl (ty_ge (n := x1.toInt + z12.toInt) (nm_add (by omega) (by omega)) (fun z13 ez13 => ?_))
      refine ty_aL I rfl rfl (by decide) (by omega) (by omega) (fun i _ => ty_rbF i) (fun z14 ez14 az14 bz14 => ?_)
      refine hq_p rfl rfl ?_
      refine hq_gR I.1 rfl rfl (by decide) (by decide) rfl ?_
      refine hq_p rfl rfl ?_
      refine hq_p rfl rfl (ty_ge (n := 4) nk_i4 (fun z15 ez15 => ?_))
      refine hq_p rfl rfl (ty_ge (n := x1.toInt + z15.toInt) (nm_add (by omega) (by omega)) (fun z16 ez16 => ?_))
      refine ty_aL I rfl rfl (by decide) (by omega) (by omega) (fun i _ => ty_rbF i) (fun z17 ez17 az17 bz17 => ?_)
      have rrn18 : hs_aI h 99 = R := by have q := hJ; rw [eJ] at q; exact q.2
      have iz14 : z14.toInt = (R (b.toNat + 2 + 8 * c + 3)).toInt := by rw [ez14, rrn18, show z13.toInt.toNat = b.toNat + 2 + 8 * c + 3 by omega]
      have iz17 : z17.toInt = (R (b.toNat + 2 + 8 * c + 4)).toInt := by rw [ez17, rrn18, show z16.toInt.toNat = b.toNat + 2 + 8 * c + 4 by omega]
      have un18 := hT.1
      rw [← iz14, ← iz17] at un18
      have vn18 := un18.1
      have wn18 := un18.2.1
      have yn18 := un18.2.2.1
      refine ty_callj 0 (W := ty_Wv) H hJ rfl (fun _ => rfl) rfl rfl rfl (hq_pre_o I.1 (x := 97) (ci := 11) rfl (by decide) rfl rfl rfl rfl) (fun a k w => by unfold ty_Ws at w; unfold ty_Wv; omega) (by unfold ty_Ws ty_Wv; omega) (ct_200 (x1 := z14) (x2 := z17) (by omega) (by omega) (by omega) (by omega) (by omega) (b := b) (by rw [rrn18]; exact un18) (by have q := hJ; rw [eJ] at q; exact q.1.2)) (fun h20 _ Jh20 P19 => ?_)
      have Ih20 := H.1 h20 Jh20
      subst P19
      refine hq_p rfl rfl ?_
      refine hq_p rfl rfl ?_
      refine ty_gL Ih20 rfl rfl (by decide) (by decide) rfl rfl (fun z21 ez21 az21 bz21 => ?_)
      refine ty_pL (W := ty_Wv) H Jh20 rfl rfl (by decide) rfl rfl (by unfold ty_Wv; omega) rfl (by omega) (by omega) (fun h22 eh22 Jh22 => ?_)
      have Ih22 := H.1 h22 Jh22
      refine hq_p rfl rfl ?_
      refine ty_gB Ih22 rfl rfl (by decide) (by decide) rfl (fun z23 ez23 az23 bz23 => ?_)
      refine ty_zne rfl (fun c24 => ?_) (fun c24 => ?_)
      · replace c24 : 1 ≤ z23.toInt ∧ z23.toInt ≤ 1 := by omega
        refine hq_p rfl rfl (ty_ge (n := 0) nk_i0 (fun z25 ez25 => ?_))
        exact ty_rB rfl rfl (by omega) (by omega) ⟨Jh22, _, rfl, by omega, by omega⟩
      · refine hq_p rfl rfl (ty_ge (n := 1) nk_i1 (fun z26 ez26 => ?_))
        refine hq_p rfl rfl ?_
        exact ty_rB rfl rfl (by omega) (by omega) ⟨Jh22, _, rfl, by omega, by omega⟩
  · refine hq_p rfl rfl ?_
    refine hq_p rfl rfl ?_
    refine hq_gR I.1 rfl rfl (by decide) (by decide) rfl ?_
    refine hq_p rfl rfl ?_
    refine hq_p rfl rfl (ty_ge (n := 5) nk_i5 (fun z27 ez27 => ?_))
    refine hq_p rfl rfl (ty_ge (n := x1.toInt + z27.toInt) (nm_add (by omega) (by omega)) (fun z28 ez28 => ?_))
    refine ty_aL I rfl rfl (by decide) (by omega) (by omega) (fun i _ => ty_rbF i) (fun z29 ez29 az29 bz29 => ?_)
    refine hq_p rfl rfl ?_
    refine hq_gR I.1 rfl rfl (by decide) (by decide) rfl ?_
    refine hq_p rfl rfl ?_
    refine hq_p rfl rfl (ty_ge (n := 6) nk_b6 (fun z30 ez30 => ?_))
    refine hq_p rfl rfl (ty_ge (n := x1.toInt + z30.toInt) (nm_add (by omega) (by omega)) (fun z31 ez31 => ?_))
    refine ty_aL I rfl rfl (by decide) (by omega) (by omega) (fun i _ => ty_rbF i) (fun z32 ez32 az32 bz32 => ?_)
    have rrn33 : hs_aI h 99 = R := by have q := hJ; rw [eJ] at q; exact q.2
    have iz29 : z29.toInt = (R (b.toNat + 2 + 8 * c + 5)).toInt := by rw [ez29, rrn33, show z28.toInt.toNat = b.toNat + 2 + 8 * c + 5 by omega]
    have iz32 : z32.toInt = (R (b.toNat + 2 + 8 * c + 6)).toInt := by rw [ez32, rrn33, show z31.toInt.toNat = b.toNat + 2 + 8 * c + 6 by omega]
    have un33 := hT.2
    rw [← iz29, ← iz32] at un33
    have vn33 := un33.1
    have wn33 := un33.2.1
    have yn33 := un33.2.2.1
    refine ty_callj 0 (W := ty_Wv) H hJ rfl (fun _ => rfl) rfl rfl rfl (hq_pre_o I.1 (x := 97) (ci := 11) rfl (by decide) rfl rfl rfl rfl) (fun a k w => by unfold ty_Ws at w; unfold ty_Wv; omega) (by unfold ty_Ws ty_Wv; omega) (ct_200 (x1 := z29) (x2 := z32) (by omega) (by omega) (by omega) (by omega) (by omega) (b := b) (by rw [rrn33]; exact un33) (by have q := hJ; rw [eJ] at q; exact q.1.2)) (fun h35 _ Jh35 P34 => ?_)
    have Ih35 := H.1 h35 Jh35
    subst P34
    refine hq_p rfl rfl ?_
    refine ty_gB Ih35 rfl rfl (by decide) (by decide) rfl (fun z36 ez36 az36 bz36 => ?_)
    refine ty_zne rfl (fun c37 => ?_) (fun c37 => ?_)
    · replace c37 : 1 ≤ z36.toInt ∧ z36.toInt ≤ 1 := by omega
      refine hq_p rfl rfl (ty_ge (n := 0) nk_i0 (fun z38 ez38 => ?_))
      exact ty_rB rfl rfl (by omega) (by omega) ⟨Jh35, _, rfl, by omega, by omega⟩
    · refine hq_p rfl rfl ?_
      refine ty_gL Ih35 rfl rfl (by decide) (by decide) rfl rfl (fun z39 ez39 az39 bz39 => ?_)
      refine hq_p rfl rfl (ty_gle (n := 0) (by decide) (fun z40 ez40 => ?_))
      refine hq_p rfl rfl (ty_gc (fun z41 ez41 => ?_))
      refine ty_zne rfl (fun c42 => ?_) (fun c42 => ?_)
      · replace ez41 : z39.toInt ≠ 0 := by omega
        clear c42
        refine hq_p rfl rfl ?_
        refine hq_gR Ih35.1 rfl rfl (by decide) (by decide) rfl ?_
        refine hq_p rfl rfl ?_
        refine ty_aL Ih35 rfl rfl (by decide) (by omega) (by omega) (fun i _ => ty_rbF i) (fun z43 ez43 az43 bz43 => ?_)
        refine hq_p rfl rfl (ty_ge (n := 3) nk_i3 (fun z44 ez44 => ?_))
        refine ty_ieq rfl (fun c45 => ?_) (fun c45 => ?_)
        · refine hq_p rfl rfl (ty_ge (n := 1) nk_i1 (fun z46 ez46 => ?_))
          exact ty_rB rfl rfl (by omega) (by omega) ⟨Jh35, _, rfl, by omega, by omega⟩
        · clear c45
          refine hq_p rfl rfl ?_
          refine hq_p rfl rfl ?_
          refine hq_gR Ih35.1 rfl rfl (by decide) (by decide) rfl ?_
          refine hq_p rfl rfl ?_
          refine hq_p rfl rfl (ty_ge (n := 3) nk_i3 (fun z47 ez47 => ?_))
          refine hq_p rfl rfl (ty_ge (n := x1.toInt + z47.toInt) (nm_add (by omega) (by omega)) (fun z48 ez48 => ?_))
          refine ty_aL Ih35 rfl rfl (by decide) (by omega) (by omega) (fun i _ => ty_rbF i) (fun z49 ez49 az49 bz49 => ?_)
          refine hq_p rfl rfl ?_
          refine hq_gR Ih35.1 rfl rfl (by decide) (by decide) rfl ?_
          refine hq_p rfl rfl ?_
          refine hq_p rfl rfl (ty_ge (n := 4) nk_i4 (fun z50 ez50 => ?_))
          refine hq_p rfl rfl (ty_ge (n := x1.toInt + z50.toInt) (nm_add (by omega) (by omega)) (fun z51 ez51 => ?_))
          refine ty_aL Ih35 rfl rfl (by decide) (by omega) (by omega) (fun i _ => ty_rbF i) (fun z52 ez52 az52 bz52 => ?_)
          have rrn53 : hs_aI h35 99 = R := by have q := Jh35; rw [eJ] at q; exact q.2
          have iz49 : z49.toInt = (R (b.toNat + 2 + 8 * c + 3)).toInt := by rw [ez49, rrn53, show z48.toInt.toNat = b.toNat + 2 + 8 * c + 3 by omega]
          have iz52 : z52.toInt = (R (b.toNat + 2 + 8 * c + 4)).toInt := by rw [ez52, rrn53, show z51.toInt.toNat = b.toNat + 2 + 8 * c + 4 by omega]
          have un53 := hT.1
          rw [← iz49, ← iz52] at un53
          have vn53 := un53.1
          have wn53 := un53.2.1
          have yn53 := un53.2.2.1
          refine ty_callj 0 (W := ty_Wv) H Jh35 rfl (fun _ => rfl) rfl rfl rfl (hq_pre_o Ih35.1 (x := 97) (ci := 11) rfl (by decide) rfl rfl rfl rfl) (fun a k w => by unfold ty_Ws at w; unfold ty_Wv; omega) (by unfold ty_Ws ty_Wv; omega) (ct_200 (x1 := z49) (x2 := z52) (by omega) (by omega) (by omega) (by omega) (by omega) (b := b) (by rw [rrn53]; exact un53) (by have q := Jh35; rw [eJ] at q; exact q.1.2)) (fun h55 _ Jh55 P54 => ?_)
          have Ih55 := H.1 h55 Jh55
          subst P54
          refine hq_p rfl rfl ?_
          refine hq_p rfl rfl ?_
          refine ty_gL Ih55 rfl rfl (by decide) (by decide) rfl rfl (fun z56 ez56 az56 bz56 => ?_)
          refine ty_pL (W := ty_Wv) H Jh55 rfl rfl (by decide) rfl rfl (by unfold ty_Wv; omega) rfl (by omega) (by omega) (fun h57 eh57 Jh57 => ?_)
          have Ih57 := H.1 h57 Jh57
          refine hq_p rfl rfl ?_
          refine ty_gB Ih57 rfl rfl (by decide) (by decide) rfl (fun z58 ez58 az58 bz58 => ?_)
          refine ty_zne rfl (fun c59 => ?_) (fun c59 => ?_)
          · replace c59 : 1 ≤ z58.toInt ∧ z58.toInt ≤ 1 := by omega
            refine hq_p rfl rfl (ty_ge (n := 0) nk_i0 (fun z60 ez60 => ?_))
            exact ty_rB rfl rfl (by omega) (by omega) ⟨Jh57, _, rfl, by omega, by omega⟩
          · refine hq_p rfl rfl (ty_ge (n := 1) nk_i1 (fun z61 ez61 => ?_))
            refine hq_p rfl rfl ?_
            exact ty_rB rfl rfl (by omega) (by omega) ⟨Jh57, _, rfl, by omega, by omega⟩
      · replace ez41 : z39.toInt = z40.toInt := by omega
        clear c42
        refine hq_p rfl rfl (ty_ge (n := 0) nk_i0 (fun z62 ez62 => ?_))
        exact ty_rB rfl rfl (by omega) (by omega) ⟨Jh35, _, rfl, by omega, by omega⟩
set_option maxRecDepth 8000 in
set_option maxHeartbeats 20000000 in
theorem ct_202 {X : pm_X} {d : Nat} {h : pm_H} {x1 : Int32} {x2 : Int32} {x3 : Int32} {x4 : Int32} {x5 : Int32} {x6 : Int64} (hd : 4 ≤ d) (ax2 : (-1) ≤ x2.toInt) (bx2 : x2.toInt ≤ 7) (ax3 : (-1) ≤ x3.toInt) (bx3 : x3.toInt ≤ 7) : ty_M X ty_Wy d 202 [.ref 97, .int x1, .int x2, .int x3, .int x4, .int x5, .long x6] h ty_pl := by
  intro J H hJ
  obtain ⟨d, rfl⟩ : ∃ e, d = e + 1 := ⟨d - 1, by omega⟩
  have I := H.1 h hJ
  have ax1 := nm_lo x1
  have bx1 := nm_hi x1
  have ax4 := nm_lo x4
  have bx4 := nm_hi x4
  have ax5 := nm_lo x5
  have bx5 := nm_hi x5
  have ax6 := nm_llo x6
  have bx6 := nm_lhi x6
  refine hq_M.enter (q := (⟨"TrainBearersModel", "tells", "(IIIIIJ)J"⟩, _, 12, some .long, 11, 7, pm_c202)) rfl rfl ?_
  show hq_W X d 11 false (some .long) pm_c202 (0, [some (.ref 97), some (.int x1), some (.int x2), some (.int x3), some (.int x4), some (.int x5), some (.long x6), none, none, none, none, none], [], h) (fun h' v => J h' ∧ ty_pl h' v)
  refine hq_p rfl rfl ?_
  refine hq_gR I.1 rfl rfl (by decide) (by decide) rfl ?_
  refine hq_p rfl rfl (ty_ge (n := 4) nk_i4 (fun z1 ez1 => ?_))
  refine ty_aL I rfl rfl (by decide) (by omega) (by omega) (fun i e => ty_le (ty_w4 (by omega) (by omega))) (fun z2 ez2 az2 bz2 => ?_)
  rw [show z1.toInt.toNat = 4 by omega] at ez2
  refine hq_p rfl rfl (ty_ge (n := -1) nk_im1 (fun z3 ez3 => ?_))
  refine ty_ine rfl (fun c4 => ?_) (fun c4 => ?_)
  · replace c4 : 0 ≤ z2.toInt ∧ z2.toInt ≤ 5 := by omega
    refine hq_p rfl rfl ?_
    refine hq_p rfl rfl (ty_ge (n := 98) nk_b98 (fun z5 ez5 => ?_))
    refine hq_p rfl rfl (ty_ge (n := 900) nk_s900 (fun z6 ez6 => ?_))
    refine hq_p rfl rfl ?_
    refine hq_gR I.1 rfl rfl (by decide) (by decide) rfl ?_
    refine hq_p rfl rfl (ty_ge (n := 4) nk_i4 (fun z7 ez7 => ?_))
    refine ty_aL I rfl rfl (by decide) (by omega) (by omega) (fun i e => ty_le (ty_w4 (by omega) (by omega))) (fun z8 ez8 az8 bz8 => ?_)
    rw [show z7.toInt.toNat = 4 by omega] at ez8
    refine hq_p rfl rfl (ty_ge (n := 900 * z8.toInt) (nm_cmul ez6 (by omega) (by omega)) (fun z9 ez9 => ?_))
    refine hq_p rfl rfl (ty_ge (n := z5.toInt + z9.toInt) (nm_add (by omega) (by omega)) (fun z10 ez10 => ?_))
    refine ty_pI (W := ty_Wy) H hJ rfl rfl (by decide) rfl rfl (by unfold ty_Wy; omega) rfl (by omega) (by omega) (fun h11 eh11 Jh11 => ?_)
    have wh11 : (hs_fI h11 97 34).toInt = z10.toInt := by rw [eh11]; exact congrArg Int32.toInt (ty_fI_eq I.1 rfl (by decide) rfl)
    have Ih11 := H.1 h11 Jh11
    refine hq_p rfl rfl ?_
    refine hq_gR Ih11.1 rfl rfl (by decide) (by decide) rfl ?_
    refine hq_p rfl rfl (ty_ge (n := 1) nk_i1 (fun z12 ez12 => ?_))
    refine hq_p rfl rfl ?_
    refine hq_p rfl rfl (ty_gle (n := x2.toInt) (nm_i2l _) (fun z13 ez13 => ?_))
    refine ty_lS (W := ty_Wy) H Jh11 rfl rfl (by decide) (by omega) (by omega) (fun i e => by unfold ty_Wy; omega) (fun h14 eh14 Jh14 => ?_)
    have Ih14 := H.1 h14 Jh14
    refine hq_p rfl rfl ?_
    refine hq_gR Ih14.1 rfl rfl (by decide) (by decide) rfl ?_
    refine hq_p rfl rfl (ty_ge (n := 2) nk_i2 (fun z15 ez15 => ?_))
    refine hq_p rfl rfl ?_
    refine hq_p rfl rfl (ty_ge (n := -1) nk_im1 (fun z16 ez16 => ?_))
    refine ty_ine rfl (fun c17 => ?_) (fun c17 => ?_)
    · replace c17 : 0 ≤ x2.toInt ∧ x2.toInt ≤ 7 := by omega
      refine hq_p rfl rfl ?_
      refine hq_gR Ih14.1 rfl rfl (by decide) (by decide) rfl ?_
      refine hq_p rfl rfl (ty_ge (n := 42) nk_b42 (fun z18 ez18 => ?_))
      refine hq_p rfl rfl ?_
      refine hq_p rfl rfl (ty_ge (n := z18.toInt + x2.toInt) (nm_add (by omega) (by omega)) (fun z19 ez19 => ?_))
      refine ty_aL Ih14 rfl rfl (by decide) (by omega) (by omega) (fun i e => ty_le (ty_w42 (by omega) (by omega))) (fun z20 ez20 az20 bz20 => ?_)
      refine hq_p rfl rfl (ty_gle (n := z20.toInt) (nm_i2l _) (fun z21 ez21 => ?_))
      refine ty_lS (W := ty_Wy) H Jh14 rfl rfl (by decide) (by omega) (by omega) (fun i e => by unfold ty_Wy; omega) (fun h22 eh22 Jh22 => ?_)
      have Ih22 := H.1 h22 Jh22
      refine hq_p rfl rfl ?_
      refine hq_gR Ih22.1 rfl rfl (by decide) (by decide) rfl ?_
      refine hq_p rfl rfl (ty_ge (n := 3) nk_i3 (fun z23 ez23 => ?_))
      refine hq_p rfl rfl ?_
      refine hq_p rfl rfl (ty_ge (n := -1) nk_im1 (fun z24 ez24 => ?_))
      refine ty_ine rfl (fun c25 => ?_) (fun c25 => ?_)
      · clear c25
        refine hq_p rfl rfl ?_
        refine hq_gR Ih22.1 rfl rfl (by decide) (by decide) rfl ?_
        refine hq_p rfl rfl (ty_ge (n := 18) nk_b18 (fun z26 ez26 => ?_))
        refine hq_p rfl rfl ?_
        refine hq_p rfl rfl (ty_ge (n := z26.toInt + x2.toInt) (nm_add (by omega) (by omega)) (fun z27 ez27 => ?_))
        refine ty_aL Ih22 rfl rfl (by decide) (by omega) (by omega) (fun i e => ty_le (ty_w18 (by omega) (by omega))) (fun z28 ez28 az28 bz28 => ?_)
        refine hq_p rfl rfl (ty_gle (n := z28.toInt) (nm_i2l _) (fun z29 ez29 => ?_))
        refine ty_lS (W := ty_Wy) H Jh22 rfl rfl (by decide) (by omega) (by omega) (fun i e => by unfold ty_Wy; omega) (fun h30 eh30 Jh30 => ?_)
        have Ih30 := H.1 h30 Jh30
        refine hq_p rfl rfl ?_
        refine hq_gR Ih30.1 rfl rfl (by decide) (by decide) rfl ?_
        refine hq_p rfl rfl (ty_ge (n := 4) nk_i4 (fun z31 ez31 => ?_))
        refine hq_p rfl rfl ?_
        refine hq_p rfl rfl (ty_gle (n := x3.toInt) (nm_i2l _) (fun z32 ez32 => ?_))
        refine ty_lS (W := ty_Wy) H Jh30 rfl rfl (by decide) (by omega) (by omega) (fun i e => by unfold ty_Wy; omega) (fun h33 eh33 Jh33 => ?_)
        have Ih33 := H.1 h33 Jh33
        refine hq_p rfl rfl ?_
        refine hq_gR Ih33.1 rfl rfl (by decide) (by decide) rfl ?_
        refine hq_p rfl rfl (ty_ge (n := 5) nk_i5 (fun z34 ez34 => ?_))
        refine hq_p rfl rfl ?_
        refine hq_gR Ih33.1 rfl rfl (by decide) (by decide) rfl ?_
        refine hq_p rfl rfl (ty_ge (n := 34) nk_b34 (fun z35 ez35 => ?_))
        refine hq_p rfl rfl ?_
        refine hq_p rfl rfl (ty_ge (n := z35.toInt + x3.toInt) (nm_add (by omega) (by omega)) (fun z36 ez36 => ?_))
        refine ty_aL Ih33 rfl rfl (by decide) (by omega) (by omega) (fun i _ => ty_rbF i) (fun z37 ez37 az37 bz37 => ?_)
        refine hq_p rfl rfl (ty_gle (n := z37.toInt) (nm_i2l _) (fun z38 ez38 => ?_))
        refine ty_lS (W := ty_Wy) H Jh33 rfl rfl (by decide) (by omega) (by omega) (fun i e => by unfold ty_Wy; omega) (fun h39 eh39 Jh39 => ?_)
        have Ih39 := H.1 h39 Jh39
        refine hq_p rfl rfl ?_
        refine hq_gR Ih39.1 rfl rfl (by decide) (by decide) rfl ?_
        refine hq_p rfl rfl (ty_ge (n := 6) nk_b6 (fun z40 ez40 => ?_))
        refine hq_p rfl rfl ?_
        refine hq_gR Ih39.1 rfl rfl (by decide) (by decide) rfl ?_
        refine hq_p rfl rfl (ty_ge (n := 10) nk_b10 (fun z41 ez41 => ?_))
        refine hq_p rfl rfl ?_
        refine hq_p rfl rfl (ty_ge (n := z41.toInt + x3.toInt) (nm_add (by omega) (by omega)) (fun z42 ez42 => ?_))
        refine ty_aL Ih39 rfl rfl (by decide) (by omega) (by omega) (fun i _ => ty_rbF i) (fun z43 ez43 az43 bz43 => ?_)
        refine hq_p rfl rfl (ty_gle (n := z43.toInt) (nm_i2l _) (fun z44 ez44 => ?_))
        refine ty_lS (W := ty_Wy) H Jh39 rfl rfl (by decide) (by omega) (by omega) (fun i e => by unfold ty_Wy; omega) (fun h45 eh45 Jh45 => ?_)
        have Ih45 := H.1 h45 Jh45
        refine hq_p rfl rfl ?_
        refine hq_gR Ih45.1 rfl rfl (by decide) (by decide) rfl ?_
        refine hq_p rfl rfl (ty_ge (n := 7) nk_b7 (fun z46 ez46 => ?_))
        refine hq_p rfl rfl ?_
        refine hq_p rfl rfl (ty_gle (n := x4.toInt) (nm_i2l _) (fun z47 ez47 => ?_))
        refine ty_lS (W := ty_Wy) H Jh45 rfl rfl (by decide) (by omega) (by omega) (fun i e => by unfold ty_Wy; omega) (fun h48 eh48 Jh48 => ?_)
        have Ih48 := H.1 h48 Jh48
        refine hq_p rfl rfl ?_
        refine hq_gR Ih48.1 rfl rfl (by decide) (by decide) rfl ?_
        refine hq_p rfl rfl (ty_ge (n := 8) nk_b8 (fun z49 ez49 => ?_))
        refine hq_p rfl rfl ?_
        refine hq_p rfl rfl (ty_gle (n := x5.toInt) (nm_i2l _) (fun z50 ez50 => ?_))
        refine ty_lS (W := ty_Wy) H Jh48 rfl rfl (by decide) (by omega) (by omega) (fun i e => by unfold ty_Wy; omega) (fun h51 eh51 Jh51 => ?_)
        have Ih51 := H.1 h51 Jh51
        refine hq_p rfl rfl ?_
        refine hq_gR Ih51.1 rfl rfl (by decide) (by decide) rfl ?_
        refine hq_p rfl rfl (ty_ge (n := 9) nk_b9 (fun z52 ez52 => ?_))
        refine hq_p rfl rfl ?_
        refine hq_gR Ih51.1 rfl rfl (by decide) (by decide) rfl ?_
        refine hq_p rfl rfl (ty_ge (n := 5) nk_i5 (fun z53 ez53 => ?_))
        refine ty_aL Ih51 rfl rfl (by decide) (by omega) (by omega) (fun i e => ty_le (ty_w5 (by omega) (by omega))) (fun z54 ez54 az54 bz54 => ?_)
        rw [show z53.toInt.toNat = 5 by omega] at ez54
        refine hq_p rfl rfl (ty_gle (n := z54.toInt) (nm_i2l _) (fun z55 ez55 => ?_))
        refine ty_lS (W := ty_Wy) H Jh51 rfl rfl (by decide) (by omega) (by omega) (fun i e => by unfold ty_Wy; omega) (fun h56 eh56 Jh56 => ?_)
        have Ih56 := H.1 h56 Jh56
        refine hq_p rfl rfl ?_
        refine hq_gR Ih56.1 rfl rfl (by decide) (by decide) rfl ?_
        refine hq_p rfl rfl (ty_ge (n := 10) nk_b10 (fun z57 ez57 => ?_))
        refine hq_p rfl rfl ?_
        refine hq_gR Ih56.1 rfl rfl (by decide) (by decide) rfl ?_
        refine hq_p rfl rfl (ty_ge (n := 7) nk_b7 (fun z58 ez58 => ?_))
        refine ty_aL Ih56 rfl rfl (by decide) (by omega) (by omega) (fun i e => ty_le (ty_w6 (by omega) (by omega))) (fun z59 ez59 az59 bz59 => ?_)
        rw [show z58.toInt.toNat = 7 by omega] at ez59
        refine hq_p rfl rfl (ty_gle (n := z59.toInt) (nm_i2l _) (fun z60 ez60 => ?_))
        refine ty_lS (W := ty_Wy) H Jh56 rfl rfl (by decide) (by omega) (by omega) (fun i e => by unfold ty_Wy; omega) (fun h61 eh61 Jh61 => ?_)
        have Ih61 := H.1 h61 Jh61
        refine hq_p rfl rfl ?_
        refine hq_p (ls' := [some (.ref 97), some (.int x1), some (.int x2), some (.int x3), some (.int x4), some (.int x5), some (.long x6), none, some (.long x6), none, none, none]) rfl rfl ?_
        have r62 : (hs_fI h14 97 34).toInt = (hs_fI h11 97 34).toInt := by rw [eh14]; exact congrArg Int32.toInt (ty_fI_ne (by omega))
        have r63 : (hs_fI h22 97 34).toInt = (hs_fI h14 97 34).toInt := by rw [eh22]; exact congrArg Int32.toInt (ty_fI_ne (by omega))
        have r64 : (hs_fI h30 97 34).toInt = (hs_fI h22 97 34).toInt := by rw [eh30]; exact congrArg Int32.toInt (ty_fI_ne (by omega))
        have r65 : (hs_fI h33 97 34).toInt = (hs_fI h30 97 34).toInt := by rw [eh33]; exact congrArg Int32.toInt (ty_fI_ne (by omega))
        have r66 : (hs_fI h39 97 34).toInt = (hs_fI h33 97 34).toInt := by rw [eh39]; exact congrArg Int32.toInt (ty_fI_ne (by omega))
        have r67 : (hs_fI h45 97 34).toInt = (hs_fI h39 97 34).toInt := by rw [eh45]; exact congrArg Int32.toInt (ty_fI_ne (by omega))
        have r68 : (hs_fI h48 97 34).toInt = (hs_fI h45 97 34).toInt := by rw [eh48]; exact congrArg Int32.toInt (ty_fI_ne (by omega))
        have r69 : (hs_fI h51 97 34).toInt = (hs_fI h48 97 34).toInt := by rw [eh51]; exact congrArg Int32.toInt (ty_fI_ne (by omega))
        have r70 : (hs_fI h56 97 34).toInt = (hs_fI h51 97 34).toInt := by rw [eh56]; exact congrArg Int32.toInt (ty_fI_ne (by omega))
        have r71 : (hs_fI h61 97 34).toInt = (hs_fI h56 97 34).toInt := by rw [eh61]; exact congrArg Int32.toInt (ty_fI_ne (by omega))
        obtain ⟨R, eR⟩ : ∃ R, hs_aI h61 99 = R := ⟨_, rfl⟩
        have hL : ty_lw R z10.toInt.toNat := by have q := Ih61.2.2.2.2.2.2.1 z8.toInt.toNat (by omega); rw [eR, show 98 + 900 * z8.toInt.toNat = z10.toInt.toNat by omega] at q; exact q
        have hL0 := hL.1
        have hL1 := hL.2.1
        obtain ⟨J1, eJ⟩ : ∃ J1 : pm_H → Prop, J1 = fun h' => (J h' ∧ (hs_fI h' 97 34).toInt = z10.toInt) ∧ hs_aI h' 99 = R := ⟨_, rfl⟩
        have H1 : ty_C ty_Wv J1 := by rw [eJ]; exact (H.mono (W' := ty_Wv) (fun a k w => by unfold ty_Wv at w; unfold ty_Wy; omega) (by unfold ty_Wv ty_Wy; omega)).law (by unfold ty_Wv; omega) (fun k => by unfold ty_Wv; omega) z10.toInt R
        have hJ1 : J1 h61 := by rw [eJ]; exact ⟨⟨Jh61, by omega⟩, eR⟩
        have H := H1
        refine hq_p rfl rfl (ty_ge (n := 0) nk_i0 (fun z72 ez72 => ?_))
        refine hq_p (ls' := [some (.ref 97), some (.int x1), some (.int x2), some (.int x3), some (.int x4), some (.int x5), some (.long x6), none, some (.long x6), none, some (.int z72), none]) rfl rfl ?_
        have L189_n129 : ∀ n129 : Nat, ∀ (y121 : Int64) (y122 : Int32) (w123 : Option Value) (h124 : pm_H), (12 - y122.toInt).toNat = n129 → -9223372036854775808 ≤ y121.toInt → y121.toInt ≤ 9223372036854775807 → 0 ≤ y122.toInt → y122.toInt ≤ 12 → pm_two w123 = false → J1 h124 → hq_W X d 11 false (some .long) pm_c202 (189, [some (.ref 97), some (.int x1), some (.int x2), some (.int x3), some (.int x4), some (.int x5), some (.long x6), none, some (.long y121), none, some (.int y122), w123], [], h124) (fun h' v => J h' ∧ ty_pl h' v) := by
          intro n129
          induction n129 using Nat.strongRecOn with
          | ind n129 ihn129 =>
            intro y121 y122 w123 h124 mn129 ay121 by121 ay122 by122 kw123 Jh124
            have Ih124 := H.1 h124 Jh124
            refine hq_p rfl rfl ?_
            refine hq_p rfl rfl ?_
            refine hq_gR Ih124.1 rfl rfl (by decide) (by decide) rfl ?_
            refine hq_p rfl rfl ?_
            refine ty_gI Ih124 rfl rfl (by decide) (by decide) rfl rfl (fun z130 ez130 az130 bz130 => ?_)
            have bbh124 : (hs_fI h124 97 34).toInt = z10.toInt := by have q := Jh124; rw [eJ] at q; exact q.1.2
            have rrh124 : hs_aI h124 99 = R := by have q := Jh124; rw [eJ] at q; exact q.2
            refine hq_p rfl rfl (ty_ge (n := 1) nk_i1 (fun z131 ez131 => ?_))
            refine hq_p rfl rfl (ty_ge (n := z130.toInt + z131.toInt) (nm_add (by omega) (by omega)) (fun z132 ez132 => ?_))
            refine ty_aL Ih124 rfl rfl (by decide) (by omega) (by omega) (fun i _ => ty_rbF i) (fun z133 ez133 az133 bz133 => ?_)
            have iz133 : z133.toInt = (R (z10.toInt.toNat + 1)).toInt := by rw [ez133, rrh124, show z132.toInt.toNat = z10.toInt.toNat + 1 by omega]
            refine ty_ige rfl (fun c134 => ?_) (fun c134 => ?_)
            · refine hq_p rfl rfl ?_
              exact hq_W.ret rfl rfl rfl ⟨(by have q := Jh124; rw [eJ] at q; exact q.1.1), _, rfl⟩
            · refine hq_p rfl rfl ?_
              refine ty_gI Ih124 rfl rfl (by decide) (by decide) rfl rfl (fun z135 ez135 az135 bz135 => ?_)
              refine hq_p rfl rfl (ty_ge (n := 2) nk_i2 (fun z136 ez136 => ?_))
              refine hq_p rfl rfl (ty_ge (n := z135.toInt + z136.toInt) (nm_add (by omega) (by omega)) (fun z137 ez137 => ?_))
              refine hq_p rfl rfl (ty_ge (n := 8) nk_b8 (fun z138 ez138 => ?_))
              refine hq_p rfl rfl ?_
              refine hq_p rfl rfl (ty_ge (n := 8 * y122.toInt) (nm_cmul ez138 (by omega) (by omega)) (fun z139 ez139 => ?_))
              refine hq_p rfl rfl (ty_ge (n := z137.toInt + z139.toInt) (nm_add (by omega) (by omega)) (fun z140 ez140 => ?_))
              refine hq_p (ls' := [some (.ref 97), some (.int x1), some (.int x2), some (.int x3), some (.int x4), some (.int x5), some (.long x6), none, some (.long y121), none, some (.int y122), some (.int z140)]) rfl rfl ?_
              refine hq_p rfl rfl ?_
              refine hq_gR Ih124.1 rfl rfl (by decide) (by decide) rfl ?_
              refine hq_p rfl rfl ?_
              refine ty_aL Ih124 rfl rfl (by decide) (by omega) (by omega) (fun i _ => ty_rbF i) (fun z141 ez141 az141 bz141 => ?_)
              refine hq_p rfl rfl ?_
              refine ty_ine rfl (fun c142 => ?_) (fun c142 => ?_)
              · clear c142
                refine ty_inc (ls' := fun z143 => [some (.ref 97), some (.int x1), some (.int x2), some (.int x3), some (.int x4), some (.int x5), some (.long x6), none, some (.long y121), none, some (.int z143), some (.int z140)]) rfl rfl (fun _ => rfl) (nm_addc nk_i1 (by omega) (by omega)) (fun z143 ez143 => ?_)
                refine hq_p rfl rfl ?_
                exact ihn129 ((12 - z143.toInt).toNat) (by omega) y121 z143 (some (.int z140)) h124 rfl (by omega) (by omega) (by omega) (by omega) rfl Jh124
              · refine hq_p rfl rfl ?_
                refine hq_p rfl rfl ?_
                refine ty_callj 0 (W := ty_Wv) H Jh124 rfl (fun _ => rfl) rfl rfl rfl (hq_pre_o Ih124.1 (x := 97) (ci := 11) rfl (by decide) rfl rfl rfl rfl) (fun _ _ w => w) (fun _ w => w) (ct_201 (x1 := z140) (by omega) (by omega) (by omega) (b := z10.toInt) (c := y122.toInt.toNat) (by omega) bbh124 (by rw [rrh124]; exact hL) (by rw [rrh124]; omega) (by omega)) (fun h145 _ Jh145 P144 => ?_)
                have Ih145 := H.1 h145 Jh145
                obtain ⟨z146, rfl, az146, bz146⟩ := P144
                refine ty_zeq rfl (fun c147 => ?_) (fun c147 => ?_)
                · refine ty_inc (ls' := fun z148 => [some (.ref 97), some (.int x1), some (.int x2), some (.int x3), some (.int x4), some (.int x5), some (.long x6), none, some (.long y121), none, some (.int z148), some (.int z140)]) rfl rfl (fun _ => rfl) (nm_addc nk_i1 (by omega) (by omega)) (fun z148 ez148 => ?_)
                  refine hq_p rfl rfl ?_
                  exact ihn129 ((12 - z148.toInt).toNat) (by omega) y121 z148 (some (.int z140)) h145 rfl (by omega) (by omega) (by omega) (by omega) rfl Jh145
                · replace c147 : 1 ≤ z146.toInt ∧ z146.toInt ≤ 1 := by omega
                  refine hq_p rfl rfl ?_
                  refine hq_p rfl rfl (ty_ge (n := 3) nk_i3 (fun z149 ez149 => ?_))
                  refine ty_ine rfl (fun c150 => ?_) (fun c150 => ?_)
                  · clear c150
                    refine hq_p rfl rfl ?_
                    refine ty_gL Ih145 rfl rfl (by decide) (by decide) rfl rfl (fun z151 ez151 az151 bz151 => ?_)
                    refine hq_p (ls' := [some (.ref 97), some (.int x1), some (.int x2), some (.int x3), some (.int x4), some (.int x5), some (.long x6), none, some (.long z151), none, some (.int y122), some (.int z140)]) rfl rfl ?_
                    refine ty_inc (ls' := fun z152 => [some (.ref 97), some (.int x1), some (.int x2), some (.int x3), some (.int x4), some (.int x5), some (.long x6), none, some (.long z151), none, some (.int z152), some (.int z140)]) rfl rfl (fun _ => rfl) (nm_addc nk_i1 (by omega) (by omega)) (fun z152 ez152 => ?_)
                    refine hq_p rfl rfl ?_
                    exact ihn129 ((12 - z152.toInt).toNat) (by omega) z151 z152 (some (.int z140)) h145 rfl (by omega) (by omega) (by omega) (by omega) rfl Jh145
                  · refine hq_p rfl rfl (ty_gle (n := 1) (by decide) (fun z153 ez153 => ?_))
                    refine hq_p rfl rfl ?_
                    refine hq_p (ls' := [some (.ref 97), some (.int x1), some (.int x2), some (.int x3), some (.int x4), some (.int x5), some (.long x6), none, some (.long z153), none, some (.int y122), some (.int z140)]) rfl rfl ?_
                    refine ty_inc (ls' := fun z154 => [some (.ref 97), some (.int x1), some (.int x2), some (.int x3), some (.int x4), some (.int x5), some (.long x6), none, some (.long z153), none, some (.int z154), some (.int z140)]) rfl rfl (fun _ => rfl) (nm_addc nk_i1 (by omega) (by omega)) (fun z154 ez154 => ?_)
                    refine hq_p rfl rfl ?_
                    exact ihn129 ((12 - z154.toInt).toNat) (by omega) z153 z154 (some (.int z140)) h145 rfl (by omega) (by omega) (by omega) (by omega) rfl Jh145
        exact L189_n129 _ x6 z72 none h61 rfl (by omega) (by omega) (by omega) (by omega) rfl hJ1
      · exfalso; omega
    · refine hq_p rfl rfl (ty_gle (n := -1) (by decide) (fun z155 ez155 => ?_))
      refine hq_p rfl rfl ?_
      refine ty_lS (W := ty_Wy) H Jh14 rfl rfl (by decide) (by omega) (by omega) (fun i e => by unfold ty_Wy; omega) (fun h156 eh156 Jh156 => ?_)
      have Ih156 := H.1 h156 Jh156
      refine hq_p rfl rfl ?_
      refine hq_gR Ih156.1 rfl rfl (by decide) (by decide) rfl ?_
      refine hq_p rfl rfl (ty_ge (n := 3) nk_i3 (fun z157 ez157 => ?_))
      refine hq_p rfl rfl ?_
      refine hq_p rfl rfl (ty_ge (n := -1) nk_im1 (fun z158 ez158 => ?_))
      refine ty_ine rfl (fun c159 => ?_) (fun c159 => ?_)
      · exfalso; omega
      · refine hq_p rfl rfl (ty_gle (n := -1) (by decide) (fun z160 ez160 => ?_))
        refine hq_p rfl rfl ?_
        refine ty_lS (W := ty_Wy) H Jh156 rfl rfl (by decide) (by omega) (by omega) (fun i e => by unfold ty_Wy; omega) (fun h161 eh161 Jh161 => ?_)
        have Ih161 := H.1 h161 Jh161
        refine hq_p rfl rfl ?_
        refine hq_gR Ih161.1 rfl rfl (by decide) (by decide) rfl ?_
        refine hq_p rfl rfl (ty_ge (n := 4) nk_i4 (fun z162 ez162 => ?_))
        refine hq_p rfl rfl ?_
        refine hq_p rfl rfl (ty_gle (n := x3.toInt) (nm_i2l _) (fun z163 ez163 => ?_))
        refine ty_lS (W := ty_Wy) H Jh161 rfl rfl (by decide) (by omega) (by omega) (fun i e => by unfold ty_Wy; omega) (fun h164 eh164 Jh164 => ?_)
        have Ih164 := H.1 h164 Jh164
        refine hq_p rfl rfl ?_
        refine hq_gR Ih164.1 rfl rfl (by decide) (by decide) rfl ?_
        refine hq_p rfl rfl (ty_ge (n := 5) nk_i5 (fun z165 ez165 => ?_))
        refine hq_p rfl rfl ?_
        refine hq_gR Ih164.1 rfl rfl (by decide) (by decide) rfl ?_
        refine hq_p rfl rfl (ty_ge (n := 34) nk_b34 (fun z166 ez166 => ?_))
        refine hq_p rfl rfl ?_
        refine hq_p rfl rfl (ty_ge (n := z166.toInt + x3.toInt) (nm_add (by omega) (by omega)) (fun z167 ez167 => ?_))
        refine ty_aL Ih164 rfl rfl (by decide) (by omega) (by omega) (fun i _ => ty_rbF i) (fun z168 ez168 az168 bz168 => ?_)
        refine hq_p rfl rfl (ty_gle (n := z168.toInt) (nm_i2l _) (fun z169 ez169 => ?_))
        refine ty_lS (W := ty_Wy) H Jh164 rfl rfl (by decide) (by omega) (by omega) (fun i e => by unfold ty_Wy; omega) (fun h170 eh170 Jh170 => ?_)
        have Ih170 := H.1 h170 Jh170
        refine hq_p rfl rfl ?_
        refine hq_gR Ih170.1 rfl rfl (by decide) (by decide) rfl ?_
        refine hq_p rfl rfl (ty_ge (n := 6) nk_b6 (fun z171 ez171 => ?_))
        refine hq_p rfl rfl ?_
        refine hq_gR Ih170.1 rfl rfl (by decide) (by decide) rfl ?_
        refine hq_p rfl rfl (ty_ge (n := 10) nk_b10 (fun z172 ez172 => ?_))
        refine hq_p rfl rfl ?_
        refine hq_p rfl rfl (ty_ge (n := z172.toInt + x3.toInt) (nm_add (by omega) (by omega)) (fun z173 ez173 => ?_))
        refine ty_aL Ih170 rfl rfl (by decide) (by omega) (by omega) (fun i _ => ty_rbF i) (fun z174 ez174 az174 bz174 => ?_)
        refine hq_p rfl rfl (ty_gle (n := z174.toInt) (nm_i2l _) (fun z175 ez175 => ?_))
        refine ty_lS (W := ty_Wy) H Jh170 rfl rfl (by decide) (by omega) (by omega) (fun i e => by unfold ty_Wy; omega) (fun h176 eh176 Jh176 => ?_)
        have Ih176 := H.1 h176 Jh176
        refine hq_p rfl rfl ?_
        refine hq_gR Ih176.1 rfl rfl (by decide) (by decide) rfl ?_
        refine hq_p rfl rfl (ty_ge (n := 7) nk_b7 (fun z177 ez177 => ?_))
        refine hq_p rfl rfl ?_
        refine hq_p rfl rfl (ty_gle (n := x4.toInt) (nm_i2l _) (fun z178 ez178 => ?_))
        refine ty_lS (W := ty_Wy) H Jh176 rfl rfl (by decide) (by omega) (by omega) (fun i e => by unfold ty_Wy; omega) (fun h179 eh179 Jh179 => ?_)
        have Ih179 := H.1 h179 Jh179
        refine hq_p rfl rfl ?_
        refine hq_gR Ih179.1 rfl rfl (by decide) (by decide) rfl ?_
        refine hq_p rfl rfl (ty_ge (n := 8) nk_b8 (fun z180 ez180 => ?_))
        refine hq_p rfl rfl ?_
        refine hq_p rfl rfl (ty_gle (n := x5.toInt) (nm_i2l _) (fun z181 ez181 => ?_))
        refine ty_lS (W := ty_Wy) H Jh179 rfl rfl (by decide) (by omega) (by omega) (fun i e => by unfold ty_Wy; omega) (fun h182 eh182 Jh182 => ?_)
        have Ih182 := H.1 h182 Jh182
        refine hq_p rfl rfl ?_
        refine hq_gR Ih182.1 rfl rfl (by decide) (by decide) rfl ?_
        refine hq_p rfl rfl (ty_ge (n := 9) nk_b9 (fun z183 ez183 => ?_))
        refine hq_p rfl rfl ?_
        refine hq_gR Ih182.1 rfl rfl (by decide) (by decide) rfl ?_
        refine hq_p rfl rfl (ty_ge (n := 5) nk_i5 (fun z184 ez184 => ?_))
        refine ty_aL Ih182 rfl rfl (by decide) (by omega) (by omega) (fun i e => ty_le (ty_w5 (by omega) (by omega))) (fun z185 ez185 az185 bz185 => ?_)
        rw [show z184.toInt.toNat = 5 by omega] at ez185
        refine hq_p rfl rfl (ty_gle (n := z185.toInt) (nm_i2l _) (fun z186 ez186 => ?_))
        refine ty_lS (W := ty_Wy) H Jh182 rfl rfl (by decide) (by omega) (by omega) (fun i e => by unfold ty_Wy; omega) (fun h187 eh187 Jh187 => ?_)
        have Ih187 := H.1 h187 Jh187
        refine hq_p rfl rfl ?_
        refine hq_gR Ih187.1 rfl rfl (by decide) (by decide) rfl ?_
        refine hq_p rfl rfl (ty_ge (n := 10) nk_b10 (fun z188 ez188 => ?_))
        refine hq_p rfl rfl ?_
        refine hq_gR Ih187.1 rfl rfl (by decide) (by decide) rfl ?_
        refine hq_p rfl rfl (ty_ge (n := 7) nk_b7 (fun z189 ez189 => ?_))
        refine ty_aL Ih187 rfl rfl (by decide) (by omega) (by omega) (fun i e => ty_le (ty_w6 (by omega) (by omega))) (fun z190 ez190 az190 bz190 => ?_)
        rw [show z189.toInt.toNat = 7 by omega] at ez190
        refine hq_p rfl rfl (ty_gle (n := z190.toInt) (nm_i2l _) (fun z191 ez191 => ?_))
        refine ty_lS (W := ty_Wy) H Jh187 rfl rfl (by decide) (by omega) (by omega) (fun i e => by unfold ty_Wy; omega) (fun h192 eh192 Jh192 => ?_)
        have Ih192 := H.1 h192 Jh192
        refine hq_p rfl rfl ?_
        refine hq_p (ls' := [some (.ref 97), some (.int x1), some (.int x2), some (.int x3), some (.int x4), some (.int x5), some (.long x6), none, some (.long x6), none, none, none]) rfl rfl ?_
        have r193 : (hs_fI h14 97 34).toInt = (hs_fI h11 97 34).toInt := by rw [eh14]; exact congrArg Int32.toInt (ty_fI_ne (by omega))
        have r194 : (hs_fI h156 97 34).toInt = (hs_fI h14 97 34).toInt := by rw [eh156]; exact congrArg Int32.toInt (ty_fI_ne (by omega))
        have r195 : (hs_fI h161 97 34).toInt = (hs_fI h156 97 34).toInt := by rw [eh161]; exact congrArg Int32.toInt (ty_fI_ne (by omega))
        have r196 : (hs_fI h164 97 34).toInt = (hs_fI h161 97 34).toInt := by rw [eh164]; exact congrArg Int32.toInt (ty_fI_ne (by omega))
        have r197 : (hs_fI h170 97 34).toInt = (hs_fI h164 97 34).toInt := by rw [eh170]; exact congrArg Int32.toInt (ty_fI_ne (by omega))
        have r198 : (hs_fI h176 97 34).toInt = (hs_fI h170 97 34).toInt := by rw [eh176]; exact congrArg Int32.toInt (ty_fI_ne (by omega))
        have r199 : (hs_fI h179 97 34).toInt = (hs_fI h176 97 34).toInt := by rw [eh179]; exact congrArg Int32.toInt (ty_fI_ne (by omega))
        have r200 : (hs_fI h182 97 34).toInt = (hs_fI h179 97 34).toInt := by rw [eh182]; exact congrArg Int32.toInt (ty_fI_ne (by omega))
        have r201 : (hs_fI h187 97 34).toInt = (hs_fI h182 97 34).toInt := by rw [eh187]; exact congrArg Int32.toInt (ty_fI_ne (by omega))
        have r202 : (hs_fI h192 97 34).toInt = (hs_fI h187 97 34).toInt := by rw [eh192]; exact congrArg Int32.toInt (ty_fI_ne (by omega))
        obtain ⟨R, eR⟩ : ∃ R, hs_aI h192 99 = R := ⟨_, rfl⟩
        have hL : ty_lw R z10.toInt.toNat := by have q := Ih192.2.2.2.2.2.2.1 z8.toInt.toNat (by omega); rw [eR, show 98 + 900 * z8.toInt.toNat = z10.toInt.toNat by omega] at q; exact q
        have hL0 := hL.1
        have hL1 := hL.2.1
        obtain ⟨J1, eJ⟩ : ∃ J1 : pm_H → Prop, J1 = fun h' => (J h' ∧ (hs_fI h' 97 34).toInt = z10.toInt) ∧ hs_aI h' 99 = R := ⟨_, rfl⟩
        have H1 : ty_C ty_Wv J1 := by rw [eJ]; exact (H.mono (W' := ty_Wv) (fun a k w => by unfold ty_Wv at w; unfold ty_Wy; omega) (by unfold ty_Wv ty_Wy; omega)).law (by unfold ty_Wv; omega) (fun k => by unfold ty_Wv; omega) z10.toInt R
        have hJ1 : J1 h192 := by rw [eJ]; exact ⟨⟨Jh192, by omega⟩, eR⟩
        have H := H1
        refine hq_p rfl rfl (ty_ge (n := 0) nk_i0 (fun z203 ez203 => ?_))
        refine hq_p (ls' := [some (.ref 97), some (.int x1), some (.int x2), some (.int x3), some (.int x4), some (.int x5), some (.long x6), none, some (.long x6), none, some (.int z203), none]) rfl rfl ?_
        have L189_n260 : ∀ n260 : Nat, ∀ (y252 : Int64) (y253 : Int32) (w254 : Option Value) (h255 : pm_H), (12 - y253.toInt).toNat = n260 → -9223372036854775808 ≤ y252.toInt → y252.toInt ≤ 9223372036854775807 → 0 ≤ y253.toInt → y253.toInt ≤ 12 → pm_two w254 = false → J1 h255 → hq_W X d 11 false (some .long) pm_c202 (189, [some (.ref 97), some (.int x1), some (.int x2), some (.int x3), some (.int x4), some (.int x5), some (.long x6), none, some (.long y252), none, some (.int y253), w254], [], h255) (fun h' v => J h' ∧ ty_pl h' v) := by
          intro n260
          induction n260 using Nat.strongRecOn with
          | ind n260 ihn260 =>
            intro y252 y253 w254 h255 mn260 ay252 by252 ay253 by253 kw254 Jh255
            have Ih255 := H.1 h255 Jh255
            refine hq_p rfl rfl ?_
            refine hq_p rfl rfl ?_
            refine hq_gR Ih255.1 rfl rfl (by decide) (by decide) rfl ?_
            refine hq_p rfl rfl ?_
            refine ty_gI Ih255 rfl rfl (by decide) (by decide) rfl rfl (fun z261 ez261 az261 bz261 => ?_)
            have bbh255 : (hs_fI h255 97 34).toInt = z10.toInt := by have q := Jh255; rw [eJ] at q; exact q.1.2
            have rrh255 : hs_aI h255 99 = R := by have q := Jh255; rw [eJ] at q; exact q.2
            refine hq_p rfl rfl (ty_ge (n := 1) nk_i1 (fun z262 ez262 => ?_))
            refine hq_p rfl rfl (ty_ge (n := z261.toInt + z262.toInt) (nm_add (by omega) (by omega)) (fun z263 ez263 => ?_))
            refine ty_aL Ih255 rfl rfl (by decide) (by omega) (by omega) (fun i _ => ty_rbF i) (fun z264 ez264 az264 bz264 => ?_)
            have iz264 : z264.toInt = (R (z10.toInt.toNat + 1)).toInt := by rw [ez264, rrh255, show z263.toInt.toNat = z10.toInt.toNat + 1 by omega]
            refine ty_ige rfl (fun c265 => ?_) (fun c265 => ?_)
            · refine hq_p rfl rfl ?_
              exact hq_W.ret rfl rfl rfl ⟨(by have q := Jh255; rw [eJ] at q; exact q.1.1), _, rfl⟩
            · refine hq_p rfl rfl ?_
              refine ty_gI Ih255 rfl rfl (by decide) (by decide) rfl rfl (fun z266 ez266 az266 bz266 => ?_)
              refine hq_p rfl rfl (ty_ge (n := 2) nk_i2 (fun z267 ez267 => ?_))
              refine hq_p rfl rfl (ty_ge (n := z266.toInt + z267.toInt) (nm_add (by omega) (by omega)) (fun z268 ez268 => ?_))
              refine hq_p rfl rfl (ty_ge (n := 8) nk_b8 (fun z269 ez269 => ?_))
              refine hq_p rfl rfl ?_
              refine hq_p rfl rfl (ty_ge (n := 8 * y253.toInt) (nm_cmul ez269 (by omega) (by omega)) (fun z270 ez270 => ?_))
              refine hq_p rfl rfl (ty_ge (n := z268.toInt + z270.toInt) (nm_add (by omega) (by omega)) (fun z271 ez271 => ?_))
              refine hq_p (ls' := [some (.ref 97), some (.int x1), some (.int x2), some (.int x3), some (.int x4), some (.int x5), some (.long x6), none, some (.long y252), none, some (.int y253), some (.int z271)]) rfl rfl ?_
              refine hq_p rfl rfl ?_
              refine hq_gR Ih255.1 rfl rfl (by decide) (by decide) rfl ?_
              refine hq_p rfl rfl ?_
              refine ty_aL Ih255 rfl rfl (by decide) (by omega) (by omega) (fun i _ => ty_rbF i) (fun z272 ez272 az272 bz272 => ?_)
              refine hq_p rfl rfl ?_
              refine ty_ine rfl (fun c273 => ?_) (fun c273 => ?_)
              · clear c273
                refine ty_inc (ls' := fun z274 => [some (.ref 97), some (.int x1), some (.int x2), some (.int x3), some (.int x4), some (.int x5), some (.long x6), none, some (.long y252), none, some (.int z274), some (.int z271)]) rfl rfl (fun _ => rfl) (nm_addc nk_i1 (by omega) (by omega)) (fun z274 ez274 => ?_)
                refine hq_p rfl rfl ?_
                exact ihn260 ((12 - z274.toInt).toNat) (by omega) y252 z274 (some (.int z271)) h255 rfl (by omega) (by omega) (by omega) (by omega) rfl Jh255
              · refine hq_p rfl rfl ?_
                refine hq_p rfl rfl ?_
                refine ty_callj 0 (W := ty_Wv) H Jh255 rfl (fun _ => rfl) rfl rfl rfl (hq_pre_o Ih255.1 (x := 97) (ci := 11) rfl (by decide) rfl rfl rfl rfl) (fun _ _ w => w) (fun _ w => w) (ct_201 (x1 := z271) (by omega) (by omega) (by omega) (b := z10.toInt) (c := y253.toInt.toNat) (by omega) bbh255 (by rw [rrh255]; exact hL) (by rw [rrh255]; omega) (by omega)) (fun h276 _ Jh276 P275 => ?_)
                have Ih276 := H.1 h276 Jh276
                obtain ⟨z277, rfl, az277, bz277⟩ := P275
                refine ty_zeq rfl (fun c278 => ?_) (fun c278 => ?_)
                · refine ty_inc (ls' := fun z279 => [some (.ref 97), some (.int x1), some (.int x2), some (.int x3), some (.int x4), some (.int x5), some (.long x6), none, some (.long y252), none, some (.int z279), some (.int z271)]) rfl rfl (fun _ => rfl) (nm_addc nk_i1 (by omega) (by omega)) (fun z279 ez279 => ?_)
                  refine hq_p rfl rfl ?_
                  exact ihn260 ((12 - z279.toInt).toNat) (by omega) y252 z279 (some (.int z271)) h276 rfl (by omega) (by omega) (by omega) (by omega) rfl Jh276
                · replace c278 : 1 ≤ z277.toInt ∧ z277.toInt ≤ 1 := by omega
                  refine hq_p rfl rfl ?_
                  refine hq_p rfl rfl (ty_ge (n := 3) nk_i3 (fun z280 ez280 => ?_))
                  refine ty_ine rfl (fun c281 => ?_) (fun c281 => ?_)
                  · clear c281
                    refine hq_p rfl rfl ?_
                    refine ty_gL Ih276 rfl rfl (by decide) (by decide) rfl rfl (fun z282 ez282 az282 bz282 => ?_)
                    refine hq_p (ls' := [some (.ref 97), some (.int x1), some (.int x2), some (.int x3), some (.int x4), some (.int x5), some (.long x6), none, some (.long z282), none, some (.int y253), some (.int z271)]) rfl rfl ?_
                    refine ty_inc (ls' := fun z283 => [some (.ref 97), some (.int x1), some (.int x2), some (.int x3), some (.int x4), some (.int x5), some (.long x6), none, some (.long z282), none, some (.int z283), some (.int z271)]) rfl rfl (fun _ => rfl) (nm_addc nk_i1 (by omega) (by omega)) (fun z283 ez283 => ?_)
                    refine hq_p rfl rfl ?_
                    exact ihn260 ((12 - z283.toInt).toNat) (by omega) z282 z283 (some (.int z271)) h276 rfl (by omega) (by omega) (by omega) (by omega) rfl Jh276
                  · refine hq_p rfl rfl (ty_gle (n := 1) (by decide) (fun z284 ez284 => ?_))
                    refine hq_p rfl rfl ?_
                    refine hq_p (ls' := [some (.ref 97), some (.int x1), some (.int x2), some (.int x3), some (.int x4), some (.int x5), some (.long x6), none, some (.long z284), none, some (.int y253), some (.int z271)]) rfl rfl ?_
                    refine ty_inc (ls' := fun z285 => [some (.ref 97), some (.int x1), some (.int x2), some (.int x3), some (.int x4), some (.int x5), some (.long x6), none, some (.long z284), none, some (.int z285), some (.int z271)]) rfl rfl (fun _ => rfl) (nm_addc nk_i1 (by omega) (by omega)) (fun z285 ez285 => ?_)
                    refine hq_p rfl rfl ?_
                    exact ihn260 ((12 - z285.toInt).toNat) (by omega) z284 z285 (some (.int z271)) h276 rfl (by omega) (by omega) (by omega) (by omega) rfl Jh276
        exact L189_n260 _ x6 z203 none h192 rfl (by omega) (by omega) (by omega) (by omega) rfl hJ1
  · refine hq_p rfl rfl ?_
    exact hq_W.ret rfl rfl rfl ⟨hJ, _, rfl⟩
end CT2
