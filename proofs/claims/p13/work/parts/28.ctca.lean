/-! CONTRACTS (printed by wip/pm/cts.py) -/
section CT8
set_option maxHeartbeats 20000000 in
theorem ct_50 {X : pm_X} {d : Nat} {h : pm_H} {t0 : Nat} {t1 : Nat} {x2 : Int32} {x3 : Int32} {x4 : Int32} {x5 : Int32} (hd : 2 ≤ d) (ht0 : ty_ru t0) (ht1 : ty_tr t1) : ty_M X ty_Wu d 50 [.ref t0, .ref t1, .int x2, .int x3, .int x4, .int x5] h ty_pv := by
  intro J H hJ
  obtain ⟨d, rfl⟩ : ∃ e, d = e + 1 := ⟨d - 1, by omega⟩
  have I := H.1 h hJ
  have lt0 := ty_rul ht0
  have lt1 := ty_trl ht1
  have ax2 := nm_lo x2
  have bx2 := nm_hi x2
  have ax3 := nm_lo x3
  have bx3 := nm_hi x3
  have ax4 := nm_lo x4
  have bx4 := nm_hi x4
  have ax5 := nm_lo x5
  have bx5 := nm_hi x5
  refine hq_M.enter (q := (⟨"TrainBearers$Rules", "fillWords", "(LTrainBearers$Train;IIII)V"⟩, _, 8, none, 4, 6, pm_c50)) rfl rfl ?_
  show hq_W X d 4 false (none) pm_c50 (0, [some (.ref t0), some (.ref t1), some (.int x2), some (.int x3), some (.int x4), some (.int x5), none, none], [], h) (fun h' v => J h' ∧ ty_pv h' v)
  refine hq_p rfl rfl ?_
  refine hq_p rfl rfl ?_
  refine ty_callp 0 I rfl (fun _ => rfl) rfl rfl rfl (hq_pre_o I.1 (x := t1) (ci := 8) (ty_trs ht1) (by omega) rfl rfl rfl rfl) (ct_70 (t0 := t1) (x1 := x2) (by omega) ht1) (fun _ P1 => ?_)
  obtain ⟨z2, rfl, az2, bz2, iz2⟩ := P1
  refine hq_p (ls' := [some (.ref t0), some (.ref t1), some (.int x2), some (.int x3), some (.int x4), some (.int x5), some (.int z2), none]) rfl rfl ?_
  refine hq_p rfl rfl ?_
  refine hq_p rfl rfl ?_
  refine ty_callp 0 I rfl (fun _ => rfl) rfl rfl rfl (hq_pre_o I.1 (x := t1) (ci := 8) (ty_trs ht1) (by omega) rfl rfl rfl rfl) (ct_69 (t0 := t1) (x1 := x3) (by omega) ht1) (fun _ P3 => ?_)
  obtain ⟨z4, rfl, az4, bz4, iz4⟩ := P3
  refine hq_p (ls' := [some (.ref t0), some (.ref t1), some (.int x2), some (.int x3), some (.int x4), some (.int x5), some (.int z2), some (.int z4)]) rfl rfl ?_
  refine hq_p rfl rfl ?_
  refine hq_gR I.1 rfl (ty_rus ht0) (by omega) (by decide) rfl ?_
  refine hq_p rfl rfl (ty_ge (n := 0) nk_i0 (fun z5 ez5 => ?_))
  refine hq_p rfl rfl ?_
  refine ty_aS (W := ty_Wu) H hJ rfl (ty_rus3 ht0) (by omega) (by omega) (by omega) (fun i e => by unfold ty_Wu; omega) (fun i _ => ty_eg (ty_rua3 ht0 i)) (by omega) (by omega) (fun e1 e2 w => by omega) (fun h6 eh6 Jh6 => ?_)
  have Ih6 := H.1 h6 Jh6
  refine hq_p rfl rfl ?_
  refine hq_gR Ih6.1 rfl (ty_rus ht0) (by omega) (by decide) rfl ?_
  refine hq_p rfl rfl (ty_ge (n := 1) nk_i1 (fun z7 ez7 => ?_))
  refine hq_p rfl rfl ?_
  refine ty_zeq rfl (fun c8 => ?_) (fun c8 => ?_)
  · clear iz2
    refine hq_p rfl rfl (ty_ge (n := -1) nk_im1 (fun z9 ez9 => ?_))
    refine ty_aS (W := ty_Wu) H Jh6 rfl (ty_rus3 ht0) (by omega) (by omega) (by omega) (fun i e => by unfold ty_Wu; omega) (fun i _ => ty_eg (ty_rua3 ht0 i)) (by omega) (by omega) (fun e1 e2 w => by omega) (fun h10 eh10 Jh10 => ?_)
    have Ih10 := H.1 h10 Jh10
    refine hq_p rfl rfl ?_
    refine hq_gR Ih10.1 rfl (ty_rus ht0) (by omega) (by decide) rfl ?_
    refine hq_p rfl rfl (ty_ge (n := 2) nk_i2 (fun z11 ez11 => ?_))
    refine hq_p rfl rfl ?_
    refine ty_zeq rfl (fun c12 => ?_) (fun c12 => ?_)
    · refine hq_p rfl rfl (ty_ge (n := -1) nk_im1 (fun z13 ez13 => ?_))
      refine ty_aS (W := ty_Wu) H Jh10 rfl (ty_rus3 ht0) (by omega) (by omega) (by omega) (fun i e => by unfold ty_Wu; omega) (fun i _ => ty_eg (ty_rua3 ht0 i)) (by omega) (by omega) (fun e1 e2 w => by omega) (fun h14 eh14 Jh14 => ?_)
      have Ih14 := H.1 h14 Jh14
      refine hq_p rfl rfl ?_
      refine hq_gR Ih14.1 rfl (ty_rus ht0) (by omega) (by decide) rfl ?_
      refine hq_p rfl rfl (ty_ge (n := 3) nk_i3 (fun z15 ez15 => ?_))
      refine hq_p rfl rfl ?_
      refine ty_aS (W := ty_Wu) H Jh14 rfl (ty_rus3 ht0) (by omega) (by omega) (by omega) (fun i e => by unfold ty_Wu; omega) (fun i _ => ty_eg (ty_rua3 ht0 i)) (by omega) (by omega) (fun e1 e2 w => by omega) (fun h16 eh16 Jh16 => ?_)
      have Ih16 := H.1 h16 Jh16
      refine hq_p rfl rfl ?_
      refine hq_gR Ih16.1 rfl (ty_rus ht0) (by omega) (by decide) rfl ?_
      refine hq_p rfl rfl (ty_ge (n := 4) nk_i4 (fun z17 ez17 => ?_))
      refine hq_p rfl rfl ?_
      refine ty_zeq rfl (fun c18 => ?_) (fun c18 => ?_)
      · clear iz4
        refine hq_p rfl rfl (ty_ge (n := -1) nk_im1 (fun z19 ez19 => ?_))
        refine ty_aS (W := ty_Wu) H Jh16 rfl (ty_rus3 ht0) (by omega) (by omega) (by omega) (fun i e => by unfold ty_Wu; omega) (fun i _ => ty_eg (ty_rua3 ht0 i)) (by omega) (by omega) (fun e1 e2 w => by omega) (fun h20 eh20 Jh20 => ?_)
        have Ih20 := H.1 h20 Jh20
        refine hq_p rfl rfl ?_
        refine hq_gR Ih20.1 rfl (ty_rus ht0) (by omega) (by decide) rfl ?_
        refine hq_p rfl rfl (ty_ge (n := 5) nk_i5 (fun z21 ez21 => ?_))
        refine hq_p rfl rfl ?_
        refine ty_zeq rfl (fun c22 => ?_) (fun c22 => ?_)
        · refine hq_p rfl rfl (ty_ge (n := -1) nk_im1 (fun z23 ez23 => ?_))
          refine ty_aS (W := ty_Wu) H Jh20 rfl (ty_rus3 ht0) (by omega) (by omega) (by omega) (fun i e => by unfold ty_Wu; omega) (fun i _ => ty_eg (ty_rua3 ht0 i)) (by omega) (by omega) (fun e1 e2 w => by omega) (fun h24 eh24 Jh24 => ?_)
          have Ih24 := H.1 h24 Jh24
          refine hq_p rfl rfl ?_
          refine hq_gR Ih24.1 rfl (ty_rus ht0) (by omega) (by decide) rfl ?_
          refine hq_p rfl rfl (ty_ge (n := 6) nk_b6 (fun z25 ez25 => ?_))
          refine hq_p rfl rfl ?_
          refine ty_aS (W := ty_Wu) H Jh24 rfl (ty_rus3 ht0) (by omega) (by omega) (by omega) (fun i e => by unfold ty_Wu; omega) (fun i _ => ty_eg (ty_rua3 ht0 i)) (by omega) (by omega) (fun e1 e2 w => by omega) (fun h26 eh26 Jh26 => ?_)
          have Ih26 := H.1 h26 Jh26
          refine hq_p rfl rfl ?_
          refine hq_gR Ih26.1 rfl (ty_rus ht0) (by omega) (by decide) rfl ?_
          refine hq_p rfl rfl (ty_ge (n := 7) nk_b7 (fun z27 ez27 => ?_))
          refine hq_p rfl rfl ?_
          refine ty_aS (W := ty_Wu) H Jh26 rfl (ty_rus3 ht0) (by omega) (by omega) (by omega) (fun i e => by unfold ty_Wu; omega) (fun i _ => ty_eg (ty_rua3 ht0 i)) (by omega) (by omega) (fun e1 e2 w => by omega) (fun h28 eh28 Jh28 => ?_)
          have Ih28 := H.1 h28 Jh28
          refine hq_p rfl rfl ?_
          refine hq_gR Ih28.1 rfl (ty_rus ht0) (by omega) (by decide) rfl ?_
          refine hq_p rfl rfl (ty_ge (n := 8) nk_b8 (fun z29 ez29 => ?_))
          refine hq_p rfl rfl ?_
          refine hq_gR Ih28.1 rfl (ty_trs ht1) (by omega) (by decide) rfl ?_
          refine hq_p rfl rfl (ty_ge (n := 0) nk_i0 (fun z30 ez30 => ?_))
          refine ty_aL Ih28 rfl (ty_trs9 ht1) (by omega) (by omega) (by omega) (fun i _ => ty_le (ty_tra9 ht1 i)) (fun z31 ez31 az31 bz31 => ?_)
          rw [show z30.toInt.toNat = 0 by omega] at ez31
          refine ty_aS (W := ty_Wu) H Jh28 rfl (ty_rus3 ht0) (by omega) (by omega) (by omega) (fun i e => by unfold ty_Wu; omega) (fun i _ => ty_eg (ty_rua3 ht0 i)) (by omega) (by omega) (fun e1 e2 w => by omega) (fun h32 eh32 Jh32 => ?_)
          have Ih32 := H.1 h32 Jh32
          refine hq_p rfl rfl ?_
          refine hq_gR Ih32.1 rfl (ty_rus ht0) (by omega) (by decide) rfl ?_
          refine hq_p rfl rfl (ty_ge (n := 9) nk_b9 (fun z33 ez33 => ?_))
          refine hq_p rfl rfl ?_
          refine hq_gR Ih32.1 rfl (ty_trs ht1) (by omega) (by decide) rfl ?_
          refine hq_p rfl rfl (ty_ge (n := 2) nk_i2 (fun z34 ez34 => ?_))
          refine ty_aL Ih32 rfl (ty_trs9 ht1) (by omega) (by omega) (by omega) (fun i _ => ty_le (ty_tra9 ht1 i)) (fun z35 ez35 az35 bz35 => ?_)
          rw [show z34.toInt.toNat = 2 by omega] at ez35
          refine ty_aS (W := ty_Wu) H Jh32 rfl (ty_rus3 ht0) (by omega) (by omega) (by omega) (fun i e => by unfold ty_Wu; omega) (fun i _ => ty_eg (ty_rua3 ht0 i)) (by omega) (by omega) (fun e1 e2 w => by omega) (fun h36 eh36 Jh36 => ?_)
          have Ih36 := H.1 h36 Jh36
          exact hq_W.ret rfl rfl rfl ⟨Jh36, rfl⟩
        · exfalso; omega
      · replace c18 : 1 ≤ z4.toInt ∧ z4.toInt ≤ 1 := by omega
        have f37 := iz4 (by omega)
        clear iz4
        refine hq_p rfl rfl ?_
        refine hq_gR Ih16.1 rfl (ty_trs ht1) (by omega) (by decide) rfl ?_
        refine hq_p rfl rfl ?_
        refine ty_aL Ih16 rfl (ty_trs1 ht1) (by omega) (by omega) (by omega) (fun i _ => ty_le (ty_tra1 ht1 i)) (fun z38 ez38 az38 bz38 => ?_)
        refine hq_p rfl rfl ?_
        refine ty_aS (W := ty_Wu) H Jh16 rfl (ty_rus3 ht0) (by omega) (by omega) (by omega) (fun i e => by unfold ty_Wu; omega) (fun i _ => ty_eg (ty_rua3 ht0 i)) (by omega) (by omega) (fun e1 e2 w => by omega) (fun h39 eh39 Jh39 => ?_)
        have Ih39 := H.1 h39 Jh39
        refine hq_p rfl rfl ?_
        refine hq_gR Ih39.1 rfl (ty_rus ht0) (by omega) (by decide) rfl ?_
        refine hq_p rfl rfl (ty_ge (n := 5) nk_i5 (fun z40 ez40 => ?_))
        refine hq_p rfl rfl ?_
        refine ty_zeq rfl (fun c41 => ?_) (fun c41 => ?_)
        · exfalso; omega
        · clear c41
          refine hq_p rfl rfl ?_
          refine hq_gR Ih39.1 rfl (ty_trs ht1) (by omega) (by decide) rfl ?_
          refine hq_p rfl rfl ?_
          refine ty_aL Ih39 rfl (ty_trs2 ht1) (by omega) (by omega) (by omega) (fun i _ => ty_le (ty_tra2 ht1 i)) (fun z42 ez42 az42 bz42 => ?_)
          refine hq_p rfl rfl ?_
          refine ty_aS (W := ty_Wu) H Jh39 rfl (ty_rus3 ht0) (by omega) (by omega) (by omega) (fun i e => by unfold ty_Wu; omega) (fun i _ => ty_eg (ty_rua3 ht0 i)) (by omega) (by omega) (fun e1 e2 w => by omega) (fun h43 eh43 Jh43 => ?_)
          have Ih43 := H.1 h43 Jh43
          refine hq_p rfl rfl ?_
          refine hq_gR Ih43.1 rfl (ty_rus ht0) (by omega) (by decide) rfl ?_
          refine hq_p rfl rfl (ty_ge (n := 6) nk_b6 (fun z44 ez44 => ?_))
          refine hq_p rfl rfl ?_
          refine ty_aS (W := ty_Wu) H Jh43 rfl (ty_rus3 ht0) (by omega) (by omega) (by omega) (fun i e => by unfold ty_Wu; omega) (fun i _ => ty_eg (ty_rua3 ht0 i)) (by omega) (by omega) (fun e1 e2 w => by omega) (fun h45 eh45 Jh45 => ?_)
          have Ih45 := H.1 h45 Jh45
          refine hq_p rfl rfl ?_
          refine hq_gR Ih45.1 rfl (ty_rus ht0) (by omega) (by decide) rfl ?_
          refine hq_p rfl rfl (ty_ge (n := 7) nk_b7 (fun z46 ez46 => ?_))
          refine hq_p rfl rfl ?_
          refine ty_aS (W := ty_Wu) H Jh45 rfl (ty_rus3 ht0) (by omega) (by omega) (by omega) (fun i e => by unfold ty_Wu; omega) (fun i _ => ty_eg (ty_rua3 ht0 i)) (by omega) (by omega) (fun e1 e2 w => by omega) (fun h47 eh47 Jh47 => ?_)
          have Ih47 := H.1 h47 Jh47
          refine hq_p rfl rfl ?_
          refine hq_gR Ih47.1 rfl (ty_rus ht0) (by omega) (by decide) rfl ?_
          refine hq_p rfl rfl (ty_ge (n := 8) nk_b8 (fun z48 ez48 => ?_))
          refine hq_p rfl rfl ?_
          refine hq_gR Ih47.1 rfl (ty_trs ht1) (by omega) (by decide) rfl ?_
          refine hq_p rfl rfl (ty_ge (n := 0) nk_i0 (fun z49 ez49 => ?_))
          refine ty_aL Ih47 rfl (ty_trs9 ht1) (by omega) (by omega) (by omega) (fun i _ => ty_le (ty_tra9 ht1 i)) (fun z50 ez50 az50 bz50 => ?_)
          rw [show z49.toInt.toNat = 0 by omega] at ez50
          refine ty_aS (W := ty_Wu) H Jh47 rfl (ty_rus3 ht0) (by omega) (by omega) (by omega) (fun i e => by unfold ty_Wu; omega) (fun i _ => ty_eg (ty_rua3 ht0 i)) (by omega) (by omega) (fun e1 e2 w => by omega) (fun h51 eh51 Jh51 => ?_)
          have Ih51 := H.1 h51 Jh51
          refine hq_p rfl rfl ?_
          refine hq_gR Ih51.1 rfl (ty_rus ht0) (by omega) (by decide) rfl ?_
          refine hq_p rfl rfl (ty_ge (n := 9) nk_b9 (fun z52 ez52 => ?_))
          refine hq_p rfl rfl ?_
          refine hq_gR Ih51.1 rfl (ty_trs ht1) (by omega) (by decide) rfl ?_
          refine hq_p rfl rfl (ty_ge (n := 2) nk_i2 (fun z53 ez53 => ?_))
          refine ty_aL Ih51 rfl (ty_trs9 ht1) (by omega) (by omega) (by omega) (fun i _ => ty_le (ty_tra9 ht1 i)) (fun z54 ez54 az54 bz54 => ?_)
          rw [show z53.toInt.toNat = 2 by omega] at ez54
          refine ty_aS (W := ty_Wu) H Jh51 rfl (ty_rus3 ht0) (by omega) (by omega) (by omega) (fun i e => by unfold ty_Wu; omega) (fun i _ => ty_eg (ty_rua3 ht0 i)) (by omega) (by omega) (fun e1 e2 w => by omega) (fun h55 eh55 Jh55 => ?_)
          have Ih55 := H.1 h55 Jh55
          exact hq_W.ret rfl rfl rfl ⟨Jh55, rfl⟩
    · exfalso; omega
  · replace c8 : 1 ≤ z2.toInt ∧ z2.toInt ≤ 1 := by omega
    have f56 := iz2 (by omega)
    clear iz2
    refine hq_p rfl rfl ?_
    refine hq_gR Ih6.1 rfl (ty_trs ht1) (by omega) (by decide) rfl ?_
    refine hq_p rfl rfl ?_
    refine ty_aL Ih6 rfl (ty_trs3 ht1) (by omega) (by omega) (by omega) (fun i _ => ty_le (ty_tra3 ht1 i)) (fun z57 ez57 az57 bz57 => ?_)
    refine hq_p rfl rfl ?_
    refine ty_aS (W := ty_Wu) H Jh6 rfl (ty_rus3 ht0) (by omega) (by omega) (by omega) (fun i e => by unfold ty_Wu; omega) (fun i _ => ty_eg (ty_rua3 ht0 i)) (by omega) (by omega) (fun e1 e2 w => by omega) (fun h58 eh58 Jh58 => ?_)
    have Ih58 := H.1 h58 Jh58
    refine hq_p rfl rfl ?_
    refine hq_gR Ih58.1 rfl (ty_rus ht0) (by omega) (by decide) rfl ?_
    refine hq_p rfl rfl (ty_ge (n := 2) nk_i2 (fun z59 ez59 => ?_))
    refine hq_p rfl rfl ?_
    refine ty_zeq rfl (fun c60 => ?_) (fun c60 => ?_)
    · exfalso; omega
    · clear c60
      refine hq_p rfl rfl ?_
      refine hq_gR Ih58.1 rfl (ty_trs ht1) (by omega) (by decide) rfl ?_
      refine hq_p rfl rfl ?_
      refine ty_aL Ih58 rfl (ty_trs4 ht1) (by omega) (by omega) (by omega) (fun i _ => ty_le (ty_tra4 ht1 i)) (fun z61 ez61 az61 bz61 => ?_)
      refine hq_p rfl rfl ?_
      refine ty_aS (W := ty_Wu) H Jh58 rfl (ty_rus3 ht0) (by omega) (by omega) (by omega) (fun i e => by unfold ty_Wu; omega) (fun i _ => ty_eg (ty_rua3 ht0 i)) (by omega) (by omega) (fun e1 e2 w => by omega) (fun h62 eh62 Jh62 => ?_)
      have Ih62 := H.1 h62 Jh62
      refine hq_p rfl rfl ?_
      refine hq_gR Ih62.1 rfl (ty_rus ht0) (by omega) (by decide) rfl ?_
      refine hq_p rfl rfl (ty_ge (n := 3) nk_i3 (fun z63 ez63 => ?_))
      refine hq_p rfl rfl ?_
      refine ty_aS (W := ty_Wu) H Jh62 rfl (ty_rus3 ht0) (by omega) (by omega) (by omega) (fun i e => by unfold ty_Wu; omega) (fun i _ => ty_eg (ty_rua3 ht0 i)) (by omega) (by omega) (fun e1 e2 w => by omega) (fun h64 eh64 Jh64 => ?_)
      have Ih64 := H.1 h64 Jh64
      refine hq_p rfl rfl ?_
      refine hq_gR Ih64.1 rfl (ty_rus ht0) (by omega) (by decide) rfl ?_
      refine hq_p rfl rfl (ty_ge (n := 4) nk_i4 (fun z65 ez65 => ?_))
      refine hq_p rfl rfl ?_
      refine ty_zeq rfl (fun c66 => ?_) (fun c66 => ?_)
      · clear iz4
        refine hq_p rfl rfl (ty_ge (n := -1) nk_im1 (fun z67 ez67 => ?_))
        refine ty_aS (W := ty_Wu) H Jh64 rfl (ty_rus3 ht0) (by omega) (by omega) (by omega) (fun i e => by unfold ty_Wu; omega) (fun i _ => ty_eg (ty_rua3 ht0 i)) (by omega) (by omega) (fun e1 e2 w => by omega) (fun h68 eh68 Jh68 => ?_)
        have Ih68 := H.1 h68 Jh68
        refine hq_p rfl rfl ?_
        refine hq_gR Ih68.1 rfl (ty_rus ht0) (by omega) (by decide) rfl ?_
        refine hq_p rfl rfl (ty_ge (n := 5) nk_i5 (fun z69 ez69 => ?_))
        refine hq_p rfl rfl ?_
        refine ty_zeq rfl (fun c70 => ?_) (fun c70 => ?_)
        · refine hq_p rfl rfl (ty_ge (n := -1) nk_im1 (fun z71 ez71 => ?_))
          refine ty_aS (W := ty_Wu) H Jh68 rfl (ty_rus3 ht0) (by omega) (by omega) (by omega) (fun i e => by unfold ty_Wu; omega) (fun i _ => ty_eg (ty_rua3 ht0 i)) (by omega) (by omega) (fun e1 e2 w => by omega) (fun h72 eh72 Jh72 => ?_)
          have Ih72 := H.1 h72 Jh72
          refine hq_p rfl rfl ?_
          refine hq_gR Ih72.1 rfl (ty_rus ht0) (by omega) (by decide) rfl ?_
          refine hq_p rfl rfl (ty_ge (n := 6) nk_b6 (fun z73 ez73 => ?_))
          refine hq_p rfl rfl ?_
          refine ty_aS (W := ty_Wu) H Jh72 rfl (ty_rus3 ht0) (by omega) (by omega) (by omega) (fun i e => by unfold ty_Wu; omega) (fun i _ => ty_eg (ty_rua3 ht0 i)) (by omega) (by omega) (fun e1 e2 w => by omega) (fun h74 eh74 Jh74 => ?_)
          have Ih74 := H.1 h74 Jh74
          refine hq_p rfl rfl ?_
          refine hq_gR Ih74.1 rfl (ty_rus ht0) (by omega) (by decide) rfl ?_
          refine hq_p rfl rfl (ty_ge (n := 7) nk_b7 (fun z75 ez75 => ?_))
          refine hq_p rfl rfl ?_
          refine ty_aS (W := ty_Wu) H Jh74 rfl (ty_rus3 ht0) (by omega) (by omega) (by omega) (fun i e => by unfold ty_Wu; omega) (fun i _ => ty_eg (ty_rua3 ht0 i)) (by omega) (by omega) (fun e1 e2 w => by omega) (fun h76 eh76 Jh76 => ?_)
          have Ih76 := H.1 h76 Jh76
          refine hq_p rfl rfl ?_
          refine hq_gR Ih76.1 rfl (ty_rus ht0) (by omega) (by decide) rfl ?_
          refine hq_p rfl rfl (ty_ge (n := 8) nk_b8 (fun z77 ez77 => ?_))
          refine hq_p rfl rfl ?_
          refine hq_gR Ih76.1 rfl (ty_trs ht1) (by omega) (by decide) rfl ?_
          refine hq_p rfl rfl (ty_ge (n := 0) nk_i0 (fun z78 ez78 => ?_))
          refine ty_aL Ih76 rfl (ty_trs9 ht1) (by omega) (by omega) (by omega) (fun i _ => ty_le (ty_tra9 ht1 i)) (fun z79 ez79 az79 bz79 => ?_)
          rw [show z78.toInt.toNat = 0 by omega] at ez79
          refine ty_aS (W := ty_Wu) H Jh76 rfl (ty_rus3 ht0) (by omega) (by omega) (by omega) (fun i e => by unfold ty_Wu; omega) (fun i _ => ty_eg (ty_rua3 ht0 i)) (by omega) (by omega) (fun e1 e2 w => by omega) (fun h80 eh80 Jh80 => ?_)
          have Ih80 := H.1 h80 Jh80
          refine hq_p rfl rfl ?_
          refine hq_gR Ih80.1 rfl (ty_rus ht0) (by omega) (by decide) rfl ?_
          refine hq_p rfl rfl (ty_ge (n := 9) nk_b9 (fun z81 ez81 => ?_))
          refine hq_p rfl rfl ?_
          refine hq_gR Ih80.1 rfl (ty_trs ht1) (by omega) (by decide) rfl ?_
          refine hq_p rfl rfl (ty_ge (n := 2) nk_i2 (fun z82 ez82 => ?_))
          refine ty_aL Ih80 rfl (ty_trs9 ht1) (by omega) (by omega) (by omega) (fun i _ => ty_le (ty_tra9 ht1 i)) (fun z83 ez83 az83 bz83 => ?_)
          rw [show z82.toInt.toNat = 2 by omega] at ez83
          refine ty_aS (W := ty_Wu) H Jh80 rfl (ty_rus3 ht0) (by omega) (by omega) (by omega) (fun i e => by unfold ty_Wu; omega) (fun i _ => ty_eg (ty_rua3 ht0 i)) (by omega) (by omega) (fun e1 e2 w => by omega) (fun h84 eh84 Jh84 => ?_)
          have Ih84 := H.1 h84 Jh84
          exact hq_W.ret rfl rfl rfl ⟨Jh84, rfl⟩
        · exfalso; omega
      · replace c66 : 1 ≤ z4.toInt ∧ z4.toInt ≤ 1 := by omega
        have f85 := iz4 (by omega)
        clear iz4
        refine hq_p rfl rfl ?_
        refine hq_gR Ih64.1 rfl (ty_trs ht1) (by omega) (by decide) rfl ?_
        refine hq_p rfl rfl ?_
        refine ty_aL Ih64 rfl (ty_trs1 ht1) (by omega) (by omega) (by omega) (fun i _ => ty_le (ty_tra1 ht1 i)) (fun z86 ez86 az86 bz86 => ?_)
        refine hq_p rfl rfl ?_
        refine ty_aS (W := ty_Wu) H Jh64 rfl (ty_rus3 ht0) (by omega) (by omega) (by omega) (fun i e => by unfold ty_Wu; omega) (fun i _ => ty_eg (ty_rua3 ht0 i)) (by omega) (by omega) (fun e1 e2 w => by omega) (fun h87 eh87 Jh87 => ?_)
        have Ih87 := H.1 h87 Jh87
        refine hq_p rfl rfl ?_
        refine hq_gR Ih87.1 rfl (ty_rus ht0) (by omega) (by decide) rfl ?_
        refine hq_p rfl rfl (ty_ge (n := 5) nk_i5 (fun z88 ez88 => ?_))
        refine hq_p rfl rfl ?_
        refine ty_zeq rfl (fun c89 => ?_) (fun c89 => ?_)
        · exfalso; omega
        · clear c89
          refine hq_p rfl rfl ?_
          refine hq_gR Ih87.1 rfl (ty_trs ht1) (by omega) (by decide) rfl ?_
          refine hq_p rfl rfl ?_
          refine ty_aL Ih87 rfl (ty_trs2 ht1) (by omega) (by omega) (by omega) (fun i _ => ty_le (ty_tra2 ht1 i)) (fun z90 ez90 az90 bz90 => ?_)
          refine hq_p rfl rfl ?_
          refine ty_aS (W := ty_Wu) H Jh87 rfl (ty_rus3 ht0) (by omega) (by omega) (by omega) (fun i e => by unfold ty_Wu; omega) (fun i _ => ty_eg (ty_rua3 ht0 i)) (by omega) (by omega) (fun e1 e2 w => by omega) (fun h91 eh91 Jh91 => ?_)
          have Ih91 := H.1 h91 Jh91
          refine hq_p rfl rfl ?_
          refine hq_gR Ih91.1 rfl (ty_rus ht0) (by omega) (by decide) rfl ?_
          refine hq_p rfl rfl (ty_ge (n := 6) nk_b6 (fun z92 ez92 => ?_))
          refine hq_p rfl rfl ?_
          refine ty_aS (W := ty_Wu) H Jh91 rfl (ty_rus3 ht0) (by omega) (by omega) (by omega) (fun i e => by unfold ty_Wu; omega) (fun i _ => ty_eg (ty_rua3 ht0 i)) (by omega) (by omega) (fun e1 e2 w => by omega) (fun h93 eh93 Jh93 => ?_)
          have Ih93 := H.1 h93 Jh93
          refine hq_p rfl rfl ?_
          refine hq_gR Ih93.1 rfl (ty_rus ht0) (by omega) (by decide) rfl ?_
          refine hq_p rfl rfl (ty_ge (n := 7) nk_b7 (fun z94 ez94 => ?_))
          refine hq_p rfl rfl ?_
          refine ty_aS (W := ty_Wu) H Jh93 rfl (ty_rus3 ht0) (by omega) (by omega) (by omega) (fun i e => by unfold ty_Wu; omega) (fun i _ => ty_eg (ty_rua3 ht0 i)) (by omega) (by omega) (fun e1 e2 w => by omega) (fun h95 eh95 Jh95 => ?_)
          have Ih95 := H.1 h95 Jh95
          refine hq_p rfl rfl ?_
          refine hq_gR Ih95.1 rfl (ty_rus ht0) (by omega) (by decide) rfl ?_
          refine hq_p rfl rfl (ty_ge (n := 8) nk_b8 (fun z96 ez96 => ?_))
          refine hq_p rfl rfl ?_
          refine hq_gR Ih95.1 rfl (ty_trs ht1) (by omega) (by decide) rfl ?_
          refine hq_p rfl rfl (ty_ge (n := 0) nk_i0 (fun z97 ez97 => ?_))
          refine ty_aL Ih95 rfl (ty_trs9 ht1) (by omega) (by omega) (by omega) (fun i _ => ty_le (ty_tra9 ht1 i)) (fun z98 ez98 az98 bz98 => ?_)
          rw [show z97.toInt.toNat = 0 by omega] at ez98
          refine ty_aS (W := ty_Wu) H Jh95 rfl (ty_rus3 ht0) (by omega) (by omega) (by omega) (fun i e => by unfold ty_Wu; omega) (fun i _ => ty_eg (ty_rua3 ht0 i)) (by omega) (by omega) (fun e1 e2 w => by omega) (fun h99 eh99 Jh99 => ?_)
          have Ih99 := H.1 h99 Jh99
          refine hq_p rfl rfl ?_
          refine hq_gR Ih99.1 rfl (ty_rus ht0) (by omega) (by decide) rfl ?_
          refine hq_p rfl rfl (ty_ge (n := 9) nk_b9 (fun z100 ez100 => ?_))
          refine hq_p rfl rfl ?_
          refine hq_gR Ih99.1 rfl (ty_trs ht1) (by omega) (by decide) rfl ?_
          refine hq_p rfl rfl (ty_ge (n := 2) nk_i2 (fun z101 ez101 => ?_))
          refine ty_aL Ih99 rfl (ty_trs9 ht1) (by omega) (by omega) (by omega) (fun i _ => ty_le (ty_tra9 ht1 i)) (fun z102 ez102 az102 bz102 => ?_)
          rw [show z101.toInt.toNat = 2 by omega] at ez102
          refine ty_aS (W := ty_Wu) H Jh99 rfl (ty_rus3 ht0) (by omega) (by omega) (by omega) (fun i e => by unfold ty_Wu; omega) (fun i _ => ty_eg (ty_rua3 ht0 i)) (by omega) (by omega) (fun e1 e2 w => by omega) (fun h103 eh103 Jh103 => ?_)
          have Ih103 := H.1 h103 Jh103
          exact hq_W.ret rfl rfl rfl ⟨Jh103, rfl⟩
theorem ct_59 {X : pm_X} {d : Nat} {h : pm_H} {x0 : Int32} {x1 : Int64} {x2 : Int64} (hd : 1 ≤ d)  : ty_M X ty_W0 d 59 [.int x0, .long x1, .long x2] h ty_pl := by
  intro J H hJ
  obtain ⟨d, rfl⟩ : ∃ e, d = e + 1 := ⟨d - 1, by omega⟩
  have I := H.1 h hJ
  have ax0 := nm_lo x0
  have bx0 := nm_hi x0
  have ax1 := nm_llo x1
  have bx1 := nm_lhi x1
  have ax2 := nm_llo x2
  have bx2 := nm_lhi x2
  refine hq_M.enter (q := (⟨"TrainBearers$Sums", "combined", "(IJJ)J"⟩, _, 5, some .long, 6, 3, pm_c59)) rfl rfl ?_
  show hq_W X d 6 false (some .long) pm_c59 (0, [some (.int x0), some (.long x1), none, some (.long x2), none], [], h) (fun h' v => J h' ∧ ty_pl h' v)
  refine hq_p rfl rfl ?_
  rcases (show x0.toInt = 6 ∨ x0.toInt = 7 ∨ x0.toInt = 8 ∨ x0.toInt = 9 ∨ x0.toInt = 10 ∨ x0.toInt = 11 ∨ x0.toInt = 12 ∨ (x0.toInt < 6 ∨ 12 < x0.toInt) by omega) with c1 | c1 | c1 | c1 | c1 | c1 | c1 | c1
  · refine ty_ts (n := 6) rfl c1 rfl rfl (by decide) ?_
    refine hq_p rfl rfl ?_
    refine hq_p rfl rfl ?_
    refine hq_p rfl rfl (ty_gla (fun z2 az2 bz2 => ?_))
    exact hq_W.ret rfl rfl rfl ⟨hJ, _, rfl⟩
  · refine ty_ts (n := 7) rfl c1 rfl rfl (by decide) ?_
    refine hq_p rfl rfl ?_
    refine hq_p rfl rfl ?_
    refine hq_p rfl rfl (ty_gla (fun z3 az3 bz3 => ?_))
    exact hq_W.ret rfl rfl rfl ⟨hJ, _, rfl⟩
  · refine ty_ts (n := 8) rfl c1 rfl rfl (by decide) ?_
    refine hq_p rfl rfl ?_
    refine hq_p rfl rfl ?_
    refine hq_p rfl rfl (ty_gla (fun z4 az4 bz4 => ?_))
    exact hq_W.ret rfl rfl rfl ⟨hJ, _, rfl⟩
  · refine ty_ts (n := 9) rfl c1 rfl rfl (by decide) ?_
    refine hq_p rfl rfl ?_
    refine hq_p rfl rfl (ty_gle (n := 0) (by decide) (fun z5 ez5 => ?_))
    refine hq_p rfl rfl (ty_gc (fun z6 ez6 => ?_))
    refine ty_zne rfl (fun c7 => ?_) (fun c7 => ?_)
    · replace ez6 : x2.toInt ≠ 0 := by omega
      clear c7
      refine hq_p rfl rfl ?_
      refine hq_p rfl rfl ?_
      refine hq_ldiv rfl (nm_lnz (by omega)) (ty_gla (fun z8 az8 bz8 => ?_))
      exact hq_W.ret rfl rfl rfl ⟨hJ, _, rfl⟩
    · replace ez6 : x2.toInt = z5.toInt := by omega
      clear c7
      refine hq_p rfl rfl (ty_gle (n := 1000000001) (by decide) (fun z9 ez9 => ?_))
      refine hq_p rfl rfl ?_
      exact hq_W.ret rfl rfl rfl ⟨hJ, _, rfl⟩
  · refine ty_ts (n := 10) rfl c1 rfl rfl (by decide) ?_
    refine hq_p rfl rfl ?_
    refine hq_p rfl rfl (ty_gle (n := 0) (by decide) (fun z10 ez10 => ?_))
    refine hq_p rfl rfl (ty_gc (fun z11 ez11 => ?_))
    refine ty_zne rfl (fun c12 => ?_) (fun c12 => ?_)
    · replace ez11 : x2.toInt ≠ 0 := by omega
      clear c12
      refine hq_p rfl rfl ?_
      refine hq_p rfl rfl ?_
      refine hq_lrem rfl (nm_lnz (by omega)) (ty_gla (fun z13 az13 bz13 => ?_))
      exact hq_W.ret rfl rfl rfl ⟨hJ, _, rfl⟩
    · replace ez11 : x2.toInt = z10.toInt := by omega
      clear c12
      refine hq_p rfl rfl (ty_gle (n := 1000000001) (by decide) (fun z14 ez14 => ?_))
      refine hq_p rfl rfl ?_
      exact hq_W.ret rfl rfl rfl ⟨hJ, _, rfl⟩
  · refine ty_ts (n := 11) rfl c1 rfl rfl (by decide) ?_
    refine hq_p rfl rfl ?_
    refine hq_p rfl rfl ?_
    refine hq_p rfl rfl (ty_gc (fun z15 ez15 => ?_))
    refine ty_zge rfl (fun c16 => ?_) (fun c16 => ?_)
    · replace ez15 : x1.toInt ≥ x2.toInt := by omega
      clear c16
      refine hq_p rfl rfl (ty_gle (n := 0) (by decide) (fun z17 ez17 => ?_))
      exact hq_W.ret rfl rfl rfl ⟨hJ, _, rfl⟩
    · replace ez15 : x1.toInt < x2.toInt := by omega
      clear c16
      refine hq_p rfl rfl (ty_gle (n := 1) (by decide) (fun z18 ez18 => ?_))
      refine hq_p rfl rfl ?_
      exact hq_W.ret rfl rfl rfl ⟨hJ, _, rfl⟩
  · refine ty_ts (n := 12) rfl c1 rfl rfl (by decide) ?_
    refine hq_p rfl rfl ?_
    refine hq_p rfl rfl ?_
    refine hq_p rfl rfl (ty_gc (fun z19 ez19 => ?_))
    refine ty_zle rfl (fun c20 => ?_) (fun c20 => ?_)
    · replace ez19 : x1.toInt ≤ x2.toInt := by omega
      clear c20
      refine hq_p rfl rfl (ty_gle (n := 0) (by decide) (fun z21 ez21 => ?_))
      exact hq_W.ret rfl rfl rfl ⟨hJ, _, rfl⟩
    · replace ez19 : x1.toInt > x2.toInt := by omega
      clear c20
      refine hq_p rfl rfl (ty_gle (n := 1) (by decide) (fun z22 ez22 => ?_))
      refine hq_p rfl rfl ?_
      exact hq_W.ret rfl rfl rfl ⟨hJ, _, rfl⟩
  · refine ty_td rfl c1 (by decide) ?_
    refine hq_p rfl rfl ?_
    refine hq_p rfl rfl ?_
    refine hq_p rfl rfl (ty_gc (fun z23 ez23 => ?_))
    refine ty_zne rfl (fun c24 => ?_) (fun c24 => ?_)
    · clear ez23 c24
      refine hq_p rfl rfl (ty_gle (n := 0) (by decide) (fun z25 ez25 => ?_))
      exact hq_W.ret rfl rfl rfl ⟨hJ, _, rfl⟩
    · replace ez23 : x1.toInt = x2.toInt := by omega
      clear c24
      refine hq_p rfl rfl (ty_gle (n := 1) (by decide) (fun z26 ez26 => ?_))
      refine hq_p rfl rfl ?_
      exact hq_W.ret rfl rfl rfl ⟨hJ, _, rfl⟩
set_option maxRecDepth 8000 in
set_option maxHeartbeats 20000000 in
theorem ct_58b {X : pm_X} {d : Nat} {h : pm_H} {t0 : Nat} {x1 : Nat} {cx1 lx1 : Int32} {x2 : Int32} (hd : 2 ≤ d) (ht0 : ty_ru t0) (qx1 : ty_ty h x1 cx1 lx1) : ty_M X ty_Wu d 58 [.ref (t0 + 1), .ref x1, .int x2, .ref (t0 + 3)] h (ty_pi (-2147483648) 2147483647) := by
  intro J H hJ
  obtain ⟨d, rfl⟩ : ∃ e, d = e + 1 := ⟨d - 1, by omega⟩
  have I := H.1 h hJ
  have lt0 := ty_rul ht0
  have c0x1 := qx1.2.2.1
  have c1x1 := qx1.2.2.2.1
  have l0x1 := qx1.2.2.2.2.1
  have l1x1 := qx1.2.2.2.2.2.1
  have ax2 := nm_lo x2
  have bx2 := nm_hi x2
  refine hq_M.enter (q := (⟨"TrainBearers$Sums", "ask", "(LTrainBearers$Text;I[I)I"⟩, _, 10, some .int, 6, 4, pm_c58)) rfl rfl ?_
  show hq_W X d 6 false (some .int) pm_c58 (0, [some (.ref (t0 + 1)), some (.ref x1), some (.int x2), some (.ref (t0 + 3)), none, none, none, none, none, none], [], h) (fun h' v => J h' ∧ (ty_pi (-2147483648) 2147483647) h' v)
  refine hq_p rfl rfl (ty_ge (n := 0) nk_i0 (fun z1 ez1 => ?_))
  refine hq_p (ls' := [some (.ref (t0 + 1)), some (.ref x1), some (.int x2), some (.ref (t0 + 3)), some (.int z1), none, none, none, none, none]) rfl rfl ?_
  refine hq_p rfl rfl (ty_ge (n := 0) nk_i0 (fun z2 ez2 => ?_))
  refine hq_p rfl rfl ?_
  refine ty_callp 1 I rfl (fun _ => rfl) rfl rfl rfl rfl (ct_258 (x0 := z2) (x1 := x2) (by omega)) (fun _ P3 => ?_)
  obtain ⟨z4, rfl, fz4, dz4, oz4⟩ := P3
  have iz4 : 0 ≤ z4.toInt ∧ z4.toInt ≤ 2147483647 := by omega
  clear oz4
  refine hq_p (ls' := [some (.ref (t0 + 1)), some (.ref x1), some (.int x2), some (.ref (t0 + 3)), some (.int z1), some (.int z4), none, none, none, none]) rfl rfl ?_
  have L10_n194 : ∀ n194 : Nat, ∀ (y187 : Int32) (y188 : Int32) (w189 : Option Value) (w190 : Option Value) (w191 : Option Value) (w192 : Option Value) (h193 : pm_H), (1001 - y188.toInt).toNat = n194 → 0 ≤ y187.toInt → y187.toInt ≤ 51 → 0 ≤ y188.toInt → y188.toInt ≤ 2147483647 → pm_two w189 = false → pm_two w190 = false → pm_two w192 = false → ty_ty h193 x1 cx1 lx1 → J h193 → hq_W X d 6 false (some .int) pm_c58 (10, [some (.ref (t0 + 1)), some (.ref x1), some (.int x2), some (.ref (t0 + 3)), some (.int y187), some (.int y188), w189, w190, w191, w192], [], h193) (fun h' v => J h' ∧ (ty_pi (-2147483648) 2147483647) h' v) := by
    intro n194
    induction n194 using Nat.strongRecOn with
    | ind n194 ihn194 =>
      intro y187 y188 w189 w190 w191 w192 h193 mn194 ay187 by187 ay188 by188 kw189 kw190 kw192 qx1h193 Jh193
      have Ih193 := H.1 h193 Jh193
      refine hq_p rfl rfl ?_
      refine hq_p rfl rfl ?_
      refine ty_xl qx1h193 rfl (fun z195 ez195 => ?_)
      refine ty_ige rfl (fun c196 => ?_) (fun c196 => ?_)
      · refine hq_p rfl rfl ?_
        refine ty_zle rfl (fun c197 => ?_) (fun c197 => ?_)
        · refine hq_p rfl rfl (ty_ge (n := -2000000000) nk_dm2000000000 (fun z198 ez198 => ?_))
          exact hq_W.ret rfl rfl rfl ⟨Jh193, _, rfl, by omega, by omega⟩
        · refine hq_p rfl rfl ?_
          refine hq_gR Ih193.1 rfl (ty_rus1 ht0) (by omega) (by decide) rfl ?_
          refine hq_p rfl rfl ?_
          refine hq_p rfl rfl (ty_ge (n := 1) nk_i1 (fun z199 ez199 => ?_))
          refine hq_p rfl rfl (ty_ge (n := y187.toInt - z199.toInt) (nm_sub (by omega) (by omega)) (fun z200 ez200 => ?_))
          refine ty_lL Ih193 rfl (ty_rus2 ht0) (by omega) (by omega) (by omega) (fun z201 ez201 az201 bz201 => ?_)
          refine hq_p rfl rfl (ty_ga (fun z202 az202 bz202 => ?_))
          refine hq_p rfl rfl ?_
          exact hq_W.ret rfl rfl rfl ⟨Jh193, _, rfl, by omega, by omega⟩
      · refine hq_p rfl rfl ?_
        refine ty_xr (y := x1 + 6) qx1h193 rfl (by decide) (fun _ _ _ => rfl) ?_
        refine hq_p rfl rfl ?_
        refine ty_xa6 qx1h193 rfl (by omega) (by omega) (fun z203 az203 bz203 => ?_)
        refine ty_zeq rfl (fun c204 => ?_) (fun c204 => ?_)
        · refine hq_p rfl rfl ?_
          refine ty_zle rfl (fun c205 => ?_) (fun c205 => ?_)
          · refine hq_p rfl rfl (ty_ge (n := -2000000000) nk_dm2000000000 (fun z206 ez206 => ?_))
            exact hq_W.ret rfl rfl rfl ⟨Jh193, _, rfl, by omega, by omega⟩
          · refine hq_p rfl rfl ?_
            refine hq_gR Ih193.1 rfl (ty_rus1 ht0) (by omega) (by decide) rfl ?_
            refine hq_p rfl rfl ?_
            refine hq_p rfl rfl (ty_ge (n := 1) nk_i1 (fun z207 ez207 => ?_))
            refine hq_p rfl rfl (ty_ge (n := y187.toInt - z207.toInt) (nm_sub (by omega) (by omega)) (fun z208 ez208 => ?_))
            refine ty_lL Ih193 rfl (ty_rus2 ht0) (by omega) (by omega) (by omega) (fun z209 ez209 az209 bz209 => ?_)
            refine hq_p rfl rfl (ty_ga (fun z210 az210 bz210 => ?_))
            refine hq_p rfl rfl ?_
            exact hq_W.ret rfl rfl rfl ⟨Jh193, _, rfl, by omega, by omega⟩
        · clear c204
          refine hq_p rfl rfl ?_
          refine ty_xr (y := x1 + 6) qx1h193 rfl (by decide) (fun _ _ _ => rfl) ?_
          refine hq_p rfl rfl ?_
          refine ty_xa6 qx1h193 rfl (by omega) (by omega) (fun z211 az211 bz211 => ?_)
          refine hq_p (ls' := [some (.ref (t0 + 1)), some (.ref x1), some (.int x2), some (.ref (t0 + 3)), some (.int y187), some (.int y188), some (.int z211), w190, w191, w192]) rfl rfl ?_
          refine hq_p rfl rfl ?_
          refine ty_xr (y := x1 + 7) qx1h193 rfl (by decide) (fun _ _ _ => rfl) ?_
          refine hq_p rfl rfl ?_
          refine ty_xa7 qx1h193 rfl (by omega) (by omega) (fun z212 az212 bz212 => ?_)
          refine hq_p (ls' := [some (.ref (t0 + 1)), some (.ref x1), some (.int x2), some (.ref (t0 + 3)), some (.int y187), some (.int y188), some (.int z211), some (.int z212), w191, w192]) rfl rfl ?_
          refine hq_p rfl rfl ?_
          refine hq_p rfl rfl (ty_ge (n := 1) nk_i1 (fun z213 ez213 => ?_))
          refine ty_ieq rfl (fun c214 => ?_) (fun c214 => ?_)
          · refine hq_p rfl rfl ?_
            refine ty_zlt rfl (fun c215 => ?_) (fun c215 => ?_)
            · exfalso; omega
            · refine hq_p rfl rfl ?_
              refine hq_p rfl rfl ?_
              refine hq_alen rfl (hs_iarr Ih193.1 (ty_rus3 ht0) (by omega)) rfl (ty_ge (c := Int32.ofNat 10) (n := 10) (by decide) (fun z216 ez216 => ?_))
              refine ty_ige rfl (fun c217 => ?_) (fun c217 => ?_)
              · refine hq_p rfl rfl (ty_ge (n := 0) nk_i0 (fun z218 ez218 => ?_))
                refine hq_p (ls' := [some (.ref (t0 + 1)), some (.ref x1), some (.int x2), some (.ref (t0 + 3)), some (.int y187), some (.int y188), some (.int z211), some (.int z212), some (.int z218), w192]) rfl rfl ?_
                refine hq_p rfl rfl ?_
                refine hq_p rfl rfl ?_
                refine hq_gR Ih193.1 rfl (ty_rus1 ht0) (by omega) (by decide) rfl ?_
                refine hq_alen rfl (hs_larr Ih193.1 (ty_rus2 ht0) (by omega)) rfl (ty_ge (c := Int32.ofNat 51) (n := 51) (by decide) (fun z219 ez219 => ?_))
                refine ty_ige rfl (fun c220 => ?_) (fun c220 => ?_)
                · refine hq_p rfl rfl (ty_ge (n := -2000000000) nk_dm2000000000 (fun z221 ez221 => ?_))
                  exact hq_W.ret rfl rfl rfl ⟨Jh193, _, rfl, by omega, by omega⟩
                · refine hq_p rfl rfl ?_
                  refine hq_p rfl rfl (ty_ge (n := 2) nk_i2 (fun z222 ez222 => ?_))
                  refine ty_ine rfl (fun c223 => ?_) (fun c223 => ?_)
                  · clear c223
                    refine hq_p rfl rfl ?_
                    refine hq_gR Ih193.1 rfl (ty_rus1 ht0) (by omega) (by decide) rfl ?_
                    refine hq_p rfl rfl ?_
                    refine hq_p rfl rfl ?_
                    refine hq_p rfl rfl (ty_ge (n := 1) nk_i1 (fun z224 ez224 => ?_))
                    refine ty_ine rfl (fun c225 => ?_) (fun c225 => ?_)
                    · exfalso; omega
                    · refine hq_p rfl rfl ?_
                      refine hq_p rfl rfl (ty_gle (n := z212.toInt) (nm_i2l _) (fun z226 ez226 => ?_))
                      refine hq_p rfl rfl ?_
                      refine ty_lS (W := ty_Wu) H Jh193 rfl (ty_rus2 ht0) (by omega) (by omega) (by omega) (fun i e => by unfold ty_Wu; omega) (fun h227 eh227 Jh227 => ?_)
                      have Ih227 := H.1 h227 Jh227
                      have qx1h227 := ty_ty_s eh227 (by omega) qx1h193
                      refine ty_inc (ls' := fun z228 => [some (.ref (t0 + 1)), some (.ref x1), some (.int x2), some (.ref (t0 + 3)), some (.int z228), some (.int y188), some (.int z211), some (.int z212), some (.int z218), w192]) rfl rfl (fun _ => rfl) (nm_addc nk_i1 (by omega) (by omega)) (fun z228 ez228 => ?_)
                      refine hq_p rfl rfl ?_
                      refine ty_inc (ls' := fun z229 => [some (.ref (t0 + 1)), some (.ref x1), some (.int x2), some (.ref (t0 + 3)), some (.int z228), some (.int z229), some (.int z211), some (.int z212), some (.int z218), w192]) rfl rfl (fun _ => rfl) (nm_addc nk_i1 (by omega) (by omega)) (fun z229 ez229 => ?_)
                      refine hq_p rfl rfl ?_
                      exact ihn194 ((1001 - z229.toInt).toNat) (by omega) z228 z229 (some (.int z211)) (some (.int z212)) (some (.int z218)) (w192) h227 rfl (by omega) (by omega) (by omega) (by omega) rfl rfl kw192 qx1h227 Jh227
                  · exfalso; omega
              · refine hq_p rfl rfl (ty_ge (n := 1) nk_i1 (fun z230 ez230 => ?_))
                refine hq_p rfl rfl ?_
                refine hq_p (ls' := [some (.ref (t0 + 1)), some (.ref x1), some (.int x2), some (.ref (t0 + 3)), some (.int y187), some (.int y188), some (.int z211), some (.int z212), some (.int z230), w192]) rfl rfl ?_
                refine hq_p rfl rfl ?_
                refine hq_p rfl rfl ?_
                refine hq_gR Ih193.1 rfl (ty_rus1 ht0) (by omega) (by decide) rfl ?_
                refine hq_alen rfl (hs_larr Ih193.1 (ty_rus2 ht0) (by omega)) rfl (ty_ge (c := Int32.ofNat 51) (n := 51) (by decide) (fun z231 ez231 => ?_))
                refine ty_ige rfl (fun c232 => ?_) (fun c232 => ?_)
                · refine hq_p rfl rfl (ty_ge (n := -2000000000) nk_dm2000000000 (fun z233 ez233 => ?_))
                  exact hq_W.ret rfl rfl rfl ⟨Jh193, _, rfl, by omega, by omega⟩
                · refine hq_p rfl rfl ?_
                  refine hq_p rfl rfl (ty_ge (n := 2) nk_i2 (fun z234 ez234 => ?_))
                  refine ty_ine rfl (fun c235 => ?_) (fun c235 => ?_)
                  · clear c235
                    refine hq_p rfl rfl ?_
                    refine hq_gR Ih193.1 rfl (ty_rus1 ht0) (by omega) (by decide) rfl ?_
                    refine hq_p rfl rfl ?_
                    refine hq_p rfl rfl ?_
                    refine hq_p rfl rfl (ty_ge (n := 1) nk_i1 (fun z236 ez236 => ?_))
                    refine ty_ine rfl (fun c237 => ?_) (fun c237 => ?_)
                    · exfalso; omega
                    · refine hq_p rfl rfl ?_
                      refine hq_p rfl rfl (ty_gle (n := z212.toInt) (nm_i2l _) (fun z238 ez238 => ?_))
                      refine hq_p rfl rfl ?_
                      refine ty_lS (W := ty_Wu) H Jh193 rfl (ty_rus2 ht0) (by omega) (by omega) (by omega) (fun i e => by unfold ty_Wu; omega) (fun h239 eh239 Jh239 => ?_)
                      have Ih239 := H.1 h239 Jh239
                      have qx1h239 := ty_ty_s eh239 (by omega) qx1h193
                      refine ty_inc (ls' := fun z240 => [some (.ref (t0 + 1)), some (.ref x1), some (.int x2), some (.ref (t0 + 3)), some (.int z240), some (.int y188), some (.int z211), some (.int z212), some (.int z230), w192]) rfl rfl (fun _ => rfl) (nm_addc nk_i1 (by omega) (by omega)) (fun z240 ez240 => ?_)
                      refine hq_p rfl rfl ?_
                      refine ty_inc (ls' := fun z241 => [some (.ref (t0 + 1)), some (.ref x1), some (.int x2), some (.ref (t0 + 3)), some (.int z240), some (.int z241), some (.int z211), some (.int z212), some (.int z230), w192]) rfl rfl (fun _ => rfl) (nm_addc nk_i1 (by omega) (by omega)) (fun z241 ez241 => ?_)
                      refine hq_p rfl rfl ?_
                      exact ihn194 ((1001 - z241.toInt).toNat) (by omega) z240 z241 (some (.int z211)) (some (.int z212)) (some (.int z230)) (w192) h239 rfl (by omega) (by omega) (by omega) (by omega) rfl rfl kw192 qx1h239 Jh239
                  · exfalso; omega
          · clear c214
            refine hq_p rfl rfl ?_
            refine hq_p rfl rfl (ty_ge (n := 2) nk_i2 (fun z242 ez242 => ?_))
            refine ty_ine rfl (fun c243 => ?_) (fun c243 => ?_)
            · clear c243
              refine hq_p rfl rfl ?_
              refine hq_p rfl rfl (ty_ge (n := 3) nk_i3 (fun z244 ez244 => ?_))
              refine ty_ine rfl (fun c245 => ?_) (fun c245 => ?_)
              · clear c245
                refine hq_p rfl rfl ?_
                refine hq_p rfl rfl (ty_ge (n := 4) nk_i4 (fun z246 ez246 => ?_))
                refine ty_ieq rfl (fun c247 => ?_) (fun c247 => ?_)
                · refine hq_p rfl rfl ?_
                  refine ty_zle rfl (fun c248 => ?_) (fun c248 => ?_)
                  · refine hq_p rfl rfl ?_
                    refine hq_p rfl rfl (ty_ge (n := 1) nk_i1 (fun z249 ez249 => ?_))
                    refine ty_ile rfl (fun c250 => ?_) (fun c250 => ?_)
                    · refine ty_inc (ls' := fun z251 => [some (.ref (t0 + 1)), some (.ref x1), some (.int x2), some (.ref (t0 + 3)), some (.int y187), some (.int z251), some (.int z211), some (.int z212), w191, w192]) rfl rfl (fun _ => rfl) (nm_addc nk_i1 (by omega) (by omega)) (fun z251 ez251 => ?_)
                      refine hq_p rfl rfl ?_
                      exact ihn194 ((1001 - z251.toInt).toNat) (by omega) y187 z251 (some (.int z211)) (some (.int z212)) (w191) (w192) h193 rfl (by omega) (by omega) (by omega) (by omega) rfl rfl kw192 qx1h193 Jh193
                    · exfalso; omega
                  · refine hq_p rfl rfl ?_
                    refine hq_gR Ih193.1 rfl (ty_rus1 ht0) (by omega) (by decide) rfl ?_
                    refine hq_p rfl rfl ?_
                    refine hq_p rfl rfl (ty_ge (n := 1) nk_i1 (fun z252 ez252 => ?_))
                    refine hq_p rfl rfl (ty_ge (n := y187.toInt - z252.toInt) (nm_sub (by omega) (by omega)) (fun z253 ez253 => ?_))
                    refine ty_lL Ih193 rfl (ty_rus2 ht0) (by omega) (by omega) (by omega) (fun z254 ez254 az254 bz254 => ?_)
                    refine hq_p rfl rfl ?_
                    refine hq_p rfl rfl (ty_ge (n := 5) nk_i5 (fun z255 ez255 => ?_))
                    refine ty_ine rfl (fun c256 => ?_) (fun c256 => ?_)
                    · clear c256
                      refine hq_p rfl rfl (ty_ge (n := 0) nk_i0 (fun z257 ez257 => ?_))
                      refine hq_p rfl rfl (ty_gle (n := z257.toInt) (nm_i2l _) (fun z258 ez258 => ?_))
                      refine hq_p rfl rfl (ty_gc (fun z259 ez259 => ?_))
                      refine ty_zne rfl (fun c260 => ?_) (fun c260 => ?_)
                      · replace ez259 : z254.toInt ≠ 0 := by omega
                        clear c260
                        refine ty_inc (ls' := fun z261 => [some (.ref (t0 + 1)), some (.ref x1), some (.int x2), some (.ref (t0 + 3)), some (.int z261), some (.int y188), some (.int z211), some (.int z212), w191, w192]) rfl rfl (fun _ => rfl) (nm_addc nk_im1 (by omega) (by omega)) (fun z261 ez261 => ?_)
                        refine hq_p rfl rfl ?_
                        refine ty_inc (ls' := fun z262 => [some (.ref (t0 + 1)), some (.ref x1), some (.int x2), some (.ref (t0 + 3)), some (.int z261), some (.int z262), some (.int z211), some (.int z212), w191, w192]) rfl rfl (fun _ => rfl) (nm_addc nk_i1 (by omega) (by omega)) (fun z262 ez262 => ?_)
                        refine hq_p rfl rfl ?_
                        exact ihn194 ((1001 - z262.toInt).toNat) (by omega) z261 z262 (some (.int z211)) (some (.int z212)) (w191) (w192) h193 rfl (by omega) (by omega) (by omega) (by omega) rfl rfl kw192 qx1h193 Jh193
                      · replace ez259 : z254.toInt = z258.toInt := by omega
                        clear c260
                        refine hq_p rfl rfl ?_
                        refine hq_p rfl rfl ?_
                        refine hq_p rfl rfl (ty_ge (n := 1) nk_i1 (fun z263 ez263 => ?_))
                        refine hq_p rfl rfl (ty_ge (n := z212.toInt - z263.toInt) (nm_sub (by omega) (by omega)) (fun z264 ez264 => ?_))
                        refine ty_callp 1 Ih193 rfl (fun _ => rfl) rfl rfl rfl rfl (ct_258 (x0 := y188) (x1 := z264) (by omega)) (fun _ P265 => ?_)
                        obtain ⟨z266, rfl, fz266, dz266, oz266⟩ := P265
                        have iz266 : 0 ≤ z266.toInt ∧ z266.toInt ≤ 999 := by omega
                        clear oz266
                        refine hq_p (ls' := [some (.ref (t0 + 1)), some (.ref x1), some (.int x2), some (.ref (t0 + 3)), some (.int y187), some (.int z266), some (.int z211), some (.int z212), w191, w192]) rfl rfl ?_
                        refine hq_p rfl rfl ?_
                        refine ty_inc (ls' := fun z267 => [some (.ref (t0 + 1)), some (.ref x1), some (.int x2), some (.ref (t0 + 3)), some (.int y187), some (.int z267), some (.int z211), some (.int z212), w191, w192]) rfl rfl (fun _ => rfl) (nm_addc nk_i1 (by omega) (by omega)) (fun z267 ez267 => ?_)
                        refine hq_p rfl rfl ?_
                        exact ihn194 ((1001 - z267.toInt).toNat) (by omega) y187 z267 (some (.int z211)) (some (.int z212)) (w191) (w192) h193 rfl (by omega) (by omega) (by omega) (by omega) rfl rfl kw192 qx1h193 Jh193
                    · exfalso; omega
                · clear c247
                  refine hq_p rfl rfl ?_
                  refine hq_p rfl rfl (ty_ge (n := 5) nk_i5 (fun z268 ez268 => ?_))
                  refine ty_ine rfl (fun c269 => ?_) (fun c269 => ?_)
                  · clear c269
                    refine hq_p rfl rfl ?_
                    refine hq_p rfl rfl (ty_ge (n := 1) nk_i1 (fun z270 ez270 => ?_))
                    refine ty_ile rfl (fun c271 => ?_) (fun c271 => ?_)
                    · refine ty_inc (ls' := fun z272 => [some (.ref (t0 + 1)), some (.ref x1), some (.int x2), some (.ref (t0 + 3)), some (.int y187), some (.int z272), some (.int z211), some (.int z212), w191, w192]) rfl rfl (fun _ => rfl) (nm_addc nk_i1 (by omega) (by omega)) (fun z272 ez272 => ?_)
                      refine hq_p rfl rfl ?_
                      exact ihn194 ((1001 - z272.toInt).toNat) (by omega) y187 z272 (some (.int z211)) (some (.int z212)) (w191) (w192) h193 rfl (by omega) (by omega) (by omega) (by omega) rfl rfl kw192 qx1h193 Jh193
                    · refine hq_p rfl rfl ?_
                      refine hq_p rfl rfl ?_
                      refine hq_gR Ih193.1 rfl (ty_rus1 ht0) (by omega) (by decide) rfl ?_
                      refine hq_p rfl rfl ?_
                      refine hq_p rfl rfl (ty_ge (n := 2) nk_i2 (fun z273 ez273 => ?_))
                      refine hq_p rfl rfl (ty_ge (n := y187.toInt - z273.toInt) (nm_sub (by omega) (by omega)) (fun z274 ez274 => ?_))
                      refine ty_lL Ih193 rfl (ty_rus2 ht0) (by omega) (by omega) (by omega) (fun z275 ez275 az275 bz275 => ?_)
                      refine hq_p rfl rfl ?_
                      refine hq_gR Ih193.1 rfl (ty_rus1 ht0) (by omega) (by decide) rfl ?_
                      refine hq_p rfl rfl ?_
                      refine hq_p rfl rfl (ty_ge (n := 1) nk_i1 (fun z276 ez276 => ?_))
                      refine hq_p rfl rfl (ty_ge (n := y187.toInt - z276.toInt) (nm_sub (by omega) (by omega)) (fun z277 ez277 => ?_))
                      refine ty_lL Ih193 rfl (ty_rus2 ht0) (by omega) (by omega) (by omega) (fun z278 ez278 az278 bz278 => ?_)
                      refine ty_callp 1 Ih193 rfl (fun _ => rfl) rfl rfl rfl rfl (ct_59 (x0 := z211) (x1 := z275) (x2 := z278) (by omega)) (fun _ P279 => ?_)
                      obtain ⟨z280, rfl⟩ := P279
                      refine hq_p (ls' := [some (.ref (t0 + 1)), some (.ref x1), some (.int x2), some (.ref (t0 + 3)), some (.int y187), some (.int y188), some (.int z211), some (.int z212), some (.long z280), none]) rfl rfl ?_
                      refine hq_p rfl rfl ?_
                      refine hq_p rfl rfl (ty_gle (n := 1000000000) (by decide) (fun z281 ez281 => ?_))
                      refine hq_p rfl rfl (ty_gc (fun z282 ez282 => ?_))
                      refine ty_zgt rfl (fun c283 => ?_) (fun c283 => ?_)
                      · replace ez282 : z280.toInt > z281.toInt := by omega
                        clear c283
                        refine hq_p rfl rfl (ty_ge (n := -2000000000) nk_dm2000000000 (fun z284 ez284 => ?_))
                        exact hq_W.ret rfl rfl rfl ⟨Jh193, _, rfl, by omega, by omega⟩
                      · replace ez282 : z280.toInt ≤ z281.toInt := by omega
                        clear c283
                        refine hq_p rfl rfl ?_
                        refine hq_p rfl rfl (ty_gle (n := -1000000000) (by decide) (fun z285 ez285 => ?_))
                        refine hq_p rfl rfl (ty_gc (fun z286 ez286 => ?_))
                        refine ty_zge rfl (fun c287 => ?_) (fun c287 => ?_)
                        · replace ez286 : z280.toInt ≥ z285.toInt := by omega
                          clear c287
                          refine ty_inc (ls' := fun z288 => [some (.ref (t0 + 1)), some (.ref x1), some (.int x2), some (.ref (t0 + 3)), some (.int z288), some (.int y188), some (.int z211), some (.int z212), some (.long z280), none]) rfl rfl (fun _ => rfl) (nm_addc nk_im1 (by omega) (by omega)) (fun z288 ez288 => ?_)
                          refine hq_p rfl rfl ?_
                          refine hq_gR Ih193.1 rfl (ty_rus1 ht0) (by omega) (by decide) rfl ?_
                          refine hq_p rfl rfl ?_
                          refine hq_p rfl rfl (ty_ge (n := 1) nk_i1 (fun z289 ez289 => ?_))
                          refine hq_p rfl rfl (ty_ge (n := z288.toInt - z289.toInt) (nm_sub (by omega) (by omega)) (fun z290 ez290 => ?_))
                          refine hq_p rfl rfl ?_
                          refine ty_lS (W := ty_Wu) H Jh193 rfl (ty_rus2 ht0) (by omega) (by omega) (by omega) (fun i e => by unfold ty_Wu; omega) (fun h291 eh291 Jh291 => ?_)
                          have Ih291 := H.1 h291 Jh291
                          have qx1h291 := ty_ty_s eh291 (by omega) qx1h193
                          refine ty_inc (ls' := fun z292 => [some (.ref (t0 + 1)), some (.ref x1), some (.int x2), some (.ref (t0 + 3)), some (.int z288), some (.int z292), some (.int z211), some (.int z212), some (.long z280), none]) rfl rfl (fun _ => rfl) (nm_addc nk_i1 (by omega) (by omega)) (fun z292 ez292 => ?_)
                          refine hq_p rfl rfl ?_
                          exact ihn194 ((1001 - z292.toInt).toNat) (by omega) z288 z292 (some (.int z211)) (some (.int z212)) (some (.long z280)) none h291 rfl (by omega) (by omega) (by omega) (by omega) rfl rfl rfl qx1h291 Jh291
                        · replace ez286 : z280.toInt < z285.toInt := by omega
                          clear c287
                          refine hq_p rfl rfl (ty_ge (n := -2000000000) nk_dm2000000000 (fun z293 ez293 => ?_))
                          exact hq_W.ret rfl rfl rfl ⟨Jh193, _, rfl, by omega, by omega⟩
                  · refine hq_p rfl rfl ?_
                    refine ty_zle rfl (fun c294 => ?_) (fun c294 => ?_)
                    · refine hq_p rfl rfl ?_
                      refine hq_p rfl rfl (ty_ge (n := 1) nk_i1 (fun z295 ez295 => ?_))
                      refine ty_ile rfl (fun c296 => ?_) (fun c296 => ?_)
                      · refine ty_inc (ls' := fun z297 => [some (.ref (t0 + 1)), some (.ref x1), some (.int x2), some (.ref (t0 + 3)), some (.int y187), some (.int z297), some (.int z211), some (.int z212), w191, w192]) rfl rfl (fun _ => rfl) (nm_addc nk_i1 (by omega) (by omega)) (fun z297 ez297 => ?_)
                        refine hq_p rfl rfl ?_
                        exact ihn194 ((1001 - z297.toInt).toNat) (by omega) y187 z297 (some (.int z211)) (some (.int z212)) (w191) (w192) h193 rfl (by omega) (by omega) (by omega) (by omega) rfl rfl kw192 qx1h193 Jh193
                      · exfalso; omega
                    · refine hq_p rfl rfl ?_
                      refine hq_gR Ih193.1 rfl (ty_rus1 ht0) (by omega) (by decide) rfl ?_
                      refine hq_p rfl rfl ?_
                      refine hq_p rfl rfl (ty_ge (n := 1) nk_i1 (fun z298 ez298 => ?_))
                      refine hq_p rfl rfl (ty_ge (n := y187.toInt - z298.toInt) (nm_sub (by omega) (by omega)) (fun z299 ez299 => ?_))
                      refine ty_lL Ih193 rfl (ty_rus2 ht0) (by omega) (by omega) (by omega) (fun z300 ez300 az300 bz300 => ?_)
                      refine hq_p rfl rfl ?_
                      refine hq_p rfl rfl (ty_ge (n := 5) nk_i5 (fun z301 ez301 => ?_))
                      refine ty_ine rfl (fun c302 => ?_) (fun c302 => ?_)
                      · exfalso; omega
                      · refine hq_p rfl rfl (ty_ge (n := 1) nk_i1 (fun z303 ez303 => ?_))
                        refine hq_p rfl rfl ?_
                        refine hq_p rfl rfl (ty_gle (n := z303.toInt) (nm_i2l _) (fun z304 ez304 => ?_))
                        refine hq_p rfl rfl (ty_gc (fun z305 ez305 => ?_))
                        refine ty_zne rfl (fun c306 => ?_) (fun c306 => ?_)
                        · clear ez305 c306
                          refine ty_inc (ls' := fun z307 => [some (.ref (t0 + 1)), some (.ref x1), some (.int x2), some (.ref (t0 + 3)), some (.int z307), some (.int y188), some (.int z211), some (.int z212), w191, w192]) rfl rfl (fun _ => rfl) (nm_addc nk_im1 (by omega) (by omega)) (fun z307 ez307 => ?_)
                          refine hq_p rfl rfl ?_
                          refine ty_inc (ls' := fun z308 => [some (.ref (t0 + 1)), some (.ref x1), some (.int x2), some (.ref (t0 + 3)), some (.int z307), some (.int z308), some (.int z211), some (.int z212), w191, w192]) rfl rfl (fun _ => rfl) (nm_addc nk_i1 (by omega) (by omega)) (fun z308 ez308 => ?_)
                          refine hq_p rfl rfl ?_
                          exact ihn194 ((1001 - z308.toInt).toNat) (by omega) z307 z308 (some (.int z211)) (some (.int z212)) (w191) (w192) h193 rfl (by omega) (by omega) (by omega) (by omega) rfl rfl kw192 qx1h193 Jh193
                        · replace ez305 : z300.toInt = z304.toInt := by omega
                          clear c306
                          refine hq_p rfl rfl ?_
                          refine hq_p rfl rfl ?_
                          refine hq_p rfl rfl (ty_ge (n := 1) nk_i1 (fun z309 ez309 => ?_))
                          refine hq_p rfl rfl (ty_ge (n := z212.toInt - z309.toInt) (nm_sub (by omega) (by omega)) (fun z310 ez310 => ?_))
                          refine ty_callp 1 Ih193 rfl (fun _ => rfl) rfl rfl rfl rfl (ct_258 (x0 := y188) (x1 := z310) (by omega)) (fun _ P311 => ?_)
                          obtain ⟨z312, rfl, fz312, dz312, oz312⟩ := P311
                          have iz312 : 0 ≤ z312.toInt ∧ z312.toInt ≤ 999 := by omega
                          clear oz312
                          refine hq_p (ls' := [some (.ref (t0 + 1)), some (.ref x1), some (.int x2), some (.ref (t0 + 3)), some (.int y187), some (.int z312), some (.int z211), some (.int z212), w191, w192]) rfl rfl ?_
                          refine hq_p rfl rfl ?_
                          refine ty_inc (ls' := fun z313 => [some (.ref (t0 + 1)), some (.ref x1), some (.int x2), some (.ref (t0 + 3)), some (.int y187), some (.int z313), some (.int z211), some (.int z212), w191, w192]) rfl rfl (fun _ => rfl) (nm_addc nk_i1 (by omega) (by omega)) (fun z313 ez313 => ?_)
                          refine hq_p rfl rfl ?_
                          exact ihn194 ((1001 - z313.toInt).toNat) (by omega) y187 z313 (some (.int z211)) (some (.int z212)) (w191) (w192) h193 rfl (by omega) (by omega) (by omega) (by omega) rfl rfl kw192 qx1h193 Jh193
              · refine hq_p rfl rfl ?_
                refine ty_zle rfl (fun c314 => ?_) (fun c314 => ?_)
                · refine hq_p rfl rfl ?_
                  refine hq_p rfl rfl (ty_ge (n := 4) nk_i4 (fun z315 ez315 => ?_))
                  refine ty_ieq rfl (fun c316 => ?_) (fun c316 => ?_)
                  · exfalso; omega
                  · clear c316
                    refine hq_p rfl rfl ?_
                    refine hq_p rfl rfl (ty_ge (n := 5) nk_i5 (fun z317 ez317 => ?_))
                    refine ty_ine rfl (fun c318 => ?_) (fun c318 => ?_)
                    · clear c318
                      refine hq_p rfl rfl ?_
                      refine hq_p rfl rfl (ty_ge (n := 1) nk_i1 (fun z319 ez319 => ?_))
                      refine ty_ile rfl (fun c320 => ?_) (fun c320 => ?_)
                      · refine ty_inc (ls' := fun z321 => [some (.ref (t0 + 1)), some (.ref x1), some (.int x2), some (.ref (t0 + 3)), some (.int y187), some (.int z321), some (.int z211), some (.int z212), w191, w192]) rfl rfl (fun _ => rfl) (nm_addc nk_i1 (by omega) (by omega)) (fun z321 ez321 => ?_)
                        refine hq_p rfl rfl ?_
                        exact ihn194 ((1001 - z321.toInt).toNat) (by omega) y187 z321 (some (.int z211)) (some (.int z212)) (w191) (w192) h193 rfl (by omega) (by omega) (by omega) (by omega) rfl rfl kw192 qx1h193 Jh193
                      · exfalso; omega
                    · exfalso; omega
                · refine hq_p rfl rfl ?_
                  refine hq_gR Ih193.1 rfl (ty_rus1 ht0) (by omega) (by decide) rfl ?_
                  refine hq_p rfl rfl ?_
                  refine hq_p rfl rfl (ty_ge (n := 1) nk_i1 (fun z322 ez322 => ?_))
                  refine hq_p rfl rfl (ty_ge (n := y187.toInt - z322.toInt) (nm_sub (by omega) (by omega)) (fun z323 ez323 => ?_))
                  refine hq_p rfl rfl (ty_gle (n := 1) (by decide) (fun z324 ez324 => ?_))
                  refine hq_p rfl rfl ?_
                  refine hq_gR Ih193.1 rfl (ty_rus1 ht0) (by omega) (by decide) rfl ?_
                  refine hq_p rfl rfl ?_
                  refine hq_p rfl rfl (ty_ge (n := 1) nk_i1 (fun z325 ez325 => ?_))
                  refine hq_p rfl rfl (ty_ge (n := y187.toInt - z325.toInt) (nm_sub (by omega) (by omega)) (fun z326 ez326 => ?_))
                  refine ty_lL Ih193 rfl (ty_rus2 ht0) (by omega) (by omega) (by omega) (fun z327 ez327 az327 bz327 => ?_)
                  refine hq_p rfl rfl (ty_gla (fun z328 az328 bz328 => ?_))
                  refine ty_lS (W := ty_Wu) H Jh193 rfl (ty_rus2 ht0) (by omega) (by omega) (by omega) (fun i e => by unfold ty_Wu; omega) (fun h329 eh329 Jh329 => ?_)
                  have Ih329 := H.1 h329 Jh329
                  have qx1h329 := ty_ty_s eh329 (by omega) qx1h193
                  refine hq_p rfl rfl ?_
                  refine ty_inc (ls' := fun z330 => [some (.ref (t0 + 1)), some (.ref x1), some (.int x2), some (.ref (t0 + 3)), some (.int y187), some (.int z330), some (.int z211), some (.int z212), w191, w192]) rfl rfl (fun _ => rfl) (nm_addc nk_i1 (by omega) (by omega)) (fun z330 ez330 => ?_)
                  refine hq_p rfl rfl ?_
                  exact ihn194 ((1001 - z330.toInt).toNat) (by omega) y187 z330 (some (.int z211)) (some (.int z212)) (w191) (w192) h329 rfl (by omega) (by omega) (by omega) (by omega) rfl rfl kw192 qx1h329 Jh329
            · refine hq_p rfl rfl ?_
              refine ty_zlt rfl (fun c331 => ?_) (fun c331 => ?_)
              · exfalso; omega
              · refine hq_p rfl rfl ?_
                refine hq_p rfl rfl ?_
                refine hq_alen rfl (hs_iarr Ih193.1 (ty_rus3 ht0) (by omega)) rfl (ty_ge (c := Int32.ofNat 10) (n := 10) (by decide) (fun z332 ez332 => ?_))
                refine ty_ige rfl (fun c333 => ?_) (fun c333 => ?_)
                · refine hq_p rfl rfl (ty_ge (n := 0) nk_i0 (fun z334 ez334 => ?_))
                  refine hq_p (ls' := [some (.ref (t0 + 1)), some (.ref x1), some (.int x2), some (.ref (t0 + 3)), some (.int y187), some (.int y188), some (.int z211), some (.int z212), some (.int z334), w192]) rfl rfl ?_
                  refine hq_p rfl rfl ?_
                  refine hq_p rfl rfl ?_
                  refine hq_gR Ih193.1 rfl (ty_rus1 ht0) (by omega) (by decide) rfl ?_
                  refine hq_alen rfl (hs_larr Ih193.1 (ty_rus2 ht0) (by omega)) rfl (ty_ge (c := Int32.ofNat 51) (n := 51) (by decide) (fun z335 ez335 => ?_))
                  refine ty_ige rfl (fun c336 => ?_) (fun c336 => ?_)
                  · refine hq_p rfl rfl (ty_ge (n := -2000000000) nk_dm2000000000 (fun z337 ez337 => ?_))
                    exact hq_W.ret rfl rfl rfl ⟨Jh193, _, rfl, by omega, by omega⟩
                  · refine hq_p rfl rfl ?_
                    refine hq_p rfl rfl (ty_ge (n := 2) nk_i2 (fun z338 ez338 => ?_))
                    refine ty_ine rfl (fun c339 => ?_) (fun c339 => ?_)
                    · exfalso; omega
                    · refine hq_p rfl rfl ?_
                      refine ty_zne rfl (fun c340 => ?_) (fun c340 => ?_)
                      · exfalso; omega
                      · refine hq_p rfl rfl (ty_ge (n := -2000000000) nk_dm2000000000 (fun z341 ez341 => ?_))
                        exact hq_W.ret rfl rfl rfl ⟨Jh193, _, rfl, by omega, by omega⟩
                · refine hq_p rfl rfl (ty_ge (n := 1) nk_i1 (fun z342 ez342 => ?_))
                  refine hq_p rfl rfl ?_
                  refine hq_p (ls' := [some (.ref (t0 + 1)), some (.ref x1), some (.int x2), some (.ref (t0 + 3)), some (.int y187), some (.int y188), some (.int z211), some (.int z212), some (.int z342), w192]) rfl rfl ?_
                  refine hq_p rfl rfl ?_
                  refine hq_p rfl rfl ?_
                  refine hq_gR Ih193.1 rfl (ty_rus1 ht0) (by omega) (by decide) rfl ?_
                  refine hq_alen rfl (hs_larr Ih193.1 (ty_rus2 ht0) (by omega)) rfl (ty_ge (c := Int32.ofNat 51) (n := 51) (by decide) (fun z343 ez343 => ?_))
                  refine ty_ige rfl (fun c344 => ?_) (fun c344 => ?_)
                  · refine hq_p rfl rfl (ty_ge (n := -2000000000) nk_dm2000000000 (fun z345 ez345 => ?_))
                    exact hq_W.ret rfl rfl rfl ⟨Jh193, _, rfl, by omega, by omega⟩
                  · refine hq_p rfl rfl ?_
                    refine hq_p rfl rfl (ty_ge (n := 2) nk_i2 (fun z346 ez346 => ?_))
                    refine ty_ine rfl (fun c347 => ?_) (fun c347 => ?_)
                    · exfalso; omega
                    · refine hq_p rfl rfl ?_
                      refine ty_zne rfl (fun c348 => ?_) (fun c348 => ?_)
                      · clear c348
                        refine hq_p rfl rfl ?_
                        refine hq_gR Ih193.1 rfl (ty_rus1 ht0) (by omega) (by decide) rfl ?_
                        refine hq_p rfl rfl ?_
                        refine hq_p rfl rfl ?_
                        refine hq_p rfl rfl (ty_ge (n := 1) nk_i1 (fun z349 ez349 => ?_))
                        refine ty_ine rfl (fun c350 => ?_) (fun c350 => ?_)
                        · clear c350
                          refine hq_p rfl rfl ?_
                          refine hq_p rfl rfl ?_
                          refine ty_aL Ih193 rfl (ty_rus3 ht0) (by omega) (by omega) (by omega) (fun i _ => ty_le (ty_rua3 ht0 i)) (fun z351 ez351 az351 bz351 => ?_)
                          refine hq_p rfl rfl (ty_gle (n := z351.toInt) (nm_i2l _) (fun z352 ez352 => ?_))
                          refine ty_lS (W := ty_Wu) H Jh193 rfl (ty_rus2 ht0) (by omega) (by omega) (by omega) (fun i e => by unfold ty_Wu; omega) (fun h353 eh353 Jh353 => ?_)
                          have Ih353 := H.1 h353 Jh353
                          have qx1h353 := ty_ty_s eh353 (by omega) qx1h193
                          refine ty_inc (ls' := fun z354 => [some (.ref (t0 + 1)), some (.ref x1), some (.int x2), some (.ref (t0 + 3)), some (.int z354), some (.int y188), some (.int z211), some (.int z212), some (.int z342), w192]) rfl rfl (fun _ => rfl) (nm_addc nk_i1 (by omega) (by omega)) (fun z354 ez354 => ?_)
                          refine hq_p rfl rfl ?_
                          refine ty_inc (ls' := fun z355 => [some (.ref (t0 + 1)), some (.ref x1), some (.int x2), some (.ref (t0 + 3)), some (.int z354), some (.int z355), some (.int z211), some (.int z212), some (.int z342), w192]) rfl rfl (fun _ => rfl) (nm_addc nk_i1 (by omega) (by omega)) (fun z355 ez355 => ?_)
                          refine hq_p rfl rfl ?_
                          exact ihn194 ((1001 - z355.toInt).toNat) (by omega) z354 z355 (some (.int z211)) (some (.int z212)) (some (.int z342)) (w192) h353 rfl (by omega) (by omega) (by omega) (by omega) rfl rfl kw192 qx1h353 Jh353
                        · exfalso; omega
                      · exfalso; omega
  exact L10_n194 _ z1 z4 none none none none h rfl (by omega) (by omega) (by omega) (by omega) rfl rfl rfl qx1 hJ
theorem ct_72 {X : pm_X} {d : Nat} {h : pm_H} {t0 : Nat} (hd : 2 ≤ d) (ht0 : ty_tr t0) : ty_M X ty_W0 d 72 [.ref t0] h (fun h1 v => ∃ w : Option Nat, v = some (va_rf w) ∧ ∀ x, w = some x → ty_tx h1 x) := by
  intro J H hJ
  obtain ⟨d, rfl⟩ : ∃ e, d = e + 1 := ⟨d - 1, by omega⟩
  have I := H.1 h hJ
  have lt0 := ty_trl ht0
  refine hq_M.enter (q := (⟨"TrainBearers$Train", "lawInForce", "()LTrainBearers$Text;"⟩, _, 1, some (.object "TrainBearers$Text"), 8, 1, pm_c72)) rfl rfl ?_
  show hq_W X d 8 false (some (.object "TrainBearers$Text")) pm_c72 (0, [some (.ref t0)], [], h) (fun h' v => J h' ∧ (fun h1 v => ∃ w : Option Nat, v = some (va_rf w) ∧ ∀ x, w = some x → ty_tx h1 x) h' v)
  refine hq_p rfl rfl ?_
  refine hq_p rfl rfl ?_
  refine ty_gI I rfl (ty_trs ht0) (by omega) (by decide) rfl (ty_trf ht0 16) (fun z1 ez1 az1 bz1 => ?_)
  refine ty_callp 0 I rfl (fun _ => rfl) rfl rfl rfl (hq_pre_o I.1 (x := t0) (ci := 8) (ty_trs ht0) (by omega) rfl rfl rfl rfl) (ct_71 (t0 := t0) (x1 := z1) (by omega) ht0) (fun _ P2 => ?_)
  obtain ⟨z3, rfl, az3, bz3, iz3⟩ := P2
  refine ty_zeq rfl (fun c4 => ?_) (fun c4 => ?_)
  · clear iz3
    refine hq_p rfl rfl ?_
    exact hq_W.ret rfl rfl rfl ⟨hJ, none, rfl, fun _ q => by cases q⟩
  · replace c4 : 1 ≤ z3.toInt ∧ z3.toInt ≤ 1 := by omega
    have f5 := iz3 (by omega)
    clear iz3
    refine hq_p rfl rfl ?_
    refine hq_gR I.1 rfl (ty_trs ht0) (by omega) (by decide) rfl ?_
    refine hq_p rfl rfl ?_
    refine ty_gI I rfl (ty_trs ht0) (by omega) (by decide) rfl (ty_trf ht0 16) (fun z6 ez6 az6 bz6 => ?_)
    refine ty_rL I ht0 rfl (by omega) (by omega) (fun v7 xv7 => ?_)
    refine hq_p rfl rfl ?_
    exact ty_rA rfl rfl ⟨hJ, v7, rfl, xv7⟩
theorem ct_51 {X : pm_X} {d : Nat} {h : pm_H} {t0 : Nat} {t1 : Nat} {x2 : Int32} (hd : 3 ≤ d) (ht0 : ty_ru t0) (ht1 : ty_tr t1) : ty_M X ty_Wu d 51 [.ref t0, .ref t1, .int x2] h (ty_pi (-2147483648) 2147483647) := by
  intro J H hJ
  obtain ⟨d, rfl⟩ : ∃ e, d = e + 1 := ⟨d - 1, by omega⟩
  have I := H.1 h hJ
  have lt0 := ty_rul ht0
  have lt1 := ty_trl ht1
  have ax2 := nm_lo x2
  have bx2 := nm_hi x2
  refine hq_M.enter (q := (⟨"TrainBearers$Rules", "tell", "(LTrainBearers$Train;I)I"⟩, _, 6, some .int, 4, 3, pm_c51)) rfl rfl ?_
  show hq_W X d 4 false (some .int) pm_c51 (0, [some (.ref t0), some (.ref t1), some (.int x2), none, none, none], [], h) (fun h' v => J h' ∧ (ty_pi (-2147483648) 2147483647) h' v)
  refine hq_p rfl rfl ?_
  refine ty_callp 0 I rfl (fun _ => rfl) rfl rfl rfl (hq_pre_o I.1 (x := t1) (ci := 8) (ty_trs ht1) (by omega) rfl rfl rfl rfl) (ct_72 (t0 := t1) (by omega) ht1) (fun _ P1 => ?_)
  obtain ⟨v2, rfl, xv2⟩ := P1
  rcases v2 with _ | x3
  · refine hq_p (ls' := [some (.ref t0), some (.ref t1), some (.int x2), some (.null), none, none]) rfl rfl ?_
    refine hq_p rfl rfl ?_
    refine hq_p rfl rfl ?_
    refine hq_p rfl rfl (ty_ge (n := -2000000000) nk_dm2000000000 (fun z4 ez4 => ?_))
    exact hq_W.ret rfl rfl rfl ⟨hJ, _, rfl, by omega, by omega⟩
  · obtain ⟨cx3, lx3, qx3⟩ := xv2 x3 rfl
    have c0x3 := qx3.2.2.1
    have c1x3 := qx3.2.2.2.1
    have l0x3 := qx3.2.2.2.2.1
    have l1x3 := qx3.2.2.2.2.2.1
    refine hq_p (ls' := [some (.ref t0), some (.ref t1), some (.int x2), some (.ref x3), none, none]) rfl rfl ?_
    refine hq_p rfl rfl ?_
    refine hq_p rfl rfl ?_
    refine hq_p rfl rfl ?_
    refine ty_xc qx3 rfl (fun z5 ez5 => ?_)
    refine hq_p rfl rfl (ty_ge (n := 1) nk_i1 (fun z6 ez6 => ?_))
    refine hq_p rfl rfl (ty_ge (n := z5.toInt - z6.toInt) (nm_sub (by omega) (by omega)) (fun z7 ez7 => ?_))
    refine hq_p (ls' := [some (.ref t0), some (.ref t1), some (.int x2), some (.ref x3), some (.int z7), none]) rfl rfl ?_
    have L20_n17 : ∀ n17 : Nat, ∀ (y11 : Int32) (w12 : Option Value) (h13 : pm_H), (y11.toInt - (-1)).toNat = n17 → -1 ≤ y11.toInt → y11.toInt ≤ 11 → pm_two w12 = false → y11.toInt < cx3.toInt → ty_ty h13 x3 cx3 lx3 → J h13 → hq_W X d 4 false (some .int) pm_c51 (20, [some (.ref t0), some (.ref t1), some (.int x2), some (.ref x3), some (.int y11), w12], [], h13) (fun h' v => J h' ∧ (ty_pi (-2147483648) 2147483647) h' v) := by
      intro n17
      induction n17 using Nat.strongRecOn with
      | ind n17 ihn17 =>
        intro y11 w12 h13 mn17 ay11 by11 kw12 x0n17 qx3h13 Jh13
        have Ih13 := H.1 h13 Jh13
        refine hq_p rfl rfl ?_
        refine ty_zlt rfl (fun c18 => ?_) (fun c18 => ?_)
        · refine hq_p rfl rfl (ty_ge (n := -2000000000) nk_dm2000000000 (fun z19 ez19 => ?_))
          exact hq_W.ret rfl rfl rfl ⟨Jh13, _, rfl, by omega, by omega⟩
        · refine hq_p rfl rfl ?_
          refine ty_xr (y := x3 + 1) qx3h13 rfl (by decide) (fun _ _ _ => rfl) ?_
          refine hq_p rfl rfl ?_
          refine ty_xa qx3h13 rfl (by omega) (by omega) (by omega) (by omega) (fun z20 az20 bz20 => ?_)
          refine hq_p rfl rfl ?_
          refine ty_ine rfl (fun c21 => ?_) (fun c21 => ?_)
          · clear c21
            refine ty_inc (ls' := fun z22 => [some (.ref t0), some (.ref t1), some (.int x2), some (.ref x3), some (.int z22), w12]) rfl rfl (fun _ => rfl) (nm_addc nk_im1 (by omega) (by omega)) (fun z22 ez22 => ?_)
            refine hq_p rfl rfl ?_
            exact ihn17 ((z22.toInt - (-1)).toNat) (by omega) z22 (w12) h13 rfl (by omega) (by omega) kw12 (by omega) qx3h13 Jh13
          · refine hq_p rfl rfl ?_
            refine ty_xr (y := x3 + 4) qx3h13 rfl (by decide) (fun _ _ _ => rfl) ?_
            refine hq_p rfl rfl ?_
            refine ty_xa qx3h13 rfl (by omega) (by omega) (by omega) (by omega) (fun z23 az23 bz23 => ?_)
            refine hq_p rfl rfl (ty_ge (n := -1) nk_im1 (fun z24 ez24 => ?_))
            refine ty_ieq rfl (fun c25 => ?_) (fun c25 => ?_)
            · refine hq_p rfl rfl ?_
              refine hq_p rfl rfl (ty_ge (n := 3) nk_i3 (fun z26 ez26 => ?_))
              refine ty_ine rfl (fun c27 => ?_) (fun c27 => ?_)
              · clear c27
                refine hq_p rfl rfl ?_
                refine hq_gR Ih13.1 rfl (ty_rus ht0) (by omega) (by decide) rfl ?_
                refine hq_p rfl rfl ?_
                refine hq_p rfl rfl ?_
                refine ty_xr (y := x3 + 2) qx3h13 rfl (by decide) (fun _ _ _ => rfl) ?_
                refine hq_p rfl rfl ?_
                refine ty_xa qx3h13 rfl (by omega) (by omega) (by omega) (by omega) (fun z28 az28 bz28 => ?_)
                refine hq_p rfl rfl ?_
                refine hq_gR Ih13.1 rfl (ty_rus ht0) (by omega) (by decide) rfl ?_
                refine ty_call 0 (W := ty_Wu) H Jh13 rfl (fun _ => rfl) rfl rfl rfl (hq_pre_o Ih13.1 (x := (t0 + 1)) (ci := 6) (ty_rus1 ht0) (by omega) rfl rfl rfl rfl) (fun _ _ w => w) (fun _ w => w) (ct_58b (t0 := t0) (x1 := x3) (cx1 := cx3) (lx1 := lx3) (x2 := z28) (by omega) ht0 qx3h13) (fun h30 _ Jh30 mh30 nh30 gh30 P29 => ?_)
                have Ih30 := H.1 h30 Jh30
                have qx3h30 := ty_ty_k mh30 gh30 qx3h13
                clear mh30 nh30 gh30
                obtain ⟨z31, rfl, az31, bz31⟩ := P29
                refine hq_p (ls' := [some (.ref t0), some (.ref t1), some (.int x2), some (.ref x3), some (.int y11), some (.int z31)]) rfl rfl ?_
                refine hq_p rfl rfl ?_
                refine hq_p rfl rfl (ty_ge (n := -2000000000) nk_dm2000000000 (fun z32 ez32 => ?_))
                refine ty_ieq rfl (fun c33 => ?_) (fun c33 => ?_)
                · refine ty_inc (ls' := fun z34 => [some (.ref t0), some (.ref t1), some (.int x2), some (.ref x3), some (.int z34), some (.int z31)]) rfl rfl (fun _ => rfl) (nm_addc nk_im1 (by omega) (by omega)) (fun z34 ez34 => ?_)
                  refine hq_p rfl rfl ?_
                  exact ihn17 ((z34.toInt - (-1)).toNat) (by omega) z34 (some (.int z31)) h30 rfl (by omega) (by omega) rfl (by omega) qx3h30 Jh30
                · clear c33
                  refine hq_p rfl rfl ?_
                  exact hq_W.ret rfl rfl rfl ⟨Jh30, _, rfl, by omega, by omega⟩
              · refine hq_p rfl rfl (ty_ge (n := 1) nk_i1 (fun z35 ez35 => ?_))
                refine hq_p rfl rfl ?_
                refine hq_p (ls' := [some (.ref t0), some (.ref t1), some (.int x2), some (.ref x3), some (.int y11), some (.int z35)]) rfl rfl ?_
                refine hq_p rfl rfl ?_
                refine hq_p rfl rfl (ty_ge (n := -2000000000) nk_dm2000000000 (fun z36 ez36 => ?_))
                refine ty_ieq rfl (fun c37 => ?_) (fun c37 => ?_)
                · exfalso; omega
                · clear c37
                  refine hq_p rfl rfl ?_
                  exact hq_W.ret rfl rfl rfl ⟨Jh13, _, rfl, by omega, by omega⟩
            · clear c25
              refine hq_p rfl rfl ?_
              refine hq_gR Ih13.1 rfl (ty_rus ht0) (by omega) (by decide) rfl ?_
              refine hq_p rfl rfl ?_
              refine hq_p rfl rfl ?_
              refine ty_xr (y := x3 + 4) qx3h13 rfl (by decide) (fun _ _ _ => rfl) ?_
              refine hq_p rfl rfl ?_
              refine ty_xa qx3h13 rfl (by omega) (by omega) (by omega) (by omega) (fun z38 az38 bz38 => ?_)
              refine hq_p rfl rfl ?_
              refine hq_gR Ih13.1 rfl (ty_rus ht0) (by omega) (by decide) rfl ?_
              refine ty_call 0 (W := ty_Wu) H Jh13 rfl (fun _ => rfl) rfl rfl rfl (hq_pre_o Ih13.1 (x := (t0 + 1)) (ci := 6) (ty_rus1 ht0) (by omega) rfl rfl rfl rfl) (fun _ _ w => w) (fun _ w => w) (ct_58b (t0 := t0) (x1 := x3) (cx1 := cx3) (lx1 := lx3) (x2 := z38) (by omega) ht0 qx3h13) (fun h40 _ Jh40 mh40 nh40 gh40 P39 => ?_)
              have Ih40 := H.1 h40 Jh40
              have qx3h40 := ty_ty_k mh40 gh40 qx3h13
              clear mh40 nh40 gh40
              obtain ⟨z41, rfl, az41, bz41⟩ := P39
              refine hq_p rfl rfl (ty_ge (n := 1) nk_i1 (fun z42 ez42 => ?_))
              refine ty_ine rfl (fun c43 => ?_) (fun c43 => ?_)
              · clear c43
                refine ty_inc (ls' := fun z44 => [some (.ref t0), some (.ref t1), some (.int x2), some (.ref x3), some (.int z44), w12]) rfl rfl (fun _ => rfl) (nm_addc nk_im1 (by omega) (by omega)) (fun z44 ez44 => ?_)
                refine hq_p rfl rfl ?_
                exact ihn17 ((z44.toInt - (-1)).toNat) (by omega) z44 (w12) h40 rfl (by omega) (by omega) kw12 (by omega) qx3h40 Jh40
              · refine hq_p rfl rfl ?_
                refine hq_p rfl rfl (ty_ge (n := 3) nk_i3 (fun z45 ez45 => ?_))
                refine ty_ine rfl (fun c46 => ?_) (fun c46 => ?_)
                · clear c46
                  refine hq_p rfl rfl ?_
                  refine hq_gR Ih40.1 rfl (ty_rus ht0) (by omega) (by decide) rfl ?_
                  refine hq_p rfl rfl ?_
                  refine hq_p rfl rfl ?_
                  refine ty_xr (y := x3 + 2) qx3h40 rfl (by decide) (fun _ _ _ => rfl) ?_
                  refine hq_p rfl rfl ?_
                  refine ty_xa qx3h40 rfl (by omega) (by omega) (by omega) (by omega) (fun z47 az47 bz47 => ?_)
                  refine hq_p rfl rfl ?_
                  refine hq_gR Ih40.1 rfl (ty_rus ht0) (by omega) (by decide) rfl ?_
                  refine ty_call 0 (W := ty_Wu) H Jh40 rfl (fun _ => rfl) rfl rfl rfl (hq_pre_o Ih40.1 (x := (t0 + 1)) (ci := 6) (ty_rus1 ht0) (by omega) rfl rfl rfl rfl) (fun _ _ w => w) (fun _ w => w) (ct_58b (t0 := t0) (x1 := x3) (cx1 := cx3) (lx1 := lx3) (x2 := z47) (by omega) ht0 qx3h40) (fun h49 _ Jh49 mh49 nh49 gh49 P48 => ?_)
                  have Ih49 := H.1 h49 Jh49
                  have qx3h49 := ty_ty_k mh49 gh49 qx3h40
                  clear mh49 nh49 gh49
                  obtain ⟨z50, rfl, az50, bz50⟩ := P48
                  refine hq_p (ls' := [some (.ref t0), some (.ref t1), some (.int x2), some (.ref x3), some (.int y11), some (.int z50)]) rfl rfl ?_
                  refine hq_p rfl rfl ?_
                  refine hq_p rfl rfl (ty_ge (n := -2000000000) nk_dm2000000000 (fun z51 ez51 => ?_))
                  refine ty_ieq rfl (fun c52 => ?_) (fun c52 => ?_)
                  · refine ty_inc (ls' := fun z53 => [some (.ref t0), some (.ref t1), some (.int x2), some (.ref x3), some (.int z53), some (.int z50)]) rfl rfl (fun _ => rfl) (nm_addc nk_im1 (by omega) (by omega)) (fun z53 ez53 => ?_)
                    refine hq_p rfl rfl ?_
                    exact ihn17 ((z53.toInt - (-1)).toNat) (by omega) z53 (some (.int z50)) h49 rfl (by omega) (by omega) rfl (by omega) qx3h49 Jh49
                  · clear c52
                    refine hq_p rfl rfl ?_
                    exact hq_W.ret rfl rfl rfl ⟨Jh49, _, rfl, by omega, by omega⟩
                · refine hq_p rfl rfl (ty_ge (n := 1) nk_i1 (fun z54 ez54 => ?_))
                  refine hq_p rfl rfl ?_
                  refine hq_p (ls' := [some (.ref t0), some (.ref t1), some (.int x2), some (.ref x3), some (.int y11), some (.int z54)]) rfl rfl ?_
                  refine hq_p rfl rfl ?_
                  refine hq_p rfl rfl (ty_ge (n := -2000000000) nk_dm2000000000 (fun z55 ez55 => ?_))
                  refine ty_ieq rfl (fun c56 => ?_) (fun c56 => ?_)
                  · exfalso; omega
                  · clear c56
                    refine hq_p rfl rfl ?_
                    exact hq_W.ret rfl rfl rfl ⟨Jh40, _, rfl, by omega, by omega⟩
    exact L20_n17 _ z7 none h rfl (by omega) (by omega) rfl (by omega) qx3 hJ
theorem ct_44 {X : pm_X} {d : Nat} {h : pm_H} {t0 : Nat} {t1 : Nat} {x2 : Int32} {x3 : Int32} (hd : 4 ≤ d) (ht0 : ty_ru t0) (ht1 : ty_tr t1) : ty_M X ty_Wu d 44 [.ref t0, .ref t1, .int x2, .int x3] h (ty_pi 0 2147483647) := by
  intro J H hJ
  obtain ⟨d, rfl⟩ : ∃ e, d = e + 1 := ⟨d - 1, by omega⟩
  have I := H.1 h hJ
  have lt0 := ty_rul ht0
  have lt1 := ty_trl ht1
  have ax2 := nm_lo x2
  have bx2 := nm_hi x2
  have ax3 := nm_lo x3
  have bx3 := nm_hi x3
  refine hq_M.enter (q := (⟨"TrainBearers$Rules", "lifts", "(LTrainBearers$Train;II)I"⟩, _, 5, some .int, 4, 4, pm_c44)) rfl rfl ?_
  show hq_W X d 4 false (some .int) pm_c44 (0, [some (.ref t0), some (.ref t1), some (.int x2), some (.int x3), none], [], h) (fun h' v => J h' ∧ (ty_pi 0 2147483647) h' v)
  refine hq_p rfl rfl ?_
  refine hq_p rfl rfl ?_
  refine hq_p rfl rfl ?_
  refine hq_p rfl rfl ?_
  refine hq_p rfl rfl (ty_ge (n := -1) nk_im1 (fun z1 ez1 => ?_))
  refine hq_p rfl rfl (ty_ge (n := -1) nk_im1 (fun z2 ez2 => ?_))
  refine ty_callj 0 (W := ty_Wu) H hJ rfl (fun _ => rfl) rfl rfl rfl (hq_pre_o I.1 (x := t0) (ci := 4) (ty_rus ht0) (by omega) rfl rfl rfl rfl) (fun _ _ w => w) (fun _ w => w) (ct_50 (t0 := t0) (t1 := t1) (x2 := x2) (x3 := x3) (x4 := z1) (x5 := z2) (by omega) ht0 ht1) (fun h4 _ Jh4 P3 => ?_)
  have Ih4 := H.1 h4 Jh4
  subst P3
  refine hq_p rfl rfl ?_
  refine hq_p rfl rfl ?_
  refine hq_p rfl rfl (ty_ge (n := 0) nk_i0 (fun z5 ez5 => ?_))
  refine ty_callj 0 (W := ty_Wu) H Jh4 rfl (fun _ => rfl) rfl rfl rfl (hq_pre_o Ih4.1 (x := t0) (ci := 4) (ty_rus ht0) (by omega) rfl rfl rfl rfl) (fun _ _ w => w) (fun _ w => w) (ct_51 (t0 := t0) (t1 := t1) (x2 := z5) (by omega) ht0 ht1) (fun h7 _ Jh7 P6 => ?_)
  have Ih7 := H.1 h7 Jh7
  obtain ⟨z8, rfl, az8, bz8⟩ := P6
  refine hq_p (ls' := [some (.ref t0), some (.ref t1), some (.int x2), some (.int x3), some (.int z8)]) rfl rfl ?_
  refine hq_p rfl rfl ?_
  refine hq_p rfl rfl (ty_ge (n := -2000000000) nk_dm2000000000 (fun z9 ez9 => ?_))
  refine ty_ieq rfl (fun c10 => ?_) (fun c10 => ?_)
  · refine hq_p rfl rfl ?_
    refine hq_p rfl rfl ?_
    refine ty_callp 0 Ih7 rfl (fun _ => rfl) rfl rfl rfl (hq_pre_o Ih7.1 (x := t1) (ci := 8) (ty_trs ht1) (by omega) rfl rfl rfl rfl) (ct_70 (t0 := t1) (x1 := x2) (by omega) ht1) (fun _ P11 => ?_)
    obtain ⟨z12, rfl, az12, bz12, iz12⟩ := P11
    refine ty_zeq rfl (fun c13 => ?_) (fun c13 => ?_)
    · clear iz12
      refine hq_p rfl rfl (ty_ge (n := 0) nk_i0 (fun z14 ez14 => ?_))
      exact hq_W.ret rfl rfl rfl ⟨Jh7, _, rfl, by omega, by omega⟩
    · replace c13 : 1 ≤ z12.toInt ∧ z12.toInt ≤ 1 := by omega
      have f15 := iz12 (by omega)
      clear iz12
      refine hq_p rfl rfl (ty_ge (n := 0) nk_i0 (fun z16 ez16 => ?_))
      refine hq_p rfl rfl ?_
      refine hq_gR Ih7.1 rfl (ty_trs ht1) (by omega) (by decide) rfl ?_
      refine hq_p rfl rfl ?_
      refine ty_aL Ih7 rfl (ty_trs3 ht1) (by omega) (by omega) (by omega) (fun i _ => ty_le (ty_tra3 ht1 i)) (fun z17 ez17 az17 bz17 => ?_)
      refine hq_p rfl rfl ?_
      refine hq_gR Ih7.1 rfl (ty_trs ht1) (by omega) (by decide) rfl ?_
      refine hq_p rfl rfl ?_
      refine ty_aL Ih7 rfl (ty_trs4 ht1) (by omega) (by omega) (by omega) (fun i _ => ty_le (ty_tra4 ht1 i)) (fun z18 ez18 az18 bz18 => ?_)
      refine hq_p rfl rfl (ty_ga (fun z19 az19 bz19 => ?_))
      refine ty_callp 1 Ih7 rfl (fun _ => rfl) rfl rfl rfl rfl (ct_258 (x0 := z16) (x1 := z19) (by omega)) (fun _ P20 => ?_)
      obtain ⟨z21, rfl, fz21, dz21, oz21⟩ := P20
      have iz21 : 0 ≤ z21.toInt ∧ z21.toInt ≤ 2147483647 := by omega
      clear oz21
      refine hq_p rfl rfl ?_
      exact hq_W.ret rfl rfl rfl ⟨Jh7, _, rfl, by omega, by omega⟩
  · clear c10
    refine hq_p rfl rfl ?_
    refine hq_p rfl rfl (ty_ge (n := 20) nk_b20 (fun z22 ez22 => ?_))
    refine ty_callp 1 Ih7 rfl (fun _ => rfl) rfl rfl rfl rfl (ct_130 (x0 := z8) (x1 := z22) (by omega) (by omega) (by omega)) (fun _ P23 => ?_)
    obtain ⟨z24, rfl, fz24⟩ := P23
    exact hq_W.ret rfl rfl rfl ⟨Jh7, _, rfl, by omega, by omega⟩
theorem ct_45 {X : pm_X} {d : Nat} {h : pm_H} {t0 : Nat} {t1 : Nat} {x2 : Int32} {x3 : Int32} (hd : 4 ≤ d) (ht0 : ty_ru t0) (ht1 : ty_tr t1) : ty_M X ty_Wu d 45 [.ref t0, .ref t1, .int x2, .int x3] h (ty_pi 0 1) := by
  intro J H hJ
  obtain ⟨d, rfl⟩ : ∃ e, d = e + 1 := ⟨d - 1, by omega⟩
  have I := H.1 h hJ
  have lt0 := ty_rul ht0
  have lt1 := ty_trl ht1
  have ax2 := nm_lo x2
  have bx2 := nm_hi x2
  have ax3 := nm_lo x3
  have bx3 := nm_hi x3
  refine hq_M.enter (q := (⟨"TrainBearers$Rules", "bars", "(LTrainBearers$Train;II)Z"⟩, _, 4, some .boolean, 4, 4, pm_c45)) rfl rfl ?_
  show hq_W X d 4 false (some .boolean) pm_c45 (0, [some (.ref t0), some (.ref t1), some (.int x2), some (.int x3)], [], h) (fun h' v => J h' ∧ (ty_pi 0 1) h' v)
  refine hq_p rfl rfl ?_
  refine hq_p rfl rfl ?_
  refine hq_p rfl rfl ?_
  refine hq_p rfl rfl ?_
  refine hq_p rfl rfl (ty_ge (n := -1) nk_im1 (fun z1 ez1 => ?_))
  refine hq_p rfl rfl (ty_ge (n := -1) nk_im1 (fun z2 ez2 => ?_))
  refine ty_callj 0 (W := ty_Wu) H hJ rfl (fun _ => rfl) rfl rfl rfl (hq_pre_o I.1 (x := t0) (ci := 4) (ty_rus ht0) (by omega) rfl rfl rfl rfl) (fun _ _ w => w) (fun _ w => w) (ct_50 (t0 := t0) (t1 := t1) (x2 := x2) (x3 := x3) (x4 := z1) (x5 := z2) (by omega) ht0 ht1) (fun h4 _ Jh4 P3 => ?_)
  have Ih4 := H.1 h4 Jh4
  subst P3
  refine hq_p rfl rfl ?_
  refine hq_p rfl rfl ?_
  refine hq_p rfl rfl (ty_ge (n := 3) nk_i3 (fun z5 ez5 => ?_))
  refine ty_callj 0 (W := ty_Wu) H Jh4 rfl (fun _ => rfl) rfl rfl rfl (hq_pre_o Ih4.1 (x := t0) (ci := 4) (ty_rus ht0) (by omega) rfl rfl rfl rfl) (fun _ _ w => w) (fun _ w => w) (ct_51 (t0 := t0) (t1 := t1) (x2 := z5) (by omega) ht0 ht1) (fun h7 _ Jh7 P6 => ?_)
  have Ih7 := H.1 h7 Jh7
  obtain ⟨z8, rfl, az8, bz8⟩ := P6
  refine hq_p rfl rfl (ty_ge (n := -2000000000) nk_dm2000000000 (fun z9 ez9 => ?_))
  refine ty_ieq rfl (fun c10 => ?_) (fun c10 => ?_)
  · refine hq_p rfl rfl (ty_ge (n := 0) nk_i0 (fun z11 ez11 => ?_))
    exact ty_rB rfl rfl (by omega) (by omega) ⟨Jh7, _, rfl, by omega, by omega⟩
  · clear c10
    refine hq_p rfl rfl (ty_ge (n := 1) nk_i1 (fun z12 ez12 => ?_))
    refine hq_p rfl rfl ?_
    exact ty_rB rfl rfl (by omega) (by omega) ⟨Jh7, _, rfl, by omega, by omega⟩
theorem ct_46 {X : pm_X} {d : Nat} {h : pm_H} {t0 : Nat} {t1 : Nat} {x2 : Int32} {x3 : Int32} {x4 : Int32} (hd : 4 ≤ d) (ht0 : ty_ru t0) (ht1 : ty_tr t1) : ty_M X ty_Wu d 46 [.ref t0, .ref t1, .int x2, .int x3, .int x4] h (ty_pi 0 9) := by
  intro J H hJ
  obtain ⟨d, rfl⟩ : ∃ e, d = e + 1 := ⟨d - 1, by omega⟩
  have I := H.1 h hJ
  have lt0 := ty_rul ht0
  have lt1 := ty_trl ht1
  have ax2 := nm_lo x2
  have bx2 := nm_hi x2
  have ax3 := nm_lo x3
  have bx3 := nm_hi x3
  have ax4 := nm_lo x4
  have bx4 := nm_hi x4
  refine hq_M.enter (q := (⟨"TrainBearers$Rules", "tires", "(LTrainBearers$Train;III)I"⟩, _, 6, some .int, 4, 5, pm_c46)) rfl rfl ?_
  show hq_W X d 4 false (some .int) pm_c46 (0, [some (.ref t0), some (.ref t1), some (.int x2), some (.int x3), some (.int x4), none], [], h) (fun h' v => J h' ∧ (ty_pi 0 9) h' v)
  refine hq_p rfl rfl ?_
  refine hq_p rfl rfl ?_
  refine hq_p rfl rfl ?_
  refine hq_p rfl rfl ?_
  refine hq_p rfl rfl (ty_ge (n := -1) nk_im1 (fun z1 ez1 => ?_))
  refine hq_p rfl rfl ?_
  refine ty_callj 0 (W := ty_Wu) H hJ rfl (fun _ => rfl) rfl rfl rfl (hq_pre_o I.1 (x := t0) (ci := 4) (ty_rus ht0) (by omega) rfl rfl rfl rfl) (fun _ _ w => w) (fun _ w => w) (ct_50 (t0 := t0) (t1 := t1) (x2 := x2) (x3 := x3) (x4 := z1) (x5 := x4) (by omega) ht0 ht1) (fun h3 _ Jh3 P2 => ?_)
  have Ih3 := H.1 h3 Jh3
  subst P2
  refine hq_p rfl rfl ?_
  refine hq_p rfl rfl ?_
  refine hq_p rfl rfl (ty_ge (n := 1) nk_i1 (fun z4 ez4 => ?_))
  refine ty_callj 0 (W := ty_Wu) H Jh3 rfl (fun _ => rfl) rfl rfl rfl (hq_pre_o Ih3.1 (x := t0) (ci := 4) (ty_rus ht0) (by omega) rfl rfl rfl rfl) (fun _ _ w => w) (fun _ w => w) (ct_51 (t0 := t0) (t1 := t1) (x2 := z4) (by omega) ht0 ht1) (fun h6 _ Jh6 P5 => ?_)
  have Ih6 := H.1 h6 Jh6
  obtain ⟨z7, rfl, az7, bz7⟩ := P5
  refine hq_p (ls' := [some (.ref t0), some (.ref t1), some (.int x2), some (.int x3), some (.int x4), some (.int z7)]) rfl rfl ?_
  refine hq_p rfl rfl ?_
  refine hq_p rfl rfl (ty_ge (n := -2000000000) nk_dm2000000000 (fun z8 ez8 => ?_))
  refine ty_ine rfl (fun c9 => ?_) (fun c9 => ?_)
  · clear c9
    refine hq_p rfl rfl ?_
    refine hq_p rfl rfl (ty_ge (n := 9) nk_b9 (fun z10 ez10 => ?_))
    refine ty_callp 1 Ih6 rfl (fun _ => rfl) rfl rfl rfl rfl (ct_130 (x0 := z7) (x1 := z10) (by omega) (by omega) (by omega)) (fun _ P11 => ?_)
    obtain ⟨z12, rfl, fz12⟩ := P11
    exact hq_W.ret rfl rfl rfl ⟨Jh6, _, rfl, by omega, by omega⟩
  · refine hq_p rfl rfl ?_
    refine hq_p rfl rfl (ty_ge (n := 1) nk_i1 (fun z13 ez13 => ?_))
    refine hq_p rfl rfl (ty_ga (fun z14 az14 bz14 => ?_))
    refine hq_p rfl rfl ?_
    refine hq_p rfl rfl (ty_ge (n := 9) nk_b9 (fun z15 ez15 => ?_))
    refine ty_callp 1 Ih6 rfl (fun _ => rfl) rfl rfl rfl rfl (ct_130 (x0 := z14) (x1 := z15) (by omega) (by omega) (by omega)) (fun _ P16 => ?_)
    obtain ⟨z17, rfl, fz17⟩ := P16
    exact hq_W.ret rfl rfl rfl ⟨Jh6, _, rfl, by omega, by omega⟩
theorem ct_47 {X : pm_X} {d : Nat} {h : pm_H} {t0 : Nat} {t1 : Nat} {x2 : Int32} {x3 : Int32} (hd : 4 ≤ d) (ht0 : ty_ru t0) (ht1 : ty_tr t1) : ty_M X ty_Wu d 47 [.ref t0, .ref t1, .int x2, .int x3] h (ty_pi 0 99) := by
  intro J H hJ
  obtain ⟨d, rfl⟩ : ∃ e, d = e + 1 := ⟨d - 1, by omega⟩
  have I := H.1 h hJ
  have lt0 := ty_rul ht0
  have lt1 := ty_trl ht1
  have ax2 := nm_lo x2
  have bx2 := nm_hi x2
  have ax3 := nm_lo x3
  have bx3 := nm_hi x3
  refine hq_M.enter (q := (⟨"TrainBearers$Rules", "brings", "(LTrainBearers$Train;II)I"⟩, _, 5, some .int, 4, 4, pm_c47)) rfl rfl ?_
  show hq_W X d 4 false (some .int) pm_c47 (0, [some (.ref t0), some (.ref t1), some (.int x2), some (.int x3), none], [], h) (fun h' v => J h' ∧ (ty_pi 0 99) h' v)
  refine hq_p rfl rfl ?_
  refine ty_zgt rfl (fun c1 => ?_) (fun c1 => ?_)
  · refine hq_p rfl rfl ?_
    refine hq_p rfl rfl ?_
    refine hq_p rfl rfl (ty_ge (n := -1) nk_im1 (fun z2 ez2 => ?_))
    refine hq_p rfl rfl ?_
    refine hq_p rfl rfl ?_
    refine hq_p rfl rfl (ty_ge (n := -1) nk_im1 (fun z3 ez3 => ?_))
    refine ty_callj 0 (W := ty_Wu) H hJ rfl (fun _ => rfl) rfl rfl rfl (hq_pre_o I.1 (x := t0) (ci := 4) (ty_rus ht0) (by omega) rfl rfl rfl rfl) (fun _ _ w => w) (fun _ w => w) (ct_50 (t0 := t0) (t1 := t1) (x2 := z2) (x3 := x2) (x4 := x3) (x5 := z3) (by omega) ht0 ht1) (fun h5 _ Jh5 P4 => ?_)
    have Ih5 := H.1 h5 Jh5
    subst P4
    refine hq_p rfl rfl ?_
    refine hq_p rfl rfl ?_
    refine hq_p rfl rfl (ty_ge (n := 2) nk_i2 (fun z6 ez6 => ?_))
    refine ty_callj 0 (W := ty_Wu) H Jh5 rfl (fun _ => rfl) rfl rfl rfl (hq_pre_o Ih5.1 (x := t0) (ci := 4) (ty_rus ht0) (by omega) rfl rfl rfl rfl) (fun _ _ w => w) (fun _ w => w) (ct_51 (t0 := t0) (t1 := t1) (x2 := z6) (by omega) ht0 ht1) (fun h8 _ Jh8 P7 => ?_)
    have Ih8 := H.1 h8 Jh8
    obtain ⟨z9, rfl, az9, bz9⟩ := P7
    refine hq_p (ls' := [some (.ref t0), some (.ref t1), some (.int x2), some (.int x3), some (.int z9)]) rfl rfl ?_
    refine hq_p rfl rfl ?_
    refine hq_p rfl rfl (ty_ge (n := -2000000000) nk_dm2000000000 (fun z10 ez10 => ?_))
    refine ty_ine rfl (fun c11 => ?_) (fun c11 => ?_)
    · clear c11
      refine hq_p rfl rfl ?_
      refine hq_p rfl rfl (ty_ge (n := 99) nk_b99 (fun z12 ez12 => ?_))
      refine ty_callp 1 Ih8 rfl (fun _ => rfl) rfl rfl rfl rfl (ct_130 (x0 := z9) (x1 := z12) (by omega) (by omega) (by omega)) (fun _ P13 => ?_)
      obtain ⟨z14, rfl, fz14⟩ := P13
      exact hq_W.ret rfl rfl rfl ⟨Jh8, _, rfl, by omega, by omega⟩
    · refine hq_p rfl rfl ?_
      refine hq_p rfl rfl ?_
      refine hq_p rfl rfl (ty_ge (n := 99) nk_b99 (fun z15 ez15 => ?_))
      refine ty_callp 1 Ih8 rfl (fun _ => rfl) rfl rfl rfl rfl (ct_130 (x0 := x3) (x1 := z15) (by omega) (by omega) (by omega)) (fun _ P16 => ?_)
      obtain ⟨z17, rfl, fz17⟩ := P16
      exact hq_W.ret rfl rfl rfl ⟨Jh8, _, rfl, by omega, by omega⟩
  · refine hq_p rfl rfl (ty_ge (n := 0) nk_i0 (fun z18 ez18 => ?_))
    exact hq_W.ret rfl rfl rfl ⟨hJ, _, rfl, by omega, by omega⟩
theorem ct_48 {X : pm_X} {d : Nat} {h : pm_H} {t0 : Nat} {t1 : Nat} {x2 : Int32} (hd : 5 ≤ d) (ht0 : ty_ru t0) (ht1 : ty_tr t1) : ty_M X ty_Wu d 48 [.ref t0, .ref t1, .int x2] h (ty_pi (-1) 2147483647) := by
  intro J H hJ
  obtain ⟨d, rfl⟩ : ∃ e, d = e + 1 := ⟨d - 1, by omega⟩
  have I := H.1 h hJ
  have lt0 := ty_rul ht0
  have lt1 := ty_trl ht1
  have ax2 := nm_lo x2
  have bx2 := nm_hi x2
  refine hq_M.enter (q := (⟨"TrainBearers$Rules", "dip", "(LTrainBearers$Train;I)I"⟩, _, 5, some .int, 4, 3, pm_c48)) rfl rfl ?_
  show hq_W X d 4 false (some .int) pm_c48 (0, [some (.ref t0), some (.ref t1), some (.int x2), none, none], [], h) (fun h' v => J h' ∧ (ty_pi (-1) 2147483647) h' v)
  refine hq_p rfl rfl ?_
  refine hq_p rfl rfl ?_
  refine ty_callp 0 I rfl (fun _ => rfl) rfl rfl rfl (hq_pre_o I.1 (x := t1) (ci := 8) (ty_trs ht1) (by omega) rfl rfl rfl rfl) (ct_69 (t0 := t1) (x1 := x2) (by omega) ht1) (fun _ P1 => ?_)
  obtain ⟨z2, rfl, az2, bz2, iz2⟩ := P1
  refine ty_zne rfl (fun c3 => ?_) (fun c3 => ?_)
  · replace c3 : 1 ≤ z2.toInt ∧ z2.toInt ≤ 1 := by omega
    have f4 := iz2 (by omega)
    clear iz2
    refine hq_p rfl rfl ?_
    refine hq_gR I.1 rfl (ty_trs ht1) (by omega) (by decide) rfl ?_
    refine hq_p rfl rfl ?_
    refine ty_aL I rfl (ty_trs1 ht1) (by omega) (by omega) (by omega) (fun i _ => ty_le (ty_tra1 ht1 i)) (fun z5 ez5 az5 bz5 => ?_)
    refine hq_p rfl rfl ?_
    refine hq_gR I.1 rfl (ty_trs ht1) (by omega) (by decide) rfl ?_
    refine hq_p rfl rfl ?_
    refine ty_aL I rfl (ty_trs2 ht1) (by omega) (by omega) (by omega) (fun i _ => ty_le (ty_tra2 ht1 i)) (fun z6 ez6 az6 bz6 => ?_)
    refine hq_p rfl rfl (ty_ga (fun z7 az7 bz7 => ?_))
    refine hq_p (ls' := [some (.ref t0), some (.ref t1), some (.int x2), some (.int z7), none]) rfl rfl ?_
    refine hq_p rfl rfl (ty_ge (n := 0) nk_i0 (fun z8 ez8 => ?_))
    refine hq_p (ls' := [some (.ref t0), some (.ref t1), some (.int x2), some (.int z7), some (.int z8)]) rfl rfl ?_
    have L27_n42 : ∀ n42 : Nat, ∀ (y36 : Int32) (y37 : Int32) (h38 : pm_H), (8 - y37.toInt).toNat = n42 → -2147483648 ≤ y36.toInt → y36.toInt ≤ 2147483647 → 0 ≤ y37.toInt → y37.toInt ≤ 8 → J h38 → hq_W X d 4 false (some .int) pm_c48 (27, [some (.ref t0), some (.ref t1), some (.int x2), some (.int y36), some (.int y37)], [], h38) (fun h' v => J h' ∧ (ty_pi (-1) 2147483647) h' v) := by
      intro n42
      induction n42 using Nat.strongRecOn with
      | ind n42 ihn42 =>
        intro y36 y37 h38 mn42 ay36 by36 ay37 by37 Jh38
        have Ih38 := H.1 h38 Jh38
        refine hq_p rfl rfl ?_
        refine hq_p rfl rfl ?_
        refine ty_gI Ih38 rfl (ty_trs ht1) (by omega) (by decide) rfl (ty_trf ht1 3) (fun z43 ez43 az43 bz43 => ?_)
        refine ty_ige rfl (fun c44 => ?_) (fun c44 => ?_)
        · refine hq_p rfl rfl (ty_ge (n := 0) nk_i0 (fun z45 ez45 => ?_))
          refine hq_p rfl rfl ?_
          refine ty_callp 1 Ih38 rfl (fun _ => rfl) rfl rfl rfl rfl (ct_258 (x0 := z45) (x1 := y36) (by omega)) (fun _ P46 => ?_)
          obtain ⟨z47, rfl, fz47, dz47, oz47⟩ := P46
          have iz47 : 0 ≤ z47.toInt ∧ z47.toInt ≤ 2147483647 := by omega
          clear oz47
          exact hq_W.ret rfl rfl rfl ⟨Jh38, _, rfl, by omega, by omega⟩
        · refine hq_p rfl rfl ?_
          refine hq_gR Ih38.1 rfl (ty_trs ht1) (by omega) (by decide) rfl ?_
          refine hq_p rfl rfl ?_
          refine ty_aL Ih38 rfl (ty_trs5 ht1) (by omega) (by omega) (by omega) (fun i _ => ty_le (ty_tra5 ht1 i)) (fun z48 ez48 az48 bz48 => ?_)
          refine hq_p rfl rfl ?_
          refine ty_ine rfl (fun c49 => ?_) (fun c49 => ?_)
          · clear c49
            refine ty_inc (ls' := fun z50 => [some (.ref t0), some (.ref t1), some (.int x2), some (.int y36), some (.int z50)]) rfl rfl (fun _ => rfl) (nm_addc nk_i1 (by omega) (by omega)) (fun z50 ez50 => ?_)
            refine hq_p rfl rfl ?_
            exact ihn42 ((8 - z50.toInt).toNat) (by omega) y36 z50 h38 rfl (by omega) (by omega) (by omega) (by omega) Jh38
          · refine hq_p rfl rfl ?_
            refine hq_p rfl rfl ?_
            refine hq_p rfl rfl ?_
            refine hq_p rfl rfl ?_
            refine hq_p rfl rfl ?_
            refine ty_callj 0 (W := ty_Wu) H Jh38 rfl (fun _ => rfl) rfl rfl rfl (hq_pre_o Ih38.1 (x := t0) (ci := 4) (ty_rus ht0) (by omega) rfl rfl rfl rfl) (fun _ _ w => w) (fun _ w => w) (ct_44 (t0 := t0) (t1 := t1) (x2 := y37) (x3 := x2) (by omega) ht0 ht1) (fun h52 _ Jh52 P51 => ?_)
            have Ih52 := H.1 h52 Jh52
            obtain ⟨z53, rfl, az53, bz53⟩ := P51
            refine hq_p rfl rfl (ty_ga (fun z54 az54 bz54 => ?_))
            refine hq_p (ls' := [some (.ref t0), some (.ref t1), some (.int x2), some (.int z54), some (.int y37)]) rfl rfl ?_
            refine ty_inc (ls' := fun z55 => [some (.ref t0), some (.ref t1), some (.int x2), some (.int z54), some (.int z55)]) rfl rfl (fun _ => rfl) (nm_addc nk_i1 (by omega) (by omega)) (fun z55 ez55 => ?_)
            refine hq_p rfl rfl ?_
            exact ihn42 ((8 - z55.toInt).toNat) (by omega) z54 z55 h52 rfl (by omega) (by omega) (by omega) (by omega) Jh52
    exact L27_n42 _ z7 z8 h rfl (by omega) (by omega) (by omega) (by omega) hJ
  · clear iz2
    refine hq_p rfl rfl (ty_ge (n := -1) nk_im1 (fun z56 ez56 => ?_))
    exact hq_W.ret rfl rfl rfl ⟨hJ, _, rfl, by omega, by omega⟩
theorem ct_49 {X : pm_X} {d : Nat} {h : pm_H} {t0 : Nat} {t1 : Nat} (hd : 6 ≤ d) (ht0 : ty_ru t0) (ht1 : ty_tr t1) : ty_M X ty_Wu d 49 [.ref t0, .ref t1] h (ty_pi (-2147483648) 2147483647) := by
  intro J H hJ
  obtain ⟨d, rfl⟩ : ∃ e, d = e + 1 := ⟨d - 1, by omega⟩
  have I := H.1 h hJ
  have lt0 := ty_rul ht0
  have lt1 := ty_trl ht1
  refine hq_M.enter (q := (⟨"TrainBearers$Rules", "together", "(LTrainBearers$Train;)I"⟩, _, 4, some .int, 4, 2, pm_c49)) rfl rfl ?_
  show hq_W X d 4 false (some .int) pm_c49 (0, [some (.ref t0), some (.ref t1), none, none], [], h) (fun h' v => J h' ∧ (ty_pi (-2147483648) 2147483647) h' v)
  refine hq_p rfl rfl (ty_ge (n := 0) nk_i0 (fun z1 ez1 => ?_))
  refine hq_p (ls' := [some (.ref t0), some (.ref t1), some (.int z1), none]) rfl rfl ?_
  refine hq_p rfl rfl (ty_ge (n := 0) nk_i0 (fun z2 ez2 => ?_))
  refine hq_p (ls' := [some (.ref t0), some (.ref t1), some (.int z1), some (.int z2)]) rfl rfl ?_
  have L4_n48 : ∀ n48 : Nat, ∀ (y42 : Int32) (y43 : Int32) (h44 : pm_H), (8 - y43.toInt).toNat = n48 → -2147483648 ≤ y42.toInt → y42.toInt ≤ 2147483647 → 0 ≤ y43.toInt → y43.toInt ≤ 8 → J h44 → hq_W X d 4 false (some .int) pm_c49 (4, [some (.ref t0), some (.ref t1), some (.int y42), some (.int y43)], [], h44) (fun h' v => J h' ∧ (ty_pi (-2147483648) 2147483647) h' v) := by
    intro n48
    induction n48 using Nat.strongRecOn with
    | ind n48 ihn48 =>
      intro y42 y43 h44 mn48 ay42 by42 ay43 by43 Jh44
      have Ih44 := H.1 h44 Jh44
      refine hq_p rfl rfl ?_
      refine hq_p rfl rfl ?_
      refine ty_gI Ih44 rfl (ty_trs ht1) (by omega) (by decide) rfl (ty_trf ht1 0) (fun z49 ez49 az49 bz49 => ?_)
      refine ty_ige rfl (fun c50 => ?_) (fun c50 => ?_)
      · refine hq_p rfl rfl ?_
        exact hq_W.ret rfl rfl rfl ⟨Jh44, _, rfl, by omega, by omega⟩
      · refine hq_p rfl rfl ?_
        refine hq_p rfl rfl ?_
        refine hq_p rfl rfl ?_
        refine hq_p rfl rfl ?_
        refine hq_p rfl rfl ?_
        refine hq_p rfl rfl ?_
        refine hq_p rfl rfl ?_
        refine ty_callj 0 (W := ty_Wu) H Jh44 rfl (fun _ => rfl) rfl rfl rfl (hq_pre_o Ih44.1 (x := t0) (ci := 4) (ty_rus ht0) (by omega) rfl rfl rfl rfl) (fun _ _ w => w) (fun _ w => w) (ct_48 (t0 := t0) (t1 := t1) (x2 := y43) (by omega) ht0 ht1) (fun h52 _ Jh52 P51 => ?_)
        have Ih52 := H.1 h52 Jh52
        obtain ⟨z53, rfl, az53, bz53⟩ := P51
        refine ty_callj 0 (W := ty_Wu) H Jh52 rfl (fun _ => rfl) rfl rfl rfl (hq_pre_o Ih52.1 (x := t0) (ci := 4) (ty_rus ht0) (by omega) rfl rfl rfl rfl) (fun _ _ w => w) (fun _ w => w) (ct_47 (t0 := t0) (t1 := t1) (x2 := y43) (x3 := z53) (by omega) ht0 ht1) (fun h55 _ Jh55 P54 => ?_)
        have Ih55 := H.1 h55 Jh55
        obtain ⟨z56, rfl, az56, bz56⟩ := P54
        refine hq_p rfl rfl (ty_ga (fun z57 az57 bz57 => ?_))
        refine hq_p (ls' := [some (.ref t0), some (.ref t1), some (.int z57), some (.int y43)]) rfl rfl ?_
        refine ty_inc (ls' := fun z58 => [some (.ref t0), some (.ref t1), some (.int z57), some (.int z58)]) rfl rfl (fun _ => rfl) (nm_addc nk_i1 (by omega) (by omega)) (fun z58 ez58 => ?_)
        refine hq_p rfl rfl ?_
        exact ihn48 ((8 - z58.toInt).toNat) (by omega) z57 z58 h55 rfl (by omega) (by omega) (by omega) (by omega) Jh55
  exact L4_n48 _ z1 z2 h rfl (by omega) (by omega) (by omega) (by omega) hJ
theorem ct_53 {X : pm_X} {d : Nat} {h : pm_H} {t0 : Nat} (hd : 1 ≤ d) (ht0 : ty_sp t0) : ty_M X ty_Wc d 53 [.ref t0] h ty_pv := by
  intro J H hJ
  obtain ⟨d, rfl⟩ : ∃ e, d = e + 1 := ⟨d - 1, by omega⟩
  have I := H.1 h hJ
  have lt0 := ty_spl ht0
  refine hq_M.enter (q := (⟨"TrainBearers$Steps", "clear", "()V"⟩, _, 1, none, 5, 1, pm_c53)) rfl rfl ?_
  show hq_W X d 5 false (none) pm_c53 (0, [some (.ref t0)], [], h) (fun h' v => J h' ∧ ty_pv h' v)
  refine hq_p rfl rfl ?_
  refine hq_p rfl rfl (ty_ge (n := 0) nk_i0 (fun z1 ez1 => ?_))
  refine ty_pI (W := ty_Wc) H hJ rfl (ty_sps ht0) (by omega) rfl rfl (by unfold ty_Wc; omega) (ty_spf2 ht0) (by omega) (by omega) (fun h2 eh2 Jh2 => ?_)
  have wh2 : (hs_fI h2 t0 2).toInt = z1.toInt := by rw [eh2]; exact congrArg Int32.toInt (ty_fI_eq I.1 (ty_sps ht0) (by omega) rfl)
  have Ih2 := H.1 h2 Jh2
  exact hq_W.ret rfl rfl rfl ⟨Jh2, rfl⟩
theorem ct_62 {X : pm_X} {d : Nat} {h : pm_H}  (hd : 1 ≤ d)  : ty_M X ty_Wr d 62 [.ref 64] h ty_pv := by
  intro J H hJ
  obtain ⟨d, rfl⟩ : ∃ e, d = e + 1 := ⟨d - 1, by omega⟩
  have I := H.1 h hJ
  refine hq_M.enter (q := (⟨"TrainBearers$Text", "clear", "()V"⟩, _, 1, none, 7, 1, pm_c62)) rfl rfl ?_
  show hq_W X d 7 false (none) pm_c62 (0, [some (.ref 64)], [], h) (fun h' v => J h' ∧ ty_pv h' v)
  refine hq_p rfl rfl ?_
  refine hq_p rfl rfl (ty_ge (n := 0) nk_i0 (fun z1 ez1 => ?_))
  refine ty_pI (W := ty_Wr) H hJ rfl rfl (by decide) rfl rfl (by unfold ty_Wr; omega) rfl (by omega) (by omega) (fun h2 eh2 Jh2 => ?_)
  have wh2 : (hs_fI h2 64 0).toInt = z1.toInt := by rw [eh2]; exact congrArg Int32.toInt (ty_fI_eq I.1 rfl (by decide) rfl)
  have Ih2 := H.1 h2 Jh2
  refine hq_p rfl rfl ?_
  refine hq_p rfl rfl (ty_ge (n := 0) nk_i0 (fun z3 ez3 => ?_))
  refine ty_pI (W := ty_Wr) H Jh2 rfl rfl (by decide) rfl rfl (by unfold ty_Wr; omega) rfl (by omega) (by omega) (fun h4 eh4 Jh4 => ?_)
  have wh4 : (hs_fI h4 64 6).toInt = z3.toInt := by rw [eh4]; exact congrArg Int32.toInt (ty_fI_eq Ih2.1 rfl (by decide) rfl)
  have Ih4 := H.1 h4 Jh4
  refine hq_p rfl rfl ?_
  refine hq_p rfl rfl (ty_ge (n := 0) nk_i0 (fun z5 ez5 => ?_))
  refine ty_pI (W := ty_Wr) H Jh4 rfl rfl (by decide) rfl rfl (by unfold ty_Wr; omega) rfl (by omega) (by omega) (fun h6 eh6 Jh6 => ?_)
  have wh6 : (hs_fI h6 64 9).toInt = z5.toInt := by rw [eh6]; exact congrArg Int32.toInt (ty_fI_eq Ih4.1 rfl (by decide) rfl)
  have Ih6 := H.1 h6 Jh6
  exact hq_W.ret rfl rfl rfl ⟨Jh6, rfl⟩
theorem ct_63 {X : pm_X} {d : Nat} {h : pm_H} {x1 : Int32} {x2 : Int32} (hd : 1 ≤ d) (ax2 : 0 ≤ x2.toInt) (bx2 : x2.toInt ≤ 1000) : ty_M X ty_Wr d 63 [.ref 64, .int x1, .int x2] h ty_pv := by
  intro J H hJ
  obtain ⟨d, rfl⟩ : ∃ e, d = e + 1 := ⟨d - 1, by omega⟩
  have I := H.1 h hJ
  have ax1 := nm_lo x1
  have bx1 := nm_hi x1
  refine hq_M.enter (q := (⟨"TrainBearers$Text", "emit", "(II)V"⟩, _, 3, none, 7, 3, pm_c63)) rfl rfl ?_
  show hq_W X d 7 false (none) pm_c63 (0, [some (.ref 64), some (.int x1), some (.int x2)], [], h) (fun h' v => J h' ∧ ty_pv h' v)
  refine hq_p rfl rfl ?_
  refine ty_gI I rfl rfl (by decide) (by decide) rfl rfl (fun z1 ez1 az1 bz1 => ?_)
  refine hq_p rfl rfl ?_
  refine hq_gR I.1 rfl rfl (by decide) (by decide) rfl ?_
  refine hq_alen rfl (hs_iarr I.1 rfl (by decide)) rfl (ty_ge (c := Int32.ofNat 400) (n := 400) (by decide) (fun z2 ez2 => ?_))
  refine ty_ige rfl (fun c3 => ?_) (fun c3 => ?_)
  · exact hq_W.ret rfl rfl rfl ⟨hJ, rfl⟩
  · refine hq_p rfl rfl ?_
    refine hq_gR I.1 rfl rfl (by decide) (by decide) rfl ?_
    refine hq_p rfl rfl ?_
    refine ty_gI I rfl rfl (by decide) (by decide) rfl rfl (fun z4 ez4 az4 bz4 => ?_)
    refine hq_p rfl rfl ?_
    refine ty_aS (W := ty_Wr) H hJ rfl rfl (by decide) (by omega) (by omega) (fun i e => by unfold ty_Wr; omega) (fun _ _ => ty_eg rfl) (by omega) (by omega) (fun e1 e2 w => by omega) (fun h5 eh5 Jh5 => ?_)
    have Ih5 := H.1 h5 Jh5
    refine hq_p rfl rfl ?_
    refine hq_gR Ih5.1 rfl rfl (by decide) (by decide) rfl ?_
    refine hq_p rfl rfl ?_
    have r7 : (hs_fI h5 64 6).toInt = (hs_fI h 64 6).toInt := by rw [eh5]; exact congrArg Int32.toInt (ty_fI_ne (by omega))
    refine ty_gI Ih5 rfl rfl (by decide) (by decide) rfl rfl (fun z6 ez6 az6 bz6 => ?_)
    refine hq_p rfl rfl ?_
    refine ty_aS (W := ty_Wr) H Jh5 rfl rfl (by decide) (by omega) (by omega) (fun i e => by unfold ty_Wr; omega) (fun _ _ => ty_eg rfl) (by omega) (by omega) (fun e1 e2 w => by omega) (fun h8 eh8 Jh8 => ?_)
    have Ih8 := H.1 h8 Jh8
    refine hq_p rfl rfl ?_
    refine hq_p rfl rfl ?_
    have r10 : (hs_fI h8 64 6).toInt = (hs_fI h5 64 6).toInt := by rw [eh8]; exact congrArg Int32.toInt (ty_fI_ne (by omega))
    refine ty_gI Ih8 rfl rfl (by decide) (by decide) rfl rfl (fun z9 ez9 az9 bz9 => ?_)
    refine hq_p rfl rfl (ty_ge (n := 1) nk_i1 (fun z11 ez11 => ?_))
    refine hq_p rfl rfl (ty_ge (n := z9.toInt + z11.toInt) (nm_add (by omega) (by omega)) (fun z12 ez12 => ?_))
    refine ty_pI (W := ty_Wr) H Jh8 rfl rfl (by decide) rfl rfl (by unfold ty_Wr; omega) rfl (by omega) (by omega) (fun h13 eh13 Jh13 => ?_)
    have wh13 : (hs_fI h13 64 6).toInt = z12.toInt := by rw [eh13]; exact congrArg Int32.toInt (ty_fI_eq Ih8.1 rfl (by decide) rfl)
    have Ih13 := H.1 h13 Jh13
    exact hq_W.ret rfl rfl rfl ⟨Jh13, rfl⟩
theorem ct_64 {X : pm_X} {d : Nat} {h : pm_H} {x1 : Int32} {x2 : Int32} (hd : 2 ≤ d) (ax1 : 0 ≤ x1.toInt) (bx1 : x1.toInt ≤ 1) (ax2 : 0 ≤ x2.toInt) (bx2 : x2.toInt ≤ 7) : ty_M X ty_Wr d 64 [.ref 64, .int x1, .int x2] h ty_pv := by
  intro J H hJ
  obtain ⟨d, rfl⟩ : ∃ e, d = e + 1 := ⟨d - 1, by omega⟩
  have I := H.1 h hJ
  refine hq_M.enter (q := (⟨"TrainBearers$Text", "emitOf", "(ZI)V"⟩, _, 3, none, 7, 3, pm_c64)) rfl rfl ?_
  show hq_W X d 7 false (none) pm_c64 (0, [some (.ref 64), some (.int x1), some (.int x2)], [], h) (fun h' v => J h' ∧ ty_pv h' v)
  refine hq_p rfl rfl ?_
  refine ty_zeq rfl (fun c1 => ?_) (fun c1 => ?_)
  · refine hq_p rfl rfl ?_
    refine hq_p rfl rfl (ty_ge (n := 2) nk_i2 (fun z2 ez2 => ?_))
    refine hq_p rfl rfl ?_
    refine ty_zeq rfl (fun c3 => ?_) (fun c3 => ?_)
    · refine hq_p rfl rfl (ty_ge (n := 13) nk_b13 (fun z4 ez4 => ?_))
      refine hq_p rfl rfl ?_
      refine hq_p rfl rfl (ty_ge (n := z4.toInt + x2.toInt) (nm_add (by omega) (by omega)) (fun z5 ez5 => ?_))
      refine ty_callj 0 (W := ty_Wr) H hJ rfl (fun _ => rfl) rfl rfl rfl (hq_pre_o I.1 (x := 64) (ci := 7) rfl (by decide) rfl rfl rfl rfl) (fun _ _ w => w) (fun _ w => w) (ct_63 (x1 := z2) (x2 := z5) (by omega) (by omega) (by omega)) (fun h7 _ Jh7 P6 => ?_)
      have Ih7 := H.1 h7 Jh7
      subst P6
      exact hq_W.ret rfl rfl rfl ⟨Jh7, rfl⟩
    · exfalso; omega
  · replace c1 : 1 ≤ x1.toInt ∧ x1.toInt ≤ 1 := by omega
    refine hq_p rfl rfl ?_
    refine hq_p rfl rfl ?_
    refine ty_gI I rfl rfl (by decide) (by decide) rfl rfl (fun z8 ez8 az8 bz8 => ?_)
    refine hq_p rfl rfl (ty_ge (n := 1) nk_i1 (fun z9 ez9 => ?_))
    refine hq_p rfl rfl ?_
    refine hq_p rfl rfl (ty_gb (c := z9 <<< (x2 &&& 31)) (lo := 1) (hi := 256) (by have q := nm_shl1 (x := z9) (y := x2) (by omega) (by omega) (by omega); omega) (fun z10 az10 bz10 => ?_))
    refine hq_p rfl rfl (ty_ga (fun z11 az11 bz11 => ?_))
    refine ty_pI (W := ty_Wr) H hJ rfl rfl (by decide) rfl rfl (by unfold ty_Wr; omega) rfl (by omega) (by omega) (fun h12 eh12 Jh12 => ?_)
    have wh12 : (hs_fI h12 64 9).toInt = z11.toInt := by rw [eh12]; exact congrArg Int32.toInt (ty_fI_eq I.1 rfl (by decide) rfl)
    have Ih12 := H.1 h12 Jh12
    refine hq_p rfl rfl ?_
    refine hq_p rfl rfl (ty_ge (n := 2) nk_i2 (fun z13 ez13 => ?_))
    refine hq_p rfl rfl ?_
    refine ty_zeq rfl (fun c14 => ?_) (fun c14 => ?_)
    · exfalso; omega
    · clear c14
      refine hq_p rfl rfl (ty_ge (n := 5) nk_i5 (fun z15 ez15 => ?_))
      refine hq_p rfl rfl ?_
      refine hq_p rfl rfl ?_
      refine hq_p rfl rfl (ty_ge (n := z15.toInt + x2.toInt) (nm_add (by omega) (by omega)) (fun z16 ez16 => ?_))
      refine ty_callj 0 (W := ty_Wr) H Jh12 rfl (fun _ => rfl) rfl rfl rfl (hq_pre_o Ih12.1 (x := 64) (ci := 7) rfl (by decide) rfl rfl rfl rfl) (fun _ _ w => w) (fun _ w => w) (ct_63 (x1 := z13) (x2 := z16) (by omega) (by omega) (by omega)) (fun h18 _ Jh18 P17 => ?_)
      have Ih18 := H.1 h18 Jh18
      subst P17
      exact hq_W.ret rfl rfl rfl ⟨Jh18, rfl⟩
theorem ct_65 {X : pm_X} {d : Nat} {h : pm_H} {x1 : Int32} (hd : 1 ≤ d)  : ty_M X ty_Wr d 65 [.ref 64, .int x1] h ty_pv := by
  intro J H hJ
  obtain ⟨d, rfl⟩ : ∃ e, d = e + 1 := ⟨d - 1, by omega⟩
  have I := H.1 h hJ
  have ax1 := nm_lo x1
  have bx1 := nm_hi x1
  refine hq_M.enter (q := (⟨"TrainBearers$Text", "aim", "(I)V"⟩, _, 2, none, 7, 2, pm_c65)) rfl rfl ?_
  show hq_W X d 7 false (none) pm_c65 (0, [some (.ref 64), some (.int x1)], [], h) (fun h' v => J h' ∧ ty_pv h' v)
  refine hq_p rfl rfl ?_
  refine ty_zlt rfl (fun c1 => ?_) (fun c1 => ?_)
  · exact hq_W.ret rfl rfl rfl ⟨hJ, rfl⟩
  · refine hq_p rfl rfl ?_
    refine hq_p rfl rfl ?_
    refine ty_gI I rfl rfl (by decide) (by decide) rfl rfl (fun z2 ez2 az2 bz2 => ?_)
    refine ty_ige rfl (fun c3 => ?_) (fun c3 => ?_)
    · exact hq_W.ret rfl rfl rfl ⟨hJ, rfl⟩
    · refine hq_p rfl rfl ?_
      refine hq_gR I.1 rfl rfl (by decide) (by decide) rfl ?_
      refine hq_p rfl rfl ?_
      refine hq_p rfl rfl ?_
      refine ty_gI I rfl rfl (by decide) (by decide) rfl rfl (fun z4 ez4 az4 bz4 => ?_)
      refine ty_aS (W := ty_Wr) H hJ rfl rfl (by decide) (by omega) (by omega) (fun i e => by unfold ty_Wr; omega) (fun _ _ => ty_eg rfl) (by omega) (by omega) (fun e1 e2 w => by omega) (fun h5 eh5 Jh5 => ?_)
      have Ih5 := H.1 h5 Jh5
      exact hq_W.ret rfl rfl rfl ⟨Jh5, rfl⟩
theorem ct_66 {X : pm_X} {d : Nat} {h : pm_H} {x1 : Int32} (hd : 1 ≤ d)  : ty_M X ty_Wr d 66 [.ref 64, .int x1] h ty_pv := by
  intro J H hJ
  obtain ⟨d, rfl⟩ : ∃ e, d = e + 1 := ⟨d - 1, by omega⟩
  have I := H.1 h hJ
  have ax1 := nm_lo x1
  have bx1 := nm_hi x1
  refine hq_M.enter (q := (⟨"TrainBearers$Text", "addClause", "(I)V"⟩, _, 2, none, 7, 2, pm_c66)) rfl rfl ?_
  show hq_W X d 7 false (none) pm_c66 (0, [some (.ref 64), some (.int x1)], [], h) (fun h' v => J h' ∧ ty_pv h' v)
  refine hq_p rfl rfl ?_
  refine ty_gI I rfl rfl (by decide) (by decide) rfl rfl (fun z1 ez1 az1 bz1 => ?_)
  refine hq_p rfl rfl (ty_ge (n := 12) nk_b12 (fun z2 ez2 => ?_))
  refine ty_ige rfl (fun c3 => ?_) (fun c3 => ?_)
  · exact hq_W.ret rfl rfl rfl ⟨hJ, rfl⟩
  · refine hq_p rfl rfl ?_
    refine hq_gR I.1 rfl rfl (by decide) (by decide) rfl ?_
    refine hq_p rfl rfl ?_
    refine ty_gI I rfl rfl (by decide) (by decide) rfl rfl (fun z4 ez4 az4 bz4 => ?_)
    refine hq_p rfl rfl ?_
    refine ty_aS (W := ty_Wr) H hJ rfl rfl (by decide) (by omega) (by omega) (fun i e => by unfold ty_Wr; omega) (fun _ _ => ty_eg rfl) (by omega) (by omega) (fun e1 e2 w => by omega) (fun h5 eh5 Jh5 => ?_)
    have Ih5 := H.1 h5 Jh5
    refine hq_p rfl rfl ?_
    refine hq_gR Ih5.1 rfl rfl (by decide) (by decide) rfl ?_
    refine hq_p rfl rfl ?_
    have r7 : (hs_fI h5 64 0).toInt = (hs_fI h 64 0).toInt := by rw [eh5]; exact congrArg Int32.toInt (ty_fI_ne (by omega))
    refine ty_gI Ih5 rfl rfl (by decide) (by decide) rfl rfl (fun z6 ez6 az6 bz6 => ?_)
    refine hq_p rfl rfl (ty_ge (n := -1) nk_im1 (fun z8 ez8 => ?_))
    refine ty_aS (W := ty_Wr) H Jh5 rfl rfl (by decide) (by omega) (by omega) (fun i e => by unfold ty_Wr; omega) (fun _ _ => ty_eg rfl) (by omega) (by omega) (fun e1 e2 w => by omega) (fun h9 eh9 Jh9 => ?_)
    have Ih9 := H.1 h9 Jh9
    refine hq_p rfl rfl ?_
    refine hq_gR Ih9.1 rfl rfl (by decide) (by decide) rfl ?_
    refine hq_p rfl rfl ?_
    have r11 : (hs_fI h9 64 0).toInt = (hs_fI h5 64 0).toInt := by rw [eh9]; exact congrArg Int32.toInt (ty_fI_ne (by omega))
    refine ty_gI Ih9 rfl rfl (by decide) (by decide) rfl rfl (fun z10 ez10 az10 bz10 => ?_)
    refine hq_p rfl rfl (ty_ge (n := -1) nk_im1 (fun z12 ez12 => ?_))
    refine ty_aS (W := ty_Wr) H Jh9 rfl rfl (by decide) (by omega) (by omega) (fun i e => by unfold ty_Wr; omega) (fun _ _ => ty_eg rfl) (by omega) (by omega) (fun e1 e2 w => by omega) (fun h13 eh13 Jh13 => ?_)
    have Ih13 := H.1 h13 Jh13
    refine hq_p rfl rfl ?_
    refine hq_gR Ih13.1 rfl rfl (by decide) (by decide) rfl ?_
    refine hq_p rfl rfl ?_
    have r15 : (hs_fI h13 64 0).toInt = (hs_fI h9 64 0).toInt := by rw [eh13]; exact congrArg Int32.toInt (ty_fI_ne (by omega))
    refine ty_gI Ih13 rfl rfl (by decide) (by decide) rfl rfl (fun z14 ez14 az14 bz14 => ?_)
    refine hq_p rfl rfl (ty_ge (n := -1) nk_im1 (fun z16 ez16 => ?_))
    refine ty_aS (W := ty_Wr) H Jh13 rfl rfl (by decide) (by omega) (by omega) (fun i e => by unfold ty_Wr; omega) (fun _ _ => ty_eg rfl) (by omega) (by omega) (fun e1 e2 w => by omega) (fun h17 eh17 Jh17 => ?_)
    have Ih17 := H.1 h17 Jh17
    refine hq_p rfl rfl ?_
    refine hq_gR Ih17.1 rfl rfl (by decide) (by decide) rfl ?_
    refine hq_p rfl rfl ?_
    have r19 : (hs_fI h17 64 0).toInt = (hs_fI h13 64 0).toInt := by rw [eh17]; exact congrArg Int32.toInt (ty_fI_ne (by omega))
    refine ty_gI Ih17 rfl rfl (by decide) (by decide) rfl rfl (fun z18 ez18 az18 bz18 => ?_)
    refine hq_p rfl rfl (ty_ge (n := 1) nk_i1 (fun z20 ez20 => ?_))
    refine ty_aS (W := ty_Wr) H Jh17 rfl rfl (by decide) (by omega) (by omega) (fun i e => by unfold ty_Wr; omega) (fun _ _ => ty_eg rfl) (by omega) (by omega) (fun e1 e2 w => by omega) (fun h21 eh21 Jh21 => ?_)
    have Ih21 := H.1 h21 Jh21
    refine hq_p rfl rfl ?_
    refine hq_p rfl rfl ?_
    have r23 : (hs_fI h21 64 0).toInt = (hs_fI h17 64 0).toInt := by rw [eh21]; exact congrArg Int32.toInt (ty_fI_ne (by omega))
    refine ty_gI Ih21 rfl rfl (by decide) (by decide) rfl rfl (fun z22 ez22 az22 bz22 => ?_)
    refine hq_p rfl rfl (ty_ge (n := 1) nk_i1 (fun z24 ez24 => ?_))
    refine hq_p rfl rfl (ty_ge (n := z22.toInt + z24.toInt) (nm_add (by omega) (by omega)) (fun z25 ez25 => ?_))
    refine ty_pI (W := ty_Wr) H Jh21 rfl rfl (by decide) rfl rfl (by unfold ty_Wr; omega) rfl (by omega) (by omega) (fun h26 eh26 Jh26 => ?_)
    have wh26 : (hs_fI h26 64 0).toInt = z25.toInt := by rw [eh26]; exact congrArg Int32.toInt (ty_fI_eq Ih21.1 rfl (by decide) rfl)
    have Ih26 := H.1 h26 Jh26
    exact hq_W.ret rfl rfl rfl ⟨Jh26, rfl⟩
end CT8
