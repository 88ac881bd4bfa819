/-! CONTRACTS (printed by wip/pm/cts.py) -/
section CT59
/-- an order is run: all but the tape, the code, images, laws -/
def ty_Wrun (a k : Nat) : Prop := a = 202 ∨ (97 ≤ a ∧ a < 129 ∧ (a = 97 → k ≠ 11 ∧ k ≠ 13 ∧ k ≠ 21 ∧ k ≠ 23) ∧ (a = 99 → k < 98) ∧ a ≠ 100 ∧ a ≠ 106 ∧ a ≠ 107 ∧ a ≠ 108 ∧ a ≠ 109 ∧ a ≠ 127)
set_option maxRecDepth 8000 in
set_option maxHeartbeats 20000000 in
theorem ct_248z {X : pm_X} {d : Nat} {h : pm_H} {x1 : Int32} (hd : 11 ≤ d) (ax1 : 0 ≤ x1.toInt) (bx1 : x1.toInt ≤ 88) (ho : (hs_fI h 97 20).toInt = 0) {c : Nat} (hcx : x1.toInt = 8 * c) {nn : Int} (hnn : nn ≤ 400) (hod : od1 (hs_aI h 127) (hs_aI h 108) (hs_aI h 109) nn c) (h51 : 0 ≤ (hs_fI h 97 51).toInt ∧ (hs_fI h 97 51).toInt ≤ 240) : ty_M X ty_Wrun d 248 [.ref 97, .int x1] h (fun h1 v => (fun h1 v => (∃ z : Int32, v = some (.int z) ∧ -3 ≤ z.toInt ∧ z.toInt ≤ 0) ∧ (hs_fI h1 97 51).toInt ≤ (hs_fI h 97 51).toInt + 1 ∧ (hs_fI h 97 51).toInt ≤ (hs_fI h1 97 51).toInt) h1 v ∧ (hs_fI h1 97 20).toInt = 0) := by
  intro J0 H0 hJ0
  obtain ⟨R7, eR7⟩ : ∃ R, hs_aI h 127 = R := ⟨_, rfl⟩
  obtain ⟨R8, eR8⟩ : ∃ R, hs_aI h 108 = R := ⟨_, rfl⟩
  obtain ⟨R9, eR9⟩ : ∃ R, hs_aI h 109 = R := ⟨_, rfl⟩
  rw [eR7, eR8, eR9] at hod
  obtain ⟨J1, eJ1⟩ : ∃ J1 : pm_H → Prop, J1 = fun h' => ((J0 h' ∧ hs_aI h' 127 = R7) ∧ hs_aI h' 108 = R8) ∧ hs_aI h' 109 = R9 := ⟨_, rfl⟩
  have H1 : ty_C ty_Wrun J1 := by rw [eJ1]; exact ((H0.arr 127 (by decide) (fun k => by unfold ty_Wrun; omega) R7).arr 108 (by decide) (fun k => by unfold ty_Wrun; omega) R8).arr 109 (by decide) (fun k => by unfold ty_Wrun; omega) R9
  have hJ1 : J1 h := by rw [eJ1]; exact ⟨⟨⟨hJ0, eR7⟩, eR8⟩, eR9⟩
  obtain ⟨J, eJ⟩ : ∃ J : pm_H → Prop, J = fun h' => J1 h' ∧ (hs_fI h' 97 20).toInt = 0 := ⟨_, rfl⟩
  have H : ty_C ty_Wz J := by rw [eJ]; exact H1.ord (fun a k w n => by unfold ty_Wz at w; unfold ty_Wrun; omega) (by unfold ty_Wz ty_Wrun; omega) (by unfold ty_Wz; omega)
  have hJ : J h := by rw [eJ]; exact ⟨hJ1, ho⟩
  have a7 : ∀ h', J h' → hs_aI h' 127 = R7 ∧ hs_aI h' 108 = R8 ∧ hs_aI h' 109 = R9 := fun h' j => by rw [eJ] at j; have j := j.1; rw [eJ1] at j; exact ⟨j.1.1.2, j.1.2, j.2⟩
  refine hq_M.mono (Nat.le_refl _) (Q := fun h' v => J h' ∧ (fun h1 v => (∃ z : Int32, v = some (.int z) ∧ -3 ≤ z.toInt ∧ z.toInt ≤ 0) ∧ (hs_fI h1 97 51).toInt ≤ (hs_fI h 97 51).toInt + 1 ∧ (hs_fI h 97 51).toInt ≤ (hs_fI h1 97 51).toInt) h' v) (fun h' v q => ⟨by have q1 := q.1; rw [eJ] at q1; have q2 := q1.1; rw [eJ1] at q2; exact q2.1.1.1, ?_⟩) ?_
  · have q1 := q.1
    rw [eJ] at q1
    exact ⟨q.2, q1.2⟩
  obtain ⟨d, rfl⟩ : ∃ e, d = e + 1 := ⟨d - 1, by omega⟩
  have I := H.1 h hJ
  refine hq_M.enter (q := (⟨"TrainBearersModel", "run", "(I)I"⟩, _, 5, some .int, 11, 2, pm_c248)) rfl rfl ?_
  show hq_W X d 11 false (some .int) pm_c248 (0, [some (.ref 97), some (.int x1), none, none, none], [], h) (fun h' v => J h' ∧ (fun h1 v => (∃ z : Int32, v = some (.int z) ∧ -3 ≤ z.toInt ∧ z.toInt ≤ 0) ∧ (hs_fI h1 97 51).toInt ≤ (hs_fI h 97 51).toInt + 1 ∧ (hs_fI h 97 51).toInt ≤ (hs_fI h1 97 51).toInt) h' v)
  obtain ⟨q51, eq51⟩ : ∃ q : Int32, q.toInt = (hs_fI h 97 51).toInt := ⟨_, rfl⟩
  refine hq_p rfl rfl ?_
  refine hq_gR I.1 rfl rfl (by decide) (by decide) rfl ?_
  refine hq_p rfl rfl (ty_ge (n := 1) nk_i1 (fun z1 ez1 => ?_))
  refine hq_p rfl rfl ?_
  refine hq_gR I.1 rfl rfl (by decide) (by decide) rfl ?_
  refine hq_p rfl rfl (ty_ge (n := 5) nk_i5 (fun z2 ez2 => ?_))
  refine ty_aL I rfl rfl (by decide) (by omega) (by omega) (fun i e => ty_le (ty_w5 (by omega) (by omega))) (fun z3 ez3 az3 bz3 => ?_)
  rw [show z2.toInt.toNat = 5 by omega] at ez3
  refine hq_p rfl rfl (ty_gle (n := z3.toInt) (nm_i2l _) (fun z4 ez4 => ?_))
  refine ty_lS (W := ty_Wz) H hJ rfl rfl (by decide) (by omega) (by omega) (fun i e => by unfold ty_Wz; omega) (fun h5 eh5 Jh5 => ?_)
  have Ih5 := H.1 h5 Jh5
  refine hq_p rfl rfl ?_
  refine hq_gR Ih5.1 rfl rfl (by decide) (by decide) rfl ?_
  refine hq_p rfl rfl (ty_ge (n := 2) nk_i2 (fun z6 ez6 => ?_))
  refine hq_p rfl rfl ?_
  have r8 : (hs_fI h5 97 51).toInt = (hs_fI h 97 51).toInt := by rw [eh5]; exact congrArg Int32.toInt (ty_fI_ne (by omega))
  refine ty_gI Ih5 rfl rfl (by decide) (by decide) rfl rfl (fun z7 ez7 az7 bz7 => ?_)
  refine hq_p rfl rfl (ty_gle (n := z7.toInt) (nm_i2l _) (fun z9 ez9 => ?_))
  refine ty_lS (W := ty_Wz) H Jh5 rfl rfl (by decide) (by omega) (by omega) (fun i e => by unfold ty_Wz; omega) (fun h10 eh10 Jh10 => ?_)
  have Ih10 := H.1 h10 Jh10
  refine hq_p rfl rfl ?_
  refine hq_gR Ih10.1 rfl rfl (by decide) (by decide) rfl ?_
  refine hq_p rfl rfl (ty_ge (n := 3) nk_i3 (fun z11 ez11 => ?_))
  refine hq_p rfl rfl ?_
  refine ty_gI Ih10 rfl rfl (by decide) (by decide) rfl rfl (fun z12 ez12 az12 bz12 => ?_)
  refine hq_p rfl rfl (ty_gle (n := z12.toInt) (nm_i2l _) (fun z13 ez13 => ?_))
  refine ty_lS (W := ty_Wz) H Jh10 rfl rfl (by decide) (by omega) (by omega) (fun i e => by unfold ty_Wz; omega) (fun h14 eh14 Jh14 => ?_)
  have Ih14 := H.1 h14 Jh14
  refine hq_p rfl rfl ?_
  refine hq_gR Ih14.1 rfl rfl (by decide) (by decide) rfl ?_
  refine hq_p rfl rfl (ty_ge (n := 4) nk_i4 (fun z15 ez15 => ?_))
  refine hq_p rfl rfl ?_
  refine hq_gR Ih14.1 rfl rfl (by decide) (by decide) rfl ?_
  refine hq_p rfl rfl (ty_ge (n := 9) nk_b9 (fun z16 ez16 => ?_))
  refine ty_aL Ih14 rfl rfl (by decide) (by omega) (by omega) (fun i e => ty_le (ty_w9 (by omega) (by omega))) (fun z17 ez17 az17 bz17 => ?_)
  rw [show z16.toInt.toNat = 9 by omega] at ez17
  refine hq_p rfl rfl (ty_gle (n := z17.toInt) (nm_i2l _) (fun z18 ez18 => ?_))
  refine ty_lS (W := ty_Wz) H Jh14 rfl rfl (by decide) (by omega) (by omega) (fun i e => by unfold ty_Wz; omega) (fun h19 eh19 Jh19 => ?_)
  have Ih19 := H.1 h19 Jh19
  refine hq_p rfl rfl ?_
  refine hq_gR Ih19.1 rfl rfl (by decide) (by decide) rfl ?_
  refine hq_p rfl rfl (ty_ge (n := 5) nk_i5 (fun z20 ez20 => ?_))
  refine hq_p rfl rfl ?_
  refine hq_gR Ih19.1 rfl rfl (by decide) (by decide) rfl ?_
  refine hq_p rfl rfl (ty_ge (n := 8) nk_b8 (fun z21 ez21 => ?_))
  refine ty_aL Ih19 rfl rfl (by decide) (by omega) (by omega) (fun i e => ty_le (ty_w8 (by omega) (by omega))) (fun z22 ez22 az22 bz22 => ?_)
  rw [show z21.toInt.toNat = 8 by omega] at ez22
  refine hq_p rfl rfl (ty_gle (n := z22.toInt) (nm_i2l _) (fun z23 ez23 => ?_))
  refine ty_lS (W := ty_Wz) H Jh19 rfl rfl (by decide) (by omega) (by omega) (fun i e => by unfold ty_Wz; omega) (fun h24 eh24 Jh24 => ?_)
  have Ih24 := H.1 h24 Jh24
  refine hq_p rfl rfl ?_
  have r27 : (hs_fI h10 97 51).toInt = (hs_fI h5 97 51).toInt := by rw [eh10]; exact congrArg Int32.toInt (ty_fI_ne (by omega))
  have r28 : (hs_fI h14 97 51).toInt = (hs_fI h10 97 51).toInt := by rw [eh14]; exact congrArg Int32.toInt (ty_fI_ne (by omega))
  have r29 : (hs_fI h19 97 51).toInt = (hs_fI h14 97 51).toInt := by rw [eh19]; exact congrArg Int32.toInt (ty_fI_ne (by omega))
  have r30 : (hs_fI h24 97 51).toInt = (hs_fI h19 97 51).toInt := by rw [eh24]; exact congrArg Int32.toInt (ty_fI_ne (by omega))
  refine ty_callm 0 [(0, 97, 51)] (W := ty_Wz) H Jh24 rfl (fun _ => rfl) rfl rfl rfl (hq_pre_o Ih24.1 (x := 97) (ci := 11) rfl (by decide) rfl rfl rfl rfl) (fun a k w => by unfold ty_Wdp at w; unfold ty_Wz; omega) (by unfold ty_Wdp ty_Wz; omega) (ct_214b (by omega)) ⟨⟨rfl, show ¬ ty_Wdp 97 51 by unfold ty_Wdp; omega⟩, trivial⟩ (fun h26 _ Jh26 gh26 P25 => ?_)
  obtain ⟨gh26_0, _⟩ := gh26
  have gh26_0 : (hs_fI h26 97 51).toInt = (hs_fI h24 97 51).toInt := gh26_0
  have Ih26 := H.1 h26 Jh26
  subst P25
  refine hq_p rfl rfl ?_
  refine hq_p rfl rfl (ty_ge (n := 0) nk_i0 (fun z31 ez31 => ?_))
  refine ty_pB (W := ty_Wz) H Jh26 rfl rfl (by decide) rfl rfl rfl (by unfold ty_Wz; omega) rfl (by omega) (by omega) (fun h32 eh32 Jh32 => ?_)
  have wh32 : (hs_fI h32 97 54).toInt = z31.toInt := by rw [eh32]; exact congrArg Int32.toInt (ty_fI_eq Ih26.1 rfl (by decide) rfl)
  have Ih32 := H.1 h32 Jh32
  refine hq_p rfl rfl ?_
  refine hq_gR Ih32.1 rfl rfl (by decide) (by decide) rfl ?_
  refine hq_p rfl rfl ?_
  refine hq_p rfl rfl (ty_ge (n := 5) nk_i5 (fun z33 ez33 => ?_))
  refine hq_p rfl rfl (ty_ge (n := x1.toInt + z33.toInt) (nm_add (by omega) (by omega)) (fun z34 ez34 => ?_))
  refine ty_aL Ih32 rfl rfl (by decide) (by omega) (by omega) (fun _ _ => ty_le rfl) (fun z35 ez35 az35 bz35 => ?_)
  refine hq_p rfl rfl ?_
  refine hq_gR Ih32.1 rfl rfl (by decide) (by decide) rfl ?_
  refine hq_p rfl rfl ?_
  refine hq_p rfl rfl (ty_ge (n := 6) nk_b6 (fun z36 ez36 => ?_))
  refine hq_p rfl rfl (ty_ge (n := x1.toInt + z36.toInt) (nm_add (by omega) (by omega)) (fun z37 ez37 => ?_))
  refine ty_aL Ih32 rfl rfl (by decide) (by omega) (by omega) (fun _ _ => ty_le rfl) (fun z38 ez38 az38 bz38 => ?_)
  refine ty_ige rfl (fun c39 => ?_) (fun c39 => ?_)
  · refine hq_p rfl rfl ?_
    refine hq_p rfl rfl ?_
    refine hq_p rfl rfl (ty_ge (n := 1) nk_i1 (fun z40 ez40 => ?_))
    refine hq_p rfl rfl (ty_ge (n := x1.toInt + z40.toInt) (nm_add (by omega) (by omega)) (fun z41 ez41 => ?_))
    have r44 : (hs_fI h32 97 51).toInt = (hs_fI h26 97 51).toInt := by rw [eh32]; exact congrArg Int32.toInt (ty_fI_sF (by decide))
    have aah42 := a7 h32 Jh32
    have j1h42 : J1 h32 := by have q := Jh32; rw [eJ] at q; exact q.1
    have hoh42 : (hs_fI h32 97 20).toInt = 0 := by have q := Jh32; rw [eJ] at q; exact q.2
    refine ty_callm 0 [(0, 97, 51)] (W := ty_Wrun) H1 j1h42 rfl (fun _ => rfl) rfl rfl rfl (hq_pre_o Ih32.1 (x := 97) (ci := 11) rfl (by decide) rfl rfl rfl rfl) (fun a k w => by unfold ty_Wsu at w; unfold ty_Wrun; omega) (by unfold ty_Wsu ty_Wrun; omega) (ct_246 (x1 := z41) (by omega) (by omega) (by omega) hoh42 (n := nn) hnn (by rw [aah42.1, aah42.2.1, aah42.2.2, show z41.toInt.toNat = 8 * c + 1 by omega]; exact hod.1)) ⟨⟨rfl, show ¬ ty_Wsu 97 51 by unfold ty_Wsu; omega⟩, trivial⟩ (fun h42 _ j2h42 gh42 P => ?_)
    obtain ⟨gh42, _⟩ := gh42
    have gh42 : (hs_fI h42 97 51).toInt = (hs_fI h32 97 51).toInt := gh42
    obtain ⟨⟨z43, rfl⟩, oz43⟩ := P
    have az43 := nm_lo z43
    have bz43 := nm_hi z43
    have Jh42 : J h42 := by rw [eJ]; exact ⟨j2h42, oz43⟩
    have Ih42 := H.1 h42 Jh42
    refine hq_p (ls' := [some (.ref 97), some (.int x1), some (.int z43), none, none]) rfl rfl ?_
    refine hq_p rfl rfl ?_
    refine hq_p rfl rfl ?_
    refine hq_p rfl rfl (ty_ge (n := 3) nk_i3 (fun z45 ez45 => ?_))
    refine hq_p rfl rfl (ty_ge (n := x1.toInt + z45.toInt) (nm_add (by omega) (by omega)) (fun z46 ez46 => ?_))
    have aah47 := a7 h42 Jh42
    have j1h47 : J1 h42 := by have q := Jh42; rw [eJ] at q; exact q.1
    have hoh47 : (hs_fI h42 97 20).toInt = 0 := by have q := Jh42; rw [eJ] at q; exact q.2
    refine ty_callm 0 [(0, 97, 51)] (W := ty_Wrun) H1 j1h47 rfl (fun _ => rfl) rfl rfl rfl (hq_pre_o Ih42.1 (x := 97) (ci := 11) rfl (by decide) rfl rfl rfl rfl) (fun a k w => by unfold ty_Wsu at w; unfold ty_Wrun; omega) (by unfold ty_Wsu ty_Wrun; omega) (ct_246 (x1 := z46) (by omega) (by omega) (by omega) hoh47 (n := nn) hnn (by rw [aah47.1, aah47.2.1, aah47.2.2, show z46.toInt.toNat = 8 * c + 3 by omega]; exact hod.2.1)) ⟨⟨rfl, show ¬ ty_Wsu 97 51 by unfold ty_Wsu; omega⟩, trivial⟩ (fun h47 _ j2h47 gh47 P => ?_)
    obtain ⟨gh47, _⟩ := gh47
    have gh47 : (hs_fI h47 97 51).toInt = (hs_fI h42 97 51).toInt := gh47
    obtain ⟨⟨z48, rfl⟩, oz48⟩ := P
    have az48 := nm_lo z48
    have bz48 := nm_hi z48
    have Jh47 : J h47 := by rw [eJ]; exact ⟨j2h47, oz48⟩
    have Ih47 := H.1 h47 Jh47
    refine hq_p (ls' := [some (.ref 97), some (.int x1), some (.int z43), some (.int z48), none]) rfl rfl ?_
    refine hq_p rfl rfl ?_
    refine ty_gB Ih47 rfl rfl (by decide) (by decide) rfl (fun z49 ez49 az49 bz49 => ?_)
    refine ty_zeq rfl (fun c50 => ?_) (fun c50 => ?_)
    · refine hq_p rfl rfl ?_
      refine hq_p rfl rfl ?_
      refine hq_gR Ih47.1 rfl rfl (by decide) (by decide) rfl ?_
      refine hq_p rfl rfl ?_
      refine ty_aL Ih47 rfl rfl (by decide) (by omega) (by omega) (fun _ _ => ty_le rfl) (fun z51 ez51 az51 bz51 => ?_)
      refine hq_p rfl rfl ?_
      refine hq_p rfl rfl ?_
      refine ty_callm 0 [(0, 97, 51)] (W := ty_Wz) H Jh47 rfl (fun _ => rfl) rfl rfl rfl (hq_pre_o Ih47.1 (x := 97) (ci := 11) rfl (by decide) rfl rfl rfl rfl) (fun a k w => by unfold ty_Wac at w; unfold ty_Wz; omega) (by unfold ty_Wac ty_Wz; omega) (ct_247b (x1 := z51) (x2 := z43) (x3 := z48) (by omega)) ⟨⟨rfl, show ¬ ty_Wac 97 51 by unfold ty_Wac; omega⟩, trivial⟩ (fun h53 _ Jh53 gh53 P52 => ?_)
      obtain ⟨gh53_0, _⟩ := gh53
      have gh53_0 : (hs_fI h53 97 51).toInt = (hs_fI h47 97 51).toInt := gh53_0
      have Ih53 := H.1 h53 Jh53
      obtain ⟨z54, rfl, az54, bz54⟩ := P52
      refine hq_p (ls' := [some (.ref 97), some (.int x1), some (.int z43), some (.int z48), some (.int z54)]) rfl rfl ?_
      refine hq_p rfl rfl ?_
      refine ty_zge rfl (fun c55 => ?_) (fun c55 => ?_)
      · refine hq_p rfl rfl ?_
        refine hq_p rfl rfl ?_
        refine hq_gR Ih53.1 rfl rfl (by decide) (by decide) rfl ?_
        refine hq_p rfl rfl ?_
        refine ty_aL Ih53 rfl rfl (by decide) (by omega) (by omega) (fun _ _ => ty_le rfl) (fun z56 ez56 az56 bz56 => ?_)
        refine hq_p rfl rfl (ty_ge (n := 2) nk_i2 (fun z57 ez57 => ?_))
        refine ty_ine rfl (fun c58 => ?_) (fun c58 => ?_)
        · clear c58
          refine hq_p rfl rfl ?_
          refine ty_gI Ih53 rfl rfl (by decide) (by decide) rfl rfl (fun z59 ez59 az59 bz59 => ?_)
          refine ty_pI (W := ty_Wz) H Jh53 rfl rfl (by decide) rfl rfl (by unfold ty_Wz; omega) rfl (by omega) (by omega) (fun h60 eh60 Jh60 => ?_)
          have wh60 : (hs_fI h60 97 52).toInt = z59.toInt := by rw [eh60]; exact congrArg Int32.toInt (ty_fI_eq Ih53.1 rfl (by decide) rfl)
          have Ih60 := H.1 h60 Jh60
          refine hq_p rfl rfl ?_
          refine hq_p rfl rfl ?_
          have r62 : (hs_fI h60 97 51).toInt = (hs_fI h53 97 51).toInt := by rw [eh60]; exact congrArg Int32.toInt (ty_fI_sF (by decide))
          refine ty_gI Ih60 rfl rfl (by decide) (by decide) rfl rfl (fun z61 ez61 az61 bz61 => ?_)
          refine hq_p rfl rfl (ty_ge (n := 1) nk_i1 (fun z63 ez63 => ?_))
          refine hq_p rfl rfl (ty_ge (n := z61.toInt + z63.toInt) (nm_add (by omega) (by omega)) (fun z64 ez64 => ?_))
          refine ty_pI (W := ty_Wz) H Jh60 rfl rfl (by decide) rfl rfl (by unfold ty_Wz; omega) rfl (by omega) (by omega) (fun h65 eh65 Jh65 => ?_)
          have wh65 : (hs_fI h65 97 51).toInt = z64.toInt := by rw [eh65]; exact congrArg Int32.toInt (ty_fI_eq Ih60.1 rfl (by decide) rfl)
          have Ih65 := H.1 h65 Jh65
          refine hq_p rfl rfl (ty_ge (n := 0) nk_i0 (fun z66 ez66 => ?_))
          exact hq_W.ret rfl rfl rfl ⟨Jh65, ⟨_, rfl, by omega, by omega⟩, by omega, by omega⟩
        · refine hq_p rfl rfl ?_
          refine hq_p rfl rfl ?_
          refine ty_pI (W := ty_Wz) H Jh53 rfl rfl (by decide) rfl rfl (by unfold ty_Wz; omega) rfl (by omega) (by omega) (fun h67 eh67 Jh67 => ?_)
          have wh67 : (hs_fI h67 97 52).toInt = z54.toInt := by rw [eh67]; exact congrArg Int32.toInt (ty_fI_eq Ih53.1 rfl (by decide) rfl)
          have Ih67 := H.1 h67 Jh67
          refine hq_p rfl rfl ?_
          refine hq_p rfl rfl ?_
          have r69 : (hs_fI h67 97 51).toInt = (hs_fI h53 97 51).toInt := by rw [eh67]; exact congrArg Int32.toInt (ty_fI_sF (by decide))
          refine ty_gI Ih67 rfl rfl (by decide) (by decide) rfl rfl (fun z68 ez68 az68 bz68 => ?_)
          refine hq_p rfl rfl (ty_ge (n := 1) nk_i1 (fun z70 ez70 => ?_))
          refine hq_p rfl rfl (ty_ge (n := z68.toInt + z70.toInt) (nm_add (by omega) (by omega)) (fun z71 ez71 => ?_))
          refine ty_pI (W := ty_Wz) H Jh67 rfl rfl (by decide) rfl rfl (by unfold ty_Wz; omega) rfl (by omega) (by omega) (fun h72 eh72 Jh72 => ?_)
          have wh72 : (hs_fI h72 97 51).toInt = z71.toInt := by rw [eh72]; exact congrArg Int32.toInt (ty_fI_eq Ih67.1 rfl (by decide) rfl)
          have Ih72 := H.1 h72 Jh72
          refine hq_p rfl rfl (ty_ge (n := 0) nk_i0 (fun z73 ez73 => ?_))
          exact hq_W.ret rfl rfl rfl ⟨Jh72, ⟨_, rfl, by omega, by omega⟩, by omega, by omega⟩
      · refine hq_p rfl rfl (ty_ge (n := -3) nk_bm3 (fun z74 ez74 => ?_))
        exact hq_W.ret rfl rfl rfl ⟨Jh53, ⟨_, rfl, by omega, by omega⟩, by omega, by omega⟩
    · replace c50 : 1 ≤ z49.toInt ∧ z49.toInt ≤ 1 := by omega
      refine hq_p rfl rfl (ty_ge (n := -3) nk_bm3 (fun z75 ez75 => ?_))
      exact hq_W.ret rfl rfl rfl ⟨Jh47, ⟨_, rfl, by omega, by omega⟩, by omega, by omega⟩
  · refine hq_p rfl rfl ?_
    refine hq_p rfl rfl ?_
    refine hq_p rfl rfl (ty_ge (n := 5) nk_i5 (fun z76 ez76 => ?_))
    refine hq_p rfl rfl (ty_ge (n := x1.toInt + z76.toInt) (nm_add (by omega) (by omega)) (fun z77 ez77 => ?_))
    have r80 : (hs_fI h32 97 51).toInt = (hs_fI h26 97 51).toInt := by rw [eh32]; exact congrArg Int32.toInt (ty_fI_sF (by decide))
    have aah78 := a7 h32 Jh32
    have j1h78 : J1 h32 := by have q := Jh32; rw [eJ] at q; exact q.1
    have hoh78 : (hs_fI h32 97 20).toInt = 0 := by have q := Jh32; rw [eJ] at q; exact q.2
    refine ty_callm 0 [(0, 97, 51)] (W := ty_Wrun) H1 j1h78 rfl (fun _ => rfl) rfl rfl rfl (hq_pre_o Ih32.1 (x := 97) (ci := 11) rfl (by decide) rfl rfl rfl rfl) (fun a k w => by unfold ty_Wsu at w; unfold ty_Wrun; omega) (by unfold ty_Wsu ty_Wrun; omega) (ct_246 (x1 := z77) (by omega) (by omega) (by omega) hoh78 (n := nn) hnn (by rw [aah78.1, aah78.2.1, aah78.2.2, show z77.toInt.toNat = 8 * c + 5 by omega]; exact hod.2.2.1)) ⟨⟨rfl, show ¬ ty_Wsu 97 51 by unfold ty_Wsu; omega⟩, trivial⟩ (fun h78 _ j2h78 gh78 P => ?_)
    obtain ⟨gh78, _⟩ := gh78
    have gh78 : (hs_fI h78 97 51).toInt = (hs_fI h32 97 51).toInt := gh78
    obtain ⟨⟨z79, rfl⟩, oz79⟩ := P
    have az79 := nm_lo z79
    have bz79 := nm_hi z79
    have Jh78 : J h78 := by rw [eJ]; exact ⟨j2h78, oz79⟩
    have Ih78 := H.1 h78 Jh78
    refine hq_p (ls' := [some (.ref 97), some (.int x1), some (.int z79), none, none]) rfl rfl ?_
    refine hq_p rfl rfl ?_
    refine ty_gB Ih78 rfl rfl (by decide) (by decide) rfl (fun z81 ez81 az81 bz81 => ?_)
    refine ty_zne rfl (fun c82 => ?_) (fun c82 => ?_)
    · replace c82 : 1 ≤ z81.toInt ∧ z81.toInt ≤ 1 := by omega
      refine hq_p rfl rfl (ty_ge (n := 0) nk_i0 (fun z83 ez83 => ?_))
      exact hq_W.ret rfl rfl rfl ⟨Jh78, ⟨_, rfl, by omega, by omega⟩, by omega, by omega⟩
    · refine hq_p rfl rfl ?_
      refine ty_zne rfl (fun c84 => ?_) (fun c84 => ?_)
      · clear c84
        refine hq_p rfl rfl ?_
        refine hq_p rfl rfl ?_
        refine hq_p rfl rfl (ty_ge (n := 1) nk_i1 (fun z85 ez85 => ?_))
        refine hq_p rfl rfl (ty_ge (n := x1.toInt + z85.toInt) (nm_add (by omega) (by omega)) (fun z86 ez86 => ?_))
        have aah87 := a7 h78 Jh78
        have j1h87 : J1 h78 := by have q := Jh78; rw [eJ] at q; exact q.1
        have hoh87 : (hs_fI h78 97 20).toInt = 0 := by have q := Jh78; rw [eJ] at q; exact q.2
        refine ty_callm 0 [(0, 97, 51)] (W := ty_Wrun) H1 j1h87 rfl (fun _ => rfl) rfl rfl rfl (hq_pre_o Ih78.1 (x := 97) (ci := 11) rfl (by decide) rfl rfl rfl rfl) (fun a k w => by unfold ty_Wsu at w; unfold ty_Wrun; omega) (by unfold ty_Wsu ty_Wrun; omega) (ct_246 (x1 := z86) (by omega) (by omega) (by omega) hoh87 (n := nn) hnn (by rw [aah87.1, aah87.2.1, aah87.2.2, show z86.toInt.toNat = 8 * c + 1 by omega]; exact hod.1)) ⟨⟨rfl, show ¬ ty_Wsu 97 51 by unfold ty_Wsu; omega⟩, trivial⟩ (fun h87 _ j2h87 gh87 P => ?_)
        obtain ⟨gh87, _⟩ := gh87
        have gh87 : (hs_fI h87 97 51).toInt = (hs_fI h78 97 51).toInt := gh87
        obtain ⟨⟨z88, rfl⟩, oz88⟩ := P
        have az88 := nm_lo z88
        have bz88 := nm_hi z88
        have Jh87 : J h87 := by rw [eJ]; exact ⟨j2h87, oz88⟩
        have Ih87 := H.1 h87 Jh87
        refine hq_p (ls' := [some (.ref 97), some (.int x1), some (.int z88), none, none]) rfl rfl ?_
        refine hq_p rfl rfl ?_
        refine hq_p rfl rfl ?_
        refine hq_p rfl rfl (ty_ge (n := 3) nk_i3 (fun z89 ez89 => ?_))
        refine hq_p rfl rfl (ty_ge (n := x1.toInt + z89.toInt) (nm_add (by omega) (by omega)) (fun z90 ez90 => ?_))
        have aah91 := a7 h87 Jh87
        have j1h91 : J1 h87 := by have q := Jh87; rw [eJ] at q; exact q.1
        have hoh91 : (hs_fI h87 97 20).toInt = 0 := by have q := Jh87; rw [eJ] at q; exact q.2
        refine ty_callm 0 [(0, 97, 51)] (W := ty_Wrun) H1 j1h91 rfl (fun _ => rfl) rfl rfl rfl (hq_pre_o Ih87.1 (x := 97) (ci := 11) rfl (by decide) rfl rfl rfl rfl) (fun a k w => by unfold ty_Wsu at w; unfold ty_Wrun; omega) (by unfold ty_Wsu ty_Wrun; omega) (ct_246 (x1 := z90) (by omega) (by omega) (by omega) hoh91 (n := nn) hnn (by rw [aah91.1, aah91.2.1, aah91.2.2, show z90.toInt.toNat = 8 * c + 3 by omega]; exact hod.2.1)) ⟨⟨rfl, show ¬ ty_Wsu 97 51 by unfold ty_Wsu; omega⟩, trivial⟩ (fun h91 _ j2h91 gh91 P => ?_)
        obtain ⟨gh91, _⟩ := gh91
        have gh91 : (hs_fI h91 97 51).toInt = (hs_fI h87 97 51).toInt := gh91
        obtain ⟨⟨z92, rfl⟩, oz92⟩ := P
        have az92 := nm_lo z92
        have bz92 := nm_hi z92
        have Jh91 : J h91 := by rw [eJ]; exact ⟨j2h91, oz92⟩
        have Ih91 := H.1 h91 Jh91
        refine hq_p (ls' := [some (.ref 97), some (.int x1), some (.int z88), some (.int z92), none]) rfl rfl ?_
        refine hq_p rfl rfl ?_
        refine ty_gB Ih91 rfl rfl (by decide) (by decide) rfl (fun z93 ez93 az93 bz93 => ?_)
        refine ty_zeq rfl (fun c94 => ?_) (fun c94 => ?_)
        · refine hq_p rfl rfl ?_
          refine hq_p rfl rfl ?_
          refine hq_gR Ih91.1 rfl rfl (by decide) (by decide) rfl ?_
          refine hq_p rfl rfl ?_
          refine ty_aL Ih91 rfl rfl (by decide) (by omega) (by omega) (fun _ _ => ty_le rfl) (fun z95 ez95 az95 bz95 => ?_)
          refine hq_p rfl rfl ?_
          refine hq_p rfl rfl ?_
          refine ty_callm 0 [(0, 97, 51)] (W := ty_Wz) H Jh91 rfl (fun _ => rfl) rfl rfl rfl (hq_pre_o Ih91.1 (x := 97) (ci := 11) rfl (by decide) rfl rfl rfl rfl) (fun a k w => by unfold ty_Wac at w; unfold ty_Wz; omega) (by unfold ty_Wac ty_Wz; omega) (ct_247b (x1 := z95) (x2 := z88) (x3 := z92) (by omega)) ⟨⟨rfl, show ¬ ty_Wac 97 51 by unfold ty_Wac; omega⟩, trivial⟩ (fun h97 _ Jh97 gh97 P96 => ?_)
          obtain ⟨gh97_0, _⟩ := gh97
          have gh97_0 : (hs_fI h97 97 51).toInt = (hs_fI h91 97 51).toInt := gh97_0
          have Ih97 := H.1 h97 Jh97
          obtain ⟨z98, rfl, az98, bz98⟩ := P96
          refine hq_p (ls' := [some (.ref 97), some (.int x1), some (.int z88), some (.int z92), some (.int z98)]) rfl rfl ?_
          refine hq_p rfl rfl ?_
          refine ty_zge rfl (fun c99 => ?_) (fun c99 => ?_)
          · refine hq_p rfl rfl ?_
            refine hq_p rfl rfl ?_
            refine hq_gR Ih97.1 rfl rfl (by decide) (by decide) rfl ?_
            refine hq_p rfl rfl ?_
            refine ty_aL Ih97 rfl rfl (by decide) (by omega) (by omega) (fun _ _ => ty_le rfl) (fun z100 ez100 az100 bz100 => ?_)
            refine hq_p rfl rfl (ty_ge (n := 2) nk_i2 (fun z101 ez101 => ?_))
            refine ty_ine rfl (fun c102 => ?_) (fun c102 => ?_)
            · clear c102
              refine hq_p rfl rfl ?_
              refine ty_gI Ih97 rfl rfl (by decide) (by decide) rfl rfl (fun z103 ez103 az103 bz103 => ?_)
              refine ty_pI (W := ty_Wz) H Jh97 rfl rfl (by decide) rfl rfl (by unfold ty_Wz; omega) rfl (by omega) (by omega) (fun h104 eh104 Jh104 => ?_)
              have wh104 : (hs_fI h104 97 52).toInt = z103.toInt := by rw [eh104]; exact congrArg Int32.toInt (ty_fI_eq Ih97.1 rfl (by decide) rfl)
              have Ih104 := H.1 h104 Jh104
              refine hq_p rfl rfl ?_
              refine hq_p rfl rfl ?_
              have r106 : (hs_fI h104 97 51).toInt = (hs_fI h97 97 51).toInt := by rw [eh104]; exact congrArg Int32.toInt (ty_fI_sF (by decide))
              refine ty_gI Ih104 rfl rfl (by decide) (by decide) rfl rfl (fun z105 ez105 az105 bz105 => ?_)
              refine hq_p rfl rfl (ty_ge (n := 1) nk_i1 (fun z107 ez107 => ?_))
              refine hq_p rfl rfl (ty_ge (n := z105.toInt + z107.toInt) (nm_add (by omega) (by omega)) (fun z108 ez108 => ?_))
              refine ty_pI (W := ty_Wz) H Jh104 rfl rfl (by decide) rfl rfl (by unfold ty_Wz; omega) rfl (by omega) (by omega) (fun h109 eh109 Jh109 => ?_)
              have wh109 : (hs_fI h109 97 51).toInt = z108.toInt := by rw [eh109]; exact congrArg Int32.toInt (ty_fI_eq Ih104.1 rfl (by decide) rfl)
              have Ih109 := H.1 h109 Jh109
              refine hq_p rfl rfl (ty_ge (n := 0) nk_i0 (fun z110 ez110 => ?_))
              exact hq_W.ret rfl rfl rfl ⟨Jh109, ⟨_, rfl, by omega, by omega⟩, by omega, by omega⟩
            · refine hq_p rfl rfl ?_
              refine hq_p rfl rfl ?_
              refine ty_pI (W := ty_Wz) H Jh97 rfl rfl (by decide) rfl rfl (by unfold ty_Wz; omega) rfl (by omega) (by omega) (fun h111 eh111 Jh111 => ?_)
              have wh111 : (hs_fI h111 97 52).toInt = z98.toInt := by rw [eh111]; exact congrArg Int32.toInt (ty_fI_eq Ih97.1 rfl (by decide) rfl)
              have Ih111 := H.1 h111 Jh111
              refine hq_p rfl rfl ?_
              refine hq_p rfl rfl ?_
              have r113 : (hs_fI h111 97 51).toInt = (hs_fI h97 97 51).toInt := by rw [eh111]; exact congrArg Int32.toInt (ty_fI_sF (by decide))
              refine ty_gI Ih111 rfl rfl (by decide) (by decide) rfl rfl (fun z112 ez112 az112 bz112 => ?_)
              refine hq_p rfl rfl (ty_ge (n := 1) nk_i1 (fun z114 ez114 => ?_))
              refine hq_p rfl rfl (ty_ge (n := z112.toInt + z114.toInt) (nm_add (by omega) (by omega)) (fun z115 ez115 => ?_))
              refine ty_pI (W := ty_Wz) H Jh111 rfl rfl (by decide) rfl rfl (by unfold ty_Wz; omega) rfl (by omega) (by omega) (fun h116 eh116 Jh116 => ?_)
              have wh116 : (hs_fI h116 97 51).toInt = z115.toInt := by rw [eh116]; exact congrArg Int32.toInt (ty_fI_eq Ih111.1 rfl (by decide) rfl)
              have Ih116 := H.1 h116 Jh116
              refine hq_p rfl rfl (ty_ge (n := 0) nk_i0 (fun z117 ez117 => ?_))
              exact hq_W.ret rfl rfl rfl ⟨Jh116, ⟨_, rfl, by omega, by omega⟩, by omega, by omega⟩
          · refine hq_p rfl rfl (ty_ge (n := -3) nk_bm3 (fun z118 ez118 => ?_))
            exact hq_W.ret rfl rfl rfl ⟨Jh97, ⟨_, rfl, by omega, by omega⟩, by omega, by omega⟩
        · replace c94 : 1 ≤ z93.toInt ∧ z93.toInt ≤ 1 := by omega
          refine hq_p rfl rfl (ty_ge (n := -3) nk_bm3 (fun z119 ez119 => ?_))
          exact hq_W.ret rfl rfl rfl ⟨Jh91, ⟨_, rfl, by omega, by omega⟩, by omega, by omega⟩
      · refine hq_p rfl rfl (ty_ge (n := 0) nk_i0 (fun z120 ez120 => ?_))
        exact hq_W.ret rfl rfl rfl ⟨Jh78, ⟨_, rfl, by omega, by omega⟩, by omega, by omega⟩
end CT59
