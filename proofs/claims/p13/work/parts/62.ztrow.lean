/-! CONTRACTS (printed by wip/pm/cts.py) -/
section CT41
/-- a row of the class; while it is read -/
def ty_Wcw (a _k : Nat) : Prop := a < 97 ∧ a ≠ 63
def ty_Wcr (a k : Nat) : Prop := a < 97 ∧ a ≠ 63 ∧ ¬ (a = 62 ∧ k = 1)
theorem ct_93t {X : pm_X} {d : Nat} {h : pm_H}  (hd : 4 ≤ d)  : ty_M X ty_Wcw d 93 [.ref 0] h (fun h1 v => (∃ z : Int32, v = some (.int z) ∧ z.toInt = (if (hs_fI h 62 1).toInt = 0 then -6 else tc (hs_aI h 63) (hs_fI h 62 1).toInt (((hs_fI h 62 1).toInt + 2) / 3).toNat)) ∧ (hs_fI h1 62 1).toInt = 0 ∧ (hs_fI h1 0 15).toInt = (if (hs_fI h 62 1).toInt = 0 then (hs_fI h 0 15).toInt else ((hs_fI h 62 1).toInt + 2) / 3 - tc (hs_aI h 63) (hs_fI h 62 1).toInt (((hs_fI h 62 1).toInt + 2) / 3).toNat)) := by
  intro J H hJ
  obtain ⟨d, rfl⟩ : ∃ e, d = e + 1 := ⟨d - 1, by omega⟩
  have I := H.1 h hJ
  obtain ⟨q1, eq1⟩ : ∃ q : Int32, q.toInt = (hs_fI h 62 1).toInt := ⟨_, rfl⟩
  have gq10 : 0 ≤ (hs_fI h 62 1).toInt := (I.2.1 62 1 (by decide)).1
  have gq11 : (hs_fI h 62 1).toInt ≤ 400 := (I.2.1 62 1 (by decide)).2
  refine hq_M.enter (q := (⟨"TrainBearers", "row", "()I"⟩, _, 3, some .int, 10, 1, pm_c93)) rfl rfl ?_
  show hq_W X d 10 false (some .int) pm_c93 (0, [some (.ref 0), none, none], [], h) (fun h' v => J h' ∧ (fun h1 v => (∃ z : Int32, v = some (.int z) ∧ z.toInt = (if (hs_fI h 62 1).toInt = 0 then -6 else tc (hs_aI h 63) (hs_fI h 62 1).toInt (((hs_fI h 62 1).toInt + 2) / 3).toNat)) ∧ (hs_fI h1 62 1).toInt = 0 ∧ (hs_fI h1 0 15).toInt = (if (hs_fI h 62 1).toInt = 0 then (hs_fI h 0 15).toInt else ((hs_fI h 62 1).toInt + 2) / 3 - tc (hs_aI h 63) (hs_fI h 62 1).toInt (((hs_fI h 62 1).toInt + 2) / 3).toNat)) h' v)
  refine hq_p rfl rfl ?_
  refine hq_gR I.1 rfl rfl (by decide) (by decide) rfl ?_
  refine ty_gI I rfl rfl (by decide) (by decide) rfl rfl (fun z1 ez1 az1 bz1 => ?_)
  refine ty_zne rfl (fun c2 => ?_) (fun c2 => ?_)
  · replace c2 : 1 ≤ z1.toInt ∧ z1.toInt ≤ 400 := by omega
    have Hb := H
    obtain ⟨J1, eJ⟩ : ∃ J1 : pm_H → Prop, J1 = fun h' => (J h' ∧ hs_aI h' 63 = hs_aI h 63) ∧ (hs_fI h' 62 1).toInt = (hs_fI h 62 1).toInt := ⟨_, rfl⟩
    have H : ty_C ty_Wcr J1 := by rw [eJ]; exact ((H.mono (W' := ty_Wcr) (fun a k w => by unfold ty_Wcr at w; unfold ty_Wcw; omega) (by unfold ty_Wcr ty_Wcw; omega)).arr 63 (by decide) (fun k => by unfold ty_Wcr; omega) _).siz (by unfold ty_Wcr; omega) _
    have hJ1 : J1 h := by rw [eJ]; exact ⟨⟨hJ, rfl⟩, rfl⟩
    refine hq_p rfl rfl (ty_ge (n := 0) nk_i0 (fun z3 ez3 => ?_))
    refine hq_p (ls' := [some (.ref 0), some (.int z3), none]) rfl rfl ?_
    refine hq_p rfl rfl ?_
    refine hq_p rfl rfl (ty_ge (n := 0) nk_i0 (fun z4 ez4 => ?_))
    refine ty_pI (W := ty_Wcr) H hJ1 rfl rfl (by decide) rfl rfl (by unfold ty_Wcr; omega) rfl (by omega) (by omega) (fun h5 eh5 Jh5 => ?_)
    have wh5 : (hs_fI h5 0 15).toInt = z4.toInt := by rw [eh5]; exact congrArg Int32.toInt (ty_fI_eq I.1 rfl (by decide) rfl)
    have Ih5 := H.1 h5 Jh5
    refine hq_p rfl rfl (ty_ge (n := 0) nk_i0 (fun z6 ez6 => ?_))
    refine hq_p (ls' := [some (.ref 0), some (.int z3), some (.int z6)]) rfl rfl ?_
    have L26_n16 : ∀ n16 : Nat, ∀ (y10 : Int32) (y11 : Int32) (h12 : pm_H), (402 - y11.toInt).toNat = n16 → 0 ≤ y10.toInt → y10.toInt ≤ 134 → 0 ≤ y11.toInt → y11.toInt ≤ 402 → 3 * (y11.toInt / 3) = y11.toInt ∧ y11.toInt < (hs_fI h 62 1).toInt + 3 → y10.toInt = tc (hs_aI h 63) (hs_fI h 62 1).toInt (y11.toInt / 3).toNat → (hs_fI h12 0 15).toInt = y11.toInt / 3 - tc (hs_aI h 63) (hs_fI h 62 1).toInt (y11.toInt / 3).toNat → J1 h12 → hq_W X d 10 false (some .int) pm_c93 (26, [some (.ref 0), some (.int y10), some (.int y11)], [], h12) (fun h' v => J h' ∧ (fun h1 v => (∃ z : Int32, v = some (.int z) ∧ z.toInt = (if (hs_fI h 62 1).toInt = 0 then -6 else tc (hs_aI h 63) (hs_fI h 62 1).toInt (((hs_fI h 62 1).toInt + 2) / 3).toNat)) ∧ (hs_fI h1 62 1).toInt = 0 ∧ (hs_fI h1 0 15).toInt = (if (hs_fI h 62 1).toInt = 0 then (hs_fI h 0 15).toInt else ((hs_fI h 62 1).toInt + 2) / 3 - tc (hs_aI h 63) (hs_fI h 62 1).toInt (((hs_fI h 62 1).toInt + 2) / 3).toNat)) h' v) := by
      intro n16
      induction n16 using Nat.strongRecOn with
      | ind n16 ihn16 =>
        intro y10 y11 h12 mn16 ay10 by10 ay11 by11 x0n16 x1n16 x2n16 Jh12
        have Ih12 := H.1 h12 Jh12
        refine hq_p rfl rfl ?_
        have z0h12 : (hs_fI h12 62 1).toInt = (hs_fI h 62 1).toInt := by have q := Jh12; rw [eJ] at q; exact q.2
        refine hq_p rfl rfl ?_
        refine hq_gR Ih12.1 rfl rfl (by decide) (by decide) rfl ?_
        refine ty_gI Ih12 rfl rfl (by decide) (by decide) rfl rfl (fun z17 ez17 az17 bz17 => ?_)
        refine ty_ige rfl (fun c18 => ?_) (fun c18 => ?_)
        · have hJ2 : J h12 := by have q := Jh12; rw [eJ] at q; exact q.1.1
          obtain ⟨J3, eJ3⟩ : ∃ J3 : pm_H → Prop, J3 = fun h' => J h' ∧ (hs_fI h' 0 15).toInt = (hs_fI h12 0 15).toInt := ⟨_, rfl⟩
          have H : ty_C ty_Wc1 J3 := by rw [eJ3]; exact (Hb.mono (W' := ty_Wc1) (fun a k w => by unfold ty_Wc1 at w; unfold ty_Wcw; omega) (by unfold ty_Wc1 ty_Wcw; omega)).fld 0 15 (by decide) (by unfold ty_Wc1; omega) (by decide) _
          have hJ3 : J3 h12 := by rw [eJ3]; exact ⟨hJ2, rfl⟩
          refine hq_p rfl rfl ?_
          refine hq_gR Ih12.1 rfl rfl (by decide) (by decide) rfl ?_
          refine hq_p rfl rfl (ty_ge (n := 0) nk_i0 (fun z19 ez19 => ?_))
          refine ty_pI (W := ty_Wc1) H hJ3 rfl rfl (by decide) rfl rfl (by unfold ty_Wc1; omega) rfl (by omega) (by omega) (fun h20 eh20 Jh20 => ?_)
          have wh20 : (hs_fI h20 62 1).toInt = z19.toInt := by rw [eh20]; exact congrArg Int32.toInt (ty_fI_eq Ih12.1 rfl (by decide) rfl)
          have Ih20 := H.1 h20 Jh20
          refine hq_p rfl rfl ?_
          refine hq_p rfl rfl ?_
          refine ty_callz 0 (W := ty_Wc1) H Jh20 rfl (fun _ => rfl) rfl rfl rfl (hq_pre_o Ih20.1 (x := 0) (ci := 10) rfl (by decide) rfl rfl rfl rfl) (fun a k w => by unfold ty_Wc at w; unfold ty_Wc1; omega) (by unfold ty_Wc ty_Wc1; omega) (ct_126 (x1 := y10) (by omega)) (by unfold ty_Wc; omega) (fun h22 _ Jh22 gh22 P21 => ?_)
          have Ih22 := H.1 h22 Jh22
          obtain ⟨z23, rfl, fz23⟩ := P21
          have pr : (hs_fI h22 0 15).toInt = (hs_fI h12 0 15).toInt := by have q := Jh22; rw [eJ3] at q; exact q.2
          exact hq_W.ret rfl rfl rfl ⟨(by have q := Jh22; rw [eJ3] at q; exact q.1), ⟨_, rfl, (by rw [if_neg (by omega), show (((hs_fI h 62 1).toInt + 2) / 3).toNat = (y11.toInt / 3).toNat by omega]; omega)⟩, by omega, (by rw [if_neg (by omega), show (((hs_fI h 62 1).toInt + 2) / 3).toNat = (y11.toInt / 3).toNat by omega]; omega)⟩
        · refine hq_p rfl rfl ?_
          refine hq_p rfl rfl ?_
          have f0h12 : hs_aI h12 63 = (hs_aI h 63) := by have q := Jh12; rw [eJ] at q; exact q.1.2
          have tbh12 := tc_b (hs_aI h 63) (hs_fI h 62 1).toInt (y11.toInt / 3).toNat
          obtain ⟨q24, eq24⟩ : ∃ q : Int32, q.toInt = (hs_fI h12 0 15).toInt := ⟨_, rfl⟩
          have aq24 : 0 ≤ (hs_fI h12 0 15).toInt ∧ (hs_fI h12 0 15).toInt ≤ 134 := by omega
          refine ty_callm 0 [(0, 0, 15)] (W := ty_Wcr) H Jh12 rfl (fun _ => rfl) rfl rfl rfl (hq_pre_o Ih12.1 (x := 0) (ci := 10) rfl (by decide) rfl rfl rfl rfl) (fun a k w => by unfold ty_Wc at w; unfold ty_Wcr; omega) (by unfold ty_Wc ty_Wcr; omega) (ct_131t (x1 := y11) (by omega) (by omega) (by omega)) ⟨⟨rfl, show ¬ ty_Wc 0 15 by unfold ty_Wc; omega⟩, trivial⟩ (fun h26 _ Jh26 gh26 P25 => ?_)
          obtain ⟨gh26_0, _⟩ := gh26
          have gh26_0 : (hs_fI h26 0 15).toInt = (hs_fI h12 0 15).toInt := gh26_0
          have Ih26 := H.1 h26 Jh26
          obtain ⟨z27, rfl, az27, bz27, iz27, jz27⟩ := P25
          refine ty_zeq rfl (fun c28 => ?_) (fun c28 => ?_)
          · have yz27 := jz27 (by omega)
            clear iz27 jz27
            rw [f0h12, z0h12] at yz27
            have stz27 : tc (hs_aI h 63) (hs_fI h 62 1).toInt ((y11.toInt / 3).toNat + 1) = tc (hs_aI h 63) (hs_fI h 62 1).toInt (y11.toInt / 3).toNat := tc_0 (i := y11.toInt) (by omega) yz27
            clear yz27
            refine hq_p rfl rfl ?_
            refine hq_p rfl rfl ?_
            refine ty_gI Ih26 rfl rfl (by decide) (by decide) rfl rfl (fun z29 ez29 az29 bz29 => ?_)
            refine hq_p rfl rfl (ty_ge (n := 1) nk_i1 (fun z30 ez30 => ?_))
            refine hq_p rfl rfl (ty_ge (n := z29.toInt + z30.toInt) (nm_add (by omega) (by omega)) (fun z31 ez31 => ?_))
            refine ty_pI (W := ty_Wcr) H Jh26 rfl rfl (by decide) rfl rfl (by unfold ty_Wcr; omega) rfl (by omega) (by omega) (fun h32 eh32 Jh32 => ?_)
            have wh32 : (hs_fI h32 0 15).toInt = z31.toInt := by rw [eh32]; exact congrArg Int32.toInt (ty_fI_eq Ih26.1 rfl (by decide) rfl)
            have Ih32 := H.1 h32 Jh32
            refine ty_inc (ls' := fun z33 => [some (.ref 0), some (.int y10), some (.int z33)]) rfl rfl (fun _ => rfl) (nm_addc nk_i3 (by omega) (by omega)) (fun z33 ez33 => ?_)
            refine hq_p rfl rfl ?_
            exact ihn16 ((402 - z33.toInt).toNat) (by omega) y10 z33 h32 rfl (by omega) (by omega) (by omega) (by omega) (by omega) (by rw [show (z33.toInt / 3).toNat = (y11.toInt / 3).toNat + 1 by omega, stz27]; omega) (by rw [show (z33.toInt / 3).toNat = (y11.toInt / 3).toNat + 1 by omega, stz27]; omega) Jh32
          · replace c28 : 1 ≤ z27.toInt ∧ z27.toInt ≤ 1 := by omega
            have yz27 := iz27 (by omega)
            clear iz27 jz27
            rw [f0h12, z0h12] at yz27
            have stz27 : tc (hs_aI h 63) (hs_fI h 62 1).toInt ((y11.toInt / 3).toNat + 1) = tc (hs_aI h 63) (hs_fI h 62 1).toInt (y11.toInt / 3).toNat + 1 := tc_1 (i := y11.toInt) (by omega) yz27
            clear yz27
            refine ty_inc (ls' := fun z34 => [some (.ref 0), some (.int z34), some (.int y11)]) rfl rfl (fun _ => rfl) (nm_addc nk_i1 (by omega) (by omega)) (fun z34 ez34 => ?_)
            refine hq_p rfl rfl ?_
            refine ty_inc (ls' := fun z35 => [some (.ref 0), some (.int z34), some (.int z35)]) rfl rfl (fun _ => rfl) (nm_addc nk_i3 (by omega) (by omega)) (fun z35 ez35 => ?_)
            refine hq_p rfl rfl ?_
            exact ihn16 ((402 - z35.toInt).toNat) (by omega) z34 z35 h26 rfl (by omega) (by omega) (by omega) (by omega) (by omega) (by rw [show (z35.toInt / 3).toNat = (y11.toInt / 3).toNat + 1 by omega, stz27]; omega) (by rw [show (z35.toInt / 3).toNat = (y11.toInt / 3).toNat + 1 by omega, stz27]; omega) Jh26
    exact L26_n16 _ z3 z6 h5 rfl (by omega) (by omega) (by omega) (by omega) (by omega) (by rw [show (z6.toInt / 3).toNat = 0 by omega]; show _ = (0 : Int); omega) (by rw [show (z6.toInt / 3).toNat = 0 by omega]; show _ = z6.toInt / 3 - (0 : Int); omega) Jh5
  · obtain ⟨J3, eJ3⟩ : ∃ J3 : pm_H → Prop, J3 = fun h' => J h' ∧ (hs_fI h' 0 15).toInt = (hs_fI h 0 15).toInt := ⟨_, rfl⟩
    have H : ty_C ty_Wc1 J3 := by rw [eJ3]; exact (H.mono (W' := ty_Wc1) (fun a k w => by unfold ty_Wc1 at w; unfold ty_Wcw; omega) (by unfold ty_Wc1 ty_Wcw; omega)).fld 0 15 (by decide) (by unfold ty_Wc1; omega) (by decide) _
    have hJ3 : J3 h := by rw [eJ3]; exact ⟨hJ, rfl⟩
    refine hq_p rfl rfl ?_
    refine hq_p rfl rfl (ty_ge (n := -6) nk_bm6 (fun z36 ez36 => ?_))
    refine ty_callz 0 (W := ty_Wc1) H hJ3 rfl (fun _ => rfl) rfl rfl rfl (hq_pre_o I.1 (x := 0) (ci := 10) rfl (by decide) rfl rfl rfl rfl) (fun a k w => by unfold ty_Wc at w; unfold ty_Wc1; omega) (by unfold ty_Wc ty_Wc1; omega) (ct_125 (x1 := z36) (by omega)) (by unfold ty_Wc; omega) (fun h38 _ Jh38 gh38 P37 => ?_)
    have Ih38 := H.1 h38 Jh38
    obtain ⟨z39, rfl, fz39⟩ := P37
    have pr : (hs_fI h38 0 15).toInt = (hs_fI h 0 15).toInt := by have q := Jh38; rw [eJ3] at q; exact q.2
    exact hq_W.ret rfl rfl rfl ⟨(by have q := Jh38; rw [eJ3] at q; exact q.1), ⟨_, rfl, (by rw [if_pos (by omega)]; omega)⟩, by omega, (by rw [if_pos (by omega)]; omega)⟩
set_option maxHeartbeats 20000000 in
theorem ct_164t {X : pm_X} {d : Nat} {h : pm_H}  (hd : 4 ≤ d)  : ty_M X ty_Wrow d 164 [.ref 97] h (fun h1 v => (∃ z : Int32, v = some (.int z) ∧ z.toInt = (if (hs_fI h 97 13).toInt = 0 then -6 else tc (hs_aI h 106) (hs_fI h 97 13).toInt (((hs_fI h 97 13).toInt + 2) / 3).toNat)) ∧ (hs_fI h1 97 13).toInt = 0 ∧ (hs_fI h1 97 11).toInt = (if (hs_fI h 97 13).toInt = 0 then (hs_fI h 97 11).toInt else ((hs_fI h 97 13).toInt + 2) / 3 - tc (hs_aI h 106) (hs_fI h 97 13).toInt (((hs_fI h 97 13).toInt + 2) / 3).toNat)) := by
  intro J0 H0 hJ0
  obtain ⟨J, eJ⟩ : ∃ J : pm_H → Prop, J = fun h' => J0 h' ∧ hs_aI h' 106 = hs_aI h 106 := ⟨_, rfl⟩
  have H : ty_C ty_Wrow J := by rw [eJ]; exact H0.arr 106 (by decide) (fun k => by unfold ty_Wrow; omega) _
  have hJ : J h := by rw [eJ]; exact ⟨hJ0, rfl⟩
  refine hq_M.mono (Nat.le_refl _) (Q := fun h' v => J h' ∧ (fun h1 v => (∃ z : Int32, v = some (.int z) ∧ z.toInt = (if (hs_fI h 97 13).toInt = 0 then -6 else tc (hs_aI h 106) (hs_fI h 97 13).toInt (((hs_fI h 97 13).toInt + 2) / 3).toNat)) ∧ (hs_fI h1 97 13).toInt = 0 ∧ (hs_fI h1 97 11).toInt = (if (hs_fI h 97 13).toInt = 0 then (hs_fI h 97 11).toInt else ((hs_fI h 97 13).toInt + 2) / 3 - tc (hs_aI h 106) (hs_fI h 97 13).toInt (((hs_fI h 97 13).toInt + 2) / 3).toNat)) h' v) (fun h' v q => ⟨by have q1 := q.1; rw [eJ] at q1; exact q1.1, q.2⟩) ?_
  obtain ⟨d, rfl⟩ : ∃ e, d = e + 1 := ⟨d - 1, by omega⟩
  have I := H.1 h hJ
  obtain ⟨q13, eq13⟩ : ∃ q : Int32, q.toInt = (hs_fI h 97 13).toInt := ⟨_, rfl⟩
  have gq130 : 0 ≤ (hs_fI h 97 13).toInt := (I.2.1 97 13 (by decide)).1
  have gq131 : (hs_fI h 97 13).toInt ≤ 400 := (I.2.1 97 13 (by decide)).2
  obtain ⟨q11, eq11⟩ : ∃ q : Int32, q.toInt = (hs_fI h 97 11).toInt := ⟨_, rfl⟩
  have gq110 : -2147483648 ≤ (hs_fI h 97 11).toInt := (I.2.1 97 11 (by decide)).1
  have gq111 : (hs_fI h 97 11).toInt ≤ 2147483647 := (I.2.1 97 11 (by decide)).2
  refine hq_M.enter (q := (⟨"TrainBearersModel", "row", "()I"⟩, _, 5, some .int, 11, 1, pm_c164)) rfl rfl ?_
  show hq_W X d 11 false (some .int) pm_c164 (0, [some (.ref 97), none, none, none, none], [], h) (fun h' v => J h' ∧ (fun h1 v => (∃ z : Int32, v = some (.int z) ∧ z.toInt = (if (hs_fI h 97 13).toInt = 0 then -6 else tc (hs_aI h 106) (hs_fI h 97 13).toInt (((hs_fI h 97 13).toInt + 2) / 3).toNat)) ∧ (hs_fI h1 97 13).toInt = 0 ∧ (hs_fI h1 97 11).toInt = (if (hs_fI h 97 13).toInt = 0 then (hs_fI h 97 11).toInt else ((hs_fI h 97 13).toInt + 2) / 3 - tc (hs_aI h 106) (hs_fI h 97 13).toInt (((hs_fI h 97 13).toInt + 2) / 3).toNat)) h' v)
  refine hq_p rfl rfl ?_
  refine hq_p rfl rfl (ty_ge (n := 0) nk_i0 (fun z1 ez1 => ?_))
  refine ty_pI (W := ty_Wrow) H hJ rfl rfl (by decide) rfl rfl (by unfold ty_Wrow; omega) rfl (by omega) (by omega) (fun h2 eh2 Jh2 => ?_)
  have wh2 : (hs_fI h2 97 0).toInt = z1.toInt := by rw [eh2]; exact congrArg Int32.toInt (ty_fI_eq I.1 rfl (by decide) rfl)
  have Ih2 := H.1 h2 Jh2
  refine hq_p rfl rfl ?_
  have r4 : (hs_fI h2 97 13).toInt = (hs_fI h 97 13).toInt := by rw [eh2]; exact congrArg Int32.toInt (ty_fI_sF (by decide))
  refine ty_gI Ih2 rfl rfl (by decide) (by decide) rfl rfl (fun z3 ez3 az3 bz3 => ?_)
  refine hq_p (ls' := [some (.ref 97), some (.int z3), none, none, none]) rfl rfl ?_
  refine hq_p rfl rfl ?_
  refine hq_p rfl rfl (ty_ge (n := 0) nk_i0 (fun z5 ez5 => ?_))
  refine ty_pI (W := ty_Wrow) H Jh2 rfl rfl (by decide) rfl rfl (by unfold ty_Wrow; omega) rfl (by omega) (by omega) (fun h6 eh6 Jh6 => ?_)
  have wh6 : (hs_fI h6 97 13).toInt = z5.toInt := by rw [eh6]; exact congrArg Int32.toInt (ty_fI_eq Ih2.1 rfl (by decide) rfl)
  have Ih6 := H.1 h6 Jh6
  refine hq_p rfl rfl ?_
  refine ty_zne rfl (fun c7 => ?_) (fun c7 => ?_)
  · replace c7 : 1 ≤ z3.toInt ∧ z3.toInt ≤ 400 := by omega
    refine hq_p rfl rfl ?_
    refine hq_p rfl rfl (ty_ge (n := 0) nk_i0 (fun z8 ez8 => ?_))
    refine ty_pI (W := ty_Wrow) H Jh6 rfl rfl (by decide) rfl rfl (by unfold ty_Wrow; omega) rfl (by omega) (by omega) (fun h9 eh9 Jh9 => ?_)
    have wh9 : (hs_fI h9 97 11).toInt = z8.toInt := by rw [eh9]; exact congrArg Int32.toInt (ty_fI_eq Ih6.1 rfl (by decide) rfl)
    have Ih9 := H.1 h9 Jh9
    refine hq_p rfl rfl (ty_ge (n := 0) nk_i0 (fun z10 ez10 => ?_))
    refine hq_p (ls' := [some (.ref 97), some (.int z3), some (.int z10), none, none]) rfl rfl ?_
    refine hq_p rfl rfl (ty_ge (n := 0) nk_i0 (fun z11 ez11 => ?_))
    refine hq_p (ls' := [some (.ref 97), some (.int z3), some (.int z10), some (.int z11), none]) rfl rfl ?_
    have r12 : (hs_fI h9 97 13).toInt = (hs_fI h6 97 13).toInt := by rw [eh9]; exact congrArg Int32.toInt (ty_fI_sF (by decide))
    have L35_n25 : ∀ n25 : Nat, ∀ (y17 : Int32) (y18 : Int32) (w19 : Option Value) (h20 : pm_H), (402 - y18.toInt).toNat = n25 → 0 ≤ y17.toInt → y17.toInt ≤ 134 → 0 ≤ y18.toInt → y18.toInt ≤ 402 → pm_two w19 = false → 3 * (y18.toInt / 3) = y18.toInt ∧ y18.toInt < (hs_fI h 97 13).toInt + 3 → y17.toInt = tc (hs_aI h 106) (hs_fI h 97 13).toInt (y18.toInt / 3).toNat → (hs_fI h20 97 11).toInt = y18.toInt / 3 - tc (hs_aI h 106) (hs_fI h 97 13).toInt (y18.toInt / 3).toNat → (hs_fI h20 97 13).toInt = (hs_fI h9 97 13).toInt → J h20 → hq_W X d 11 false (some .int) pm_c164 (35, [some (.ref 97), some (.int z3), some (.int y17), some (.int y18), w19], [], h20) (fun h' v => J h' ∧ (fun h1 v => (∃ z : Int32, v = some (.int z) ∧ z.toInt = (if (hs_fI h 97 13).toInt = 0 then -6 else tc (hs_aI h 106) (hs_fI h 97 13).toInt (((hs_fI h 97 13).toInt + 2) / 3).toNat)) ∧ (hs_fI h1 97 13).toInt = 0 ∧ (hs_fI h1 97 11).toInt = (if (hs_fI h 97 13).toInt = 0 then (hs_fI h 97 11).toInt else ((hs_fI h 97 13).toInt + 2) / 3 - tc (hs_aI h 106) (hs_fI h 97 13).toInt (((hs_fI h 97 13).toInt + 2) / 3).toNat)) h' v) := by
      intro n25
      induction n25 using Nat.strongRecOn with
      | ind n25 ihn25 =>
        intro y17 y18 w19 h20 mn25 ay17 by17 ay18 by18 kw19 x0n25 x1n25 x2n25 x3n25 Jh20
        have Ih20 := H.1 h20 Jh20
        refine hq_p rfl rfl ?_
        refine hq_p rfl rfl ?_
        refine ty_ige rfl (fun c26 => ?_) (fun c26 => ?_)
        · have tbh20 := tc_b (hs_aI h 106) (hs_fI h 97 13).toInt (y18.toInt / 3).toNat
          obtain ⟨q27, eq27⟩ : ∃ q : Int32, q.toInt = (hs_fI h20 97 11).toInt := ⟨_, rfl⟩
          have aq27 : 0 ≤ (hs_fI h20 97 11).toInt ∧ (hs_fI h20 97 11).toInt ≤ 134 := by omega
          refine hq_p rfl rfl ?_
          refine hq_p rfl rfl ?_
          refine ty_callm 0 [(0, 97, 13), (0, 97, 11)] (W := ty_Wrow) H Jh20 rfl (fun _ => rfl) rfl rfl rfl (hq_pre_o Ih20.1 (x := 97) (ci := 11) rfl (by decide) rfl rfl rfl rfl) (fun a k w => by unfold ty_Wt at w; unfold ty_Wrow; omega) (by unfold ty_Wt ty_Wrow; omega) (ct_140 (x1 := y17) (by omega) (by omega) (by omega)) ⟨⟨rfl, show ¬ ty_Wt 97 13 by unfold ty_Wt; omega⟩, ⟨rfl, show ¬ ty_Wt 97 11 by unfold ty_Wt; omega⟩, trivial⟩ (fun h29 _ Jh29 gh29 P28 => ?_)
          obtain ⟨gh29_0, gh29_1, _⟩ := gh29
          have gh29_0 : (hs_fI h29 97 13).toInt = (hs_fI h20 97 13).toInt := gh29_0
          have gh29_1 : (hs_fI h29 97 11).toInt = (hs_fI h20 97 11).toInt := gh29_1
          have Ih29 := H.1 h29 Jh29
          obtain ⟨z30, rfl, fz30⟩ := P28
          exact hq_W.ret rfl rfl rfl ⟨Jh29, ⟨_, rfl, (by rw [if_neg (by omega), show (((hs_fI h 97 13).toInt + 2) / 3).toNat = (y18.toInt / 3).toNat by omega]; omega)⟩, by omega, (by rw [if_neg (by omega), show (((hs_fI h 97 13).toInt + 2) / 3).toNat = (y18.toInt / 3).toNat by omega]; omega)⟩
        · have tbh20 := tc_b (hs_aI h 106) (hs_fI h 97 13).toInt (y18.toInt / 3).toNat
          obtain ⟨q31, eq31⟩ : ∃ q : Int32, q.toInt = (hs_fI h20 97 11).toInt := ⟨_, rfl⟩
          have aq31 : 0 ≤ (hs_fI h20 97 11).toInt ∧ (hs_fI h20 97 11).toInt ≤ 134 := by omega
          refine hq_p rfl rfl ?_
          refine hq_p rfl rfl (ty_ge (n := 2) nk_i2 (fun z32 ez32 => ?_))
          refine hq_p rfl rfl (ty_ge (n := y18.toInt + z32.toInt) (nm_add (by omega) (by omega)) (fun z33 ez33 => ?_))
          refine hq_p rfl rfl ?_
          refine ty_ige rfl (fun c34 => ?_) (fun c34 => ?_)
          · refine hq_p rfl rfl (ty_ge (n := 100000000) nk_d100000000 (fun z35 ez35 => ?_))
            refine hq_p (ls' := [some (.ref 97), some (.int z3), some (.int y17), some (.int y18), some (.int z35)]) rfl rfl ?_
            refine hq_p rfl rfl ?_
            refine hq_p rfl rfl (ty_ge (n := 255) nk_s255 (fun z36 ez36 => ?_))
            refine ty_ine rfl (fun c37 => ?_) (fun c37 => ?_)
            · replace c37 : z35.toInt ≠ z36.toInt := by omega
              refine hq_p rfl rfl ?_
              refine hq_p (ls' := [some (.ref 97), some (.int z3), some (.int y17), some (.int y18), some (.int z35)]) rfl rfl ?_
              refine hq_p rfl rfl ?_
              refine hq_p rfl rfl (ty_ge (n := 2) nk_i2 (fun z38 ez38 => ?_))
              refine hq_p rfl rfl (ty_ge (n := y18.toInt + z38.toInt) (nm_add (by omega) (by omega)) (fun z39 ez39 => ?_))
              refine hq_p rfl rfl ?_
              refine ty_ige rfl (fun c40 => ?_) (fun c40 => ?_)
              · have sts41 : tc (hs_aI h 106) (hs_fI h 97 13).toInt ((y18.toInt / 3).toNat + 1) = tc (hs_aI h 106) (hs_fI h 97 13).toInt (y18.toInt / 3).toNat := tc_0 (i := y18.toInt) (by omega) (by unfold lt; omega)
                refine hq_p rfl rfl ?_
                refine hq_p rfl rfl ?_
                refine ty_gI Ih20 rfl rfl (by decide) (by decide) rfl rfl (fun z42 ez42 az42 bz42 => ?_)
                refine hq_p rfl rfl (ty_ge (n := 1) nk_i1 (fun z43 ez43 => ?_))
                refine hq_p rfl rfl (ty_ge (n := z42.toInt + z43.toInt) (nm_add (by omega) (by omega)) (fun z44 ez44 => ?_))
                refine ty_pI (W := ty_Wrow) H Jh20 rfl rfl (by decide) rfl rfl (by unfold ty_Wrow; omega) rfl (by omega) (by omega) (fun h45 eh45 Jh45 => ?_)
                have wh45 : (hs_fI h45 97 11).toInt = z44.toInt := by rw [eh45]; exact congrArg Int32.toInt (ty_fI_eq Ih20.1 rfl (by decide) rfl)
                have Ih45 := H.1 h45 Jh45
                refine ty_inc (ls' := fun z46 => [some (.ref 97), some (.int z3), some (.int y17), some (.int z46), some (.int z35)]) rfl rfl (fun _ => rfl) (nm_addc nk_i3 (by omega) (by omega)) (fun z46 ez46 => ?_)
                refine hq_p rfl rfl ?_
                have r47 : (hs_fI h45 97 13).toInt = (hs_fI h20 97 13).toInt := by rw [eh45]; exact congrArg Int32.toInt (ty_fI_sF (by decide))
                exact ihn25 ((402 - z46.toInt).toNat) (by omega) y17 z46 (some (.int z35)) h45 rfl (by omega) (by omega) (by omega) (by omega) rfl (by omega) (by rw [show (z46.toInt / 3).toNat = (y18.toInt / 3).toNat + 1 by omega, sts41]; omega) (by rw [show (z46.toInt / 3).toNat = (y18.toInt / 3).toNat + 1 by omega, sts41]; omega) (by omega) Jh45
              · exfalso; omega
            · exfalso; omega
          · refine hq_p rfl rfl ?_
            refine hq_gR Ih20.1 rfl rfl (by decide) (by decide) rfl ?_
            refine hq_p rfl rfl ?_
            refine hq_p rfl rfl (ty_ge (n := 2) nk_i2 (fun z48 ez48 => ?_))
            refine hq_p rfl rfl (ty_ge (n := y18.toInt + z48.toInt) (nm_add (by omega) (by omega)) (fun z49 ez49 => ?_))
            refine ty_aL Ih20 rfl rfl (by decide) (by omega) (by omega) (fun _ _ => ty_le rfl) (fun z50 ez50 az50 bz50 => ?_)
            have f0h20 : hs_aI h20 106 = (hs_aI h 106) := by have q := Jh20; rw [eJ] at q; exact q.2
            have nz50 : z50.toInt = ((hs_aI h 106) (y18.toInt + 2).toNat).toInt := by rw [ez50, f0h20, show z49.toInt.toNat = (y18.toInt + 2).toNat by omega]
            refine hq_p rfl rfl ?_
            refine hq_p (ls' := [some (.ref 97), some (.int z3), some (.int y17), some (.int y18), some (.int z50)]) rfl rfl ?_
            refine hq_p rfl rfl ?_
            refine hq_p rfl rfl (ty_ge (n := 255) nk_s255 (fun z51 ez51 => ?_))
            refine ty_ine rfl (fun c52 => ?_) (fun c52 => ?_)
            · replace c52 : z50.toInt ≠ z51.toInt := by omega
              refine hq_p rfl rfl ?_
              refine hq_p (ls' := [some (.ref 97), some (.int z3), some (.int y17), some (.int y18), some (.int z50)]) rfl rfl ?_
              refine hq_p rfl rfl ?_
              refine hq_p rfl rfl (ty_ge (n := 2) nk_i2 (fun z53 ez53 => ?_))
              refine hq_p rfl rfl (ty_ge (n := y18.toInt + z53.toInt) (nm_add (by omega) (by omega)) (fun z54 ez54 => ?_))
              refine hq_p rfl rfl ?_
              refine ty_ige rfl (fun c55 => ?_) (fun c55 => ?_)
              · have sts56 : tc (hs_aI h 106) (hs_fI h 97 13).toInt ((y18.toInt / 3).toNat + 1) = tc (hs_aI h 106) (hs_fI h 97 13).toInt (y18.toInt / 3).toNat := tc_0 (i := y18.toInt) (by omega) (by unfold lt; omega)
                refine hq_p rfl rfl ?_
                refine hq_p rfl rfl ?_
                refine ty_gI Ih20 rfl rfl (by decide) (by decide) rfl rfl (fun z57 ez57 az57 bz57 => ?_)
                refine hq_p rfl rfl (ty_ge (n := 1) nk_i1 (fun z58 ez58 => ?_))
                refine hq_p rfl rfl (ty_ge (n := z57.toInt + z58.toInt) (nm_add (by omega) (by omega)) (fun z59 ez59 => ?_))
                refine ty_pI (W := ty_Wrow) H Jh20 rfl rfl (by decide) rfl rfl (by unfold ty_Wrow; omega) rfl (by omega) (by omega) (fun h60 eh60 Jh60 => ?_)
                have wh60 : (hs_fI h60 97 11).toInt = z59.toInt := by rw [eh60]; exact congrArg Int32.toInt (ty_fI_eq Ih20.1 rfl (by decide) rfl)
                have Ih60 := H.1 h60 Jh60
                refine ty_inc (ls' := fun z61 => [some (.ref 97), some (.int z3), some (.int y17), some (.int z61), some (.int z50)]) rfl rfl (fun _ => rfl) (nm_addc nk_i3 (by omega) (by omega)) (fun z61 ez61 => ?_)
                refine hq_p rfl rfl ?_
                have r62 : (hs_fI h60 97 13).toInt = (hs_fI h20 97 13).toInt := by rw [eh60]; exact congrArg Int32.toInt (ty_fI_sF (by decide))
                exact ihn25 ((402 - z61.toInt).toNat) (by omega) y17 z61 (some (.int z50)) h60 rfl (by omega) (by omega) (by omega) (by omega) rfl (by omega) (by rw [show (z61.toInt / 3).toNat = (y18.toInt / 3).toNat + 1 by omega, sts56]; omega) (by rw [show (z61.toInt / 3).toNat = (y18.toInt / 3).toNat + 1 by omega, sts56]; omega) (by omega) Jh60
              · refine hq_p rfl rfl ?_
                refine hq_gR Ih20.1 rfl rfl (by decide) (by decide) rfl ?_
                refine hq_p rfl rfl ?_
                refine ty_aL Ih20 rfl rfl (by decide) (by omega) (by omega) (fun _ _ => ty_le rfl) (fun z63 ez63 az63 bz63 => ?_)
                have nz63 : z63.toInt = ((hs_aI h 106) y18.toInt.toNat).toInt := by rw [ez63, f0h20]
                refine hq_p rfl rfl ?_
                refine hq_gR Ih20.1 rfl rfl (by decide) (by decide) rfl ?_
                refine hq_p rfl rfl ?_
                refine hq_p rfl rfl (ty_ge (n := 1) nk_i1 (fun z64 ez64 => ?_))
                refine hq_p rfl rfl (ty_ge (n := y18.toInt + z64.toInt) (nm_add (by omega) (by omega)) (fun z65 ez65 => ?_))
                refine ty_aL Ih20 rfl rfl (by decide) (by omega) (by omega) (fun _ _ => ty_le rfl) (fun z66 ez66 az66 bz66 => ?_)
                have nz66 : z66.toInt = ((hs_aI h 106) (y18.toInt + 1).toNat).toInt := by rw [ez66, f0h20, show z65.toInt.toNat = (y18.toInt + 1).toNat by omega]
                refine hq_p rfl rfl ?_
                refine ty_callp 1 Ih20 rfl (fun _ => rfl) rfl rfl rfl rfl (ct_159e (x0 := z63) (x1 := z66) (x2 := z50) (by omega)) (fun _ P67 => ?_)
                obtain ⟨z68, rfl, az68, bz68, iz68, jz68⟩ := P67
                refine ty_zeq rfl (fun c69 => ?_) (fun c69 => ?_)
                · have yz68 := jz68 (by omega)
                  clear iz68 jz68
                  have sts70 : tc (hs_aI h 106) (hs_fI h 97 13).toInt ((y18.toInt / 3).toNat + 1) = tc (hs_aI h 106) (hs_fI h 97 13).toInt (y18.toInt / 3).toNat := tc_0 (i := y18.toInt) (by omega) (by unfold lt; omega)
                  clear yz68
                  refine hq_p rfl rfl ?_
                  refine hq_p rfl rfl ?_
                  refine ty_gI Ih20 rfl rfl (by decide) (by decide) rfl rfl (fun z71 ez71 az71 bz71 => ?_)
                  refine hq_p rfl rfl (ty_ge (n := 1) nk_i1 (fun z72 ez72 => ?_))
                  refine hq_p rfl rfl (ty_ge (n := z71.toInt + z72.toInt) (nm_add (by omega) (by omega)) (fun z73 ez73 => ?_))
                  refine ty_pI (W := ty_Wrow) H Jh20 rfl rfl (by decide) rfl rfl (by unfold ty_Wrow; omega) rfl (by omega) (by omega) (fun h74 eh74 Jh74 => ?_)
                  have wh74 : (hs_fI h74 97 11).toInt = z73.toInt := by rw [eh74]; exact congrArg Int32.toInt (ty_fI_eq Ih20.1 rfl (by decide) rfl)
                  have Ih74 := H.1 h74 Jh74
                  refine ty_inc (ls' := fun z75 => [some (.ref 97), some (.int z3), some (.int y17), some (.int z75), some (.int z50)]) rfl rfl (fun _ => rfl) (nm_addc nk_i3 (by omega) (by omega)) (fun z75 ez75 => ?_)
                  refine hq_p rfl rfl ?_
                  have r76 : (hs_fI h74 97 13).toInt = (hs_fI h20 97 13).toInt := by rw [eh74]; exact congrArg Int32.toInt (ty_fI_sF (by decide))
                  exact ihn25 ((402 - z75.toInt).toNat) (by omega) y17 z75 (some (.int z50)) h74 rfl (by omega) (by omega) (by omega) (by omega) rfl (by omega) (by rw [show (z75.toInt / 3).toNat = (y18.toInt / 3).toNat + 1 by omega, sts70]; omega) (by rw [show (z75.toInt / 3).toNat = (y18.toInt / 3).toNat + 1 by omega, sts70]; omega) (by omega) Jh74
                · replace c69 : 1 ≤ z68.toInt ∧ z68.toInt ≤ 1 := by omega
                  have yz68 := iz68 (by omega)
                  clear iz68 jz68
                  have sts77 : tc (hs_aI h 106) (hs_fI h 97 13).toInt ((y18.toInt / 3).toNat + 1) = tc (hs_aI h 106) (hs_fI h 97 13).toInt (y18.toInt / 3).toNat + 1 := tc_1 (i := y18.toInt) (by omega) (by unfold lt; omega)
                  refine hq_p rfl rfl ?_
                  refine hq_p rfl rfl ?_
                  refine hq_gR Ih20.1 rfl rfl (by decide) (by decide) rfl ?_
                  refine hq_p rfl rfl ?_
                  refine ty_aL Ih20 rfl rfl (by decide) (by omega) (by omega) (fun _ _ => ty_le rfl) (fun z78 ez78 az78 bz78 => ?_)
                  have nz78 : z78.toInt = ((hs_aI h 106) y18.toInt.toNat).toInt := by rw [ez78, f0h20]
                  refine hq_p rfl rfl ?_
                  refine hq_gR Ih20.1 rfl rfl (by decide) (by decide) rfl ?_
                  refine hq_p rfl rfl ?_
                  refine hq_p rfl rfl (ty_ge (n := 1) nk_i1 (fun z79 ez79 => ?_))
                  refine hq_p rfl rfl (ty_ge (n := y18.toInt + z79.toInt) (nm_add (by omega) (by omega)) (fun z80 ez80 => ?_))
                  refine ty_aL Ih20 rfl rfl (by decide) (by omega) (by omega) (fun _ _ => ty_le rfl) (fun z81 ez81 az81 bz81 => ?_)
                  have nz81 : z81.toInt = ((hs_aI h 106) (y18.toInt + 1).toNat).toInt := by rw [ez81, f0h20, show z80.toInt.toNat = (y18.toInt + 1).toNat by omega]
                  refine hq_p rfl rfl ?_
                  refine ty_callm 0 [(0, 97, 13), (0, 97, 11)] (W := ty_Wrow) H Jh20 rfl (fun _ => rfl) rfl rfl rfl (hq_pre_o Ih20.1 (x := 97) (ci := 11) rfl (by decide) rfl rfl rfl rfl) (fun a k w => by unfold ty_Wl at w; unfold ty_Wrow; omega) (by unfold ty_Wl ty_Wrow; omega) (ct_160b (x1 := z78) (x2 := z81) (x3 := z50) (by omega) (by omega) (by omega) (by omega) (by omega) (by omega) (by omega)) ⟨⟨rfl, show ¬ ty_Wl 97 13 by unfold ty_Wl; omega⟩, ⟨rfl, show ¬ ty_Wl 97 11 by unfold ty_Wl; omega⟩, trivial⟩ (fun h83 _ Jh83 gh83 P82 => ?_)
                  obtain ⟨gh83_0, gh83_1, _⟩ := gh83
                  have gh83_0 : (hs_fI h83 97 13).toInt = (hs_fI h20 97 13).toInt := gh83_0
                  have gh83_1 : (hs_fI h83 97 11).toInt = (hs_fI h20 97 11).toInt := gh83_1
                  have Ih83 := H.1 h83 Jh83
                  subst P82
                  refine ty_inc (ls' := fun z84 => [some (.ref 97), some (.int z3), some (.int z84), some (.int y18), some (.int z50)]) rfl rfl (fun _ => rfl) (nm_addc nk_i1 (by omega) (by omega)) (fun z84 ez84 => ?_)
                  refine hq_p rfl rfl ?_
                  refine ty_inc (ls' := fun z85 => [some (.ref 97), some (.int z3), some (.int z84), some (.int z85), some (.int z50)]) rfl rfl (fun _ => rfl) (nm_addc nk_i3 (by omega) (by omega)) (fun z85 ez85 => ?_)
                  refine hq_p rfl rfl ?_
                  exact ihn25 ((402 - z85.toInt).toNat) (by omega) z84 z85 (some (.int z50)) h83 rfl (by omega) (by omega) (by omega) (by omega) rfl (by omega) (by rw [show (z85.toInt / 3).toNat = (y18.toInt / 3).toNat + 1 by omega, sts77]; omega) (by rw [show (z85.toInt / 3).toNat = (y18.toInt / 3).toNat + 1 by omega, sts77]; omega) (by omega) Jh83
            · refine hq_p rfl rfl (ty_ge (n := -1) nk_im1 (fun z86 ez86 => ?_))
              refine hq_p rfl rfl ?_
              refine hq_p (ls' := [some (.ref 97), some (.int z3), some (.int y17), some (.int y18), some (.int z86)]) rfl rfl ?_
              refine hq_p rfl rfl ?_
              refine hq_p rfl rfl (ty_ge (n := 2) nk_i2 (fun z87 ez87 => ?_))
              refine hq_p rfl rfl (ty_ge (n := y18.toInt + z87.toInt) (nm_add (by omega) (by omega)) (fun z88 ez88 => ?_))
              refine hq_p rfl rfl ?_
              refine ty_ige rfl (fun c89 => ?_) (fun c89 => ?_)
              · have sts90 : tc (hs_aI h 106) (hs_fI h 97 13).toInt ((y18.toInt / 3).toNat + 1) = tc (hs_aI h 106) (hs_fI h 97 13).toInt (y18.toInt / 3).toNat := tc_0 (i := y18.toInt) (by omega) (by unfold lt; omega)
                refine hq_p rfl rfl ?_
                refine hq_p rfl rfl ?_
                refine ty_gI Ih20 rfl rfl (by decide) (by decide) rfl rfl (fun z91 ez91 az91 bz91 => ?_)
                refine hq_p rfl rfl (ty_ge (n := 1) nk_i1 (fun z92 ez92 => ?_))
                refine hq_p rfl rfl (ty_ge (n := z91.toInt + z92.toInt) (nm_add (by omega) (by omega)) (fun z93 ez93 => ?_))
                refine ty_pI (W := ty_Wrow) H Jh20 rfl rfl (by decide) rfl rfl (by unfold ty_Wrow; omega) rfl (by omega) (by omega) (fun h94 eh94 Jh94 => ?_)
                have wh94 : (hs_fI h94 97 11).toInt = z93.toInt := by rw [eh94]; exact congrArg Int32.toInt (ty_fI_eq Ih20.1 rfl (by decide) rfl)
                have Ih94 := H.1 h94 Jh94
                refine ty_inc (ls' := fun z95 => [some (.ref 97), some (.int z3), some (.int y17), some (.int z95), some (.int z86)]) rfl rfl (fun _ => rfl) (nm_addc nk_i3 (by omega) (by omega)) (fun z95 ez95 => ?_)
                refine hq_p rfl rfl ?_
                have r96 : (hs_fI h94 97 13).toInt = (hs_fI h20 97 13).toInt := by rw [eh94]; exact congrArg Int32.toInt (ty_fI_sF (by decide))
                exact ihn25 ((402 - z95.toInt).toNat) (by omega) y17 z95 (some (.int z86)) h94 rfl (by omega) (by omega) (by omega) (by omega) rfl (by omega) (by rw [show (z95.toInt / 3).toNat = (y18.toInt / 3).toNat + 1 by omega, sts90]; omega) (by rw [show (z95.toInt / 3).toNat = (y18.toInt / 3).toNat + 1 by omega, sts90]; omega) (by omega) Jh94
              · refine hq_p rfl rfl ?_
                refine hq_gR Ih20.1 rfl rfl (by decide) (by decide) rfl ?_
                refine hq_p rfl rfl ?_
                refine ty_aL Ih20 rfl rfl (by decide) (by omega) (by omega) (fun _ _ => ty_le rfl) (fun z97 ez97 az97 bz97 => ?_)
                have nz97 : z97.toInt = ((hs_aI h 106) y18.toInt.toNat).toInt := by rw [ez97, f0h20]
                refine hq_p rfl rfl ?_
                refine hq_gR Ih20.1 rfl rfl (by decide) (by decide) rfl ?_
                refine hq_p rfl rfl ?_
                refine hq_p rfl rfl (ty_ge (n := 1) nk_i1 (fun z98 ez98 => ?_))
                refine hq_p rfl rfl (ty_ge (n := y18.toInt + z98.toInt) (nm_add (by omega) (by omega)) (fun z99 ez99 => ?_))
                refine ty_aL Ih20 rfl rfl (by decide) (by omega) (by omega) (fun _ _ => ty_le rfl) (fun z100 ez100 az100 bz100 => ?_)
                have nz100 : z100.toInt = ((hs_aI h 106) (y18.toInt + 1).toNat).toInt := by rw [ez100, f0h20, show z99.toInt.toNat = (y18.toInt + 1).toNat by omega]
                refine hq_p rfl rfl ?_
                refine ty_callp 1 Ih20 rfl (fun _ => rfl) rfl rfl rfl rfl (ct_159e (x0 := z97) (x1 := z100) (x2 := z86) (by omega)) (fun _ P101 => ?_)
                obtain ⟨z102, rfl, az102, bz102, iz102, jz102⟩ := P101
                refine ty_zeq rfl (fun c103 => ?_) (fun c103 => ?_)
                · have yz102 := jz102 (by omega)
                  clear iz102 jz102
                  have sts104 : tc (hs_aI h 106) (hs_fI h 97 13).toInt ((y18.toInt / 3).toNat + 1) = tc (hs_aI h 106) (hs_fI h 97 13).toInt (y18.toInt / 3).toNat := tc_0 (i := y18.toInt) (by omega) (by unfold lt; omega)
                  clear yz102
                  refine hq_p rfl rfl ?_
                  refine hq_p rfl rfl ?_
                  refine ty_gI Ih20 rfl rfl (by decide) (by decide) rfl rfl (fun z105 ez105 az105 bz105 => ?_)
                  refine hq_p rfl rfl (ty_ge (n := 1) nk_i1 (fun z106 ez106 => ?_))
                  refine hq_p rfl rfl (ty_ge (n := z105.toInt + z106.toInt) (nm_add (by omega) (by omega)) (fun z107 ez107 => ?_))
                  refine ty_pI (W := ty_Wrow) H Jh20 rfl rfl (by decide) rfl rfl (by unfold ty_Wrow; omega) rfl (by omega) (by omega) (fun h108 eh108 Jh108 => ?_)
                  have wh108 : (hs_fI h108 97 11).toInt = z107.toInt := by rw [eh108]; exact congrArg Int32.toInt (ty_fI_eq Ih20.1 rfl (by decide) rfl)
                  have Ih108 := H.1 h108 Jh108
                  refine ty_inc (ls' := fun z109 => [some (.ref 97), some (.int z3), some (.int y17), some (.int z109), some (.int z86)]) rfl rfl (fun _ => rfl) (nm_addc nk_i3 (by omega) (by omega)) (fun z109 ez109 => ?_)
                  refine hq_p rfl rfl ?_
                  have r110 : (hs_fI h108 97 13).toInt = (hs_fI h20 97 13).toInt := by rw [eh108]; exact congrArg Int32.toInt (ty_fI_sF (by decide))
                  exact ihn25 ((402 - z109.toInt).toNat) (by omega) y17 z109 (some (.int z86)) h108 rfl (by omega) (by omega) (by omega) (by omega) rfl (by omega) (by rw [show (z109.toInt / 3).toNat = (y18.toInt / 3).toNat + 1 by omega, sts104]; omega) (by rw [show (z109.toInt / 3).toNat = (y18.toInt / 3).toNat + 1 by omega, sts104]; omega) (by omega) Jh108
                · replace c103 : 1 ≤ z102.toInt ∧ z102.toInt ≤ 1 := by omega
                  have yz102 := iz102 (by omega)
                  clear iz102 jz102
                  have sts111 : tc (hs_aI h 106) (hs_fI h 97 13).toInt ((y18.toInt / 3).toNat + 1) = tc (hs_aI h 106) (hs_fI h 97 13).toInt (y18.toInt / 3).toNat + 1 := tc_1 (i := y18.toInt) (by omega) (by unfold lt; omega)
                  refine hq_p rfl rfl ?_
                  refine hq_p rfl rfl ?_
                  refine hq_gR Ih20.1 rfl rfl (by decide) (by decide) rfl ?_
                  refine hq_p rfl rfl ?_
                  refine ty_aL Ih20 rfl rfl (by decide) (by omega) (by omega) (fun _ _ => ty_le rfl) (fun z112 ez112 az112 bz112 => ?_)
                  have nz112 : z112.toInt = ((hs_aI h 106) y18.toInt.toNat).toInt := by rw [ez112, f0h20]
                  refine hq_p rfl rfl ?_
                  refine hq_gR Ih20.1 rfl rfl (by decide) (by decide) rfl ?_
                  refine hq_p rfl rfl ?_
                  refine hq_p rfl rfl (ty_ge (n := 1) nk_i1 (fun z113 ez113 => ?_))
                  refine hq_p rfl rfl (ty_ge (n := y18.toInt + z113.toInt) (nm_add (by omega) (by omega)) (fun z114 ez114 => ?_))
                  refine ty_aL Ih20 rfl rfl (by decide) (by omega) (by omega) (fun _ _ => ty_le rfl) (fun z115 ez115 az115 bz115 => ?_)
                  have nz115 : z115.toInt = ((hs_aI h 106) (y18.toInt + 1).toNat).toInt := by rw [ez115, f0h20, show z114.toInt.toNat = (y18.toInt + 1).toNat by omega]
                  refine hq_p rfl rfl ?_
                  refine ty_callm 0 [(0, 97, 13), (0, 97, 11)] (W := ty_Wrow) H Jh20 rfl (fun _ => rfl) rfl rfl rfl (hq_pre_o Ih20.1 (x := 97) (ci := 11) rfl (by decide) rfl rfl rfl rfl) (fun a k w => by unfold ty_Wl at w; unfold ty_Wrow; omega) (by unfold ty_Wl ty_Wrow; omega) (ct_160b (x1 := z112) (x2 := z115) (x3 := z86) (by omega) (by omega) (by omega) (by omega) (by omega) (by omega) (by omega)) ⟨⟨rfl, show ¬ ty_Wl 97 13 by unfold ty_Wl; omega⟩, ⟨rfl, show ¬ ty_Wl 97 11 by unfold ty_Wl; omega⟩, trivial⟩ (fun h117 _ Jh117 gh117 P116 => ?_)
                  obtain ⟨gh117_0, gh117_1, _⟩ := gh117
                  have gh117_0 : (hs_fI h117 97 13).toInt = (hs_fI h20 97 13).toInt := gh117_0
                  have gh117_1 : (hs_fI h117 97 11).toInt = (hs_fI h20 97 11).toInt := gh117_1
                  have Ih117 := H.1 h117 Jh117
                  subst P116
                  refine ty_inc (ls' := fun z118 => [some (.ref 97), some (.int z3), some (.int z118), some (.int y18), some (.int z86)]) rfl rfl (fun _ => rfl) (nm_addc nk_i1 (by omega) (by omega)) (fun z118 ez118 => ?_)
                  refine hq_p rfl rfl ?_
                  refine ty_inc (ls' := fun z119 => [some (.ref 97), some (.int z3), some (.int z118), some (.int z119), some (.int z86)]) rfl rfl (fun _ => rfl) (nm_addc nk_i3 (by omega) (by omega)) (fun z119 ez119 => ?_)
                  refine hq_p rfl rfl ?_
                  exact ihn25 ((402 - z119.toInt).toNat) (by omega) z118 z119 (some (.int z86)) h117 rfl (by omega) (by omega) (by omega) (by omega) rfl (by omega) (by rw [show (z119.toInt / 3).toNat = (y18.toInt / 3).toNat + 1 by omega, sts111]; omega) (by rw [show (z119.toInt / 3).toNat = (y18.toInt / 3).toNat + 1 by omega, sts111]; omega) (by omega) Jh117
    exact L35_n25 _ z10 z11 none h9 rfl (by omega) (by omega) (by omega) (by omega) rfl (by omega) (by rw [show (z11.toInt / 3).toNat = 0 by omega]; show _ = (0 : Int); omega) (by rw [show (z11.toInt / 3).toNat = 0 by omega]; show _ = z11.toInt / 3 - (0 : Int); omega) (by omega) Jh9
  · refine hq_p rfl rfl ?_
    refine hq_p rfl rfl (ty_ge (n := -6) nk_bm6 (fun z120 ez120 => ?_))
    have r123 : (hs_fI h2 97 11).toInt = (hs_fI h 97 11).toInt := by rw [eh2]; exact congrArg Int32.toInt (ty_fI_sF (by decide))
    have r124 : (hs_fI h6 97 11).toInt = (hs_fI h2 97 11).toInt := by rw [eh6]; exact congrArg Int32.toInt (ty_fI_sF (by decide))
    refine ty_callm 0 [(0, 97, 13), (0, 97, 11)] (W := ty_Wrow) H Jh6 rfl (fun _ => rfl) rfl rfl rfl (hq_pre_o Ih6.1 (x := 97) (ci := 11) rfl (by decide) rfl rfl rfl rfl) (fun a k w => by unfold ty_Wt at w; unfold ty_Wrow; omega) (by unfold ty_Wt ty_Wrow; omega) (ct_140 (x1 := z120) (by omega) (by omega) (by omega)) ⟨⟨rfl, show ¬ ty_Wt 97 13 by unfold ty_Wt; omega⟩, ⟨rfl, show ¬ ty_Wt 97 11 by unfold ty_Wt; omega⟩, trivial⟩ (fun h122 _ Jh122 gh122 P121 => ?_)
    obtain ⟨gh122_0, gh122_1, _⟩ := gh122
    have gh122_0 : (hs_fI h122 97 13).toInt = (hs_fI h6 97 13).toInt := gh122_0
    have gh122_1 : (hs_fI h122 97 11).toInt = (hs_fI h6 97 11).toInt := gh122_1
    have Ih122 := H.1 h122 Jh122
    obtain ⟨z125, rfl, fz125⟩ := P121
    exact hq_W.ret rfl rfl rfl ⟨Jh122, ⟨_, rfl, (by rw [if_pos (by omega)]; omega)⟩, by omega, (by rw [if_pos (by omega)]; omega)⟩
end CT41
