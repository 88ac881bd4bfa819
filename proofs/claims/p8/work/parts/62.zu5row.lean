/-! CONTRACTS (printed by wip/pm/cts.py) -/
section CT47
theorem ct_93a {X : pm_X} {d : Nat} {h : pm_H}  (hd : 4 ≤ d)  (hn : hs_fR h 0 0 = 1) (hp : hs_fR h 0 1 = 12) : ty_M X (ty_Wcwl 7) d 93 [.ref 0] h (fun h1 v => (∃ z : Int32, v = some (.int z) ∧ z.toInt = (if (hs_fI h 62 1).toInt = 0 then -6 else tc (hs_aI h 63) (hs_fI h 62 1).toInt (((hs_fI h 62 1).toInt + 2) / 3).toNat)) ∧ (hs_fI h1 62 1).toInt = 0 ∧ (hs_fI h1 0 15).toInt = (if (hs_fI h 62 1).toInt = 0 then (hs_fI h 0 15).toInt else ((hs_fI h 62 1).toInt + 2) / 3 - tc (hs_aI h 63) (hs_fI h 62 1).toInt (((hs_fI h 62 1).toInt + 2) / 3).toNat) ∧ hs_aI h1 7 = (if (hs_fI h 62 1).toInt = 0 then hs_aI h 7 else ll (hs_aI h 63) (hs_fI h 62 1).toInt (hs_aI h 7) (((hs_fI h 62 1).toInt + 2) / 3).toNat)) := by
  intro J0 H0 hJ0
  obtain ⟨J, eJ⟩ : ∃ J : pm_H → Prop, J = fun h' => J0 h' ∧ hs_fR h' 0 0 = 1 ∧ hs_fR h' 0 1 = 12 := ⟨_, rfl⟩
  have H : ty_C (ty_Wcwl 7) J := by rw [eJ]; exact H0.refs 1 12
  have hJ : J h := by rw [eJ]; exact ⟨hJ0, hn, hp⟩
  refine hq_M.mono (Nat.le_refl _) (Q := fun h' v => J h' ∧ (fun h1 v => (∃ z : Int32, v = some (.int z) ∧ z.toInt = (if (hs_fI h 62 1).toInt = 0 then -6 else tc (hs_aI h 63) (hs_fI h 62 1).toInt (((hs_fI h 62 1).toInt + 2) / 3).toNat)) ∧ (hs_fI h1 62 1).toInt = 0 ∧ (hs_fI h1 0 15).toInt = (if (hs_fI h 62 1).toInt = 0 then (hs_fI h 0 15).toInt else ((hs_fI h 62 1).toInt + 2) / 3 - tc (hs_aI h 63) (hs_fI h 62 1).toInt (((hs_fI h 62 1).toInt + 2) / 3).toNat) ∧ hs_aI h1 7 = (if (hs_fI h 62 1).toInt = 0 then hs_aI h 7 else ll (hs_aI h 63) (hs_fI h 62 1).toInt (hs_aI h 7) (((hs_fI h 62 1).toInt + 2) / 3).toNat)) h' v) (fun h' v q => ⟨by have q1 := q.1; rw [eJ] at q1; exact q1.1, q.2⟩) ?_
  have p1 : ty_tr 1 := by simp [ty_tr]
  have l1 := ty_trl p1
  have p12 : ty_tr 12 := by simp [ty_tr]
  have l12 := ty_trl p12
  obtain ⟨d, rfl⟩ : ∃ e, d = e + 1 := ⟨d - 1, by omega⟩
  have I := H.1 h hJ
  obtain ⟨q1, eq1⟩ : ∃ q : Int32, q.toInt = (hs_fI h 62 1).toInt := ⟨_, rfl⟩
  have gq10 : 0 ≤ (hs_fI h 62 1).toInt := (I.2.1 62 1 (by decide)).1
  have gq11 : (hs_fI h 62 1).toInt ≤ 400 := (I.2.1 62 1 (by decide)).2
  refine hq_M.enter (q := (⟨"TrainBearers", "row", "()I"⟩, _, 3, some .int, 10, 1, pm_c93)) rfl rfl ?_
  show hq_W X d 10 false (some .int) pm_c93 (0, [some (.ref 0), none, none], [], h) (fun h' v => J h' ∧ (fun h1 v => (∃ z : Int32, v = some (.int z) ∧ z.toInt = (if (hs_fI h 62 1).toInt = 0 then -6 else tc (hs_aI h 63) (hs_fI h 62 1).toInt (((hs_fI h 62 1).toInt + 2) / 3).toNat)) ∧ (hs_fI h1 62 1).toInt = 0 ∧ (hs_fI h1 0 15).toInt = (if (hs_fI h 62 1).toInt = 0 then (hs_fI h 0 15).toInt else ((hs_fI h 62 1).toInt + 2) / 3 - tc (hs_aI h 63) (hs_fI h 62 1).toInt (((hs_fI h 62 1).toInt + 2) / 3).toNat) ∧ hs_aI h1 7 = (if (hs_fI h 62 1).toInt = 0 then hs_aI h 7 else ll (hs_aI h 63) (hs_fI h 62 1).toInt (hs_aI h 7) (((hs_fI h 62 1).toInt + 2) / 3).toNat)) h' v)
  refine hq_p rfl rfl ?_
  refine hq_gR I.1 rfl rfl (by decide) (by decide) rfl ?_
  refine ty_gI I rfl rfl (by decide) (by decide) rfl rfl (fun z1 ez1 az1 bz1 => ?_)
  refine ty_zne rfl (fun c2 => ?_) (fun c2 => ?_)
  · replace c2 : 1 ≤ z1.toInt ∧ z1.toInt ≤ 400 := by omega
    have Hb := H
    obtain ⟨J1, eJ1⟩ : ∃ J1 : pm_H → Prop, J1 = fun h' => (J h' ∧ hs_aI h' 63 = hs_aI h 63) ∧ (hs_fI h' 62 1).toInt = (hs_fI h 62 1).toInt := ⟨_, rfl⟩
    have H : ty_C (ty_Wcrl 7) J1 := by rw [eJ1]; exact ((H.mono (W' := (ty_Wcrl 7)) (fun a k w => by unfold ty_Wcrl at w; unfold ty_Wcwl; omega) (by unfold ty_Wcrl ty_Wcwl; omega)).arr 63 (by decide) (fun k => by unfold ty_Wcrl; omega) _).siz (by unfold ty_Wcrl; omega) _
    have hJ1 : J1 h := by rw [eJ1]; exact ⟨⟨hJ, rfl⟩, rfl⟩
    refine hq_p rfl rfl (ty_ge (n := 0) nk_i0 (fun z3 ez3 => ?_))
    refine hq_p (ls' := [some (.ref 0), some (.int z3), none]) rfl rfl ?_
    refine hq_p rfl rfl ?_
    refine hq_p rfl rfl (ty_ge (n := 0) nk_i0 (fun z4 ez4 => ?_))
    refine ty_pI (W := (ty_Wcrl 7)) H hJ1 rfl rfl (by decide) rfl rfl (by unfold ty_Wcrl; omega) rfl (by omega) (by omega) (fun h5 eh5 Jh5 => ?_)
    have wh5 : (hs_fI h5 0 15).toInt = z4.toInt := by rw [eh5]; exact congrArg Int32.toInt (ty_fI_eq I.1 rfl (by decide) rfl)
    have vh5_7 : hs_aI h5 7 = (hs_aI h 7) := by rw [eh5]; exact (hs_aI_ne (by decide)).trans rfl
    have Ih5 := H.1 h5 Jh5
    refine hq_p rfl rfl (ty_ge (n := 0) nk_i0 (fun z6 ez6 => ?_))
    refine hq_p (ls' := [some (.ref 0), some (.int z3), some (.int z6)]) rfl rfl ?_
    have L26_n16 : ∀ n16 : Nat, ∀ (y10 : Int32) (y11 : Int32) (h12 : pm_H), (402 - y11.toInt).toNat = n16 → 0 ≤ y10.toInt → y10.toInt ≤ 134 → 0 ≤ y11.toInt → y11.toInt ≤ 402 → 3 * (y11.toInt / 3) = y11.toInt ∧ y11.toInt < (hs_fI h 62 1).toInt + 3 → y10.toInt = tc (hs_aI h 63) (hs_fI h 62 1).toInt (y11.toInt / 3).toNat → (hs_fI h12 0 15).toInt = y11.toInt / 3 - tc (hs_aI h 63) (hs_fI h 62 1).toInt (y11.toInt / 3).toNat → hs_aI h12 7 = ll (hs_aI h 63) (hs_fI h 62 1).toInt (hs_aI h 7) (y11.toInt / 3).toNat → J1 h12 → hq_W X d 10 false (some .int) pm_c93 (26, [some (.ref 0), some (.int y10), some (.int y11)], [], h12) (fun h' v => J h' ∧ (fun h1 v => (∃ z : Int32, v = some (.int z) ∧ z.toInt = (if (hs_fI h 62 1).toInt = 0 then -6 else tc (hs_aI h 63) (hs_fI h 62 1).toInt (((hs_fI h 62 1).toInt + 2) / 3).toNat)) ∧ (hs_fI h1 62 1).toInt = 0 ∧ (hs_fI h1 0 15).toInt = (if (hs_fI h 62 1).toInt = 0 then (hs_fI h 0 15).toInt else ((hs_fI h 62 1).toInt + 2) / 3 - tc (hs_aI h 63) (hs_fI h 62 1).toInt (((hs_fI h 62 1).toInt + 2) / 3).toNat) ∧ hs_aI h1 7 = (if (hs_fI h 62 1).toInt = 0 then hs_aI h 7 else ll (hs_aI h 63) (hs_fI h 62 1).toInt (hs_aI h 7) (((hs_fI h 62 1).toInt + 2) / 3).toNat)) h' v) := by
      intro n16
      induction n16 using Nat.strongRecOn with
      | ind n16 ihn16 =>
        intro y10 y11 h12 mn16 ay10 by10 ay11 by11 x0n16 x1n16 x2n16 x3n16 Jh12
        have Ih12 := H.1 h12 Jh12
        refine hq_p rfl rfl ?_
        have z0h12 : (hs_fI h12 62 1).toInt = (hs_fI h 62 1).toInt := by have q := Jh12; rw [eJ1] at q; exact q.2
        refine hq_p rfl rfl ?_
        refine hq_gR Ih12.1 rfl rfl (by decide) (by decide) rfl ?_
        refine ty_gI Ih12 rfl rfl (by decide) (by decide) rfl rfl (fun z17 ez17 az17 bz17 => ?_)
        refine ty_ige rfl (fun c18 => ?_) (fun c18 => ?_)
        · have hJ2 : J h12 := by have q := Jh12; rw [eJ1] at q; exact q.1.1
          obtain ⟨J3, eJ3⟩ : ∃ J3 : pm_H → Prop, J3 = fun h' => (J h' ∧ (hs_fI h' 0 15).toInt = (hs_fI h12 0 15).toInt) ∧ hs_aI h' 7 = hs_aI h12 7 := ⟨_, rfl⟩
          have H : ty_C ty_Wc1 J3 := by rw [eJ3]; exact ((Hb.mono (W' := ty_Wc1) (fun a k w => by unfold ty_Wc1 at w; unfold ty_Wcwl; omega) (by unfold ty_Wc1 ty_Wcwl; omega)).fld 0 15 (by decide) (by unfold ty_Wc1; omega) (by decide) _).arr 7 (by decide) (fun k => by unfold ty_Wc1; omega) _
          have hJ3 : J3 h12 := by rw [eJ3]; exact ⟨⟨hJ2, rfl⟩, rfl⟩
          refine hq_p rfl rfl ?_
          refine hq_gR Ih12.1 rfl rfl (by decide) (by decide) rfl ?_
          refine hq_p rfl rfl (ty_ge (n := 0) nk_i0 (fun z19 ez19 => ?_))
          refine ty_pI (W := ty_Wc1) H hJ3 rfl rfl (by decide) rfl rfl (by unfold ty_Wc1; omega) rfl (by omega) (by omega) (fun h20 eh20 Jh20 => ?_)
          have wh20 : (hs_fI h20 62 1).toInt = z19.toInt := by rw [eh20]; exact congrArg Int32.toInt (ty_fI_eq Ih12.1 rfl (by decide) rfl)
          have Ih20 := H.1 h20 Jh20
          refine hq_p rfl rfl ?_
          refine hq_p rfl rfl ?_
          refine ty_callz 0 (W := ty_Wc1) H Jh20 rfl (fun _ => rfl) rfl rfl rfl (hq_pre_o Ih20.1 (x := 0) (ci := 10) rfl (by decide) rfl rfl rfl rfl) (fun a k w => by unfold ty_Wc at w; unfold ty_Wc1; omega) (by unfold ty_Wc ty_Wc1; omega) (ct_126 (x1 := y10) (by omega)) (by unfold ty_Wc; omega) (fun h22 _ Jh22 gh22 P21 => ?_)
          have Ih22 := H.1 h22 Jh22
          obtain ⟨z23, rfl, fz23⟩ := P21
          have pr : (hs_fI h22 0 15).toInt = (hs_fI h12 0 15).toInt := by have q := Jh22; rw [eJ3] at q; exact q.1.2
          have pl : hs_aI h22 7 = hs_aI h12 7 := by have q := Jh22; rw [eJ3] at q; exact q.2
          exact hq_W.ret rfl rfl rfl ⟨(by have q := Jh22; rw [eJ3] at q; exact q.1.1), ⟨_, rfl, (by rw [if_neg (by omega), show (((hs_fI h 62 1).toInt + 2) / 3).toNat = (y11.toInt / 3).toNat by omega]; omega)⟩, by omega, (by rw [if_neg (by omega), show (((hs_fI h 62 1).toInt + 2) / 3).toNat = (y11.toInt / 3).toNat by omega]; omega), (by rw [if_neg (by omega), show (((hs_fI h 62 1).toInt + 2) / 3).toNat = (y11.toInt / 3).toNat by omega, pl]; exact x3n16)⟩
        · refine hq_p rfl rfl ?_
          refine hq_p rfl rfl ?_
          have f0h12 : hs_aI h12 63 = (hs_aI h 63) := by have q := Jh12; rw [eJ1] at q; exact q.1.2
          have tbh12 := tc_b (hs_aI h 63) (hs_fI h 62 1).toInt (y11.toInt / 3).toNat
          obtain ⟨q24, eq24⟩ : ∃ q : Int32, q.toInt = (hs_fI h12 0 15).toInt := ⟨_, rfl⟩
          have aq24 : 0 ≤ (hs_fI h12 0 15).toInt ∧ (hs_fI h12 0 15).toInt ≤ 134 := by omega
          refine ty_callm 0 [(0, 0, 15)] (W := (ty_Wcrl 7)) H Jh12 rfl (fun _ => rfl) rfl rfl rfl (hq_pre_o Ih12.1 (x := 0) (ci := 10) rfl (by decide) rfl rfl rfl rfl) (fun a k w => by unfold ty_Wcl at w; unfold ty_Wcrl; omega) (by unfold ty_Wcl ty_Wcrl; omega) (ct_131a (x1 := y11) (by omega) (by omega) (by omega) (by have q := Jh12; rw [eJ1] at q; have q := q.1.1; rw [eJ] at q; exact q.2.1) (by have q := Jh12; rw [eJ1] at q; have q := q.1.1; rw [eJ] at q; exact q.2.2)) ⟨⟨rfl, show ¬ (ty_Wcl 7) 0 15 by unfold ty_Wcl; omega⟩, trivial⟩ (fun h26 _ Jh26 gh26 P25 => ?_)
          obtain ⟨gh26_0, _⟩ := gh26
          have gh26_0 : (hs_fI h26 0 15).toInt = (hs_fI h12 0 15).toInt := gh26_0
          have Ih26 := H.1 h26 Jh26
          obtain ⟨z27, rfl, az27, bz27, iz27, jz27⟩ := P25
          refine ty_zeq rfl (fun c28 => ?_) (fun c28 => ?_)
          · obtain ⟨yz27, lz27⟩ := jz27 (by omega)
            clear iz27 jz27
            rw [f0h12, z0h12] at yz27
            have stz27 : tc (hs_aI h 63) (hs_fI h 62 1).toInt ((y11.toInt / 3).toNat + 1) = tc (hs_aI h 63) (hs_fI h 62 1).toInt (y11.toInt / 3).toNat := tc_0 (i := y11.toInt) (by omega) yz27
            have slz27 : hs_aI h26 7 = ll (hs_aI h 63) (hs_fI h 62 1).toInt (hs_aI h 7) ((y11.toInt / 3).toNat + 1) := lz27.trans (by rw [x3n16, ll_0 (i := y11.toInt) (by omega) yz27])
            clear yz27
            refine hq_p rfl rfl ?_
            refine hq_p rfl rfl ?_
            refine ty_gI Ih26 rfl rfl (by decide) (by decide) rfl rfl (fun z29 ez29 az29 bz29 => ?_)
            refine hq_p rfl rfl (ty_ge (n := 1) nk_i1 (fun z30 ez30 => ?_))
            refine hq_p rfl rfl (ty_ge (n := z29.toInt + z30.toInt) (nm_add (by omega) (by omega)) (fun z31 ez31 => ?_))
            refine ty_pI (W := (ty_Wcrl 7)) H Jh26 rfl rfl (by decide) rfl rfl (by unfold ty_Wcrl; omega) rfl (by omega) (by omega) (fun h32 eh32 Jh32 => ?_)
            have wh32 : (hs_fI h32 0 15).toInt = z31.toInt := by rw [eh32]; exact congrArg Int32.toInt (ty_fI_eq Ih26.1 rfl (by decide) rfl)
            have vh32_7 : hs_aI h32 7 = ll (hs_aI h 63) (hs_fI h 62 1).toInt (hs_aI h 7) ((y11.toInt / 3).toNat + 1) := by rw [eh32]; exact (hs_aI_ne (by decide)).trans slz27
            have Ih32 := H.1 h32 Jh32
            refine ty_inc (ls' := fun z33 => [some (.ref 0), some (.int y10), some (.int z33)]) rfl rfl (fun _ => rfl) (nm_addc nk_i3 (by omega) (by omega)) (fun z33 ez33 => ?_)
            refine hq_p rfl rfl ?_
            exact ihn16 ((402 - z33.toInt).toNat) (by omega) y10 z33 h32 rfl (by omega) (by omega) (by omega) (by omega) (by omega) (by rw [show (z33.toInt / 3).toNat = (y11.toInt / 3).toNat + 1 by omega, stz27]; omega) (by rw [show (z33.toInt / 3).toNat = (y11.toInt / 3).toNat + 1 by omega, stz27]; omega) (by rw [show (z33.toInt / 3).toNat = (y11.toInt / 3).toNat + 1 by omega]; exact vh32_7) Jh32
          · replace c28 : 1 ≤ z27.toInt ∧ z27.toInt ≤ 1 := by omega
            obtain ⟨yz27, lz27⟩ := iz27 (by omega)
            clear iz27 jz27
            rw [f0h12, z0h12] at yz27
            have stz27 : tc (hs_aI h 63) (hs_fI h 62 1).toInt ((y11.toInt / 3).toNat + 1) = tc (hs_aI h 63) (hs_fI h 62 1).toInt (y11.toInt / 3).toNat + 1 := tc_1 (i := y11.toInt) (by omega) yz27
            rw [f0h12] at lz27
            have slz27 : hs_aI h26 7 = ll (hs_aI h 63) (hs_fI h 62 1).toInt (hs_aI h 7) ((y11.toInt / 3).toNat + 1) := lz27.trans (by rw [x3n16, ll_1 (i := y11.toInt) (by omega) yz27])
            clear yz27
            refine ty_inc (ls' := fun z34 => [some (.ref 0), some (.int z34), some (.int y11)]) rfl rfl (fun _ => rfl) (nm_addc nk_i1 (by omega) (by omega)) (fun z34 ez34 => ?_)
            refine hq_p rfl rfl ?_
            refine ty_inc (ls' := fun z35 => [some (.ref 0), some (.int z34), some (.int z35)]) rfl rfl (fun _ => rfl) (nm_addc nk_i3 (by omega) (by omega)) (fun z35 ez35 => ?_)
            refine hq_p rfl rfl ?_
            exact ihn16 ((402 - z35.toInt).toNat) (by omega) z34 z35 h26 rfl (by omega) (by omega) (by omega) (by omega) (by omega) (by rw [show (z35.toInt / 3).toNat = (y11.toInt / 3).toNat + 1 by omega, stz27]; omega) (by rw [show (z35.toInt / 3).toNat = (y11.toInt / 3).toNat + 1 by omega, stz27]; omega) (by rw [show (z35.toInt / 3).toNat = (y11.toInt / 3).toNat + 1 by omega]; exact slz27) Jh26
    exact L26_n16 _ z3 z6 h5 rfl (by omega) (by omega) (by omega) (by omega) (by omega) (by rw [show (z6.toInt / 3).toNat = 0 by omega]; show _ = (0 : Int); omega) (by rw [show (z6.toInt / 3).toNat = 0 by omega]; show _ = z6.toInt / 3 - (0 : Int); omega) (by rw [show (z6.toInt / 3).toNat = 0 by omega]; exact vh5_7) Jh5
  · obtain ⟨J3, eJ3⟩ : ∃ J3 : pm_H → Prop, J3 = fun h' => (J h' ∧ (hs_fI h' 0 15).toInt = (hs_fI h 0 15).toInt) ∧ hs_aI h' 7 = hs_aI h 7 := ⟨_, rfl⟩
    have H : ty_C ty_Wc1 J3 := by rw [eJ3]; exact ((H.mono (W' := ty_Wc1) (fun a k w => by unfold ty_Wc1 at w; unfold ty_Wcwl; omega) (by unfold ty_Wc1 ty_Wcwl; omega)).fld 0 15 (by decide) (by unfold ty_Wc1; omega) (by decide) _).arr 7 (by decide) (fun k => by unfold ty_Wc1; omega) _
    have hJ3 : J3 h := by rw [eJ3]; exact ⟨⟨hJ, rfl⟩, rfl⟩
    refine hq_p rfl rfl ?_
    refine hq_p rfl rfl (ty_ge (n := -6) nk_bm6 (fun z36 ez36 => ?_))
    refine ty_callz 0 (W := ty_Wc1) H hJ3 rfl (fun _ => rfl) rfl rfl rfl (hq_pre_o I.1 (x := 0) (ci := 10) rfl (by decide) rfl rfl rfl rfl) (fun a k w => by unfold ty_Wc at w; unfold ty_Wc1; omega) (by unfold ty_Wc ty_Wc1; omega) (ct_125 (x1 := z36) (by omega)) (by unfold ty_Wc; omega) (fun h38 _ Jh38 gh38 P37 => ?_)
    have Ih38 := H.1 h38 Jh38
    obtain ⟨z39, rfl, fz39⟩ := P37
    have pr : (hs_fI h38 0 15).toInt = (hs_fI h 0 15).toInt := by have q := Jh38; rw [eJ3] at q; exact q.1.2
    have pl : hs_aI h38 7 = hs_aI h 7 := by have q := Jh38; rw [eJ3] at q; exact q.2
    exact hq_W.ret rfl rfl rfl ⟨(by have q := Jh38; rw [eJ3] at q; exact q.1.1), ⟨_, rfl, (by rw [if_pos (by omega)]; omega)⟩, by omega, (by rw [if_pos (by omega)]; omega), (by rw [if_pos (by omega), pl])⟩
theorem ct_93b {X : pm_X} {d : Nat} {h : pm_H}  (hd : 4 ≤ d)  (hn : hs_fR h 0 0 = 12) (hp : hs_fR h 0 1 = 1) : ty_M X (ty_Wcwl 18) d 93 [.ref 0] h (fun h1 v => (∃ z : Int32, v = some (.int z) ∧ z.toInt = (if (hs_fI h 62 1).toInt = 0 then -6 else tc (hs_aI h 63) (hs_fI h 62 1).toInt (((hs_fI h 62 1).toInt + 2) / 3).toNat)) ∧ (hs_fI h1 62 1).toInt = 0 ∧ (hs_fI h1 0 15).toInt = (if (hs_fI h 62 1).toInt = 0 then (hs_fI h 0 15).toInt else ((hs_fI h 62 1).toInt + 2) / 3 - tc (hs_aI h 63) (hs_fI h 62 1).toInt (((hs_fI h 62 1).toInt + 2) / 3).toNat) ∧ hs_aI h1 18 = (if (hs_fI h 62 1).toInt = 0 then hs_aI h 18 else ll (hs_aI h 63) (hs_fI h 62 1).toInt (hs_aI h 18) (((hs_fI h 62 1).toInt + 2) / 3).toNat)) := by
  intro J0 H0 hJ0
  obtain ⟨J, eJ⟩ : ∃ J : pm_H → Prop, J = fun h' => J0 h' ∧ hs_fR h' 0 0 = 12 ∧ hs_fR h' 0 1 = 1 := ⟨_, rfl⟩
  have H : ty_C (ty_Wcwl 18) J := by rw [eJ]; exact H0.refs 12 1
  have hJ : J h := by rw [eJ]; exact ⟨hJ0, hn, hp⟩
  refine hq_M.mono (Nat.le_refl _) (Q := fun h' v => J h' ∧ (fun h1 v => (∃ z : Int32, v = some (.int z) ∧ z.toInt = (if (hs_fI h 62 1).toInt = 0 then -6 else tc (hs_aI h 63) (hs_fI h 62 1).toInt (((hs_fI h 62 1).toInt + 2) / 3).toNat)) ∧ (hs_fI h1 62 1).toInt = 0 ∧ (hs_fI h1 0 15).toInt = (if (hs_fI h 62 1).toInt = 0 then (hs_fI h 0 15).toInt else ((hs_fI h 62 1).toInt + 2) / 3 - tc (hs_aI h 63) (hs_fI h 62 1).toInt (((hs_fI h 62 1).toInt + 2) / 3).toNat) ∧ hs_aI h1 18 = (if (hs_fI h 62 1).toInt = 0 then hs_aI h 18 else ll (hs_aI h 63) (hs_fI h 62 1).toInt (hs_aI h 18) (((hs_fI h 62 1).toInt + 2) / 3).toNat)) h' v) (fun h' v q => ⟨by have q1 := q.1; rw [eJ] at q1; exact q1.1, q.2⟩) ?_
  have p1 : ty_tr 1 := by simp [ty_tr]
  have l1 := ty_trl p1
  have p12 : ty_tr 12 := by simp [ty_tr]
  have l12 := ty_trl p12
  obtain ⟨d, rfl⟩ : ∃ e, d = e + 1 := ⟨d - 1, by omega⟩
  have I := H.1 h hJ
  obtain ⟨q1, eq1⟩ : ∃ q : Int32, q.toInt = (hs_fI h 62 1).toInt := ⟨_, rfl⟩
  have gq10 : 0 ≤ (hs_fI h 62 1).toInt := (I.2.1 62 1 (by decide)).1
  have gq11 : (hs_fI h 62 1).toInt ≤ 400 := (I.2.1 62 1 (by decide)).2
  refine hq_M.enter (q := (⟨"TrainBearers", "row", "()I"⟩, _, 3, some .int, 10, 1, pm_c93)) rfl rfl ?_
  show hq_W X d 10 false (some .int) pm_c93 (0, [some (.ref 0), none, none], [], h) (fun h' v => J h' ∧ (fun h1 v => (∃ z : Int32, v = some (.int z) ∧ z.toInt = (if (hs_fI h 62 1).toInt = 0 then -6 else tc (hs_aI h 63) (hs_fI h 62 1).toInt (((hs_fI h 62 1).toInt + 2) / 3).toNat)) ∧ (hs_fI h1 62 1).toInt = 0 ∧ (hs_fI h1 0 15).toInt = (if (hs_fI h 62 1).toInt = 0 then (hs_fI h 0 15).toInt else ((hs_fI h 62 1).toInt + 2) / 3 - tc (hs_aI h 63) (hs_fI h 62 1).toInt (((hs_fI h 62 1).toInt + 2) / 3).toNat) ∧ hs_aI h1 18 = (if (hs_fI h 62 1).toInt = 0 then hs_aI h 18 else ll (hs_aI h 63) (hs_fI h 62 1).toInt (hs_aI h 18) (((hs_fI h 62 1).toInt + 2) / 3).toNat)) h' v)
  refine hq_p rfl rfl ?_
  refine hq_gR I.1 rfl rfl (by decide) (by decide) rfl ?_
  refine ty_gI I rfl rfl (by decide) (by decide) rfl rfl (fun z1 ez1 az1 bz1 => ?_)
  refine ty_zne rfl (fun c2 => ?_) (fun c2 => ?_)
  · replace c2 : 1 ≤ z1.toInt ∧ z1.toInt ≤ 400 := by omega
    have Hb := H
    obtain ⟨J1, eJ1⟩ : ∃ J1 : pm_H → Prop, J1 = fun h' => (J h' ∧ hs_aI h' 63 = hs_aI h 63) ∧ (hs_fI h' 62 1).toInt = (hs_fI h 62 1).toInt := ⟨_, rfl⟩
    have H : ty_C (ty_Wcrl 18) J1 := by rw [eJ1]; exact ((H.mono (W' := (ty_Wcrl 18)) (fun a k w => by unfold ty_Wcrl at w; unfold ty_Wcwl; omega) (by unfold ty_Wcrl ty_Wcwl; omega)).arr 63 (by decide) (fun k => by unfold ty_Wcrl; omega) _).siz (by unfold ty_Wcrl; omega) _
    have hJ1 : J1 h := by rw [eJ1]; exact ⟨⟨hJ, rfl⟩, rfl⟩
    refine hq_p rfl rfl (ty_ge (n := 0) nk_i0 (fun z3 ez3 => ?_))
    refine hq_p (ls' := [some (.ref 0), some (.int z3), none]) rfl rfl ?_
    refine hq_p rfl rfl ?_
    refine hq_p rfl rfl (ty_ge (n := 0) nk_i0 (fun z4 ez4 => ?_))
    refine ty_pI (W := (ty_Wcrl 18)) H hJ1 rfl rfl (by decide) rfl rfl (by unfold ty_Wcrl; omega) rfl (by omega) (by omega) (fun h5 eh5 Jh5 => ?_)
    have wh5 : (hs_fI h5 0 15).toInt = z4.toInt := by rw [eh5]; exact congrArg Int32.toInt (ty_fI_eq I.1 rfl (by decide) rfl)
    have vh5_18 : hs_aI h5 18 = (hs_aI h 18) := by rw [eh5]; exact (hs_aI_ne (by decide)).trans rfl
    have Ih5 := H.1 h5 Jh5
    refine hq_p rfl rfl (ty_ge (n := 0) nk_i0 (fun z6 ez6 => ?_))
    refine hq_p (ls' := [some (.ref 0), some (.int z3), some (.int z6)]) rfl rfl ?_
    have L26_n16 : ∀ n16 : Nat, ∀ (y10 : Int32) (y11 : Int32) (h12 : pm_H), (402 - y11.toInt).toNat = n16 → 0 ≤ y10.toInt → y10.toInt ≤ 134 → 0 ≤ y11.toInt → y11.toInt ≤ 402 → 3 * (y11.toInt / 3) = y11.toInt ∧ y11.toInt < (hs_fI h 62 1).toInt + 3 → y10.toInt = tc (hs_aI h 63) (hs_fI h 62 1).toInt (y11.toInt / 3).toNat → (hs_fI h12 0 15).toInt = y11.toInt / 3 - tc (hs_aI h 63) (hs_fI h 62 1).toInt (y11.toInt / 3).toNat → hs_aI h12 18 = ll (hs_aI h 63) (hs_fI h 62 1).toInt (hs_aI h 18) (y11.toInt / 3).toNat → J1 h12 → hq_W X d 10 false (some .int) pm_c93 (26, [some (.ref 0), some (.int y10), some (.int y11)], [], h12) (fun h' v => J h' ∧ (fun h1 v => (∃ z : Int32, v = some (.int z) ∧ z.toInt = (if (hs_fI h 62 1).toInt = 0 then -6 else tc (hs_aI h 63) (hs_fI h 62 1).toInt (((hs_fI h 62 1).toInt + 2) / 3).toNat)) ∧ (hs_fI h1 62 1).toInt = 0 ∧ (hs_fI h1 0 15).toInt = (if (hs_fI h 62 1).toInt = 0 then (hs_fI h 0 15).toInt else ((hs_fI h 62 1).toInt + 2) / 3 - tc (hs_aI h 63) (hs_fI h 62 1).toInt (((hs_fI h 62 1).toInt + 2) / 3).toNat) ∧ hs_aI h1 18 = (if (hs_fI h 62 1).toInt = 0 then hs_aI h 18 else ll (hs_aI h 63) (hs_fI h 62 1).toInt (hs_aI h 18) (((hs_fI h 62 1).toInt + 2) / 3).toNat)) h' v) := by
      intro n16
      induction n16 using Nat.strongRecOn with
      | ind n16 ihn16 =>
        intro y10 y11 h12 mn16 ay10 by10 ay11 by11 x0n16 x1n16 x2n16 x3n16 Jh12
        have Ih12 := H.1 h12 Jh12
        refine hq_p rfl rfl ?_
        have z0h12 : (hs_fI h12 62 1).toInt = (hs_fI h 62 1).toInt := by have q := Jh12; rw [eJ1] at q; exact q.2
        refine hq_p rfl rfl ?_
        refine hq_gR Ih12.1 rfl rfl (by decide) (by decide) rfl ?_
        refine ty_gI Ih12 rfl rfl (by decide) (by decide) rfl rfl (fun z17 ez17 az17 bz17 => ?_)
        refine ty_ige rfl (fun c18 => ?_) (fun c18 => ?_)
        · have hJ2 : J h12 := by have q := Jh12; rw [eJ1] at q; exact q.1.1
          obtain ⟨J3, eJ3⟩ : ∃ J3 : pm_H → Prop, J3 = fun h' => (J h' ∧ (hs_fI h' 0 15).toInt = (hs_fI h12 0 15).toInt) ∧ hs_aI h' 18 = hs_aI h12 18 := ⟨_, rfl⟩
          have H : ty_C ty_Wc1 J3 := by rw [eJ3]; exact ((Hb.mono (W' := ty_Wc1) (fun a k w => by unfold ty_Wc1 at w; unfold ty_Wcwl; omega) (by unfold ty_Wc1 ty_Wcwl; omega)).fld 0 15 (by decide) (by unfold ty_Wc1; omega) (by decide) _).arr 18 (by decide) (fun k => by unfold ty_Wc1; omega) _
          have hJ3 : J3 h12 := by rw [eJ3]; exact ⟨⟨hJ2, rfl⟩, rfl⟩
          refine hq_p rfl rfl ?_
          refine hq_gR Ih12.1 rfl rfl (by decide) (by decide) rfl ?_
          refine hq_p rfl rfl (ty_ge (n := 0) nk_i0 (fun z19 ez19 => ?_))
          refine ty_pI (W := ty_Wc1) H hJ3 rfl rfl (by decide) rfl rfl (by unfold ty_Wc1; omega) rfl (by omega) (by omega) (fun h20 eh20 Jh20 => ?_)
          have wh20 : (hs_fI h20 62 1).toInt = z19.toInt := by rw [eh20]; exact congrArg Int32.toInt (ty_fI_eq Ih12.1 rfl (by decide) rfl)
          have Ih20 := H.1 h20 Jh20
          refine hq_p rfl rfl ?_
          refine hq_p rfl rfl ?_
          refine ty_callz 0 (W := ty_Wc1) H Jh20 rfl (fun _ => rfl) rfl rfl rfl (hq_pre_o Ih20.1 (x := 0) (ci := 10) rfl (by decide) rfl rfl rfl rfl) (fun a k w => by unfold ty_Wc at w; unfold ty_Wc1; omega) (by unfold ty_Wc ty_Wc1; omega) (ct_126 (x1 := y10) (by omega)) (by unfold ty_Wc; omega) (fun h22 _ Jh22 gh22 P21 => ?_)
          have Ih22 := H.1 h22 Jh22
          obtain ⟨z23, rfl, fz23⟩ := P21
          have pr : (hs_fI h22 0 15).toInt = (hs_fI h12 0 15).toInt := by have q := Jh22; rw [eJ3] at q; exact q.1.2
          have pl : hs_aI h22 18 = hs_aI h12 18 := by have q := Jh22; rw [eJ3] at q; exact q.2
          exact hq_W.ret rfl rfl rfl ⟨(by have q := Jh22; rw [eJ3] at q; exact q.1.1), ⟨_, rfl, (by rw [if_neg (by omega), show (((hs_fI h 62 1).toInt + 2) / 3).toNat = (y11.toInt / 3).toNat by omega]; omega)⟩, by omega, (by rw [if_neg (by omega), show (((hs_fI h 62 1).toInt + 2) / 3).toNat = (y11.toInt / 3).toNat by omega]; omega), (by rw [if_neg (by omega), show (((hs_fI h 62 1).toInt + 2) / 3).toNat = (y11.toInt / 3).toNat by omega, pl]; exact x3n16)⟩
        · refine hq_p rfl rfl ?_
          refine hq_p rfl rfl ?_
          have f0h12 : hs_aI h12 63 = (hs_aI h 63) := by have q := Jh12; rw [eJ1] at q; exact q.1.2
          have tbh12 := tc_b (hs_aI h 63) (hs_fI h 62 1).toInt (y11.toInt / 3).toNat
          obtain ⟨q24, eq24⟩ : ∃ q : Int32, q.toInt = (hs_fI h12 0 15).toInt := ⟨_, rfl⟩
          have aq24 : 0 ≤ (hs_fI h12 0 15).toInt ∧ (hs_fI h12 0 15).toInt ≤ 134 := by omega
          refine ty_callm 0 [(0, 0, 15)] (W := (ty_Wcrl 18)) H Jh12 rfl (fun _ => rfl) rfl rfl rfl (hq_pre_o Ih12.1 (x := 0) (ci := 10) rfl (by decide) rfl rfl rfl rfl) (fun a k w => by unfold ty_Wcl at w; unfold ty_Wcrl; omega) (by unfold ty_Wcl ty_Wcrl; omega) (ct_131b (x1 := y11) (by omega) (by omega) (by omega) (by have q := Jh12; rw [eJ1] at q; have q := q.1.1; rw [eJ] at q; exact q.2.1) (by have q := Jh12; rw [eJ1] at q; have q := q.1.1; rw [eJ] at q; exact q.2.2)) ⟨⟨rfl, show ¬ (ty_Wcl 18) 0 15 by unfold ty_Wcl; omega⟩, trivial⟩ (fun h26 _ Jh26 gh26 P25 => ?_)
          obtain ⟨gh26_0, _⟩ := gh26
          have gh26_0 : (hs_fI h26 0 15).toInt = (hs_fI h12 0 15).toInt := gh26_0
          have Ih26 := H.1 h26 Jh26
          obtain ⟨z27, rfl, az27, bz27, iz27, jz27⟩ := P25
          refine ty_zeq rfl (fun c28 => ?_) (fun c28 => ?_)
          · obtain ⟨yz27, lz27⟩ := jz27 (by omega)
            clear iz27 jz27
            rw [f0h12, z0h12] at yz27
            have stz27 : tc (hs_aI h 63) (hs_fI h 62 1).toInt ((y11.toInt / 3).toNat + 1) = tc (hs_aI h 63) (hs_fI h 62 1).toInt (y11.toInt / 3).toNat := tc_0 (i := y11.toInt) (by omega) yz27
            have slz27 : hs_aI h26 18 = ll (hs_aI h 63) (hs_fI h 62 1).toInt (hs_aI h 18) ((y11.toInt / 3).toNat + 1) := lz27.trans (by rw [x3n16, ll_0 (i := y11.toInt) (by omega) yz27])
            clear yz27
            refine hq_p rfl rfl ?_
            refine hq_p rfl rfl ?_
            refine ty_gI Ih26 rfl rfl (by decide) (by decide) rfl rfl (fun z29 ez29 az29 bz29 => ?_)
            refine hq_p rfl rfl (ty_ge (n := 1) nk_i1 (fun z30 ez30 => ?_))
            refine hq_p rfl rfl (ty_ge (n := z29.toInt + z30.toInt) (nm_add (by omega) (by omega)) (fun z31 ez31 => ?_))
            refine ty_pI (W := (ty_Wcrl 18)) H Jh26 rfl rfl (by decide) rfl rfl (by unfold ty_Wcrl; omega) rfl (by omega) (by omega) (fun h32 eh32 Jh32 => ?_)
            have wh32 : (hs_fI h32 0 15).toInt = z31.toInt := by rw [eh32]; exact congrArg Int32.toInt (ty_fI_eq Ih26.1 rfl (by decide) rfl)
            have vh32_18 : hs_aI h32 18 = ll (hs_aI h 63) (hs_fI h 62 1).toInt (hs_aI h 18) ((y11.toInt / 3).toNat + 1) := by rw [eh32]; exact (hs_aI_ne (by decide)).trans slz27
            have Ih32 := H.1 h32 Jh32
            refine ty_inc (ls' := fun z33 => [some (.ref 0), some (.int y10), some (.int z33)]) rfl rfl (fun _ => rfl) (nm_addc nk_i3 (by omega) (by omega)) (fun z33 ez33 => ?_)
            refine hq_p rfl rfl ?_
            exact ihn16 ((402 - z33.toInt).toNat) (by omega) y10 z33 h32 rfl (by omega) (by omega) (by omega) (by omega) (by omega) (by rw [show (z33.toInt / 3).toNat = (y11.toInt / 3).toNat + 1 by omega, stz27]; omega) (by rw [show (z33.toInt / 3).toNat = (y11.toInt / 3).toNat + 1 by omega, stz27]; omega) (by rw [show (z33.toInt / 3).toNat = (y11.toInt / 3).toNat + 1 by omega]; exact vh32_18) Jh32
          · replace c28 : 1 ≤ z27.toInt ∧ z27.toInt ≤ 1 := by omega
            obtain ⟨yz27, lz27⟩ := iz27 (by omega)
            clear iz27 jz27
            rw [f0h12, z0h12] at yz27
            have stz27 : tc (hs_aI h 63) (hs_fI h 62 1).toInt ((y11.toInt / 3).toNat + 1) = tc (hs_aI h 63) (hs_fI h 62 1).toInt (y11.toInt / 3).toNat + 1 := tc_1 (i := y11.toInt) (by omega) yz27
            rw [f0h12] at lz27
            have slz27 : hs_aI h26 18 = ll (hs_aI h 63) (hs_fI h 62 1).toInt (hs_aI h 18) ((y11.toInt / 3).toNat + 1) := lz27.trans (by rw [x3n16, ll_1 (i := y11.toInt) (by omega) yz27])
            clear yz27
            refine ty_inc (ls' := fun z34 => [some (.ref 0), some (.int z34), some (.int y11)]) rfl rfl (fun _ => rfl) (nm_addc nk_i1 (by omega) (by omega)) (fun z34 ez34 => ?_)
            refine hq_p rfl rfl ?_
            refine ty_inc (ls' := fun z35 => [some (.ref 0), some (.int z34), some (.int z35)]) rfl rfl (fun _ => rfl) (nm_addc nk_i3 (by omega) (by omega)) (fun z35 ez35 => ?_)
            refine hq_p rfl rfl ?_
            exact ihn16 ((402 - z35.toInt).toNat) (by omega) z34 z35 h26 rfl (by omega) (by omega) (by omega) (by omega) (by omega) (by rw [show (z35.toInt / 3).toNat = (y11.toInt / 3).toNat + 1 by omega, stz27]; omega) (by rw [show (z35.toInt / 3).toNat = (y11.toInt / 3).toNat + 1 by omega, stz27]; omega) (by rw [show (z35.toInt / 3).toNat = (y11.toInt / 3).toNat + 1 by omega]; exact slz27) Jh26
    exact L26_n16 _ z3 z6 h5 rfl (by omega) (by omega) (by omega) (by omega) (by omega) (by rw [show (z6.toInt / 3).toNat = 0 by omega]; show _ = (0 : Int); omega) (by rw [show (z6.toInt / 3).toNat = 0 by omega]; show _ = z6.toInt / 3 - (0 : Int); omega) (by rw [show (z6.toInt / 3).toNat = 0 by omega]; exact vh5_18) Jh5
  · obtain ⟨J3, eJ3⟩ : ∃ J3 : pm_H → Prop, J3 = fun h' => (J h' ∧ (hs_fI h' 0 15).toInt = (hs_fI h 0 15).toInt) ∧ hs_aI h' 18 = hs_aI h 18 := ⟨_, rfl⟩
    have H : ty_C ty_Wc1 J3 := by rw [eJ3]; exact ((H.mono (W' := ty_Wc1) (fun a k w => by unfold ty_Wc1 at w; unfold ty_Wcwl; omega) (by unfold ty_Wc1 ty_Wcwl; omega)).fld 0 15 (by decide) (by unfold ty_Wc1; omega) (by decide) _).arr 18 (by decide) (fun k => by unfold ty_Wc1; omega) _
    have hJ3 : J3 h := by rw [eJ3]; exact ⟨⟨hJ, rfl⟩, rfl⟩
    refine hq_p rfl rfl ?_
    refine hq_p rfl rfl (ty_ge (n := -6) nk_bm6 (fun z36 ez36 => ?_))
    refine ty_callz 0 (W := ty_Wc1) H hJ3 rfl (fun _ => rfl) rfl rfl rfl (hq_pre_o I.1 (x := 0) (ci := 10) rfl (by decide) rfl rfl rfl rfl) (fun a k w => by unfold ty_Wc at w; unfold ty_Wc1; omega) (by unfold ty_Wc ty_Wc1; omega) (ct_125 (x1 := z36) (by omega)) (by unfold ty_Wc; omega) (fun h38 _ Jh38 gh38 P37 => ?_)
    have Ih38 := H.1 h38 Jh38
    obtain ⟨z39, rfl, fz39⟩ := P37
    have pr : (hs_fI h38 0 15).toInt = (hs_fI h 0 15).toInt := by have q := Jh38; rw [eJ3] at q; exact q.1.2
    have pl : hs_aI h38 18 = hs_aI h 18 := by have q := Jh38; rw [eJ3] at q; exact q.2
    exact hq_W.ret rfl rfl rfl ⟨(by have q := Jh38; rw [eJ3] at q; exact q.1.1), ⟨_, rfl, (by rw [if_pos (by omega)]; omega)⟩, by omega, (by rw [if_pos (by omega)]; omega), (by rw [if_pos (by omega), pl])⟩
end CT47
