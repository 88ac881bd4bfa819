/-! CONTRACTS (printed by wip/pm/cts.py) -/
section CT46
def ty_Wse (a k : Nat) : Prop := (a = 97 ∧ (k = 23 ∨ k = 29)) ∨ a = 108 ∨ a = 109
theorem ps_bd1 {y : Int} (h : 1 ≤ ps_bd y) : y < 31 := by
  unfold ps_bd at h
  split at h
  · omega
  · omega
theorem ct_181 {X : pm_X} {d : Nat} {h : pm_H} {x1 : Int32} {g : Prop} {op0 ar0 : Nat → Int} {s : Nat} {o f : Int} (hd : 2 ≤ d) (ax1 : 1 ≤ x1.toInt) (bx1 : x1.toInt ≤ 6) (hz : pq g (hs_aI h 108) (hs_aI h 109) (hs_aI h 110) (hs_aI h 111) op0 ar0 s (hs_fI h 97 23).toInt (hs_fI h 97 29).toInt o f 1) (hf : f ≤ 400) : ty_M X ty_Wse d 181 [.ref 97, .int x1] h (fun h1 v => v = none ∧ pq g (hs_aI h1 108) (hs_aI h1 109) (hs_aI h 110) (hs_aI h 111) op0 ar0 s (hs_fI h1 97 23).toInt (hs_fI h1 97 29).toInt o f 1 ∧ pq_st (hs_aI h 110) x1.toInt (hs_fI h 97 29).toInt (hs_fI h1 97 29).toInt ∧ (hs_fI h1 97 29).toInt ≤ (hs_fI h 97 29).toInt) := by
  intro J0 H0 hJ0
  obtain ⟨R110, eR110⟩ : ∃ R, hs_aI h 110 = R := ⟨_, rfl⟩
  obtain ⟨R111, eR111⟩ : ∃ R, hs_aI h 111 = R := ⟨_, rfl⟩
  obtain ⟨J, eJ⟩ : ∃ J : pm_H → Prop, J = fun h' => (J0 h' ∧ hs_aI h' 110 = R110) ∧ hs_aI h' 111 = R111 := ⟨_, rfl⟩
  have H : ty_C ty_Wse J := by rw [eJ]; exact (H0.arr 110 (by decide) (fun k => by unfold ty_Wse; omega) R110).arr 111 (by decide) (fun k => by unfold ty_Wse; omega) R111
  have hJ : J h := by rw [eJ]; exact ⟨⟨hJ0, eR110⟩, eR111⟩
  refine hq_M.mono (Nat.le_refl _) (Q := fun h' v => J h' ∧ (fun h1 v => v = none ∧ pq g (hs_aI h1 108) (hs_aI h1 109) (hs_aI h 110) (hs_aI h 111) op0 ar0 s (hs_fI h1 97 23).toInt (hs_fI h1 97 29).toInt o f 1 ∧ pq_st (hs_aI h 110) x1.toInt (hs_fI h 97 29).toInt (hs_fI h1 97 29).toInt ∧ (hs_fI h1 97 29).toInt ≤ (hs_fI h 97 29).toInt) h' v) (fun h' v q => ⟨by have q1 := q.1; rw [eJ] at q1; exact q1.1.1, q.2⟩) ?_
  rw [eR110, eR111] at hz
  obtain ⟨m0, em0⟩ : ∃ q : Int, q = (hs_fI h 97 29).toInt := ⟨_, rfl⟩
  obtain ⟨d, rfl⟩ : ∃ e, d = e + 1 := ⟨d - 1, by omega⟩
  have I := H.1 h hJ
  refine hq_M.enter (q := (⟨"TrainBearersModel", "settle", "(I)V"⟩, _, 2, none, 11, 2, pm_c181)) rfl rfl ?_
  show hq_W X d 11 false (none) pm_c181 (0, [some (.ref 97), some (.int x1)], [], h) (fun h' v => J h' ∧ (fun h1 v => v = none ∧ pq g (hs_aI h1 108) (hs_aI h1 109) (hs_aI h 110) (hs_aI h 111) op0 ar0 s (hs_fI h1 97 23).toInt (hs_fI h1 97 29).toInt o f 1 ∧ pq_st (hs_aI h 110) x1.toInt (hs_fI h 97 29).toInt (hs_fI h1 97 29).toInt ∧ (hs_fI h1 97 29).toInt ≤ (hs_fI h 97 29).toInt) h' v)
  have L0_n3 : ∀ n3 : Nat, ∀ (h2 : pm_H), (hs_fI h2 97 29).toInt.toNat = n3 → pq g (hs_aI h2 108) (hs_aI h2 109) R110 R111 op0 ar0 s (hs_fI h2 97 23).toInt (hs_fI h2 97 29).toInt o f 1 → pq_sl R110 x1.toInt m0 (hs_fI h2 97 29).toInt → (hs_fI h2 97 29).toInt ≤ m0 → J h2 → hq_W X d 11 false (none) pm_c181 (0, [some (.ref 97), some (.int x1)], [], h2) (fun h' v => J h' ∧ (fun h1 v => v = none ∧ pq g (hs_aI h1 108) (hs_aI h1 109) (hs_aI h 110) (hs_aI h 111) op0 ar0 s (hs_fI h1 97 23).toInt (hs_fI h1 97 29).toInt o f 1 ∧ pq_st (hs_aI h 110) x1.toInt (hs_fI h 97 29).toInt (hs_fI h1 97 29).toInt ∧ (hs_fI h1 97 29).toInt ≤ (hs_fI h 97 29).toInt) h' v) := by
    intro n3
    induction n3 using Nat.strongRecOn with
    | ind n3 ihn3 =>
      intro h2 mn3 x0n3 x1n3 x2n3 Jh2
      have Ih2 := H.1 h2 Jh2
      refine hq_p rfl rfl ?_
      refine ty_gI Ih2 rfl rfl (by decide) (by decide) rfl rfl (fun z4 ez4 az4 bz4 => ?_)
      refine ty_zle rfl (fun c5 => ?_) (fun c5 => ?_)
      · exact hq_W.ret rfl rfl rfl ⟨Jh2, rfl, (by rw [eR110, eR111]; exact x0n3), ⟨fun j h1 h2 => (by rw [eR110]; exact x1n3 j h1 (by omega)), fun q => by exfalso; omega⟩, by omega⟩
      · refine hq_p rfl rfl ?_
        refine hq_gR Ih2.1 rfl rfl (by decide) (by decide) rfl ?_
        refine hq_p rfl rfl ?_
        refine ty_gI Ih2 rfl rfl (by decide) (by decide) rfl rfl (fun z6 ez6 az6 bz6 => ?_)
        refine hq_p rfl rfl (ty_ge (n := 1) nk_i1 (fun z7 ez7 => ?_))
        refine hq_p rfl rfl (ty_ge (n := z6.toInt - z7.toInt) (nm_sub (by omega) (by omega)) (fun z8 ez8 => ?_))
        refine ty_aL Ih2 rfl rfl (by decide) (by omega) (by omega) (fun _ _ => ty_le rfl) (fun z9 ez9 az9 bz9 => ?_)
        have rr110h2 : hs_aI h2 110 = R110 := by have q := Jh2; rw [eJ] at q; exact q.1.2
        have ep : z9.toInt = pt R110 ((hs_fI h2 97 29).toInt - 1).toNat := by show z9.toInt = (R110 ((hs_fI h2 97 29).toInt - 1).toNat).toInt; rw [ez9, rr110h2, show z8.toInt.toNat = ((hs_fI h2 97 29).toInt - 1).toNat by omega]
        refine ty_callp 1 Ih2 rfl (fun _ => rfl) rfl rfl rfl rfl (ct_180e (x0 := z9) (by omega)) (fun _ P10 => ?_)
        obtain ⟨z11, rfl, fz11⟩ := P10
        have rz11 : 0 ≤ z11.toInt ∧ z11.toInt ≤ 6 := by rw [fz11]; unfold ps_bd; repeat (first | omega | split)
        refine hq_p rfl rfl ?_
        have eb : z11.toInt = ps_bd (pt R110 ((hs_fI h2 97 29).toInt - 1).toNat) := by rw [fz11, ep]
        refine ty_ilt rfl (fun c12 => ?_) (fun c12 => ?_)
        · exact hq_W.ret rfl rfl rfl ⟨Jh2, rfl, (by rw [eR110, eR111]; exact x0n3), ⟨fun j h1 h2 => (by rw [eR110]; exact x1n3 j h1 (by omega)), fun q => by rw [eR110, ← eb]; omega⟩, by omega⟩
        · refine hq_p rfl rfl ?_
          refine hq_p rfl rfl ?_
          refine ty_gI Ih2 rfl rfl (by decide) (by decide) rfl rfl (fun z13 ez13 az13 bz13 => ?_)
          refine hq_p rfl rfl (ty_ge (n := 1) nk_i1 (fun z14 ez14 => ?_))
          refine hq_p rfl rfl (ty_ge (n := z13.toInt - z14.toInt) (nm_sub (by omega) (by omega)) (fun z15 ez15 => ?_))
          refine ty_pI (W := ty_Wse) H Jh2 rfl rfl (by decide) rfl rfl (by unfold ty_Wse; omega) rfl (by omega) (by omega) (fun h16 eh16 Jh16 => ?_)
          have wh16 : (hs_fI h16 97 29).toInt = z15.toInt := by rw [eh16]; exact congrArg Int32.toInt (ty_fI_eq Ih2.1 rfl (by decide) rfl)
          have vh16_108 : hs_aI h16 108 = (hs_aI h2 108) := by rw [eh16]; exact (hs_aI_ne (by decide)).trans rfl
          have vh16_109 : hs_aI h16 109 = (hs_aI h2 109) := by rw [eh16]; exact (hs_aI_ne (by decide)).trans rfl
          have Ih16 := H.1 h16 Jh16
          refine hq_p rfl rfl ?_
          refine hq_gR Ih16.1 rfl rfl (by decide) (by decide) rfl ?_
          refine hq_p rfl rfl ?_
          refine ty_gI Ih16 rfl rfl (by decide) (by decide) rfl rfl (fun z17 ez17 az17 bz17 => ?_)
          refine ty_aL Ih16 rfl rfl (by decide) (by omega) (by omega) (fun _ _ => ty_le rfl) (fun z18 ez18 az18 bz18 => ?_)
          have rr110h16 : hs_aI h16 110 = R110 := by have q := Jh16; rw [eJ] at q; exact q.1.2
          have eqz18 : z18.toInt = pt R110 ((hs_fI h2 97 29).toInt - 1).toNat := by show z18.toInt = (R110 ((hs_fI h2 97 29).toInt - 1).toNat).toInt; rw [ez18, rr110h16, show z17.toInt.toNat = ((hs_fI h2 97 29).toInt - 1).toNat by omega]
          refine hq_p rfl rfl (ty_ge (n := 29) nk_b29 (fun z19 ez19 => ?_))
          refine ty_ieq rfl (fun c20 => ?_) (fun c20 => ?_)
          · refine hq_p rfl rfl ?_
            refine hq_gR Ih16.1 rfl rfl (by decide) (by decide) rfl ?_
            refine hq_p rfl rfl ?_
            refine hq_gR Ih16.1 rfl rfl (by decide) (by decide) rfl ?_
            refine hq_p rfl rfl ?_
            refine ty_gI Ih16 rfl rfl (by decide) (by decide) rfl rfl (fun z21 ez21 az21 bz21 => ?_)
            refine ty_aL Ih16 rfl rfl (by decide) (by omega) (by omega) (fun _ _ => ty_le rfl) (fun z22 ez22 az22 bz22 => ?_)
            have rr111h16 : hs_aI h16 111 = R111 := by have q := Jh16; rw [eJ] at q; exact q.2
            have ea : z22.toInt = pt R111 ((hs_fI h2 97 29).toInt - 1).toNat := by show z22.toInt = (R111 ((hs_fI h2 97 29).toInt - 1).toNat).toInt; rw [ez22, rr111h16, show z21.toInt.toNat = ((hs_fI h2 97 29).toInt - 1).toNat by omega]
            have h4 := (x0n3.2.2.2.1 ((hs_fI h2 97 29).toInt - 1).toNat (by omega)).2 (by omega) (by omega)
            have h40 := h4.1
            have h41 := h4.2
            refine hq_p rfl rfl ?_
            refine ty_gI Ih16 rfl rfl (by decide) (by decide) rfl rfl (fun z23 ez23 az23 bz23 => ?_)
            refine ty_aS (W := ty_Wse) H Jh16 rfl rfl (by decide) (by omega) (by omega) (fun i e => by unfold ty_Wse; omega) (fun _ _ => ty_eg rfl) (by omega) (by omega) (fun e1 e2 w => by omega) (fun h24 eh24 Jh24 => ?_)
            have vh24_108 : hs_aI h24 108 = (hs_aI h2 108) := by rw [eh24]; exact (hs_aI_ne (by decide)).trans vh16_108
            have vh24_109 : hs_aI h24 109 = (upd (hs_aI h2 109) z22.toInt.toNat z23) := by rw [eh24, hs_aI_sA, vh16_109]
            have Ih24 := H.1 h24 Jh24
            have r25 : (hs_fI h24 97 29).toInt = (hs_fI h16 97 29).toInt := by rw [eh24]; exact congrArg Int32.toInt (ty_fI_ne (by omega))
            have r26 : (hs_fI h16 97 23).toInt = (hs_fI h2 97 23).toInt := by rw [eh16]; exact congrArg Int32.toInt (ty_fI_sF (by decide))
            have r27 : (hs_fI h24 97 23).toInt = (hs_fI h16 97 23).toInt := by rw [eh24]; exact congrArg Int32.toInt (ty_fI_ne (by omega))
            have zn : pq g (hs_aI h24 108) (hs_aI h24 109) R110 R111 op0 ar0 s (hs_fI h24 97 23).toInt (hs_fI h24 97 29).toInt o f 1 := by rw [vh24_108, vh24_109, show (hs_fI h24 97 23).toInt = (hs_fI h2 97 23).toInt by omega, show (hs_fI h24 97 29).toInt = (hs_fI h2 97 29).toInt - 1 by omega]; exact pq_aim x0n3 (by omega) (by omega) (by omega) (by omega) (by omega)
            have sn : pq_sl R110 x1.toInt m0 (hs_fI h24 97 29).toInt := pq_ss x1n3 (by rw [show (hs_fI h24 97 29).toInt.toNat = ((hs_fI h2 97 29).toInt - 1).toNat by omega, ← eb]; omega) (by omega) (by omega)
            refine hq_p rfl rfl ?_
            exact ihn3 ((hs_fI h24 97 29).toInt.toNat) (by omega) h24 rfl zn sn (by omega) Jh24
          · replace c20 : z18.toInt ≠ z19.toInt := by omega
            refine hq_p rfl rfl ?_
            refine hq_gR Ih16.1 rfl rfl (by decide) (by decide) rfl ?_
            refine hq_p rfl rfl ?_
            refine ty_gI Ih16 rfl rfl (by decide) (by decide) rfl rfl (fun z28 ez28 az28 bz28 => ?_)
            refine ty_aL Ih16 rfl rfl (by decide) (by omega) (by omega) (fun _ _ => ty_le rfl) (fun z29 ez29 az29 bz29 => ?_)
            have rr110h16 : hs_aI h16 110 = R110 := by have q := Jh16; rw [eJ] at q; exact q.1.2
            have eqz29 : z29.toInt = pt R110 ((hs_fI h2 97 29).toInt - 1).toNat := by show z29.toInt = (R110 ((hs_fI h2 97 29).toInt - 1).toNat).toInt; rw [ez29, rr110h16, show z28.toInt.toNat = ((hs_fI h2 97 29).toInt - 1).toNat by omega]
            refine hq_p rfl rfl (ty_ge (n := 30) nk_b30 (fun z30 ez30 => ?_))
            refine ty_ine rfl (fun c31 => ?_) (fun c31 => ?_)
            · replace c31 : z29.toInt ≠ z30.toInt := by omega
              refine hq_p rfl rfl ?_
              refine hq_p rfl rfl ?_
              refine hq_gR Ih16.1 rfl rfl (by decide) (by decide) rfl ?_
              refine hq_p rfl rfl ?_
              refine ty_gI Ih16 rfl rfl (by decide) (by decide) rfl rfl (fun z32 ez32 az32 bz32 => ?_)
              refine ty_aL Ih16 rfl rfl (by decide) (by omega) (by omega) (fun _ _ => ty_le rfl) (fun z33 ez33 az33 bz33 => ?_)
              have rr110h16 : hs_aI h16 110 = R110 := by have q := Jh16; rw [eJ] at q; exact q.1.2
              have eqz33 : z33.toInt = pt R110 ((hs_fI h2 97 29).toInt - 1).toNat := by show z33.toInt = (R110 ((hs_fI h2 97 29).toInt - 1).toNat).toInt; rw [ez33, rr110h16, show z32.toInt.toNat = ((hs_fI h2 97 29).toInt - 1).toNat by omega]
              refine hq_p rfl rfl (ty_ge (n := 0) nk_i0 (fun z34 ez34 => ?_))
              obtain ⟨q35, eq35⟩ : ∃ q : Int32, q.toInt = (hs_fI h2 97 23).toInt := ⟨_, rfl⟩
              have k3q35 := x0n3.2.2.1
              have k2q35 := x0n3.2.1
              have k1q35 : 0 ≤ (hs_fI h2 97 23).toInt := (Ih2.2.1 97 23 (by decide)).1
              have r37 : (hs_fI h16 97 23).toInt = (hs_fI h2 97 23).toInt := by rw [eh16]; exact congrArg Int32.toInt (ty_fI_sF (by decide))
              refine ty_callm 0 [(0, 97, 29)] (W := ty_Wse) H Jh16 rfl (fun _ => rfl) rfl rfl rfl (hq_pre_o Ih16.1 (x := 97) (ci := 11) rfl (by decide) rfl rfl rfl rfl) (fun a k w => by unfold ty_We at w; unfold ty_Wse; omega) (by unfold ty_We ty_Wse; omega) (ct_178 (x1 := z33) (x2 := z34) (by omega) (by omega) (by omega)) ⟨⟨rfl, show ¬ ty_We 97 29 by unfold ty_We; omega⟩, trivial⟩ (fun h39 _ Jh39 gh39 P38 => ?_)
              obtain ⟨gh39_0, _⟩ := gh39
              have gh39_0 : (hs_fI h39 97 29).toInt = (hs_fI h16 97 29).toInt := gh39_0
              have Ih39 := H.1 h39 Jh39
              obtain ⟨rq40, nq40, xq40, yq40⟩ := P38
              subst rq40
              have lt31 := ps_bd1 (show 1 ≤ ps_bd (pt R110 ((hs_fI h2 97 29).toInt - 1).toNat) by rw [← eb]; omega)
              have zn : pq g (hs_aI h39 108) (hs_aI h39 109) R110 R111 op0 ar0 s (hs_fI h39 97 23).toInt (hs_fI h39 97 29).toInt o f 1 := by rw [xq40, yq40, vh16_108, vh16_109, show (hs_fI h16 97 23).toInt = (hs_fI h2 97 23).toInt by omega, show (hs_fI h39 97 23).toInt = (hs_fI h2 97 23).toInt + 1 by omega, show (hs_fI h39 97 29).toInt = (hs_fI h2 97 29).toInt - 1 by omega]; exact pq_set x0n3 (by omega) (by omega) (by omega)
              have sn : pq_sl R110 x1.toInt m0 (hs_fI h39 97 29).toInt := pq_ss x1n3 (by rw [show (hs_fI h39 97 29).toInt.toNat = ((hs_fI h2 97 29).toInt - 1).toNat by omega, ← eb]; omega) (by omega) (by omega)
              refine hq_p rfl rfl ?_
              exact ihn3 ((hs_fI h39 97 29).toInt.toNat) (by omega) h39 rfl zn sn (by omega) Jh39
            · refine hq_p rfl rfl ?_
              refine hq_gR Ih16.1 rfl rfl (by decide) (by decide) rfl ?_
              refine hq_p rfl rfl ?_
              refine hq_gR Ih16.1 rfl rfl (by decide) (by decide) rfl ?_
              refine hq_p rfl rfl ?_
              refine ty_gI Ih16 rfl rfl (by decide) (by decide) rfl rfl (fun z41 ez41 az41 bz41 => ?_)
              refine ty_aL Ih16 rfl rfl (by decide) (by omega) (by omega) (fun _ _ => ty_le rfl) (fun z42 ez42 az42 bz42 => ?_)
              have rr111h16 : hs_aI h16 111 = R111 := by have q := Jh16; rw [eJ] at q; exact q.2
              have ea : z42.toInt = pt R111 ((hs_fI h2 97 29).toInt - 1).toNat := by show z42.toInt = (R111 ((hs_fI h2 97 29).toInt - 1).toNat).toInt; rw [ez42, rr111h16, show z41.toInt.toNat = ((hs_fI h2 97 29).toInt - 1).toNat by omega]
              have h4 := (x0n3.2.2.2.1 ((hs_fI h2 97 29).toInt - 1).toNat (by omega)).2 (by omega) (by omega)
              have h40 := h4.1
              have h41 := h4.2
              refine hq_p rfl rfl ?_
              refine ty_gI Ih16 rfl rfl (by decide) (by decide) rfl rfl (fun z43 ez43 az43 bz43 => ?_)
              refine ty_aS (W := ty_Wse) H Jh16 rfl rfl (by decide) (by omega) (by omega) (fun i e => by unfold ty_Wse; omega) (fun _ _ => ty_eg rfl) (by omega) (by omega) (fun e1 e2 w => by omega) (fun h44 eh44 Jh44 => ?_)
              have vh44_108 : hs_aI h44 108 = (hs_aI h2 108) := by rw [eh44]; exact (hs_aI_ne (by decide)).trans vh16_108
              have vh44_109 : hs_aI h44 109 = (upd (hs_aI h2 109) z42.toInt.toNat z43) := by rw [eh44, hs_aI_sA, vh16_109]
              have Ih44 := H.1 h44 Jh44
              have r45 : (hs_fI h44 97 29).toInt = (hs_fI h16 97 29).toInt := by rw [eh44]; exact congrArg Int32.toInt (ty_fI_ne (by omega))
              have r46 : (hs_fI h16 97 23).toInt = (hs_fI h2 97 23).toInt := by rw [eh16]; exact congrArg Int32.toInt (ty_fI_sF (by decide))
              have r47 : (hs_fI h44 97 23).toInt = (hs_fI h16 97 23).toInt := by rw [eh44]; exact congrArg Int32.toInt (ty_fI_ne (by omega))
              have zn : pq g (hs_aI h44 108) (hs_aI h44 109) R110 R111 op0 ar0 s (hs_fI h44 97 23).toInt (hs_fI h44 97 29).toInt o f 1 := by rw [vh44_108, vh44_109, show (hs_fI h44 97 23).toInt = (hs_fI h2 97 23).toInt by omega, show (hs_fI h44 97 29).toInt = (hs_fI h2 97 29).toInt - 1 by omega]; exact pq_aim x0n3 (by omega) (by omega) (by omega) (by omega) (by omega)
              have sn : pq_sl R110 x1.toInt m0 (hs_fI h44 97 29).toInt := pq_ss x1n3 (by rw [show (hs_fI h44 97 29).toInt.toNat = ((hs_fI h2 97 29).toInt - 1).toNat by omega, ← eb]; omega) (by omega) (by omega)
              refine hq_p rfl rfl ?_
              exact ihn3 ((hs_fI h44 97 29).toInt.toNat) (by omega) h44 rfl zn sn (by omega) Jh44
  exact L0_n3 _ h rfl hz (fun j h1 h2 => by exfalso; omega) (by omega) hJ
end CT46
