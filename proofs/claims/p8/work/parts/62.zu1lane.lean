/-! CONTRACTS (printed by wip/pm/cts.py) -/
section CT43
theorem ct_76l1 {X : pm_X} {d : Nat} {h : pm_H} {x1 : Int32} {x2 : Int32} {x3 : Int32} (hd : 2 ≤ d)  : ty_M X (ty_Wly 7) d 76 [.ref 1, .int x1, .int x2, .int x3] h (fun h1 v => v = none ∧ hs_aI h1 7 = (if 0 ≤ x1.toInt ∧ x1.toInt ≤ 5 ∧ 0 ≤ x2.toInt ∧ x2.toInt ≤ 5 then ly (hs_aI h 7) x1.toInt x2.toInt x3 else hs_aI h 7)) := by
  intro J H hJ
  obtain ⟨d, rfl⟩ : ∃ e, d = e + 1 := ⟨d - 1, by omega⟩
  have I := H.1 h hJ
  have ax1 := nm_lo x1
  have bx1 := nm_hi x1
  have ax2 := nm_lo x2
  have bx2 := nm_hi x2
  have ax3 := nm_lo x3
  have bx3 := nm_hi x3
  refine hq_M.enter (q := (⟨"TrainBearers$Train", "layLane", "(III)V"⟩, _, 4, none, 8, 4, pm_c76)) rfl rfl ?_
  show hq_W X d 8 false (none) pm_c76 (0, [some (.ref 1), some (.int x1), some (.int x2), some (.int x3)], [], h) (fun h' v => J h' ∧ (fun h1 v => v = none ∧ hs_aI h1 7 = (if 0 ≤ x1.toInt ∧ x1.toInt ≤ 5 ∧ 0 ≤ x2.toInt ∧ x2.toInt ≤ 5 then ly (hs_aI h 7) x1.toInt x2.toInt x3 else hs_aI h 7)) h' v)
  refine hq_p rfl rfl ?_
  refine ty_callp 1 I rfl (fun _ => rfl) rfl rfl rfl rfl (ct_128e (x0 := x1) (by omega)) (fun _ P1 => ?_)
  obtain ⟨z2, rfl, az2, bz2, iz2, jz2⟩ := P1
  refine ty_zeq rfl (fun c3 => ?_) (fun c3 => ?_)
  · have yz2 := jz2 (by omega)
    clear iz2 jz2
    exact hq_W.ret rfl rfl rfl ⟨hJ, rfl, (by rw [if_neg (by omega)])⟩
  · replace c3 : 1 ≤ z2.toInt ∧ z2.toInt ≤ 1 := by omega
    have yz2 := iz2 (by omega)
    clear iz2 jz2
    refine hq_p rfl rfl ?_
    refine ty_callp 1 I rfl (fun _ => rfl) rfl rfl rfl rfl (ct_128e (x0 := x2) (by omega)) (fun _ P4 => ?_)
    obtain ⟨z5, rfl, az5, bz5, iz5, jz5⟩ := P4
    refine ty_zeq rfl (fun c6 => ?_) (fun c6 => ?_)
    · have yz5 := jz5 (by omega)
      clear iz5 jz5
      exact hq_W.ret rfl rfl rfl ⟨hJ, rfl, (by rw [if_neg (by omega)])⟩
    · replace c6 : 1 ≤ z5.toInt ∧ z5.toInt ≤ 1 := by omega
      have yz5 := iz5 (by omega)
      clear iz5 jz5
      refine hq_p rfl rfl ?_
      refine hq_gR I.1 rfl rfl (by decide) (by decide) rfl ?_
      refine hq_p rfl rfl ?_
      refine hq_p rfl rfl (ty_ge (n := 6) nk_b6 (fun z7 ez7 => ?_))
      refine hq_p rfl rfl (ty_ge (n := 6 * x1.toInt) (nm_mulc ez7 (by omega) (by omega)) (fun z8 ez8 => ?_))
      refine hq_p rfl rfl ?_
      refine hq_p rfl rfl (ty_ge (n := z8.toInt + x2.toInt) (nm_add (by omega) (by omega)) (fun z9 ez9 => ?_))
      refine hq_p rfl rfl ?_
      refine ty_aS (W := (ty_Wly 7)) H hJ rfl rfl (by decide) (by omega) (by omega) (fun i e => by unfold ty_Wly; omega) (fun _ _ => ty_eg rfl) (by omega) (by omega) (fun e1 e2 w => by omega) (fun h10 eh10 Jh10 => ?_)
      have vh10_7 : hs_aI h10 7 = (upd (hs_aI h 7) z9.toInt.toNat x3) := by rw [eh10, hs_aI_sA]
      have Ih10 := H.1 h10 Jh10
      refine hq_p rfl rfl ?_
      refine hq_gR Ih10.1 rfl rfl (by decide) (by decide) rfl ?_
      refine hq_p rfl rfl ?_
      refine hq_p rfl rfl (ty_ge (n := 6) nk_b6 (fun z11 ez11 => ?_))
      refine hq_p rfl rfl (ty_ge (n := 6 * x2.toInt) (nm_mulc ez11 (by omega) (by omega)) (fun z12 ez12 => ?_))
      refine hq_p rfl rfl ?_
      refine hq_p rfl rfl (ty_ge (n := z12.toInt + x1.toInt) (nm_add (by omega) (by omega)) (fun z13 ez13 => ?_))
      refine hq_p rfl rfl ?_
      refine ty_aS (W := (ty_Wly 7)) H Jh10 rfl rfl (by decide) (by omega) (by omega) (fun i e => by unfold ty_Wly; omega) (fun _ _ => ty_eg rfl) (by omega) (by omega) (fun e1 e2 w => by omega) (fun h14 eh14 Jh14 => ?_)
      have vh14_7 : hs_aI h14 7 = (upd (upd (hs_aI h 7) z9.toInt.toNat x3) z13.toInt.toNat x3) := by rw [eh14, hs_aI_sA, vh10_7]
      have Ih14 := H.1 h14 Jh14
      exact hq_W.ret rfl rfl rfl ⟨Jh14, rfl, (by rw [if_pos (by omega), vh14_7]; exact ly_u (by omega) (by omega))⟩
theorem ct_75l1 {X : pm_X} {d : Nat} {h : pm_H} {x1 : Int32} {x2 : Int32} (hd : 2 ≤ d)  : ty_M X ty_W0 d 75 [.ref 1, .int x1, .int x2] h (fun _ v => ∃ z : Int32, v = some (.int z) ∧ z.toInt = (if 0 ≤ x1.toInt ∧ x1.toInt ≤ 5 ∧ 0 ≤ x2.toInt ∧ x2.toInt ≤ 5 then (hs_aI h 7 (6 * x1.toInt + x2.toInt).toNat).toInt else -1)) := by
  intro J H hJ
  obtain ⟨d, rfl⟩ : ∃ e, d = e + 1 := ⟨d - 1, by omega⟩
  have I := H.1 h hJ
  have ax1 := nm_lo x1
  have bx1 := nm_hi x1
  have ax2 := nm_lo x2
  have bx2 := nm_hi x2
  refine hq_M.enter (q := (⟨"TrainBearers$Train", "stilesBetween", "(II)I"⟩, _, 3, some .int, 8, 3, pm_c75)) rfl rfl ?_
  show hq_W X d 8 false (some .int) pm_c75 (0, [some (.ref 1), some (.int x1), some (.int x2)], [], h) (fun h' v => J h' ∧ (fun _ v => ∃ z : Int32, v = some (.int z) ∧ z.toInt = (if 0 ≤ x1.toInt ∧ x1.toInt ≤ 5 ∧ 0 ≤ x2.toInt ∧ x2.toInt ≤ 5 then (hs_aI h 7 (6 * x1.toInt + x2.toInt).toNat).toInt else -1)) h' v)
  refine hq_p rfl rfl ?_
  refine ty_callp 1 I rfl (fun _ => rfl) rfl rfl rfl rfl (ct_128e (x0 := x1) (by omega)) (fun _ P1 => ?_)
  obtain ⟨z2, rfl, az2, bz2, iz2, jz2⟩ := P1
  refine ty_zeq rfl (fun c3 => ?_) (fun c3 => ?_)
  · have yz2 := jz2 (by omega)
    clear iz2 jz2
    refine hq_p rfl rfl (ty_ge (n := -1) nk_im1 (fun z4 ez4 => ?_))
    exact hq_W.ret rfl rfl rfl ⟨hJ, _, rfl, (by rw [if_neg (by omega)]; omega)⟩
  · replace c3 : 1 ≤ z2.toInt ∧ z2.toInt ≤ 1 := by omega
    have yz2 := iz2 (by omega)
    clear iz2 jz2
    refine hq_p rfl rfl ?_
    refine ty_callp 1 I rfl (fun _ => rfl) rfl rfl rfl rfl (ct_128e (x0 := x2) (by omega)) (fun _ P5 => ?_)
    obtain ⟨z6, rfl, az6, bz6, iz6, jz6⟩ := P5
    refine ty_zeq rfl (fun c7 => ?_) (fun c7 => ?_)
    · have yz6 := jz6 (by omega)
      clear iz6 jz6
      refine hq_p rfl rfl (ty_ge (n := -1) nk_im1 (fun z8 ez8 => ?_))
      exact hq_W.ret rfl rfl rfl ⟨hJ, _, rfl, (by rw [if_neg (by omega)]; omega)⟩
    · replace c7 : 1 ≤ z6.toInt ∧ z6.toInt ≤ 1 := by omega
      have yz6 := iz6 (by omega)
      clear iz6 jz6
      refine hq_p rfl rfl ?_
      refine hq_gR I.1 rfl rfl (by decide) (by decide) rfl ?_
      refine hq_p rfl rfl ?_
      refine hq_p rfl rfl (ty_ge (n := 6) nk_b6 (fun z9 ez9 => ?_))
      refine hq_p rfl rfl (ty_ge (n := 6 * x1.toInt) (nm_mulc ez9 (by omega) (by omega)) (fun z10 ez10 => ?_))
      refine hq_p rfl rfl ?_
      refine hq_p rfl rfl (ty_ge (n := z10.toInt + x2.toInt) (nm_add (by omega) (by omega)) (fun z11 ez11 => ?_))
      refine ty_aL I rfl rfl (by decide) (by omega) (by omega) (fun _ _ => ty_le rfl) (fun z12 ez12 az12 bz12 => ?_)
      refine hq_p rfl rfl ?_
      exact hq_W.ret rfl rfl rfl ⟨hJ, _, rfl, (by rw [if_pos (by omega), ez12, show z11.toInt.toNat = (6 * x1.toInt + x2.toInt).toNat by omega])⟩
theorem ct_76l12 {X : pm_X} {d : Nat} {h : pm_H} {x1 : Int32} {x2 : Int32} {x3 : Int32} (hd : 2 ≤ d)  : ty_M X (ty_Wly 18) d 76 [.ref 12, .int x1, .int x2, .int x3] h (fun h1 v => v = none ∧ hs_aI h1 18 = (if 0 ≤ x1.toInt ∧ x1.toInt ≤ 5 ∧ 0 ≤ x2.toInt ∧ x2.toInt ≤ 5 then ly (hs_aI h 18) x1.toInt x2.toInt x3 else hs_aI h 18)) := by
  intro J H hJ
  obtain ⟨d, rfl⟩ : ∃ e, d = e + 1 := ⟨d - 1, by omega⟩
  have I := H.1 h hJ
  have ax1 := nm_lo x1
  have bx1 := nm_hi x1
  have ax2 := nm_lo x2
  have bx2 := nm_hi x2
  have ax3 := nm_lo x3
  have bx3 := nm_hi x3
  refine hq_M.enter (q := (⟨"TrainBearers$Train", "layLane", "(III)V"⟩, _, 4, none, 8, 4, pm_c76)) rfl rfl ?_
  show hq_W X d 8 false (none) pm_c76 (0, [some (.ref 12), some (.int x1), some (.int x2), some (.int x3)], [], h) (fun h' v => J h' ∧ (fun h1 v => v = none ∧ hs_aI h1 18 = (if 0 ≤ x1.toInt ∧ x1.toInt ≤ 5 ∧ 0 ≤ x2.toInt ∧ x2.toInt ≤ 5 then ly (hs_aI h 18) x1.toInt x2.toInt x3 else hs_aI h 18)) h' v)
  refine hq_p rfl rfl ?_
  refine ty_callp 1 I rfl (fun _ => rfl) rfl rfl rfl rfl (ct_128e (x0 := x1) (by omega)) (fun _ P1 => ?_)
  obtain ⟨z2, rfl, az2, bz2, iz2, jz2⟩ := P1
  refine ty_zeq rfl (fun c3 => ?_) (fun c3 => ?_)
  · have yz2 := jz2 (by omega)
    clear iz2 jz2
    exact hq_W.ret rfl rfl rfl ⟨hJ, rfl, (by rw [if_neg (by omega)])⟩
  · replace c3 : 1 ≤ z2.toInt ∧ z2.toInt ≤ 1 := by omega
    have yz2 := iz2 (by omega)
    clear iz2 jz2
    refine hq_p rfl rfl ?_
    refine ty_callp 1 I rfl (fun _ => rfl) rfl rfl rfl rfl (ct_128e (x0 := x2) (by omega)) (fun _ P4 => ?_)
    obtain ⟨z5, rfl, az5, bz5, iz5, jz5⟩ := P4
    refine ty_zeq rfl (fun c6 => ?_) (fun c6 => ?_)
    · have yz5 := jz5 (by omega)
      clear iz5 jz5
      exact hq_W.ret rfl rfl rfl ⟨hJ, rfl, (by rw [if_neg (by omega)])⟩
    · replace c6 : 1 ≤ z5.toInt ∧ z5.toInt ≤ 1 := by omega
      have yz5 := iz5 (by omega)
      clear iz5 jz5
      refine hq_p rfl rfl ?_
      refine hq_gR I.1 rfl rfl (by decide) (by decide) rfl ?_
      refine hq_p rfl rfl ?_
      refine hq_p rfl rfl (ty_ge (n := 6) nk_b6 (fun z7 ez7 => ?_))
      refine hq_p rfl rfl (ty_ge (n := 6 * x1.toInt) (nm_mulc ez7 (by omega) (by omega)) (fun z8 ez8 => ?_))
      refine hq_p rfl rfl ?_
      refine hq_p rfl rfl (ty_ge (n := z8.toInt + x2.toInt) (nm_add (by omega) (by omega)) (fun z9 ez9 => ?_))
      refine hq_p rfl rfl ?_
      refine ty_aS (W := (ty_Wly 18)) H hJ rfl rfl (by decide) (by omega) (by omega) (fun i e => by unfold ty_Wly; omega) (fun _ _ => ty_eg rfl) (by omega) (by omega) (fun e1 e2 w => by omega) (fun h10 eh10 Jh10 => ?_)
      have vh10_18 : hs_aI h10 18 = (upd (hs_aI h 18) z9.toInt.toNat x3) := by rw [eh10, hs_aI_sA]
      have Ih10 := H.1 h10 Jh10
      refine hq_p rfl rfl ?_
      refine hq_gR Ih10.1 rfl rfl (by decide) (by decide) rfl ?_
      refine hq_p rfl rfl ?_
      refine hq_p rfl rfl (ty_ge (n := 6) nk_b6 (fun z11 ez11 => ?_))
      refine hq_p rfl rfl (ty_ge (n := 6 * x2.toInt) (nm_mulc ez11 (by omega) (by omega)) (fun z12 ez12 => ?_))
      refine hq_p rfl rfl ?_
      refine hq_p rfl rfl (ty_ge (n := z12.toInt + x1.toInt) (nm_add (by omega) (by omega)) (fun z13 ez13 => ?_))
      refine hq_p rfl rfl ?_
      refine ty_aS (W := (ty_Wly 18)) H Jh10 rfl rfl (by decide) (by omega) (by omega) (fun i e => by unfold ty_Wly; omega) (fun _ _ => ty_eg rfl) (by omega) (by omega) (fun e1 e2 w => by omega) (fun h14 eh14 Jh14 => ?_)
      have vh14_18 : hs_aI h14 18 = (upd (upd (hs_aI h 18) z9.toInt.toNat x3) z13.toInt.toNat x3) := by rw [eh14, hs_aI_sA, vh10_18]
      have Ih14 := H.1 h14 Jh14
      exact hq_W.ret rfl rfl rfl ⟨Jh14, rfl, (by rw [if_pos (by omega), vh14_18]; exact ly_u (by omega) (by omega))⟩
theorem ct_75l12 {X : pm_X} {d : Nat} {h : pm_H} {x1 : Int32} {x2 : Int32} (hd : 2 ≤ d)  : ty_M X ty_W0 d 75 [.ref 12, .int x1, .int x2] h (fun _ v => ∃ z : Int32, v = some (.int z) ∧ z.toInt = (if 0 ≤ x1.toInt ∧ x1.toInt ≤ 5 ∧ 0 ≤ x2.toInt ∧ x2.toInt ≤ 5 then (hs_aI h 18 (6 * x1.toInt + x2.toInt).toNat).toInt else -1)) := by
  intro J H hJ
  obtain ⟨d, rfl⟩ : ∃ e, d = e + 1 := ⟨d - 1, by omega⟩
  have I := H.1 h hJ
  have ax1 := nm_lo x1
  have bx1 := nm_hi x1
  have ax2 := nm_lo x2
  have bx2 := nm_hi x2
  refine hq_M.enter (q := (⟨"TrainBearers$Train", "stilesBetween", "(II)I"⟩, _, 3, some .int, 8, 3, pm_c75)) rfl rfl ?_
  show hq_W X d 8 false (some .int) pm_c75 (0, [some (.ref 12), some (.int x1), some (.int x2)], [], h) (fun h' v => J h' ∧ (fun _ v => ∃ z : Int32, v = some (.int z) ∧ z.toInt = (if 0 ≤ x1.toInt ∧ x1.toInt ≤ 5 ∧ 0 ≤ x2.toInt ∧ x2.toInt ≤ 5 then (hs_aI h 18 (6 * x1.toInt + x2.toInt).toNat).toInt else -1)) h' v)
  refine hq_p rfl rfl ?_
  refine ty_callp 1 I rfl (fun _ => rfl) rfl rfl rfl rfl (ct_128e (x0 := x1) (by omega)) (fun _ P1 => ?_)
  obtain ⟨z2, rfl, az2, bz2, iz2, jz2⟩ := P1
  refine ty_zeq rfl (fun c3 => ?_) (fun c3 => ?_)
  · have yz2 := jz2 (by omega)
    clear iz2 jz2
    refine hq_p rfl rfl (ty_ge (n := -1) nk_im1 (fun z4 ez4 => ?_))
    exact hq_W.ret rfl rfl rfl ⟨hJ, _, rfl, (by rw [if_neg (by omega)]; omega)⟩
  · replace c3 : 1 ≤ z2.toInt ∧ z2.toInt ≤ 1 := by omega
    have yz2 := iz2 (by omega)
    clear iz2 jz2
    refine hq_p rfl rfl ?_
    refine ty_callp 1 I rfl (fun _ => rfl) rfl rfl rfl rfl (ct_128e (x0 := x2) (by omega)) (fun _ P5 => ?_)
    obtain ⟨z6, rfl, az6, bz6, iz6, jz6⟩ := P5
    refine ty_zeq rfl (fun c7 => ?_) (fun c7 => ?_)
    · have yz6 := jz6 (by omega)
      clear iz6 jz6
      refine hq_p rfl rfl (ty_ge (n := -1) nk_im1 (fun z8 ez8 => ?_))
      exact hq_W.ret rfl rfl rfl ⟨hJ, _, rfl, (by rw [if_neg (by omega)]; omega)⟩
    · replace c7 : 1 ≤ z6.toInt ∧ z6.toInt ≤ 1 := by omega
      have yz6 := iz6 (by omega)
      clear iz6 jz6
      refine hq_p rfl rfl ?_
      refine hq_gR I.1 rfl rfl (by decide) (by decide) rfl ?_
      refine hq_p rfl rfl ?_
      refine hq_p rfl rfl (ty_ge (n := 6) nk_b6 (fun z9 ez9 => ?_))
      refine hq_p rfl rfl (ty_ge (n := 6 * x1.toInt) (nm_mulc ez9 (by omega) (by omega)) (fun z10 ez10 => ?_))
      refine hq_p rfl rfl ?_
      refine hq_p rfl rfl (ty_ge (n := z10.toInt + x2.toInt) (nm_add (by omega) (by omega)) (fun z11 ez11 => ?_))
      refine ty_aL I rfl rfl (by decide) (by omega) (by omega) (fun _ _ => ty_le rfl) (fun z12 ez12 az12 bz12 => ?_)
      refine hq_p rfl rfl ?_
      exact hq_W.ret rfl rfl rfl ⟨hJ, _, rfl, (by rw [if_pos (by omega), ez12, show z11.toInt.toNat = (6 * x1.toInt + x2.toInt).toNat by omega])⟩
end CT43
