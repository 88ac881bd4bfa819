/-! CONTRACTS (printed by wip/pm/cts.py) -/
section CT39
theorem ct_24t {X : pm_X} {d : Nat} {h : pm_H} {x1 : Int32} (hd : 1 ≤ d) (gq10 : 0 ≤ (hs_fI h 62 1).toInt) (gq11 : (hs_fI h 62 1).toInt ≤ 396) : ty_M X ty_Wf d 24 [.ref 62, .int x1] h (fun h1 v => v = none ∧ (hs_fI h1 62 1).toInt = (hs_fI h 62 1).toInt + 4 ∧ hs_aI h1 63 = ap (hs_aI h 63) (hs_fI h 62 1).toInt.toNat x1 4) := by
  intro J H hJ
  obtain ⟨d, rfl⟩ : ∃ e, d = e + 1 := ⟨d - 1, by omega⟩
  have I := H.1 h hJ
  have ax1 := nm_lo x1
  have bx1 := nm_hi x1
  obtain ⟨q1, eq1⟩ : ∃ q : Int32, q.toInt = (hs_fI h 62 1).toInt := ⟨_, rfl⟩
  refine hq_M.enter (q := (⟨"TrainBearers$Reader", "append", "(I)V"⟩, _, 3, none, 3, 2, pm_c24)) rfl rfl ?_
  show hq_W X d 3 false (none) pm_c24 (0, [some (.ref 62), some (.int x1), none], [], h) (fun h' v => J h' ∧ (fun h1 v => v = none ∧ (hs_fI h1 62 1).toInt = (hs_fI h 62 1).toInt + 4 ∧ hs_aI h1 63 = ap (hs_aI h 63) (hs_fI h 62 1).toInt.toNat x1 4) h' v)
  refine hq_p rfl rfl (ty_ge (n := 24) nk_b24 (fun z1 ez1 => ?_))
  refine hq_p (ls' := [some (.ref 62), some (.int x1), some (.int z1)]) rfl rfl ?_
  have L3_n8 : ∀ n8 : Nat, ∀ (y4 : Int32) (h5 : pm_H), (y4.toInt - (-8)).toNat = n8 → -8 ≤ y4.toInt → y4.toInt ≤ 24 → 8 * ((hs_fI h5 62 1).toInt - (hs_fI h 62 1).toInt) = 24 - y4.toInt → hs_aI h5 63 = ap (hs_aI h 63) (hs_fI h 62 1).toInt.toNat x1 ((24 - y4.toInt) / 8).toNat → J h5 → hq_W X d 3 false (none) pm_c24 (3, [some (.ref 62), some (.int x1), some (.int y4)], [], h5) (fun h' v => J h' ∧ (fun h1 v => v = none ∧ (hs_fI h1 62 1).toInt = (hs_fI h 62 1).toInt + 4 ∧ hs_aI h1 63 = ap (hs_aI h 63) (hs_fI h 62 1).toInt.toNat x1 4) h' v) := by
    intro n8
    induction n8 using Nat.strongRecOn with
    | ind n8 ihn8 =>
      intro y4 h5 mn8 ay4 by4 x0n8 x1n8 Jh5
      have Ih5 := H.1 h5 Jh5
      refine hq_p rfl rfl ?_
      refine ty_zlt rfl (fun c9 => ?_) (fun c9 => ?_)
      · exact hq_W.ret rfl rfl rfl ⟨Jh5, rfl, by omega, (by rw [x1n8, show ((24 - y4.toInt) / 8).toNat = 4 by omega])⟩
      · refine hq_p rfl rfl ?_
        refine ty_gI Ih5 rfl rfl (by decide) (by decide) rfl rfl (fun z10 ez10 az10 bz10 => ?_)
        refine hq_p rfl rfl (ty_ge (n := 400) nk_s400 (fun z11 ez11 => ?_))
        refine ty_ige rfl (fun c12 => ?_) (fun c12 => ?_)
        · exact hq_W.ret rfl rfl rfl ⟨Jh5, rfl, by omega, (by rw [x1n8, show ((24 - y4.toInt) / 8).toNat = 4 by omega])⟩
        · refine hq_p rfl rfl ?_
          refine hq_gR Ih5.1 rfl rfl (by decide) (by decide) rfl ?_
          refine hq_p rfl rfl ?_
          refine ty_gI Ih5 rfl rfl (by decide) (by decide) rfl rfl (fun z13 ez13 az13 bz13 => ?_)
          refine hq_p rfl rfl ?_
          refine hq_p rfl rfl ?_
          refine hq_p rfl rfl (ty_ge (n := (x1 >>> (y4 &&& 31)).toInt) rfl (fun z14 ez14 => ?_))
          have az14 := nm_lo z14
          have bz14 := nm_hi z14
          refine hq_p rfl rfl (ty_ge (n := 255) nk_s255 (fun z15 ez15 => ?_))
          refine hq_p rfl rfl (ty_ge (n := (z14 &&& z15).toInt) rfl (fun z16 ez16 => ?_))
          have bz16 : 0 ≤ z16.toInt ∧ z16.toInt ≤ 255 := by rw [ez16]; have q := nm_and_r (x := z14) (y := z15) (by omega); omega
          refine ty_aS (W := ty_Wf) H Jh5 rfl rfl (by decide) (by omega) (by omega) (fun i e => by unfold ty_Wf; omega) (fun _ _ => ty_eg rfl) (by omega) (by omega) (fun e1 e2 w => by omega) (fun h17 eh17 Jh17 => ?_)
          have vh17_63 : hs_aI h17 63 = (upd (ap (hs_aI h 63) (hs_fI h 62 1).toInt.toNat x1 ((24 - y4.toInt) / 8).toNat) z13.toInt.toNat z16) := by rw [eh17, hs_aI_sA, x1n8]
          have Ih17 := H.1 h17 Jh17
          refine hq_p rfl rfl ?_
          refine hq_p rfl rfl ?_
          have r19 : (hs_fI h17 62 1).toInt = (hs_fI h5 62 1).toInt := by rw [eh17]; exact congrArg Int32.toInt (ty_fI_ne (by omega))
          refine ty_gI Ih17 rfl rfl (by decide) (by decide) rfl rfl (fun z18 ez18 az18 bz18 => ?_)
          refine hq_p rfl rfl (ty_ge (n := 1) nk_i1 (fun z20 ez20 => ?_))
          refine hq_p rfl rfl (ty_ge (n := z18.toInt + z20.toInt) (nm_add (by omega) (by omega)) (fun z21 ez21 => ?_))
          refine ty_pI (W := ty_Wf) H Jh17 rfl rfl (by decide) rfl rfl (by unfold ty_Wf; omega) rfl (by omega) (by omega) (fun h22 eh22 Jh22 => ?_)
          have wh22 : (hs_fI h22 62 1).toInt = z21.toInt := by rw [eh22]; exact congrArg Int32.toInt (ty_fI_eq Ih17.1 rfl (by decide) rfl)
          have vh22_63 : hs_aI h22 63 = (upd (ap (hs_aI h 63) (hs_fI h 62 1).toInt.toNat x1 ((24 - y4.toInt) / 8).toNat) z13.toInt.toNat z16) := by rw [eh22]; exact (hs_aI_ne (by decide)).trans vh17_63
          have Ih22 := H.1 h22 Jh22
          refine ty_inc (ls' := fun z23 => [some (.ref 62), some (.int x1), some (.int z23)]) rfl rfl (fun _ => rfl) (nm_addc nk_im8 (by omega) (by omega)) (fun z23 ez23 => ?_)
          refine hq_p rfl rfl ?_
          exact ihn8 ((z23.toInt - (-8)).toNat) (by omega) z23 h22 rfl (by omega) (by omega) (by omega) (by rw [vh22_63, show ((24 - z23.toInt) / 8).toNat = ((24 - y4.toInt) / 8).toNat + 1 by omega]; exact ap_s (by omega) (bt_v ez14 ez16 (by omega) (by omega) (by omega))) Jh22
  exact L3_n8 _ z1 h rfl (by omega) (by omega) (by omega) (by rw [show ((24 - z1.toInt) / 8).toNat = 0 by omega]; rfl) hJ
theorem ct_166t {X : pm_X} {d : Nat} {h : pm_H} {x1 : Int32} (hd : 1 ≤ d) (gq130 : 0 ≤ (hs_fI h 97 13).toInt) (gq131 : (hs_fI h 97 13).toInt ≤ 396) : ty_M X ty_Wg d 166 [.ref 97, .int x1] h (fun h1 v => v = none ∧ (hs_fI h1 97 13).toInt = (hs_fI h 97 13).toInt + 4 ∧ hs_aI h1 106 = ap (hs_aI h 106) (hs_fI h 97 13).toInt.toNat x1 4) := by
  intro J H hJ
  obtain ⟨d, rfl⟩ : ∃ e, d = e + 1 := ⟨d - 1, by omega⟩
  have I := H.1 h hJ
  have ax1 := nm_lo x1
  have bx1 := nm_hi x1
  obtain ⟨q13, eq13⟩ : ∃ q : Int32, q.toInt = (hs_fI h 97 13).toInt := ⟨_, rfl⟩
  refine hq_M.enter (q := (⟨"TrainBearersModel", "four", "(I)V"⟩, _, 3, none, 11, 2, pm_c166)) rfl rfl ?_
  show hq_W X d 11 false (none) pm_c166 (0, [some (.ref 97), some (.int x1), none], [], h) (fun h' v => J h' ∧ (fun h1 v => v = none ∧ (hs_fI h1 97 13).toInt = (hs_fI h 97 13).toInt + 4 ∧ hs_aI h1 106 = ap (hs_aI h 106) (hs_fI h 97 13).toInt.toNat x1 4) h' v)
  refine hq_p rfl rfl (ty_ge (n := 24) nk_b24 (fun z1 ez1 => ?_))
  refine hq_p (ls' := [some (.ref 97), some (.int x1), some (.int z1)]) rfl rfl ?_
  have L3_n8 : ∀ n8 : Nat, ∀ (y4 : Int32) (h5 : pm_H), (y4.toInt - (-8)).toNat = n8 → -8 ≤ y4.toInt → y4.toInt ≤ 24 → 8 * ((hs_fI h5 97 13).toInt - (hs_fI h 97 13).toInt) = 24 - y4.toInt → hs_aI h5 106 = ap (hs_aI h 106) (hs_fI h 97 13).toInt.toNat x1 ((24 - y4.toInt) / 8).toNat → J h5 → hq_W X d 11 false (none) pm_c166 (3, [some (.ref 97), some (.int x1), some (.int y4)], [], h5) (fun h' v => J h' ∧ (fun h1 v => v = none ∧ (hs_fI h1 97 13).toInt = (hs_fI h 97 13).toInt + 4 ∧ hs_aI h1 106 = ap (hs_aI h 106) (hs_fI h 97 13).toInt.toNat x1 4) h' v) := by
    intro n8
    induction n8 using Nat.strongRecOn with
    | ind n8 ihn8 =>
      intro y4 h5 mn8 ay4 by4 x0n8 x1n8 Jh5
      have Ih5 := H.1 h5 Jh5
      refine hq_p rfl rfl ?_
      refine ty_zlt rfl (fun c9 => ?_) (fun c9 => ?_)
      · exact hq_W.ret rfl rfl rfl ⟨Jh5, rfl, by omega, (by rw [x1n8, show ((24 - y4.toInt) / 8).toNat = 4 by omega])⟩
      · refine hq_p rfl rfl ?_
        refine hq_gR Ih5.1 rfl rfl (by decide) (by decide) rfl ?_
        refine hq_p rfl rfl ?_
        refine ty_gI Ih5 rfl rfl (by decide) (by decide) rfl rfl (fun z10 ez10 az10 bz10 => ?_)
        refine hq_p rfl rfl ?_
        refine hq_p rfl rfl ?_
        refine hq_p rfl rfl (ty_ge (n := (x1 >>> (y4 &&& 31)).toInt) rfl (fun z11 ez11 => ?_))
        have az11 := nm_lo z11
        have bz11 := nm_hi z11
        refine hq_p rfl rfl (ty_ge (n := 255) nk_s255 (fun z12 ez12 => ?_))
        refine hq_p rfl rfl (ty_ge (n := (z11 &&& z12).toInt) rfl (fun z13 ez13 => ?_))
        have bz13 : 0 ≤ z13.toInt ∧ z13.toInt ≤ 255 := by rw [ez13]; have q := nm_and_r (x := z11) (y := z12) (by omega); omega
        refine ty_aS (W := ty_Wg) H Jh5 rfl rfl (by decide) (by omega) (by omega) (fun i e => by unfold ty_Wg; omega) (fun _ _ => ty_eg rfl) (by omega) (by omega) (fun e1 e2 w => by omega) (fun h14 eh14 Jh14 => ?_)
        have vh14_106 : hs_aI h14 106 = (upd (ap (hs_aI h 106) (hs_fI h 97 13).toInt.toNat x1 ((24 - y4.toInt) / 8).toNat) z10.toInt.toNat z13) := by rw [eh14, hs_aI_sA, x1n8]
        have Ih14 := H.1 h14 Jh14
        refine hq_p rfl rfl ?_
        refine hq_p rfl rfl ?_
        have r16 : (hs_fI h14 97 13).toInt = (hs_fI h5 97 13).toInt := by rw [eh14]; exact congrArg Int32.toInt (ty_fI_ne (by omega))
        refine ty_gI Ih14 rfl rfl (by decide) (by decide) rfl rfl (fun z15 ez15 az15 bz15 => ?_)
        refine hq_p rfl rfl (ty_ge (n := 1) nk_i1 (fun z17 ez17 => ?_))
        refine hq_p rfl rfl (ty_ge (n := z15.toInt + z17.toInt) (nm_add (by omega) (by omega)) (fun z18 ez18 => ?_))
        refine ty_pI (W := ty_Wg) H Jh14 rfl rfl (by decide) rfl rfl (by unfold ty_Wg; omega) rfl (by omega) (by omega) (fun h19 eh19 Jh19 => ?_)
        have wh19 : (hs_fI h19 97 13).toInt = z18.toInt := by rw [eh19]; exact congrArg Int32.toInt (ty_fI_eq Ih14.1 rfl (by decide) rfl)
        have vh19_106 : hs_aI h19 106 = (upd (ap (hs_aI h 106) (hs_fI h 97 13).toInt.toNat x1 ((24 - y4.toInt) / 8).toNat) z10.toInt.toNat z13) := by rw [eh19]; exact (hs_aI_ne (by decide)).trans vh14_106
        have Ih19 := H.1 h19 Jh19
        refine ty_inc (ls' := fun z20 => [some (.ref 97), some (.int x1), some (.int z20)]) rfl rfl (fun _ => rfl) (nm_addc nk_im8 (by omega) (by omega)) (fun z20 ez20 => ?_)
        refine hq_p rfl rfl ?_
        exact ihn8 ((z20.toInt - (-8)).toNat) (by omega) z20 h19 rfl (by omega) (by omega) (by omega) (by rw [vh19_106, show ((24 - z20.toInt) / 8).toNat = ((24 - y4.toInt) / 8).toNat + 1 by omega]; exact ap_s (by omega) (bt_v ez11 ez13 (by omega) (by omega) (by omega))) Jh19
  exact L3_n8 _ z1 h rfl (by omega) (by omega) (by omega) (by rw [show ((24 - z1.toInt) / 8).toNat = 0 by omega]; rfl) hJ
theorem ct_91t {X : pm_X} {d : Nat} {h : pm_H} {x1 : Int32} {x2 : Int32} {x3 : Int32} {x4 : Int32} {x5 : Int32} (hd : 2 ≤ d)  : ty_M X ty_Wf d 91 [.ref 0, .int x1, .int x2, .int x3, .int x4, .int x5] h (fun h1 v => (∃ z : Int32, v = some (.int z) ∧ z.toInt = (if (hs_fI h 62 1).toInt ≤ 380 then (hs_fI h 62 1).toInt + 20 else -1)) ∧ (hs_fI h1 62 1).toInt = (if (hs_fI h 62 1).toInt ≤ 380 then (hs_fI h 62 1).toInt + 20 else (hs_fI h 62 1).toInt) ∧ hs_aI h1 63 = (if (hs_fI h 62 1).toInt ≤ 380 then fd (hs_aI h 63) (hs_fI h 62 1).toInt x1 x2 x3 x4 x5 else hs_aI h 63)) := by
  intro J H hJ
  obtain ⟨d, rfl⟩ : ∃ e, d = e + 1 := ⟨d - 1, by omega⟩
  have I := H.1 h hJ
  have ax1 := nm_lo x1
  have bx1 := nm_hi x1
  have ax2 := nm_lo x2
  have bx2 := nm_hi x2
  have ax3 := nm_lo x3
  have bx3 := nm_hi x3
  have ax4 := nm_lo x4
  have bx4 := nm_hi x4
  have ax5 := nm_lo x5
  have bx5 := nm_hi x5
  obtain ⟨q1, eq1⟩ : ∃ q : Int32, q.toInt = (hs_fI h 62 1).toInt := ⟨_, rfl⟩
  have gq10 : 0 ≤ (hs_fI h 62 1).toInt := (I.2.1 62 1 (by decide)).1
  have gq11 : (hs_fI h 62 1).toInt ≤ 400 := (I.2.1 62 1 (by decide)).2
  refine hq_M.enter (q := (⟨"TrainBearers", "feed", "(IIIII)I"⟩, _, 6, some .int, 10, 6, pm_c91)) rfl rfl ?_
  show hq_W X d 10 false (some .int) pm_c91 (0, [some (.ref 0), some (.int x1), some (.int x2), some (.int x3), some (.int x4), some (.int x5)], [], h) (fun h' v => J h' ∧ (fun h1 v => (∃ z : Int32, v = some (.int z) ∧ z.toInt = (if (hs_fI h 62 1).toInt ≤ 380 then (hs_fI h 62 1).toInt + 20 else -1)) ∧ (hs_fI h1 62 1).toInt = (if (hs_fI h 62 1).toInt ≤ 380 then (hs_fI h 62 1).toInt + 20 else (hs_fI h 62 1).toInt) ∧ hs_aI h1 63 = (if (hs_fI h 62 1).toInt ≤ 380 then fd (hs_aI h 63) (hs_fI h 62 1).toInt x1 x2 x3 x4 x5 else hs_aI h 63)) h' v)
  refine hq_p rfl rfl ?_
  refine hq_gR I.1 rfl rfl (by decide) (by decide) rfl ?_
  refine ty_gI I rfl rfl (by decide) (by decide) rfl rfl (fun z1 ez1 az1 bz1 => ?_)
  refine hq_p rfl rfl (ty_ge (n := 380) nk_s380 (fun z2 ez2 => ?_))
  refine ty_ile rfl (fun c3 => ?_) (fun c3 => ?_)
  · refine hq_p rfl rfl ?_
    refine hq_gR I.1 rfl rfl (by decide) (by decide) rfl ?_
    refine hq_p rfl rfl ?_
    refine ty_callj 0 (W := ty_Wf) H hJ rfl (fun _ => rfl) rfl rfl rfl (hq_pre_o I.1 (x := 62) (ci := 3) rfl (by decide) rfl rfl rfl rfl) (fun _ _ w => w) (fun _ w => w) (ct_24t (x1 := x1) (by omega) (by omega) (by omega)) (fun h5 _ Jh5 P4 => ?_)
    have Ih5 := H.1 h5 Jh5
    obtain ⟨qq6, pq6, rq6⟩ := P4
    subst qq6
    obtain ⟨q6, eq6⟩ : ∃ q : Int32, q.toInt = (hs_fI h5 62 1).toInt := ⟨_, rfl⟩
    have wq6 : hs_aI h5 63 = (ap (hs_aI h 63) (hs_fI h 62 1).toInt.toNat x1 4) := rq6
    refine hq_p rfl rfl ?_
    refine hq_gR Ih5.1 rfl rfl (by decide) (by decide) rfl ?_
    refine hq_p rfl rfl ?_
    refine ty_callj 0 (W := ty_Wf) H Jh5 rfl (fun _ => rfl) rfl rfl rfl (hq_pre_o Ih5.1 (x := 62) (ci := 3) rfl (by decide) rfl rfl rfl rfl) (fun _ _ w => w) (fun _ w => w) (ct_24t (x1 := x2) (by omega) (by omega) (by omega)) (fun h8 _ Jh8 P7 => ?_)
    have Ih8 := H.1 h8 Jh8
    obtain ⟨qq9, pq9, rq9⟩ := P7
    subst qq9
    obtain ⟨q9, eq9⟩ : ∃ q : Int32, q.toInt = (hs_fI h8 62 1).toInt := ⟨_, rfl⟩
    have wq9 : hs_aI h8 63 = (ap (ap (hs_aI h 63) (hs_fI h 62 1).toInt.toNat x1 4) ((hs_fI h 62 1).toInt + 4).toNat x2 4) := by rw [rq9, wq6, show (hs_fI h5 62 1).toInt.toNat = ((hs_fI h 62 1).toInt + 4).toNat by omega]
    refine hq_p rfl rfl ?_
    refine hq_gR Ih8.1 rfl rfl (by decide) (by decide) rfl ?_
    refine hq_p rfl rfl ?_
    refine ty_callj 0 (W := ty_Wf) H Jh8 rfl (fun _ => rfl) rfl rfl rfl (hq_pre_o Ih8.1 (x := 62) (ci := 3) rfl (by decide) rfl rfl rfl rfl) (fun _ _ w => w) (fun _ w => w) (ct_24t (x1 := x3) (by omega) (by omega) (by omega)) (fun h11 _ Jh11 P10 => ?_)
    have Ih11 := H.1 h11 Jh11
    obtain ⟨qq12, pq12, rq12⟩ := P10
    subst qq12
    obtain ⟨q12, eq12⟩ : ∃ q : Int32, q.toInt = (hs_fI h11 62 1).toInt := ⟨_, rfl⟩
    have wq12 : hs_aI h11 63 = (ap (ap (ap (hs_aI h 63) (hs_fI h 62 1).toInt.toNat x1 4) ((hs_fI h 62 1).toInt + 4).toNat x2 4) ((hs_fI h 62 1).toInt + 8).toNat x3 4) := by rw [rq12, wq9, show (hs_fI h8 62 1).toInt.toNat = ((hs_fI h 62 1).toInt + 8).toNat by omega]
    refine hq_p rfl rfl ?_
    refine hq_gR Ih11.1 rfl rfl (by decide) (by decide) rfl ?_
    refine hq_p rfl rfl ?_
    refine ty_callj 0 (W := ty_Wf) H Jh11 rfl (fun _ => rfl) rfl rfl rfl (hq_pre_o Ih11.1 (x := 62) (ci := 3) rfl (by decide) rfl rfl rfl rfl) (fun _ _ w => w) (fun _ w => w) (ct_24t (x1 := x4) (by omega) (by omega) (by omega)) (fun h14 _ Jh14 P13 => ?_)
    have Ih14 := H.1 h14 Jh14
    obtain ⟨qq15, pq15, rq15⟩ := P13
    subst qq15
    obtain ⟨q15, eq15⟩ : ∃ q : Int32, q.toInt = (hs_fI h14 62 1).toInt := ⟨_, rfl⟩
    have wq15 : hs_aI h14 63 = (ap (ap (ap (ap (hs_aI h 63) (hs_fI h 62 1).toInt.toNat x1 4) ((hs_fI h 62 1).toInt + 4).toNat x2 4) ((hs_fI h 62 1).toInt + 8).toNat x3 4) ((hs_fI h 62 1).toInt + 12).toNat x4 4) := by rw [rq15, wq12, show (hs_fI h11 62 1).toInt.toNat = ((hs_fI h 62 1).toInt + 12).toNat by omega]
    refine hq_p rfl rfl ?_
    refine hq_gR Ih14.1 rfl rfl (by decide) (by decide) rfl ?_
    refine hq_p rfl rfl ?_
    refine ty_callj 0 (W := ty_Wf) H Jh14 rfl (fun _ => rfl) rfl rfl rfl (hq_pre_o Ih14.1 (x := 62) (ci := 3) rfl (by decide) rfl rfl rfl rfl) (fun _ _ w => w) (fun _ w => w) (ct_24t (x1 := x5) (by omega) (by omega) (by omega)) (fun h17 _ Jh17 P16 => ?_)
    have Ih17 := H.1 h17 Jh17
    obtain ⟨qq18, pq18, rq18⟩ := P16
    subst qq18
    obtain ⟨q18, eq18⟩ : ∃ q : Int32, q.toInt = (hs_fI h17 62 1).toInt := ⟨_, rfl⟩
    have wq18 : hs_aI h17 63 = (ap (ap (ap (ap (ap (hs_aI h 63) (hs_fI h 62 1).toInt.toNat x1 4) ((hs_fI h 62 1).toInt + 4).toNat x2 4) ((hs_fI h 62 1).toInt + 8).toNat x3 4) ((hs_fI h 62 1).toInt + 12).toNat x4 4) ((hs_fI h 62 1).toInt + 16).toNat x5 4) := by rw [rq18, wq15, show (hs_fI h14 62 1).toInt.toNat = ((hs_fI h 62 1).toInt + 16).toNat by omega]
    refine hq_p rfl rfl ?_
    refine hq_gR Ih17.1 rfl rfl (by decide) (by decide) rfl ?_
    refine ty_gI Ih17 rfl rfl (by decide) (by decide) rfl rfl (fun z19 ez19 az19 bz19 => ?_)
    exact hq_W.ret rfl rfl rfl ⟨Jh17, ⟨_, rfl, by omega⟩, by omega, (by rw [if_pos (by omega), wq18]; rfl)⟩
  · refine hq_p rfl rfl (ty_ge (n := -1) nk_im1 (fun z20 ez20 => ?_))
    exact hq_W.ret rfl rfl rfl ⟨hJ, ⟨_, rfl, by omega⟩, by omega, (by rw [if_neg (by omega)])⟩
theorem ct_167t {X : pm_X} {d : Nat} {h : pm_H} {x1 : Int32} {x2 : Int32} {x3 : Int32} {x4 : Int32} {x5 : Int32} (hd : 2 ≤ d)  : ty_M X ty_Wg d 167 [.ref 97, .int x1, .int x2, .int x3, .int x4, .int x5] h (fun h1 v => (∃ z : Int32, v = some (.int z) ∧ z.toInt = (if (hs_fI h 97 13).toInt ≤ 380 then (hs_fI h 97 13).toInt + 20 else -1)) ∧ (hs_fI h1 97 13).toInt = (if (hs_fI h 97 13).toInt ≤ 380 then (hs_fI h 97 13).toInt + 20 else (hs_fI h 97 13).toInt) ∧ hs_aI h1 106 = (if (hs_fI h 97 13).toInt ≤ 380 then fd (hs_aI h 106) (hs_fI h 97 13).toInt x1 x2 x3 x4 x5 else hs_aI h 106)) := by
  intro J H hJ
  obtain ⟨d, rfl⟩ : ∃ e, d = e + 1 := ⟨d - 1, by omega⟩
  have I := H.1 h hJ
  have ax1 := nm_lo x1
  have bx1 := nm_hi x1
  have ax2 := nm_lo x2
  have bx2 := nm_hi x2
  have ax3 := nm_lo x3
  have bx3 := nm_hi x3
  have ax4 := nm_lo x4
  have bx4 := nm_hi x4
  have ax5 := nm_lo x5
  have bx5 := nm_hi x5
  obtain ⟨q13, eq13⟩ : ∃ q : Int32, q.toInt = (hs_fI h 97 13).toInt := ⟨_, rfl⟩
  have gq130 : 0 ≤ (hs_fI h 97 13).toInt := (I.2.1 97 13 (by decide)).1
  have gq131 : (hs_fI h 97 13).toInt ≤ 400 := (I.2.1 97 13 (by decide)).2
  refine hq_M.enter (q := (⟨"TrainBearersModel", "feed", "(IIIII)I"⟩, _, 6, some .int, 11, 6, pm_c167)) rfl rfl ?_
  show hq_W X d 11 false (some .int) pm_c167 (0, [some (.ref 97), some (.int x1), some (.int x2), some (.int x3), some (.int x4), some (.int x5)], [], h) (fun h' v => J h' ∧ (fun h1 v => (∃ z : Int32, v = some (.int z) ∧ z.toInt = (if (hs_fI h 97 13).toInt ≤ 380 then (hs_fI h 97 13).toInt + 20 else -1)) ∧ (hs_fI h1 97 13).toInt = (if (hs_fI h 97 13).toInt ≤ 380 then (hs_fI h 97 13).toInt + 20 else (hs_fI h 97 13).toInt) ∧ hs_aI h1 106 = (if (hs_fI h 97 13).toInt ≤ 380 then fd (hs_aI h 106) (hs_fI h 97 13).toInt x1 x2 x3 x4 x5 else hs_aI h 106)) h' v)
  refine hq_p rfl rfl ?_
  refine hq_p rfl rfl (ty_ge (n := 0) nk_i0 (fun z1 ez1 => ?_))
  refine ty_pI (W := ty_Wg) H hJ rfl rfl (by decide) rfl rfl (by unfold ty_Wg; omega) rfl (by omega) (by omega) (fun h2 eh2 Jh2 => ?_)
  have wh2 : (hs_fI h2 97 0).toInt = z1.toInt := by rw [eh2]; exact congrArg Int32.toInt (ty_fI_eq I.1 rfl (by decide) rfl)
  have vh2_106 : hs_aI h2 106 = (hs_aI h 106) := by rw [eh2]; exact (hs_aI_ne (by decide)).trans rfl
  have Ih2 := H.1 h2 Jh2
  refine hq_p rfl rfl ?_
  have r4 : (hs_fI h2 97 13).toInt = (hs_fI h 97 13).toInt := by rw [eh2]; exact congrArg Int32.toInt (ty_fI_sF (by decide))
  refine ty_gI Ih2 rfl rfl (by decide) (by decide) rfl rfl (fun z3 ez3 az3 bz3 => ?_)
  refine hq_p rfl rfl (ty_ge (n := 20) nk_b20 (fun z5 ez5 => ?_))
  refine hq_p rfl rfl (ty_ge (n := z3.toInt + z5.toInt) (nm_add (by omega) (by omega)) (fun z6 ez6 => ?_))
  refine hq_p rfl rfl (ty_ge (n := 400) nk_s400 (fun z7 ez7 => ?_))
  refine ty_ile rfl (fun c8 => ?_) (fun c8 => ?_)
  · refine hq_p rfl rfl ?_
    refine hq_p rfl rfl ?_
    refine ty_callj 0 (W := ty_Wg) H Jh2 rfl (fun _ => rfl) rfl rfl rfl (hq_pre_o Ih2.1 (x := 97) (ci := 11) rfl (by decide) rfl rfl rfl rfl) (fun _ _ w => w) (fun _ w => w) (ct_166t (x1 := x1) (by omega) (by omega) (by omega)) (fun h10 _ Jh10 P9 => ?_)
    have Ih10 := H.1 h10 Jh10
    obtain ⟨qq11, pq11, rq11⟩ := P9
    subst qq11
    obtain ⟨q11, eq11⟩ : ∃ q : Int32, q.toInt = (hs_fI h10 97 13).toInt := ⟨_, rfl⟩
    have wq11 : hs_aI h10 106 = (ap (hs_aI h 106) (hs_fI h 97 13).toInt.toNat x1 4) := by rw [rq11, vh2_106, show (hs_fI h2 97 13).toInt.toNat = (hs_fI h 97 13).toInt.toNat by omega]
    refine hq_p rfl rfl ?_
    refine hq_p rfl rfl ?_
    refine ty_callj 0 (W := ty_Wg) H Jh10 rfl (fun _ => rfl) rfl rfl rfl (hq_pre_o Ih10.1 (x := 97) (ci := 11) rfl (by decide) rfl rfl rfl rfl) (fun _ _ w => w) (fun _ w => w) (ct_166t (x1 := x2) (by omega) (by omega) (by omega)) (fun h13 _ Jh13 P12 => ?_)
    have Ih13 := H.1 h13 Jh13
    obtain ⟨qq14, pq14, rq14⟩ := P12
    subst qq14
    obtain ⟨q14, eq14⟩ : ∃ q : Int32, q.toInt = (hs_fI h13 97 13).toInt := ⟨_, rfl⟩
    have wq14 : hs_aI h13 106 = (ap (ap (hs_aI h 106) (hs_fI h 97 13).toInt.toNat x1 4) ((hs_fI h 97 13).toInt + 4).toNat x2 4) := by rw [rq14, wq11, show (hs_fI h10 97 13).toInt.toNat = ((hs_fI h 97 13).toInt + 4).toNat by omega]
    refine hq_p rfl rfl ?_
    refine hq_p rfl rfl ?_
    refine ty_callj 0 (W := ty_Wg) H Jh13 rfl (fun _ => rfl) rfl rfl rfl (hq_pre_o Ih13.1 (x := 97) (ci := 11) rfl (by decide) rfl rfl rfl rfl) (fun _ _ w => w) (fun _ w => w) (ct_166t (x1 := x3) (by omega) (by omega) (by omega)) (fun h16 _ Jh16 P15 => ?_)
    have Ih16 := H.1 h16 Jh16
    obtain ⟨qq17, pq17, rq17⟩ := P15
    subst qq17
    obtain ⟨q17, eq17⟩ : ∃ q : Int32, q.toInt = (hs_fI h16 97 13).toInt := ⟨_, rfl⟩
    have wq17 : hs_aI h16 106 = (ap (ap (ap (hs_aI h 106) (hs_fI h 97 13).toInt.toNat x1 4) ((hs_fI h 97 13).toInt + 4).toNat x2 4) ((hs_fI h 97 13).toInt + 8).toNat x3 4) := by rw [rq17, wq14, show (hs_fI h13 97 13).toInt.toNat = ((hs_fI h 97 13).toInt + 8).toNat by omega]
    refine hq_p rfl rfl ?_
    refine hq_p rfl rfl ?_
    refine ty_callj 0 (W := ty_Wg) H Jh16 rfl (fun _ => rfl) rfl rfl rfl (hq_pre_o Ih16.1 (x := 97) (ci := 11) rfl (by decide) rfl rfl rfl rfl) (fun _ _ w => w) (fun _ w => w) (ct_166t (x1 := x4) (by omega) (by omega) (by omega)) (fun h19 _ Jh19 P18 => ?_)
    have Ih19 := H.1 h19 Jh19
    obtain ⟨qq20, pq20, rq20⟩ := P18
    subst qq20
    obtain ⟨q20, eq20⟩ : ∃ q : Int32, q.toInt = (hs_fI h19 97 13).toInt := ⟨_, rfl⟩
    have wq20 : hs_aI h19 106 = (ap (ap (ap (ap (hs_aI h 106) (hs_fI h 97 13).toInt.toNat x1 4) ((hs_fI h 97 13).toInt + 4).toNat x2 4) ((hs_fI h 97 13).toInt + 8).toNat x3 4) ((hs_fI h 97 13).toInt + 12).toNat x4 4) := by rw [rq20, wq17, show (hs_fI h16 97 13).toInt.toNat = ((hs_fI h 97 13).toInt + 12).toNat by omega]
    refine hq_p rfl rfl ?_
    refine hq_p rfl rfl ?_
    refine ty_callj 0 (W := ty_Wg) H Jh19 rfl (fun _ => rfl) rfl rfl rfl (hq_pre_o Ih19.1 (x := 97) (ci := 11) rfl (by decide) rfl rfl rfl rfl) (fun _ _ w => w) (fun _ w => w) (ct_166t (x1 := x5) (by omega) (by omega) (by omega)) (fun h22 _ Jh22 P21 => ?_)
    have Ih22 := H.1 h22 Jh22
    obtain ⟨qq23, pq23, rq23⟩ := P21
    subst qq23
    obtain ⟨q23, eq23⟩ : ∃ q : Int32, q.toInt = (hs_fI h22 97 13).toInt := ⟨_, rfl⟩
    have wq23 : hs_aI h22 106 = (ap (ap (ap (ap (ap (hs_aI h 106) (hs_fI h 97 13).toInt.toNat x1 4) ((hs_fI h 97 13).toInt + 4).toNat x2 4) ((hs_fI h 97 13).toInt + 8).toNat x3 4) ((hs_fI h 97 13).toInt + 12).toNat x4 4) ((hs_fI h 97 13).toInt + 16).toNat x5 4) := by rw [rq23, wq20, show (hs_fI h19 97 13).toInt.toNat = ((hs_fI h 97 13).toInt + 16).toNat by omega]
    refine hq_p rfl rfl ?_
    refine ty_gI Ih22 rfl rfl (by decide) (by decide) rfl rfl (fun z24 ez24 az24 bz24 => ?_)
    exact hq_W.ret rfl rfl rfl ⟨Jh22, ⟨_, rfl, by omega⟩, by omega, (by rw [if_pos (by omega), wq23]; rfl)⟩
  · refine hq_p rfl rfl (ty_ge (n := -1) nk_im1 (fun z25 ez25 => ?_))
    exact hq_W.ret rfl rfl rfl ⟨Jh2, ⟨_, rfl, by omega⟩, by omega, (by rw [if_neg (by omega)]; exact vh2_106)⟩
end CT39
