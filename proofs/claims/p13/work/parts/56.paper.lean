/-! CONTRACTS (printed by wip/pm/cts.py) -/
section CT33
def ty_Wpb (a k : Nat) : Prop := a = 99 ∧ 5 ≤ k ∧ k < 34
theorem ct_144b {X : pm_X} {d : Nat} {h : pm_H} {x1 : Int32} (hd : 1 ≤ d) (ax1 : 0 ≤ x1.toInt) (bx1 : x1.toInt ≤ 17) : ty_M X ty_Wpb d 144 [.ref 97, .int x1] h (fun h1 v => v = none ∧ (hs_aI h1 99 5).toInt ≤ 999) := by
  intro J H hJ
  obtain ⟨d, rfl⟩ : ∃ e, d = e + 1 := ⟨d - 1, by omega⟩
  have I := H.1 h hJ
  refine hq_M.enter (q := (⟨"TrainBearersModel", "putBack", "(I)V"⟩, _, 3, none, 11, 2, pm_c144)) rfl rfl ?_
  show hq_W X d 11 false (none) pm_c144 (0, [some (.ref 97), some (.int x1), none], [], h) (fun h' v => J h' ∧ (fun h1 v => v = none ∧ (hs_aI h1 99 5).toInt ≤ 999) h' v)
  refine hq_p rfl rfl (ty_ge (n := 0) nk_i0 (fun z1 ez1 => ?_))
  refine hq_p (ls' := [some (.ref 97), some (.int x1), some (.int z1)]) rfl rfl ?_
  have L2_n44 : ∀ n44 : Nat, ∀ (y40 : Int32) (h41 : pm_H), (29 - y40.toInt).toNat = n44 → 0 ≤ y40.toInt → y40.toInt ≤ 29 → (1 ≤ y40.toInt → (hs_aI h41 99 5).toInt ≤ 999) → J h41 → hq_W X d 11 false (none) pm_c144 (2, [some (.ref 97), some (.int x1), some (.int y40)], [], h41) (fun h' v => J h' ∧ (fun h1 v => v = none ∧ (hs_aI h1 99 5).toInt ≤ 999) h' v) := by
    intro n44
    induction n44 using Nat.strongRecOn with
    | ind n44 ihn44 =>
      intro y40 h41 mn44 ay40 by40 x0n44 Jh41
      have Ih41 := H.1 h41 Jh41
      refine hq_p rfl rfl ?_
      refine hq_p rfl rfl (ty_ge (n := 29) nk_b29 (fun z45 ez45 => ?_))
      refine ty_ige rfl (fun c46 => ?_) (fun c46 => ?_)
      · exact hq_W.ret rfl rfl rfl ⟨Jh41, rfl, x0n44 (by omega)⟩
      · refine hq_p rfl rfl ?_
        refine hq_gR Ih41.1 rfl rfl (by decide) (by decide) rfl ?_
        refine hq_p rfl rfl (ty_ge (n := 5) nk_i5 (fun z47 ez47 => ?_))
        refine hq_p rfl rfl ?_
        refine hq_p rfl rfl (ty_ge (n := z47.toInt + y40.toInt) (nm_add (by omega) (by omega)) (fun z48 ez48 => ?_))
        refine hq_p rfl rfl ?_
        refine hq_gR Ih41.1 rfl rfl (by decide) (by decide) rfl ?_
        refine hq_p rfl rfl (ty_ge (n := 29) nk_b29 (fun z49 ez49 => ?_))
        refine hq_p rfl rfl ?_
        refine hq_p rfl rfl (ty_ge (n := 29 * x1.toInt) (nm_cmul ez49 (by omega) (by omega)) (fun z50 ez50 => ?_))
        refine hq_p rfl rfl ?_
        refine hq_p rfl rfl (ty_ge (n := z50.toInt + y40.toInt) (nm_add (by omega) (by omega)) (fun z51 ez51 => ?_))
        refine ty_aLx Ih41 rfl rfl (by decide) (by omega) (by omega) (fun z52 ez52 az52 bz52 => ?_)
        refine ty_aS (lo := (ty_a 102 z51.toInt.toNat).1) (hi := (ty_a 102 z51.toInt.toNat).2) (W := ty_Wpb) H Jh41 rfl rfl (by decide) (by omega) (by omega) (fun i e => by unfold ty_Wpb; omega) (fun i e => by rw [show ty_a 102 z51.toInt.toNat = ty_sb i from congrArg ty_sb (show i = 5 + z51.toInt.toNat % 29 by omega).symm]; exact ty_sr i) az52 bz52 (fun e1 e2 w => by have q := bz52; rw [show ty_a 102 z51.toInt.toNat = ty_sb (5 + z51.toInt.toNat % 29) from rfl, show 5 + z51.toInt.toNat % 29 = 5 by omega] at q; exact q) (fun h53 eh53 Jh53 => ?_)
        have Ih53 := H.1 h53 Jh53
        have k5h53 : z48.toInt.toNat = 5 → (hs_aI h53 99 5).toInt ≤ 999 := fun q => by have b := bz52; rw [show ty_a 102 z51.toInt.toNat = ty_sb (5 + z51.toInt.toNat % 29) from rfl, show 5 + z51.toInt.toNat % 29 = 5 by omega] at b; rw [eh53, ty_aI_eq q.symm]; exact b
        have n5h53 : z48.toInt.toNat ≠ 5 → (hs_aI h53 99 5).toInt = (hs_aI h41 99 5).toInt := fun q => by rw [eh53, ty_aI_sA (Ne.symm q)]
        refine ty_inc (ls' := fun z54 => [some (.ref 97), some (.int x1), some (.int z54)]) rfl rfl (fun _ => rfl) (nm_addc nk_i1 (by omega) (by omega)) (fun z54 ez54 => ?_)
        refine hq_p rfl rfl ?_
        exact ihn44 ((29 - z54.toInt).toNat) (by omega) z54 h53 rfl (by omega) (by omega) (fun _ => if q : z48.toInt.toNat = 5 then k5h53 q else (by rw [n5h53 q]; exact x0n44 (by omega))) Jh53
  exact L2_n44 _ z1 h rfl (by omega) (by omega) (fun q => by exfalso; omega) hJ
theorem ct_240 {X : pm_X} {d : Nat} {h : pm_H} {x1 : Int32} (hd : 8 ≤ d)  : ty_M X ty_Wz d 240 [.ref 97, .int x1] h (ty_pi (-1) 20) := by
  intro J H hJ
  obtain ⟨d, rfl⟩ : ∃ e, d = e + 1 := ⟨d - 1, by omega⟩
  have I := H.1 h hJ
  have ax1 := nm_lo x1
  have bx1 := nm_hi x1
  refine hq_M.enter (q := (⟨"TrainBearersModel", "resting", "(I)I"⟩, _, 3, some .int, 11, 2, pm_c240)) rfl rfl ?_
  show hq_W X d 11 false (some .int) pm_c240 (0, [some (.ref 97), some (.int x1), none], [], h) (fun h' v => J h' ∧ (ty_pi (-1) 20) h' v)
  refine hq_p rfl rfl ?_
  refine hq_p rfl rfl (ty_ge (n := 0) nk_i0 (fun z1 ez1 => ?_))
  refine ty_pI (W := ty_Wz) H hJ rfl rfl (by decide) rfl rfl (by unfold ty_Wz; omega) rfl (by omega) (by omega) (fun h2 eh2 Jh2 => ?_)
  have wh2 : (hs_fI h2 97 0).toInt = z1.toInt := by rw [eh2]; exact congrArg Int32.toInt (ty_fI_eq I.1 rfl (by decide) rfl)
  have Ih2 := H.1 h2 Jh2
  refine hq_p rfl rfl ?_
  refine ty_callp 1 Ih2 rfl (fun _ => rfl) rfl rfl rfl rfl (ct_151 (x0 := x1) (by omega)) (fun _ P3 => ?_)
  obtain ⟨z4, rfl, az4, bz4, iz4⟩ := P3
  refine ty_zeq rfl (fun c5 => ?_) (fun c5 => ?_)
  · clear iz4
    refine hq_p rfl rfl (ty_ge (n := -1) nk_im1 (fun z6 ez6 => ?_))
    exact hq_W.ret rfl rfl rfl ⟨Jh2, _, rfl, by omega, by omega⟩
  · replace c5 : 1 ≤ z4.toInt ∧ z4.toInt ≤ 1 := by omega
    have f7 := iz4 (by omega)
    clear iz4
    refine hq_p rfl rfl ?_
    refine hq_p rfl rfl ?_
    refine ty_callp 0 Ih2 rfl (fun _ => rfl) rfl rfl rfl (hq_pre_o Ih2.1 (x := 97) (ci := 11) rfl (by decide) rfl rfl rfl rfl) (ct_215 (x1 := x1) (by omega) (by omega) (by omega)) (fun _ P8 => ?_)
    obtain ⟨z9, rfl, az9, bz9⟩ := P8
    refine ty_zne rfl (fun c10 => ?_) (fun c10 => ?_)
    · replace c10 : 1 ≤ z9.toInt ∧ z9.toInt ≤ 1 := by omega
      refine hq_p rfl rfl ?_
      refine hq_p rfl rfl (ty_ge (n := 16) nk_b16 (fun z11 ez11 => ?_))
      refine ty_callj 0 (W := ty_Wz) H Jh2 rfl (fun _ => rfl) rfl rfl rfl (hq_pre_o Ih2.1 (x := 97) (ci := 11) rfl (by decide) rfl rfl rfl rfl) (fun a k w => by unfold ty_Wq at w; unfold ty_Wz; omega) (by unfold ty_Wq ty_Wz; omega) (ct_143 (x1 := z11) (by omega) (by omega) (by omega)) (fun h13 _ Jh13 P12 => ?_)
      have Ih13 := H.1 h13 Jh13
      subst P12
      have h9 := H.2.2.2.2.2.1 (by unfold ty_Wz; omega) h13 Jh13
      obtain ⟨J1, eJ⟩ : ∃ J1 : pm_H → Prop, J1 = rs_J J := ⟨_, rfl⟩
      have H0 := H
      have H1 : ty_C ty_Wd J1 := by rw [eJ]; exact rs_C H
      have hJ1 : J1 h13 := by rw [eJ]; exact rs_in H Jh13
      have H := H1
      obtain ⟨q5, eq5⟩ : ∃ q : Int32, q.toInt = (hs_aI h13 99 5).toInt := ⟨_, rfl⟩
      have q50 : 0 ≤ q5.toInt := by have q := (Ih13.2.2.2.1 99 5 (by decide) (by decide)).1; rw [eq5]; exact q
      refine hq_p rfl rfl (ty_ge (n := 0) nk_i0 (fun z14 ez14 => ?_))
      refine hq_p (ls' := [some (.ref 97), some (.int x1), some (.int z14)]) rfl rfl ?_
      have L30_n21 : ∀ n21 : Nat, ∀ (y17 : Int32) (h18 : pm_H), (21 - y17.toInt).toNat = n21 → 0 ≤ y17.toInt → y17.toInt ≤ 21 → (hs_aI h18 99 5).toInt ≤ 999 + y17.toInt → J1 h18 → hq_W X d 11 false (some .int) pm_c240 (30, [some (.ref 97), some (.int x1), some (.int y17)], [], h18) (fun h' v => J h' ∧ (ty_pi (-1) 20) h' v) := by
        intro n21
        induction n21 using Nat.strongRecOn with
        | ind n21 ihn21 =>
          intro y17 h18 mn21 ay17 by17 x0n21 Jh18
          have Ih18 := H.1 h18 Jh18
          refine hq_p rfl rfl ?_
          refine hq_p rfl rfl (ty_ge (n := 21) nk_b21 (fun z22 ez22 => ?_))
          refine ty_ige rfl (fun c23 => ?_) (fun c23 => ?_)
          · refine hq_p rfl rfl ?_
            refine hq_p rfl rfl (ty_ge (n := 16) nk_b16 (fun z24 ez24 => ?_))
            refine ty_callj 0 (W := ty_Wd) H Jh18 rfl (fun _ => rfl) rfl rfl rfl (hq_pre_o Ih18.1 (x := 97) (ci := 11) rfl (by decide) rfl rfl rfl rfl) (fun a k w => by unfold ty_Wpb at w; unfold ty_Wd; omega) (by unfold ty_Wpb ty_Wd; omega) (ct_144b (x1 := z24) (by omega) (by omega) (by omega)) (fun h26 _ Jh26 P25 => ?_)
            have Ih26 := H.1 h26 Jh26
            obtain ⟨rq, bk5⟩ := P25
            subst rq
            refine hq_p rfl rfl ?_
            refine hq_p rfl rfl (ty_ge (n := 20) nk_b20 (fun z27 ez27 => ?_))
            refine ty_ile rfl (fun c28 => ?_) (fun c28 => ?_)
            · exfalso; omega
            · refine hq_p rfl rfl (ty_ge (n := -1) nk_im1 (fun z29 ez29 => ?_))
              refine hq_p rfl rfl ?_
              exact hq_W.ret rfl rfl rfl ⟨(rs_back H0 (by have q := Jh26; rw [eJ] at q; exact q) bk5), _, rfl, by omega, by omega⟩
          · obtain ⟨q30, eq30⟩ : ∃ q : Int32, q.toInt = (hs_aI h18 99 5).toInt := ⟨_, rfl⟩
            have bq30 : 0 ≤ q30.toInt := by have q := (Ih18.2.2.2.1 99 5 (by decide) (by decide)).1; rw [eq30]; exact q
            refine hq_p rfl rfl ?_
            refine ty_callm 0 [(1, 99, 5)] (W := ty_Wd) H Jh18 rfl (fun _ => rfl) rfl rfl rfl (hq_pre_o Ih18.1 (x := 97) (ci := 11) rfl (by decide) rfl rfl rfl rfl) (fun a k w => by unfold ty_Wy at w; unfold ty_Wd; omega) (by unfold ty_Wy ty_Wd; omega) (ct_208 (by omega)) ⟨⟨rfl, show ¬ ty_Wy 99 5 by unfold ty_Wy; omega⟩, trivial⟩ (fun h32 _ Jh32 gh32 P31 => ?_)
            obtain ⟨gh32_0, _⟩ := gh32
            have gh32_0 : (hs_aI h32 99 5).toInt = (hs_aI h18 99 5).toInt := gh32_0
            have Ih32 := H.1 h32 Jh32
            obtain ⟨z33, rfl, az33, bz33⟩ := P31
            refine ty_zle rfl (fun c34 => ?_) (fun c34 => ?_)
            · refine hq_p rfl rfl ?_
              refine hq_p rfl rfl (ty_ge (n := 16) nk_b16 (fun z35 ez35 => ?_))
              refine ty_callj 0 (W := ty_Wd) H Jh32 rfl (fun _ => rfl) rfl rfl rfl (hq_pre_o Ih32.1 (x := 97) (ci := 11) rfl (by decide) rfl rfl rfl rfl) (fun a k w => by unfold ty_Wpb at w; unfold ty_Wd; omega) (by unfold ty_Wpb ty_Wd; omega) (ct_144b (x1 := z35) (by omega) (by omega) (by omega)) (fun h37 _ Jh37 P36 => ?_)
              have Ih37 := H.1 h37 Jh37
              obtain ⟨rq, bk5⟩ := P36
              subst rq
              refine hq_p rfl rfl ?_
              refine hq_p rfl rfl (ty_ge (n := 20) nk_b20 (fun z38 ez38 => ?_))
              refine ty_ile rfl (fun c39 => ?_) (fun c39 => ?_)
              · refine hq_p rfl rfl ?_
                exact hq_W.ret rfl rfl rfl ⟨(rs_back H0 (by have q := Jh37; rw [eJ] at q; exact q) bk5), _, rfl, by omega, by omega⟩
              · exfalso; omega
            · refine hq_p rfl rfl ?_
              refine ty_callj 0 (W := ty_Wd) H Jh32 rfl (fun _ => rfl) rfl rfl rfl (hq_pre_o Ih32.1 (x := 97) (ci := 11) rfl (by decide) rfl rfl rfl rfl) (fun a k w => by unfold ty_Wh at w; unfold ty_Wd; omega) (by unfold ty_Wh ty_Wd; omega) (ct_219b (by omega) (by omega) (by omega)) (fun h41 _ Jh41 P40 => ?_)
              have Ih41 := H.1 h41 Jh41
              obtain ⟨rq42, pq42⟩ := P40
              subst rq42
              refine ty_inc (ls' := fun z43 => [some (.ref 97), some (.int x1), some (.int z43)]) rfl rfl (fun _ => rfl) (nm_addc nk_i1 (by omega) (by omega)) (fun z43 ez43 => ?_)
              refine hq_p rfl rfl ?_
              exact ihn21 ((21 - z43.toInt).toNat) (by omega) z43 h41 rfl (by omega) (by omega) (by omega) Jh41
      exact L30_n21 _ z14 h13 rfl (by omega) (by omega) (by omega) hJ1
    · refine hq_p rfl rfl (ty_ge (n := -1) nk_im1 (fun z44 ez44 => ?_))
      exact hq_W.ret rfl rfl rfl ⟨Jh2, _, rfl, by omega, by omega⟩
theorem ct_219c {X : pm_X} {d : Nat} {h : pm_H}  (hd : 1 ≤ d) (gq50 : 0 ≤ (hs_aI h 99 5).toInt) (gq51 : (hs_aI h 99 5).toInt ≤ 998) : ty_M X ty_Whz d 219 [.ref 97] h ty_pv := by
  intro J H hJ
  obtain ⟨d, rfl⟩ : ∃ e, d = e + 1 := ⟨d - 1, by omega⟩
  have I := H.1 h hJ
  obtain ⟨q5, eq5⟩ : ∃ q : Int32, q.toInt = (hs_aI h 99 5).toInt := ⟨_, rfl⟩
  refine hq_M.enter (q := (⟨"TrainBearersModel", "restIt", "()V"⟩, _, 2, none, 11, 1, pm_c219)) rfl rfl ?_
  show hq_W X d 11 false (none) pm_c219 (0, [some (.ref 97), none], [], h) (fun h' v => J h' ∧ ty_pv h' v)
  refine hq_p rfl rfl (ty_ge (n := 0) nk_i0 (fun z1 ez1 => ?_))
  refine hq_p (ls' := [some (.ref 97), some (.int z1)]) rfl rfl ?_
  have L2_n24 : ∀ n24 : Nat, ∀ (y20 : Int32) (h21 : pm_H), (8 - y20.toInt).toNat = n24 → 0 ≤ y20.toInt → y20.toInt ≤ 8 → (hs_aI h21 99 5).toInt = (hs_aI h 99 5).toInt → J h21 → hq_W X d 11 false (none) pm_c219 (2, [some (.ref 97), some (.int y20)], [], h21) (fun h' v => J h' ∧ ty_pv h' v) := by
    intro n24
    induction n24 using Nat.strongRecOn with
    | ind n24 ihn24 =>
      intro y20 h21 mn24 ay20 by20 x0n24 Jh21
      have Ih21 := H.1 h21 Jh21
      refine hq_p rfl rfl ?_
      refine hq_p rfl rfl ?_
      refine hq_gR Ih21.1 rfl rfl (by decide) (by decide) rfl ?_
      refine hq_p rfl rfl (ty_ge (n := 1) nk_i1 (fun z25 ez25 => ?_))
      refine ty_aL Ih21 rfl rfl (by decide) (by omega) (by omega) (fun i e => ty_le (ty_w0 (by omega) (by omega))) (fun z26 ez26 az26 bz26 => ?_)
      rw [show z25.toInt.toNat = 1 by omega] at ez26
      refine ty_ige rfl (fun c27 => ?_) (fun c27 => ?_)
      · refine hq_p rfl rfl ?_
        refine hq_gR Ih21.1 rfl rfl (by decide) (by decide) rfl ?_
        refine hq_p rfl rfl (ty_ge (n := 5) nk_i5 (fun z28 ez28 => ?_))
        refine hq_p rfl rfl ?_
        refine ty_aL Ih21 rfl rfl (by decide) (by omega) (by omega) (fun i e => ty_le (ty_w5 (by omega) (by omega))) (fun z29 ez29 az29 bz29 => ?_)
        rw [show z28.toInt.toNat = 5 by omega] at ez29
        refine hq_p rfl rfl (ty_ge (n := 1) nk_i1 (fun z30 ez30 => ?_))
        refine hq_p rfl rfl (ty_ge (n := z29.toInt + z30.toInt) (nm_add (by omega) (by omega)) (fun z31 ez31 => ?_))
        refine ty_aS (W := ty_Whz) H Jh21 rfl rfl (by decide) (by omega) (by omega) (fun i e => by unfold ty_Whz; omega) (fun i e => ty_eg (ty_w5 (by omega) (by omega))) (by omega) (by omega) (fun e1 e2 w => by omega) (fun h32 eh32 Jh32 => ?_)
        have Ih32 := H.1 h32 Jh32
        exact hq_W.ret rfl rfl rfl ⟨Jh32, rfl⟩
      · refine hq_p rfl rfl ?_
        refine hq_gR Ih21.1 rfl rfl (by decide) (by decide) rfl ?_
        refine hq_p rfl rfl (ty_ge (n := 18) nk_b18 (fun z33 ez33 => ?_))
        refine hq_p rfl rfl ?_
        refine hq_p rfl rfl (ty_ge (n := z33.toInt + y20.toInt) (nm_add (by omega) (by omega)) (fun z34 ez34 => ?_))
        refine hq_p rfl rfl ?_
        refine ty_aL Ih21 rfl rfl (by decide) (by omega) (by omega) (fun i e => ty_le (ty_w18 (by omega) (by omega))) (fun z35 ez35 az35 bz35 => ?_)
        refine hq_p rfl rfl ?_
        refine hq_gR Ih21.1 rfl rfl (by decide) (by decide) rfl ?_
        refine hq_p rfl rfl (ty_ge (n := 18) nk_b18 (fun z36 ez36 => ?_))
        refine hq_p rfl rfl ?_
        refine hq_p rfl rfl (ty_ge (n := z36.toInt + y20.toInt) (nm_add (by omega) (by omega)) (fun z37 ez37 => ?_))
        refine ty_aL Ih21 rfl rfl (by decide) (by omega) (by omega) (fun i e => ty_le (ty_w18 (by omega) (by omega))) (fun z38 ez38 az38 bz38 => ?_)
        refine ty_zle rfl (fun c39 => ?_) (fun c39 => ?_)
        · refine hq_p rfl rfl (ty_ge (n := 0) nk_i0 (fun z40 ez40 => ?_))
          refine hq_p rfl rfl (ty_ge (n := z35.toInt - z40.toInt) (nm_sub (by omega) (by omega)) (fun z41 ez41 => ?_))
          refine ty_aS (W := ty_Whz) H Jh21 rfl rfl (by decide) (by omega) (by omega) (fun i e => by unfold ty_Whz; omega) (fun i e => ty_eg (ty_w18 (by omega) (by omega))) (by omega) (by omega) (fun e1 e2 w => by omega) (fun h42 eh42 Jh42 => ?_)
          have Ih42 := H.1 h42 Jh42
          refine ty_inc (ls' := fun z43 => [some (.ref 97), some (.int z43)]) rfl rfl (fun _ => rfl) (nm_addc nk_i1 (by omega) (by omega)) (fun z43 ez43 => ?_)
          refine hq_p rfl rfl ?_
          have r44 : (hs_aI h42 99 5).toInt = (hs_aI h21 99 5).toInt := by rw [eh42]; exact congrArg Int32.toInt (ty_aI_sA (by omega))
          exact ihn24 ((8 - z43.toInt).toNat) (by omega) z43 h42 rfl (by omega) (by omega) (by omega) Jh42
        · refine hq_p rfl rfl (ty_ge (n := 1) nk_i1 (fun z45 ez45 => ?_))
          refine hq_p rfl rfl ?_
          refine hq_p rfl rfl (ty_ga (fun z46 az46 bz46 => ?_))
          refine ty_aS (W := ty_Whz) H Jh21 rfl rfl (by decide) (by omega) (by omega) (fun i e => by unfold ty_Whz; omega) (fun i e => ty_eg (ty_w18 (by omega) (by omega))) (by omega) (by omega) (fun e1 e2 w => by omega) (fun h47 eh47 Jh47 => ?_)
          have Ih47 := H.1 h47 Jh47
          refine ty_inc (ls' := fun z48 => [some (.ref 97), some (.int z48)]) rfl rfl (fun _ => rfl) (nm_addc nk_i1 (by omega) (by omega)) (fun z48 ez48 => ?_)
          refine hq_p rfl rfl ?_
          have r49 : (hs_aI h47 99 5).toInt = (hs_aI h21 99 5).toInt := by rw [eh47]; exact congrArg Int32.toInt (ty_aI_sA (by omega))
          exact ihn24 ((8 - z48.toInt).toNat) (by omega) z48 h47 rfl (by omega) (by omega) (by omega) Jh47
  exact L2_n24 _ z1 h rfl (by omega) (by omega) (by omega) hJ
theorem ct_252b {X : pm_X} {d : Nat} {h : pm_H} {x1 : Int32} (hd : 1 ≤ d) (ax1 : 1 ≤ x1.toInt) (bx1 : x1.toInt ≤ 8) : ty_M X ty_Wdr d 252 [.ref 97, .int x1] h (fun _ v => ∃ z : Int32, v = some (.int z) ∧ (0 ≤ z.toInt ∧ z.toInt < x1.toInt)) := by
  intro J H hJ
  obtain ⟨d, rfl⟩ : ∃ e, d = e + 1 := ⟨d - 1, by omega⟩
  have I := H.1 h hJ
  refine hq_M.enter (q := (⟨"TrainBearersModel", "draw", "(I)I"⟩, _, 2, some .int, 11, 2, pm_c252)) rfl rfl ?_
  show hq_W X d 11 false (some .int) pm_c252 (0, [some (.ref 97), some (.int x1)], [], h) (fun h' v => J h' ∧ (fun _ v => ∃ z : Int32, v = some (.int z) ∧ (0 ≤ z.toInt ∧ z.toInt < x1.toInt)) h' v)
  refine hq_p rfl rfl ?_
  refine hq_p rfl rfl ?_
  refine ty_gL I rfl rfl (by decide) (by decide) rfl rfl (fun z1 ez1 az1 bz1 => ?_)
  refine hq_p rfl rfl (ty_gle (n := 1103) (by decide) (fun z2 ez2 => ?_))
  refine hq_p rfl rfl (ty_gle (n := 1103 * z1.toInt) (nm_lmul (by rw [ez2, Int.mul_comm]) (by omega) (by omega)) (fun z3 ez3 => ?_))
  refine hq_p rfl rfl (ty_gle (n := 12345) (by decide) (fun z4 ez4 => ?_))
  refine hq_p rfl rfl (ty_gle (n := z3.toInt + z4.toInt) (nm_ladd (by omega) (by omega)) (fun z5 ez5 => ?_))
  refine hq_p rfl rfl (ty_gle (n := 1000003) (by decide) (fun z6 ez6 => ?_))
  refine hq_lrem rfl (nm_lnz (by omega)) (ty_glb (lo := 0) (hi := z6.toInt - 1) (nm_lremb (by omega) (by omega)) (fun z7 az7 bz7 => ?_))
  refine ty_pL (W := ty_Wdr) H hJ rfl rfl (by decide) rfl rfl (by unfold ty_Wdr; omega) rfl (by omega) (by omega) (fun h8 eh8 Jh8 => ?_)
  have Ih8 := H.1 h8 Jh8
  refine hq_p rfl rfl ?_
  refine ty_gL Ih8 rfl rfl (by decide) (by decide) rfl rfl (fun z9 ez9 az9 bz9 => ?_)
  refine hq_p rfl rfl ?_
  refine hq_p rfl rfl (ty_gle (n := x1.toInt) (nm_i2l _) (fun z10 ez10 => ?_))
  refine hq_lrem rfl (nm_lnz (by omega)) (ty_glb (lo := 0) (hi := z10.toInt - 1) (nm_lremb (by omega) (by omega)) (fun z11 az11 bz11 => ?_))
  refine hq_p rfl rfl (ty_ge (n := z11.toInt) (nm_l2i (by omega) (by omega)) (fun z12 ez12 => ?_))
  exact hq_W.ret rfl rfl rfl ⟨Jh8, _, rfl, by omega⟩
theorem ct_144c {X : pm_X} {d : Nat} {h : pm_H} {x1 : Int32} (hd : 1 ≤ d) (ax1 : 0 ≤ x1.toInt) (bx1 : x1.toInt ≤ 17) : ty_M X ty_Wp d 144 [.ref 97, .int x1] h ty_pv := by
  intro J H hJ
  obtain ⟨d, rfl⟩ : ∃ e, d = e + 1 := ⟨d - 1, by omega⟩
  have I := H.1 h hJ
  refine hq_M.enter (q := (⟨"TrainBearersModel", "putBack", "(I)V"⟩, _, 3, none, 11, 2, pm_c144)) rfl rfl ?_
  show hq_W X d 11 false (none) pm_c144 (0, [some (.ref 97), some (.int x1), none], [], h) (fun h' v => J h' ∧ ty_pv h' v)
  refine hq_p rfl rfl (ty_ge (n := 0) nk_i0 (fun z1 ez1 => ?_))
  refine hq_p (ls' := [some (.ref 97), some (.int x1), some (.int z1)]) rfl rfl ?_
  have L2_n44 : ∀ n44 : Nat, ∀ (y40 : Int32) (h41 : pm_H), (29 - y40.toInt).toNat = n44 → 0 ≤ y40.toInt → y40.toInt ≤ 29 → J h41 → hq_W X d 11 false (none) pm_c144 (2, [some (.ref 97), some (.int x1), some (.int y40)], [], h41) (fun h' v => J h' ∧ ty_pv h' v) := by
    intro n44
    induction n44 using Nat.strongRecOn with
    | ind n44 ihn44 =>
      intro y40 h41 mn44 ay40 by40 Jh41
      have Ih41 := H.1 h41 Jh41
      refine hq_p rfl rfl ?_
      refine hq_p rfl rfl (ty_ge (n := 29) nk_b29 (fun z45 ez45 => ?_))
      refine ty_ige rfl (fun c46 => ?_) (fun c46 => ?_)
      · exact hq_W.ret rfl rfl rfl ⟨Jh41, rfl⟩
      · refine hq_p rfl rfl ?_
        refine hq_gR Ih41.1 rfl rfl (by decide) (by decide) rfl ?_
        refine hq_p rfl rfl (ty_ge (n := 5) nk_i5 (fun z47 ez47 => ?_))
        refine hq_p rfl rfl ?_
        refine hq_p rfl rfl (ty_ge (n := z47.toInt + y40.toInt) (nm_add (by omega) (by omega)) (fun z48 ez48 => ?_))
        refine hq_p rfl rfl ?_
        refine hq_gR Ih41.1 rfl rfl (by decide) (by decide) rfl ?_
        refine hq_p rfl rfl (ty_ge (n := 29) nk_b29 (fun z49 ez49 => ?_))
        refine hq_p rfl rfl ?_
        refine hq_p rfl rfl (ty_ge (n := 29 * x1.toInt) (nm_cmul ez49 (by omega) (by omega)) (fun z50 ez50 => ?_))
        refine hq_p rfl rfl ?_
        refine hq_p rfl rfl (ty_ge (n := z50.toInt + y40.toInt) (nm_add (by omega) (by omega)) (fun z51 ez51 => ?_))
        refine ty_aLx Ih41 rfl rfl (by decide) (by omega) (by omega) (fun z52 ez52 az52 bz52 => ?_)
        refine ty_aS (lo := (ty_a 102 z51.toInt.toNat).1) (hi := (ty_a 102 z51.toInt.toNat).2) (W := ty_Wp) H Jh41 rfl rfl (by decide) (by omega) (by omega) (fun i e => by unfold ty_Wp; omega) (fun i e => by rw [show ty_a 102 z51.toInt.toNat = ty_sb i from congrArg ty_sb (show i = 5 + z51.toInt.toNat % 29 by omega).symm]; exact ty_sr i) az52 bz52 (fun e1 e2 w => by have q := bz52; rw [show ty_a 102 z51.toInt.toNat = ty_sb (5 + z51.toInt.toNat % 29) from rfl, show 5 + z51.toInt.toNat % 29 = 5 by omega] at q; exact q) (fun h53 eh53 Jh53 => ?_)
        have Ih53 := H.1 h53 Jh53
        refine ty_inc (ls' := fun z54 => [some (.ref 97), some (.int x1), some (.int z54)]) rfl rfl (fun _ => rfl) (nm_addc nk_i1 (by omega) (by omega)) (fun z54 ez54 => ?_)
        refine hq_p rfl rfl ?_
        exact ihn44 ((29 - z54.toInt).toNat) (by omega) z54 h53 rfl (by omega) (by omega) Jh53
  exact L2_n44 _ z1 h rfl (by omega) (by omega) hJ
set_option maxRecDepth 8000 in
set_option maxHeartbeats 20000000 in
theorem ct_253 {X : pm_X} {d : Nat} {h : pm_H} {x1 : Int32} {x2 : Int32} (hd : 9 ≤ d)  : ty_M X ty_Wz d 253 [.ref 97, .int x1, .int x2] h (ty_pi (-3) 9999) := by
  intro J H hJ
  obtain ⟨d, rfl⟩ : ∃ e, d = e + 1 := ⟨d - 1, by omega⟩
  have I := H.1 h hJ
  have ax1 := nm_lo x1
  have bx1 := nm_hi x1
  have ax2 := nm_lo x2
  have bx2 := nm_hi x2
  refine hq_M.enter (q := (⟨"TrainBearersModel", "generations", "(II)I"⟩, _, 9, some .int, 11, 3, pm_c253)) rfl rfl ?_
  show hq_W X d 11 false (some .int) pm_c253 (0, [some (.ref 97), some (.int x1), some (.int x2), none, none, none, none, none, none], [], h) (fun h' v => J h' ∧ (ty_pi (-3) 9999) h' v)
  refine hq_p rfl rfl ?_
  refine hq_p rfl rfl (ty_ge (n := 0) nk_i0 (fun z1 ez1 => ?_))
  refine ty_pI (W := ty_Wz) H hJ rfl rfl (by decide) rfl rfl (by unfold ty_Wz; omega) rfl (by omega) (by omega) (fun h2 eh2 Jh2 => ?_)
  have wh2 : (hs_fI h2 97 0).toInt = z1.toInt := by rw [eh2]; exact congrArg Int32.toInt (ty_fI_eq I.1 rfl (by decide) rfl)
  have Ih2 := H.1 h2 Jh2
  refine hq_p rfl rfl ?_
  refine hq_p rfl rfl (ty_gle (n := x1.toInt) (nm_i2l _) (fun z3 ez3 => ?_))
  refine hq_p rfl rfl (ty_gle (n := 0) (by decide) (fun z4 ez4 => ?_))
  refine hq_p rfl rfl (ty_gle (n := 1000000) (by decide) (fun z5 ez5 => ?_))
  refine ty_callp 1 Ih2 rfl (fun _ => rfl) rfl rfl rfl rfl (ct_136 (x0 := z3) (x1 := z4) (x2 := z5) (by omega)) (fun _ P6 => ?_)
  obtain ⟨z7, rfl, az7, bz7, iz7⟩ := P6
  refine ty_zeq rfl (fun c8 => ?_) (fun c8 => ?_)
  · clear iz7
    refine hq_p rfl rfl ?_
    refine hq_p rfl rfl (ty_ge (n := -1) nk_im1 (fun z9 ez9 => ?_))
    refine ty_callj 0 (W := ty_Wz) H Jh2 rfl (fun _ => rfl) rfl rfl rfl (hq_pre_o Ih2.1 (x := 97) (ci := 11) rfl (by decide) rfl rfl rfl rfl) (fun a k w => by unfold ty_Wt at w; unfold ty_Wz; omega) (by unfold ty_Wt ty_Wz; omega) (ct_140 (x1 := z9) (by omega) (by omega) (by omega)) (fun h11 _ Jh11 P10 => ?_)
    have Ih11 := H.1 h11 Jh11
    obtain ⟨z12, rfl, fz12⟩ := P10
    exact hq_W.ret rfl rfl rfl ⟨Jh11, _, rfl, by omega, by omega⟩
  · replace c8 : 1 ≤ z7.toInt ∧ z7.toInt ≤ 1 := by omega
    have f13 := iz7 (by omega)
    clear iz7
    refine hq_p rfl rfl ?_
    refine hq_p rfl rfl (ty_gle (n := x2.toInt) (nm_i2l _) (fun z14 ez14 => ?_))
    refine hq_p rfl rfl (ty_gle (n := 1) (by decide) (fun z15 ez15 => ?_))
    refine hq_p rfl rfl (ty_gle (n := 60) (by decide) (fun z16 ez16 => ?_))
    refine ty_callp 1 Ih2 rfl (fun _ => rfl) rfl rfl rfl rfl (ct_136 (x0 := z14) (x1 := z15) (x2 := z16) (by omega)) (fun _ P17 => ?_)
    obtain ⟨z18, rfl, az18, bz18, iz18⟩ := P17
    refine ty_zne rfl (fun c19 => ?_) (fun c19 => ?_)
    · replace c19 : 1 ≤ z18.toInt ∧ z18.toInt ≤ 1 := by omega
      have f20 := iz18 (by omega)
      clear iz18
      refine hq_p rfl rfl ?_
      refine hq_gR Ih2.1 rfl rfl (by decide) (by decide) rfl ?_
      refine hq_p rfl rfl (ty_ge (n := 1) nk_i1 (fun z21 ez21 => ?_))
      refine ty_aL Ih2 rfl rfl (by decide) (by omega) (by omega) (fun i e => ty_le (ty_w0 (by omega) (by omega))) (fun z22 ez22 az22 bz22 => ?_)
      rw [show z21.toInt.toNat = 1 by omega] at ez22
      refine ty_zeq rfl (fun c23 => ?_) (fun c23 => ?_)
      · refine hq_p rfl rfl ?_
        refine hq_p rfl rfl (ty_ge (n := -3) nk_bm3 (fun z24 ez24 => ?_))
        refine ty_callj 0 (W := ty_Wz) H Jh2 rfl (fun _ => rfl) rfl rfl rfl (hq_pre_o Ih2.1 (x := 97) (ci := 11) rfl (by decide) rfl rfl rfl rfl) (fun a k w => by unfold ty_Wt at w; unfold ty_Wz; omega) (by unfold ty_Wt ty_Wz; omega) (ct_140 (x1 := z24) (by omega) (by omega) (by omega)) (fun h26 _ Jh26 P25 => ?_)
        have Ih26 := H.1 h26 Jh26
        obtain ⟨z27, rfl, fz27⟩ := P25
        exact hq_W.ret rfl rfl rfl ⟨Jh26, _, rfl, by omega, by omega⟩
      · replace c23 : 1 ≤ z22.toInt ∧ z22.toInt ≤ 8 := by omega
        refine hq_p rfl rfl ?_
        refine hq_gR Ih2.1 rfl rfl (by decide) (by decide) rfl ?_
        refine hq_p rfl rfl (ty_ge (n := 0) nk_i0 (fun z28 ez28 => ?_))
        refine ty_aL Ih2 rfl rfl (by decide) (by omega) (by omega) (fun i e => ty_le (ty_w0 (by omega) (by omega))) (fun z29 ez29 az29 bz29 => ?_)
        rw [show z28.toInt.toNat = 0 by omega] at ez29
        refine ty_zne rfl (fun c30 => ?_) (fun c30 => ?_)
        · replace c30 : 1 ≤ z29.toInt ∧ z29.toInt ≤ 8 := by omega
          refine hq_p rfl rfl ?_
          refine hq_p rfl rfl (ty_ge (n := 16) nk_b16 (fun z31 ez31 => ?_))
          have r34 : (hs_aI h2 99 0).toInt = (hs_aI h 99 0).toInt := by rw [eh2]; exact congrArg Int32.toInt (ty_aI_ne (by omega))
          have r35 : (hs_aI h2 99 1).toInt = (hs_aI h 99 1).toInt := by rw [eh2]; exact congrArg Int32.toInt (ty_aI_ne (by omega))
          refine ty_callm 0 [(1, 99, 0), (1, 99, 1)] (W := ty_Wz) H Jh2 rfl (fun _ => rfl) rfl rfl rfl (hq_pre_o Ih2.1 (x := 97) (ci := 11) rfl (by decide) rfl rfl rfl rfl) (fun a k w => by unfold ty_Wq at w; unfold ty_Wz; omega) (by unfold ty_Wq ty_Wz; omega) (ct_143 (x1 := z31) (by omega) (by omega) (by omega)) ⟨⟨rfl, show ¬ ty_Wq 99 0 by unfold ty_Wq; omega⟩, ⟨rfl, show ¬ ty_Wq 99 1 by unfold ty_Wq; omega⟩, trivial⟩ (fun h33 _ Jh33 gh33 P32 => ?_)
          obtain ⟨gh33_0, gh33_1, _⟩ := gh33
          have gh33_0 : (hs_aI h33 99 0).toInt = (hs_aI h2 99 0).toInt := gh33_0
          have gh33_1 : (hs_aI h33 99 1).toInt = (hs_aI h2 99 1).toInt := gh33_1
          have Ih33 := H.1 h33 Jh33
          subst P32
          refine hq_p rfl rfl ?_
          refine hq_p rfl rfl ?_
          refine hq_p rfl rfl (ty_gle (n := x1.toInt) (nm_i2l _) (fun z36 ez36 => ?_))
          refine ty_pL (W := ty_Wz) H Jh33 rfl rfl (by decide) rfl rfl (by unfold ty_Wz; omega) rfl (by omega) (by omega) (fun h37 eh37 Jh37 => ?_)
          have Ih37 := H.1 h37 Jh37
          refine hq_p rfl rfl ?_
          refine hq_gR Ih37.1 rfl rfl (by decide) (by decide) rfl ?_
          refine hq_p rfl rfl (ty_ge (n := 9) nk_b9 (fun z38 ez38 => ?_))
          refine ty_aL Ih37 rfl rfl (by decide) (by omega) (by omega) (fun i e => ty_le (ty_w9 (by omega) (by omega))) (fun z39 ez39 az39 bz39 => ?_)
          rw [show z38.toInt.toNat = 9 by omega] at ez39
          refine hq_p (ls' := [some (.ref 97), some (.int x1), some (.int x2), some (.int z39), none, none, none, none, none]) rfl rfl ?_
          refine hq_p rfl rfl (ty_ge (n := 0) nk_i0 (fun z40 ez40 => ?_))
          refine hq_p (ls' := [some (.ref 97), some (.int x1), some (.int x2), some (.int z39), some (.int z40), none, none, none, none]) rfl rfl ?_
          have r41 : (hs_aI h37 99 0).toInt = (hs_aI h33 99 0).toInt := by rw [eh37]; exact congrArg Int32.toInt (ty_aI_ne (by omega))
          have r42 : (hs_aI h37 99 1).toInt = (hs_aI h33 99 1).toInt := by rw [eh37]; exact congrArg Int32.toInt (ty_aI_ne (by omega))
          have L83_n61 : ∀ n61 : Nat, ∀ (y49 : Int32) (w50 : Option Value) (w51 : Option Value) (w52 : Option Value) (w53 : Option Value) (h54 : pm_H), (60 - y49.toInt).toNat = n61 → 0 ≤ y49.toInt → y49.toInt ≤ 60 → pm_two w50 = false → pm_two w51 = false → pm_two w52 = false → pm_two w53 = false → z39.toInt ≤ (hs_aI h54 99 9).toInt → (hs_aI h54 99 0).toInt = (hs_aI h37 99 0).toInt → (hs_aI h54 99 1).toInt = (hs_aI h37 99 1).toInt → J h54 → hq_W X d 11 false (some .int) pm_c253 (83, [some (.ref 97), some (.int x1), some (.int x2), some (.int z39), some (.int y49), w50, w51, w52, w53], [], h54) (fun h' v => J h' ∧ (ty_pi (-3) 9999) h' v) := by
            intro n61
            induction n61 using Nat.strongRecOn with
            | ind n61 ihn61 =>
              intro y49 w50 w51 w52 w53 h54 mn61 ay49 by49 kw50 kw51 kw52 kw53 x0n61 x1n61 x2n61 Jh54
              have Ih54 := H.1 h54 Jh54
              refine hq_p rfl rfl ?_
              refine hq_p rfl rfl ?_
              refine ty_ige rfl (fun c62 => ?_) (fun c62 => ?_)
              · obtain ⟨q63, eq63⟩ : ∃ q : Int32, q.toInt = (hs_aI h54 99 9).toInt := ⟨_, rfl⟩
                have kq63 := Ih54.2.2.2.1 99 9 (by decide) (by decide)
                have k0q63 : 0 ≤ (hs_aI h54 99 9).toInt := kq63.1
                have k1q63 : (hs_aI h54 99 9).toInt ≤ 9999 := kq63.2
                clear kq63
                refine hq_p rfl rfl (ty_ge (n := 0) nk_i0 (fun z64 ez64 => ?_))
                refine hq_p (ls' := [some (.ref 97), some (.int x1), some (.int x2), some (.int z39), some (.int z64), w50, w51, w52, w53]) rfl rfl ?_
                have L233_n107 : ∀ n107 : Nat, ∀ (y103 : Int32) (h104 : pm_H), (29 - y103.toInt).toNat = n107 → 0 ≤ y103.toInt → y103.toInt ≤ 29 → (hs_aI h104 99 9).toInt = (hs_aI h54 99 9).toInt → J h104 → hq_W X d 11 false (some .int) pm_c253 (233, [some (.ref 97), some (.int x1), some (.int x2), some (.int z39), some (.int y103), w50, w51, w52, w53], [], h104) (fun h' v => J h' ∧ (ty_pi (-3) 9999) h' v) := by
                  intro n107
                  induction n107 using Nat.strongRecOn with
                  | ind n107 ihn107 =>
                    intro y103 h104 mn107 ay103 by103 x0n107 Jh104
                    have Ih104 := H.1 h104 Jh104
                    refine hq_p rfl rfl ?_
                    refine hq_p rfl rfl (ty_ge (n := 29) nk_b29 (fun z108 ez108 => ?_))
                    refine ty_ige rfl (fun c109 => ?_) (fun c109 => ?_)
                    · refine hq_p rfl rfl ?_
                      refine hq_p rfl rfl ?_
                      refine hq_gR Ih104.1 rfl rfl (by decide) (by decide) rfl ?_
                      refine hq_p rfl rfl (ty_ge (n := 1) nk_i1 (fun z110 ez110 => ?_))
                      refine ty_aL Ih104 rfl rfl (by decide) (by omega) (by omega) (fun i e => ty_le (ty_w0 (by omega) (by omega))) (fun z111 ez111 az111 bz111 => ?_)
                      rw [show z110.toInt.toNat = 1 by omega] at ez111
                      refine ty_pI (W := ty_Wz) H Jh104 rfl rfl (by decide) rfl rfl (by unfold ty_Wz; omega) rfl (by omega) (by omega) (fun h112 eh112 Jh112 => ?_)
                      have wh112 : (hs_fI h112 97 57).toInt = z111.toInt := by rw [eh112]; exact congrArg Int32.toInt (ty_fI_eq Ih104.1 rfl (by decide) rfl)
                      have Ih112 := H.1 h112 Jh112
                      refine hq_p rfl rfl ?_
                      refine hq_p rfl rfl ?_
                      refine hq_gR Ih112.1 rfl rfl (by decide) (by decide) rfl ?_
                      refine hq_p rfl rfl (ty_ge (n := 0) nk_i0 (fun z113 ez113 => ?_))
                      refine ty_aL Ih112 rfl rfl (by decide) (by omega) (by omega) (fun i e => ty_le (ty_w0 (by omega) (by omega))) (fun z114 ez114 az114 bz114 => ?_)
                      rw [show z113.toInt.toNat = 0 by omega] at ez114
                      refine ty_pI (W := ty_Wz) H Jh112 rfl rfl (by decide) rfl rfl (by unfold ty_Wz; omega) rfl (by omega) (by omega) (fun h115 eh115 Jh115 => ?_)
                      have wh115 : (hs_fI h115 97 58).toInt = z114.toInt := by rw [eh115]; exact congrArg Int32.toInt (ty_fI_eq Ih112.1 rfl (by decide) rfl)
                      have Ih115 := H.1 h115 Jh115
                      refine hq_p rfl rfl ?_
                      refine hq_gR Ih115.1 rfl rfl (by decide) (by decide) rfl ?_
                      refine hq_p rfl rfl (ty_ge (n := 9) nk_b9 (fun z116 ez116 => ?_))
                      have r118 : (hs_aI h112 99 9).toInt = (hs_aI h104 99 9).toInt := by rw [eh112]; exact congrArg Int32.toInt (ty_aI_ne (by omega))
                      have r119 : (hs_aI h115 99 9).toInt = (hs_aI h112 99 9).toInt := by rw [eh115]; exact congrArg Int32.toInt (ty_aI_ne (by omega))
                      refine ty_aL Ih115 rfl rfl (by decide) (by omega) (by omega) (fun i e => ty_le (ty_w9 (by omega) (by omega))) (fun z117 ez117 az117 bz117 => ?_)
                      rw [show z116.toInt.toNat = 9 by omega] at ez117
                      refine hq_p rfl rfl ?_
                      refine hq_p rfl rfl (ty_ge (n := z117.toInt - z39.toInt) (nm_sub (by omega) (by omega)) (fun z120 ez120 => ?_))
                      refine hq_p (ls' := [some (.ref 97), some (.int x1), some (.int x2), some (.int z39), some (.int z120), w50, w51, w52, w53]) rfl rfl ?_
                      refine hq_p rfl rfl ?_
                      refine hq_p rfl rfl (ty_ge (n := 16) nk_b16 (fun z121 ez121 => ?_))
                      refine ty_callj 0 (W := ty_Wz) H Jh115 rfl (fun _ => rfl) rfl rfl rfl (hq_pre_o Ih115.1 (x := 97) (ci := 11) rfl (by decide) rfl rfl rfl rfl) (fun a k w => by unfold ty_Wp at w; unfold ty_Wz; omega) (by unfold ty_Wp ty_Wz; omega) (ct_144c (x1 := z121) (by omega) (by omega) (by omega)) (fun h123 _ Jh123 P122 => ?_)
                      have Ih123 := H.1 h123 Jh123
                      subst P122
                      refine hq_p rfl rfl ?_
                      refine hq_p rfl rfl ?_
                      refine ty_callj 0 (W := ty_Wz) H Jh123 rfl (fun _ => rfl) rfl rfl rfl (hq_pre_o Ih123.1 (x := 97) (ci := 11) rfl (by decide) rfl rfl rfl rfl) (fun a k w => by unfold ty_Wt at w; unfold ty_Wz; omega) (by unfold ty_Wt ty_Wz; omega) (ct_140 (x1 := z120) (by omega) (by omega) (by omega)) (fun h125 _ Jh125 P124 => ?_)
                      have Ih125 := H.1 h125 Jh125
                      obtain ⟨z126, rfl, fz126⟩ := P124
                      exact hq_W.ret rfl rfl rfl ⟨Jh125, _, rfl, by omega, by omega⟩
                    · refine hq_p rfl rfl ?_
                      refine hq_gR Ih104.1 rfl rfl (by decide) (by decide) rfl ?_
                      refine hq_p rfl rfl ?_
                      refine hq_p rfl rfl ?_
                      refine hq_gR Ih104.1 rfl rfl (by decide) (by decide) rfl ?_
                      refine hq_p rfl rfl (ty_ge (n := 5) nk_i5 (fun z127 ez127 => ?_))
                      refine hq_p rfl rfl ?_
                      refine hq_p rfl rfl (ty_ge (n := z127.toInt + y103.toInt) (nm_add (by omega) (by omega)) (fun z128 ez128 => ?_))
                      refine ty_aL Ih104 rfl rfl (by decide) (by omega) (by omega) (fun i _ => ty_rbF i) (fun z129 ez129 az129 bz129 => ?_)
                      refine ty_aS (W := ty_Wz) H Jh104 rfl rfl (by decide) (by omega) (by omega) (fun i e => by unfold ty_Wz; omega) (fun _ _ => ty_eg rfl) (by omega) (by omega) (fun e1 e2 w => by omega) (fun h130 eh130 Jh130 => ?_)
                      have Ih130 := H.1 h130 Jh130
                      refine ty_inc (ls' := fun z131 => [some (.ref 97), some (.int x1), some (.int x2), some (.int z39), some (.int z131), w50, w51, w52, w53]) rfl rfl (fun _ => rfl) (nm_addc nk_i1 (by omega) (by omega)) (fun z131 ez131 => ?_)
                      refine hq_p rfl rfl ?_
                      have r132 : (hs_aI h130 99 9).toInt = (hs_aI h104 99 9).toInt := by rw [eh130]; exact congrArg Int32.toInt (ty_aI_ne (by omega))
                      exact ihn107 ((29 - z131.toInt).toNat) (by omega) z131 h130 rfl (by omega) (by omega) (by omega) Jh130
                exact L233_n107 _ z64 h54 rfl (by omega) (by omega) (by omega) Jh54
              · obtain ⟨q133, eq133⟩ : ∃ q : Int32, q.toInt = (hs_aI h54 99 9).toInt := ⟨_, rfl⟩
                have kq133 := Ih54.2.2.2.1 99 9 (by decide) (by decide)
                have k0q133 : 0 ≤ (hs_aI h54 99 9).toInt := kq133.1
                have k1q133 : (hs_aI h54 99 9).toInt ≤ 9999 := kq133.2
                clear kq133
                refine hq_p rfl rfl ?_
                refine hq_gR Ih54.1 rfl rfl (by decide) (by decide) rfl ?_
                refine hq_p rfl rfl (ty_ge (n := 5) nk_i5 (fun z134 ez134 => ?_))
                refine ty_aL Ih54 rfl rfl (by decide) (by omega) (by omega) (fun i e => ty_le (ty_w5 (by omega) (by omega))) (fun z135 ez135 az135 bz135 => ?_)
                rw [show z134.toInt.toNat = 5 by omega] at ez135
                refine hq_p rfl rfl (ty_ge (n := 999) nk_s999 (fun z136 ez136 => ?_))
                refine ty_ige rfl (fun c137 => ?_) (fun c137 => ?_)
                · obtain ⟨q138, eq138⟩ : ∃ q : Int32, q.toInt = (hs_aI h54 99 9).toInt := ⟨_, rfl⟩
                  have kq138 := Ih54.2.2.2.1 99 9 (by decide) (by decide)
                  have k0q138 : 0 ≤ (hs_aI h54 99 9).toInt := kq138.1
                  have k1q138 : (hs_aI h54 99 9).toInt ≤ 9999 := kq138.2
                  clear kq138
                  refine hq_p rfl rfl (ty_ge (n := 0) nk_i0 (fun z139 ez139 => ?_))
                  refine hq_p (ls' := [some (.ref 97), some (.int x1), some (.int x2), some (.int z39), some (.int z139), w50, w51, w52, w53]) rfl rfl ?_
                  have L233_n182 : ∀ n182 : Nat, ∀ (y178 : Int32) (h179 : pm_H), (29 - y178.toInt).toNat = n182 → 0 ≤ y178.toInt → y178.toInt ≤ 29 → (hs_aI h179 99 9).toInt = (hs_aI h54 99 9).toInt → J h179 → hq_W X d 11 false (some .int) pm_c253 (233, [some (.ref 97), some (.int x1), some (.int x2), some (.int z39), some (.int y178), w50, w51, w52, w53], [], h179) (fun h' v => J h' ∧ (ty_pi (-3) 9999) h' v) := by
                    intro n182
                    induction n182 using Nat.strongRecOn with
                    | ind n182 ihn182 =>
                      intro y178 h179 mn182 ay178 by178 x0n182 Jh179
                      have Ih179 := H.1 h179 Jh179
                      refine hq_p rfl rfl ?_
                      refine hq_p rfl rfl (ty_ge (n := 29) nk_b29 (fun z183 ez183 => ?_))
                      refine ty_ige rfl (fun c184 => ?_) (fun c184 => ?_)
                      · refine hq_p rfl rfl ?_
                        refine hq_p rfl rfl ?_
                        refine hq_gR Ih179.1 rfl rfl (by decide) (by decide) rfl ?_
                        refine hq_p rfl rfl (ty_ge (n := 1) nk_i1 (fun z185 ez185 => ?_))
                        refine ty_aL Ih179 rfl rfl (by decide) (by omega) (by omega) (fun i e => ty_le (ty_w0 (by omega) (by omega))) (fun z186 ez186 az186 bz186 => ?_)
                        rw [show z185.toInt.toNat = 1 by omega] at ez186
                        refine ty_pI (W := ty_Wz) H Jh179 rfl rfl (by decide) rfl rfl (by unfold ty_Wz; omega) rfl (by omega) (by omega) (fun h187 eh187 Jh187 => ?_)
                        have wh187 : (hs_fI h187 97 57).toInt = z186.toInt := by rw [eh187]; exact congrArg Int32.toInt (ty_fI_eq Ih179.1 rfl (by decide) rfl)
                        have Ih187 := H.1 h187 Jh187
                        refine hq_p rfl rfl ?_
                        refine hq_p rfl rfl ?_
                        refine hq_gR Ih187.1 rfl rfl (by decide) (by decide) rfl ?_
                        refine hq_p rfl rfl (ty_ge (n := 0) nk_i0 (fun z188 ez188 => ?_))
                        refine ty_aL Ih187 rfl rfl (by decide) (by omega) (by omega) (fun i e => ty_le (ty_w0 (by omega) (by omega))) (fun z189 ez189 az189 bz189 => ?_)
                        rw [show z188.toInt.toNat = 0 by omega] at ez189
                        refine ty_pI (W := ty_Wz) H Jh187 rfl rfl (by decide) rfl rfl (by unfold ty_Wz; omega) rfl (by omega) (by omega) (fun h190 eh190 Jh190 => ?_)
                        have wh190 : (hs_fI h190 97 58).toInt = z189.toInt := by rw [eh190]; exact congrArg Int32.toInt (ty_fI_eq Ih187.1 rfl (by decide) rfl)
                        have Ih190 := H.1 h190 Jh190
                        refine hq_p rfl rfl ?_
                        refine hq_gR Ih190.1 rfl rfl (by decide) (by decide) rfl ?_
                        refine hq_p rfl rfl (ty_ge (n := 9) nk_b9 (fun z191 ez191 => ?_))
                        have r193 : (hs_aI h187 99 9).toInt = (hs_aI h179 99 9).toInt := by rw [eh187]; exact congrArg Int32.toInt (ty_aI_ne (by omega))
                        have r194 : (hs_aI h190 99 9).toInt = (hs_aI h187 99 9).toInt := by rw [eh190]; exact congrArg Int32.toInt (ty_aI_ne (by omega))
                        refine ty_aL Ih190 rfl rfl (by decide) (by omega) (by omega) (fun i e => ty_le (ty_w9 (by omega) (by omega))) (fun z192 ez192 az192 bz192 => ?_)
                        rw [show z191.toInt.toNat = 9 by omega] at ez192
                        refine hq_p rfl rfl ?_
                        refine hq_p rfl rfl (ty_ge (n := z192.toInt - z39.toInt) (nm_sub (by omega) (by omega)) (fun z195 ez195 => ?_))
                        refine hq_p (ls' := [some (.ref 97), some (.int x1), some (.int x2), some (.int z39), some (.int z195), w50, w51, w52, w53]) rfl rfl ?_
                        refine hq_p rfl rfl ?_
                        refine hq_p rfl rfl (ty_ge (n := 16) nk_b16 (fun z196 ez196 => ?_))
                        refine ty_callj 0 (W := ty_Wz) H Jh190 rfl (fun _ => rfl) rfl rfl rfl (hq_pre_o Ih190.1 (x := 97) (ci := 11) rfl (by decide) rfl rfl rfl rfl) (fun a k w => by unfold ty_Wp at w; unfold ty_Wz; omega) (by unfold ty_Wp ty_Wz; omega) (ct_144c (x1 := z196) (by omega) (by omega) (by omega)) (fun h198 _ Jh198 P197 => ?_)
                        have Ih198 := H.1 h198 Jh198
                        subst P197
                        refine hq_p rfl rfl ?_
                        refine hq_p rfl rfl ?_
                        refine ty_callj 0 (W := ty_Wz) H Jh198 rfl (fun _ => rfl) rfl rfl rfl (hq_pre_o Ih198.1 (x := 97) (ci := 11) rfl (by decide) rfl rfl rfl rfl) (fun a k w => by unfold ty_Wt at w; unfold ty_Wz; omega) (by unfold ty_Wt ty_Wz; omega) (ct_140 (x1 := z195) (by omega) (by omega) (by omega)) (fun h200 _ Jh200 P199 => ?_)
                        have Ih200 := H.1 h200 Jh200
                        obtain ⟨z201, rfl, fz201⟩ := P199
                        exact hq_W.ret rfl rfl rfl ⟨Jh200, _, rfl, by omega, by omega⟩
                      · refine hq_p rfl rfl ?_
                        refine hq_gR Ih179.1 rfl rfl (by decide) (by decide) rfl ?_
                        refine hq_p rfl rfl ?_
                        refine hq_p rfl rfl ?_
                        refine hq_gR Ih179.1 rfl rfl (by decide) (by decide) rfl ?_
                        refine hq_p rfl rfl (ty_ge (n := 5) nk_i5 (fun z202 ez202 => ?_))
                        refine hq_p rfl rfl ?_
                        refine hq_p rfl rfl (ty_ge (n := z202.toInt + y178.toInt) (nm_add (by omega) (by omega)) (fun z203 ez203 => ?_))
                        refine ty_aL Ih179 rfl rfl (by decide) (by omega) (by omega) (fun i _ => ty_rbF i) (fun z204 ez204 az204 bz204 => ?_)
                        refine ty_aS (W := ty_Wz) H Jh179 rfl rfl (by decide) (by omega) (by omega) (fun i e => by unfold ty_Wz; omega) (fun _ _ => ty_eg rfl) (by omega) (by omega) (fun e1 e2 w => by omega) (fun h205 eh205 Jh205 => ?_)
                        have Ih205 := H.1 h205 Jh205
                        refine ty_inc (ls' := fun z206 => [some (.ref 97), some (.int x1), some (.int x2), some (.int z39), some (.int z206), w50, w51, w52, w53]) rfl rfl (fun _ => rfl) (nm_addc nk_i1 (by omega) (by omega)) (fun z206 ez206 => ?_)
                        refine hq_p rfl rfl ?_
                        have r207 : (hs_aI h205 99 9).toInt = (hs_aI h179 99 9).toInt := by rw [eh205]; exact congrArg Int32.toInt (ty_aI_ne (by omega))
                        exact ihn182 ((29 - z206.toInt).toNat) (by omega) z206 h205 rfl (by omega) (by omega) (by omega) Jh205
                  exact L233_n182 _ z139 h54 rfl (by omega) (by omega) (by omega) Jh54
                · refine hq_p rfl rfl ?_
                  refine hq_p rfl rfl ?_
                  refine hq_gR Ih54.1 rfl rfl (by decide) (by decide) rfl ?_
                  refine hq_p rfl rfl (ty_ge (n := 1) nk_i1 (fun z208 ez208 => ?_))
                  refine ty_aL Ih54 rfl rfl (by decide) (by omega) (by omega) (fun i e => ty_le (ty_w0 (by omega) (by omega))) (fun z209 ez209 az209 bz209 => ?_)
                  rw [show z208.toInt.toNat = 1 by omega] at ez209
                  refine ty_callm 0 [(1, 99, 5), (1, 99, 9), (1, 99, 0), (1, 99, 1)] (W := ty_Wz) H Jh54 rfl (fun _ => rfl) rfl rfl rfl (hq_pre_o Ih54.1 (x := 97) (ci := 11) rfl (by decide) rfl rfl rfl rfl) (fun a k w => by unfold ty_Wdr at w; unfold ty_Wz; omega) (by unfold ty_Wdr ty_Wz; omega) (ct_252b (x1 := z209) (by omega) (by omega) (by omega)) ⟨⟨rfl, show ¬ ty_Wdr 99 5 by unfold ty_Wdr; omega⟩, ⟨rfl, show ¬ ty_Wdr 99 9 by unfold ty_Wdr; omega⟩, ⟨rfl, show ¬ ty_Wdr 99 0 by unfold ty_Wdr; omega⟩, ⟨rfl, show ¬ ty_Wdr 99 1 by unfold ty_Wdr; omega⟩, trivial⟩ (fun h211 _ Jh211 gh211 P210 => ?_)
                  obtain ⟨gh211_0, gh211_1, gh211_2, gh211_3, _⟩ := gh211
                  have gh211_0 : (hs_aI h211 99 5).toInt = (hs_aI h54 99 5).toInt := gh211_0
                  have gh211_1 : (hs_aI h211 99 9).toInt = (hs_aI h54 99 9).toInt := gh211_1
                  have gh211_2 : (hs_aI h211 99 0).toInt = (hs_aI h54 99 0).toInt := gh211_2
                  have gh211_3 : (hs_aI h211 99 1).toInt = (hs_aI h54 99 1).toInt := gh211_3
                  have Ih211 := H.1 h211 Jh211
                  obtain ⟨z212, rfl, fz212⟩ := P210
                  refine hq_p (ls' := [some (.ref 97), some (.int x1), some (.int x2), some (.int z39), some (.int y49), some (.int z212), w51, w52, w53]) rfl rfl ?_
                  refine hq_p rfl rfl ?_
                  refine hq_p rfl rfl ?_
                  refine hq_gR Ih211.1 rfl rfl (by decide) (by decide) rfl ?_
                  refine hq_p rfl rfl (ty_ge (n := 0) nk_i0 (fun z213 ez213 => ?_))
                  refine ty_aL Ih211 rfl rfl (by decide) (by omega) (by omega) (fun i e => ty_le (ty_w0 (by omega) (by omega))) (fun z214 ez214 az214 bz214 => ?_)
                  rw [show z213.toInt.toNat = 0 by omega] at ez214
                  refine ty_callm 0 [(1, 99, 5), (1, 99, 9), (1, 99, 0), (1, 99, 1)] (W := ty_Wz) H Jh211 rfl (fun _ => rfl) rfl rfl rfl (hq_pre_o Ih211.1 (x := 97) (ci := 11) rfl (by decide) rfl rfl rfl rfl) (fun a k w => by unfold ty_Wdr at w; unfold ty_Wz; omega) (by unfold ty_Wdr ty_Wz; omega) (ct_252b (x1 := z214) (by omega) (by omega) (by omega)) ⟨⟨rfl, show ¬ ty_Wdr 99 5 by unfold ty_Wdr; omega⟩, ⟨rfl, show ¬ ty_Wdr 99 9 by unfold ty_Wdr; omega⟩, ⟨rfl, show ¬ ty_Wdr 99 0 by unfold ty_Wdr; omega⟩, ⟨rfl, show ¬ ty_Wdr 99 1 by unfold ty_Wdr; omega⟩, trivial⟩ (fun h216 _ Jh216 gh216 P215 => ?_)
                  obtain ⟨gh216_0, gh216_1, gh216_2, gh216_3, _⟩ := gh216
                  have gh216_0 : (hs_aI h216 99 5).toInt = (hs_aI h211 99 5).toInt := gh216_0
                  have gh216_1 : (hs_aI h216 99 9).toInt = (hs_aI h211 99 9).toInt := gh216_1
                  have gh216_2 : (hs_aI h216 99 0).toInt = (hs_aI h211 99 0).toInt := gh216_2
                  have gh216_3 : (hs_aI h216 99 1).toInt = (hs_aI h211 99 1).toInt := gh216_3
                  have Ih216 := H.1 h216 Jh216
                  obtain ⟨z217, rfl, fz217⟩ := P215
                  refine hq_p (ls' := [some (.ref 97), some (.int x1), some (.int x2), some (.int z39), some (.int y49), some (.int z212), some (.int z217), w52, w53]) rfl rfl ?_
                  refine hq_p rfl rfl ?_
                  refine hq_p rfl rfl (ty_ge (n := 6) nk_b6 (fun z218 ez218 => ?_))
                  refine ty_callm 0 [(1, 99, 5), (1, 99, 9), (1, 99, 0), (1, 99, 1)] (W := ty_Wz) H Jh216 rfl (fun _ => rfl) rfl rfl rfl (hq_pre_o Ih216.1 (x := 97) (ci := 11) rfl (by decide) rfl rfl rfl rfl) (fun a k w => by unfold ty_Wdr at w; unfold ty_Wz; omega) (by unfold ty_Wdr ty_Wz; omega) (ct_252b (x1 := z218) (by omega) (by omega) (by omega)) ⟨⟨rfl, show ¬ ty_Wdr 99 5 by unfold ty_Wdr; omega⟩, ⟨rfl, show ¬ ty_Wdr 99 9 by unfold ty_Wdr; omega⟩, ⟨rfl, show ¬ ty_Wdr 99 0 by unfold ty_Wdr; omega⟩, ⟨rfl, show ¬ ty_Wdr 99 1 by unfold ty_Wdr; omega⟩, trivial⟩ (fun h220 _ Jh220 gh220 P219 => ?_)
                  obtain ⟨gh220_0, gh220_1, gh220_2, gh220_3, _⟩ := gh220
                  have gh220_0 : (hs_aI h220 99 5).toInt = (hs_aI h216 99 5).toInt := gh220_0
                  have gh220_1 : (hs_aI h220 99 9).toInt = (hs_aI h216 99 9).toInt := gh220_1
                  have gh220_2 : (hs_aI h220 99 0).toInt = (hs_aI h216 99 0).toInt := gh220_2
                  have gh220_3 : (hs_aI h220 99 1).toInt = (hs_aI h216 99 1).toInt := gh220_3
                  have Ih220 := H.1 h220 Jh220
                  obtain ⟨z221, rfl, fz221⟩ := P219
                  refine hq_p (ls' := [some (.ref 97), some (.int x1), some (.int x2), some (.int z39), some (.int y49), some (.int z212), some (.int z217), some (.int z221), w53]) rfl rfl ?_
                  refine hq_p rfl rfl ?_
                  refine hq_p rfl rfl (ty_ge (n := 4) nk_i4 (fun z222 ez222 => ?_))
                  refine ty_callm 0 [(1, 99, 5), (1, 99, 9), (1, 99, 0), (1, 99, 1)] (W := ty_Wz) H Jh220 rfl (fun _ => rfl) rfl rfl rfl (hq_pre_o Ih220.1 (x := 97) (ci := 11) rfl (by decide) rfl rfl rfl rfl) (fun a k w => by unfold ty_Wdr at w; unfold ty_Wz; omega) (by unfold ty_Wdr ty_Wz; omega) (ct_252b (x1 := z222) (by omega) (by omega) (by omega)) ⟨⟨rfl, show ¬ ty_Wdr 99 5 by unfold ty_Wdr; omega⟩, ⟨rfl, show ¬ ty_Wdr 99 9 by unfold ty_Wdr; omega⟩, ⟨rfl, show ¬ ty_Wdr 99 0 by unfold ty_Wdr; omega⟩, ⟨rfl, show ¬ ty_Wdr 99 1 by unfold ty_Wdr; omega⟩, trivial⟩ (fun h224 _ Jh224 gh224 P223 => ?_)
                  obtain ⟨gh224_0, gh224_1, gh224_2, gh224_3, _⟩ := gh224
                  have gh224_0 : (hs_aI h224 99 5).toInt = (hs_aI h220 99 5).toInt := gh224_0
                  have gh224_1 : (hs_aI h224 99 9).toInt = (hs_aI h220 99 9).toInt := gh224_1
                  have gh224_2 : (hs_aI h224 99 0).toInt = (hs_aI h220 99 0).toInt := gh224_2
                  have gh224_3 : (hs_aI h224 99 1).toInt = (hs_aI h220 99 1).toInt := gh224_3
                  have Ih224 := H.1 h224 Jh224
                  obtain ⟨z225, rfl, fz225⟩ := P223
                  refine hq_p (ls' := [some (.ref 97), some (.int x1), some (.int x2), some (.int z39), some (.int y49), some (.int z212), some (.int z217), some (.int z221), some (.int z225)]) rfl rfl ?_
                  refine hq_p rfl rfl ?_
                  refine ty_zne rfl (fun c226 => ?_) (fun c226 => ?_)
                  · replace c226 : 1 ≤ z225.toInt ∧ z225.toInt ≤ 3 := by omega
                    refine hq_p rfl rfl ?_
                    refine hq_gR Ih224.1 rfl rfl (by decide) (by decide) rfl ?_
                    refine hq_p rfl rfl (ty_ge (n := 26) nk_b26 (fun z227 ez227 => ?_))
                    refine hq_p rfl rfl ?_
                    refine hq_p rfl rfl (ty_ge (n := z227.toInt + z212.toInt) (nm_add (by omega) (by omega)) (fun z228 ez228 => ?_))
                    refine hq_p rfl rfl ?_
                    refine hq_p rfl rfl (ty_ge (n := 1) nk_i1 (fun z229 ez229 => ?_))
                    refine ty_ine rfl (fun c230 => ?_) (fun c230 => ?_)
                    · replace c230 : 2 ≤ z225.toInt ∧ z225.toInt ≤ 3 := by omega
                      refine hq_p rfl rfl ?_
                      refine hq_gR Ih224.1 rfl rfl (by decide) (by decide) rfl ?_
                      refine hq_p rfl rfl (ty_ge (n := 26) nk_b26 (fun z231 ez231 => ?_))
                      refine hq_p rfl rfl ?_
                      refine hq_p rfl rfl (ty_ge (n := z231.toInt + z212.toInt) (nm_add (by omega) (by omega)) (fun z232 ez232 => ?_))
                      refine ty_aL Ih224 rfl rfl (by decide) (by omega) (by omega) (fun i e => ty_le (ty_w26 (by omega) (by omega))) (fun z233 ez233 az233 bz233 => ?_)
                      refine ty_aS (W := ty_Wz) H Jh224 rfl rfl (by decide) (by omega) (by omega) (fun i e => by unfold ty_Wz; omega) (fun i e => ty_eg (ty_w26 (by omega) (by omega))) (by omega) (by omega) (fun e1 e2 w => by omega) (fun h234 eh234 Jh234 => ?_)
                      have Ih234 := H.1 h234 Jh234
                      refine hq_p rfl rfl ?_
                      refine hq_p rfl rfl (ty_ge (n := 2) nk_i2 (fun z235 ez235 => ?_))
                      refine ty_ine rfl (fun c236 => ?_) (fun c236 => ?_)
                      · replace c236 : 3 ≤ z225.toInt ∧ z225.toInt ≤ 3 := by omega
                        refine hq_p rfl rfl ?_
                        have r237 : (hs_aI h234 99 5).toInt = (hs_aI h224 99 5).toInt := by rw [eh234]; exact congrArg Int32.toInt (ty_aI_sA (by omega))
                        have r240 : (hs_aI h234 99 9).toInt = (hs_aI h224 99 9).toInt := by rw [eh234]; exact congrArg Int32.toInt (ty_aI_sA (by omega))
                        have r241 : (hs_aI h234 99 0).toInt = (hs_aI h224 99 0).toInt := by rw [eh234]; exact congrArg Int32.toInt (ty_aI_sA (by omega))
                        have r242 : (hs_aI h234 99 1).toInt = (hs_aI h224 99 1).toInt := by rw [eh234]; exact congrArg Int32.toInt (ty_aI_sA (by omega))
                        refine ty_callm 0 [(1, 99, 9), (1, 99, 0), (1, 99, 1)] (W := ty_Wz) H Jh234 rfl (fun _ => rfl) rfl rfl rfl (hq_pre_o Ih234.1 (x := 97) (ci := 11) rfl (by decide) rfl rfl rfl rfl) (fun a k w => by unfold ty_Whz at w; unfold ty_Wz; omega) (by unfold ty_Whz ty_Wz; omega) (ct_219c (by omega) (by omega) (by omega)) ⟨⟨rfl, show ¬ ty_Whz 99 9 by unfold ty_Whz; omega⟩, ⟨rfl, show ¬ ty_Whz 99 0 by unfold ty_Whz; omega⟩, ⟨rfl, show ¬ ty_Whz 99 1 by unfold ty_Whz; omega⟩, trivial⟩ (fun h239 _ Jh239 gh239 P238 => ?_)
                        obtain ⟨gh239_0, gh239_1, gh239_2, _⟩ := gh239
                        have gh239_0 : (hs_aI h239 99 9).toInt = (hs_aI h234 99 9).toInt := gh239_0
                        have gh239_1 : (hs_aI h239 99 0).toInt = (hs_aI h234 99 0).toInt := gh239_1
                        have gh239_2 : (hs_aI h239 99 1).toInt = (hs_aI h234 99 1).toInt := gh239_2
                        have Ih239 := H.1 h239 Jh239
                        subst P238
                        refine ty_inc (ls' := fun z243 => [some (.ref 97), some (.int x1), some (.int x2), some (.int z39), some (.int z243), some (.int z212), some (.int z217), some (.int z221), some (.int z225)]) rfl rfl (fun _ => rfl) (nm_addc nk_i1 (by omega) (by omega)) (fun z243 ez243 => ?_)
                        refine hq_p rfl rfl ?_
                        exact ihn61 ((60 - z243.toInt).toNat) (by omega) z243 (some (.int z212)) (some (.int z217)) (some (.int z221)) (some (.int z225)) h239 rfl (by omega) (by omega) rfl rfl rfl rfl (by omega) (by omega) (by omega) Jh239
                      · refine hq_p rfl rfl ?_
                        refine hq_p rfl rfl ?_
                        refine ty_callp 0 Ih234 rfl (fun _ => rfl) rfl rfl rfl (hq_pre_o Ih234.1 (x := 97) (ci := 11) rfl (by decide) rfl rfl rfl rfl) (ct_215 (x1 := z221) (by omega) (by omega) (by omega)) (fun _ P244 => ?_)
                        obtain ⟨z245, rfl, az245, bz245⟩ := P244
                        refine ty_zeq rfl (fun c246 => ?_) (fun c246 => ?_)
                        · refine hq_p rfl rfl ?_
                          have r247 : (hs_aI h234 99 5).toInt = (hs_aI h224 99 5).toInt := by rw [eh234]; exact congrArg Int32.toInt (ty_aI_sA (by omega))
                          have r250 : (hs_aI h234 99 9).toInt = (hs_aI h224 99 9).toInt := by rw [eh234]; exact congrArg Int32.toInt (ty_aI_sA (by omega))
                          have r251 : (hs_aI h234 99 0).toInt = (hs_aI h224 99 0).toInt := by rw [eh234]; exact congrArg Int32.toInt (ty_aI_sA (by omega))
                          have r252 : (hs_aI h234 99 1).toInt = (hs_aI h224 99 1).toInt := by rw [eh234]; exact congrArg Int32.toInt (ty_aI_sA (by omega))
                          refine ty_callm 0 [(1, 99, 9), (1, 99, 0), (1, 99, 1)] (W := ty_Wz) H Jh234 rfl (fun _ => rfl) rfl rfl rfl (hq_pre_o Ih234.1 (x := 97) (ci := 11) rfl (by decide) rfl rfl rfl rfl) (fun a k w => by unfold ty_Whz at w; unfold ty_Wz; omega) (by unfold ty_Whz ty_Wz; omega) (ct_219c (by omega) (by omega) (by omega)) ⟨⟨rfl, show ¬ ty_Whz 99 9 by unfold ty_Whz; omega⟩, ⟨rfl, show ¬ ty_Whz 99 0 by unfold ty_Whz; omega⟩, ⟨rfl, show ¬ ty_Whz 99 1 by unfold ty_Whz; omega⟩, trivial⟩ (fun h249 _ Jh249 gh249 P248 => ?_)
                          obtain ⟨gh249_0, gh249_1, gh249_2, _⟩ := gh249
                          have gh249_0 : (hs_aI h249 99 9).toInt = (hs_aI h234 99 9).toInt := gh249_0
                          have gh249_1 : (hs_aI h249 99 0).toInt = (hs_aI h234 99 0).toInt := gh249_1
                          have gh249_2 : (hs_aI h249 99 1).toInt = (hs_aI h234 99 1).toInt := gh249_2
                          have Ih249 := H.1 h249 Jh249
                          subst P248
                          refine ty_inc (ls' := fun z253 => [some (.ref 97), some (.int x1), some (.int x2), some (.int z39), some (.int z253), some (.int z212), some (.int z217), some (.int z221), some (.int z225)]) rfl rfl (fun _ => rfl) (nm_addc nk_i1 (by omega) (by omega)) (fun z253 ez253 => ?_)
                          refine hq_p rfl rfl ?_
                          exact ihn61 ((60 - z253.toInt).toNat) (by omega) z253 (some (.int z212)) (some (.int z217)) (some (.int z221)) (some (.int z225)) h249 rfl (by omega) (by omega) rfl rfl rfl rfl (by omega) (by omega) (by omega) Jh249
                        · replace c246 : 1 ≤ z245.toInt ∧ z245.toInt ≤ 1 := by omega
                          refine hq_p rfl rfl ?_
                          refine hq_p rfl rfl ?_
                          have r254 : (hs_aI h234 99 9).toInt = (hs_aI h224 99 9).toInt := by rw [eh234]; exact congrArg Int32.toInt (ty_aI_sA (by omega))
                          have r257 : (hs_aI h234 99 5).toInt = (hs_aI h224 99 5).toInt := by rw [eh234]; exact congrArg Int32.toInt (ty_aI_sA (by omega))
                          have r258 : (hs_aI h234 99 0).toInt = (hs_aI h224 99 0).toInt := by rw [eh234]; exact congrArg Int32.toInt (ty_aI_sA (by omega))
                          have r259 : (hs_aI h234 99 1).toInt = (hs_aI h224 99 1).toInt := by rw [eh234]; exact congrArg Int32.toInt (ty_aI_sA (by omega))
                          refine ty_callm 0 [(1, 99, 5), (1, 99, 0), (1, 99, 1)] (W := ty_Wz) H Jh234 rfl (fun _ => rfl) rfl rfl rfl (hq_pre_o Ih234.1 (x := 97) (ci := 11) rfl (by decide) rfl rfl rfl rfl) (fun a k w => by unfold ty_Wj at w; unfold ty_Wz; omega) (by unfold ty_Wj ty_Wz; omega) (ct_216b (x1 := z221) (by omega) (by omega) (by omega)) ⟨⟨rfl, show ¬ ty_Wj 99 5 by unfold ty_Wj; omega⟩, ⟨rfl, show ¬ ty_Wj 99 0 by unfold ty_Wj; omega⟩, ⟨rfl, show ¬ ty_Wj 99 1 by unfold ty_Wj; omega⟩, trivial⟩ (fun h256 _ Jh256 gh256 P255 => ?_)
                          obtain ⟨gh256_0, gh256_1, gh256_2, _⟩ := gh256
                          have gh256_0 : (hs_aI h256 99 5).toInt = (hs_aI h234 99 5).toInt := gh256_0
                          have gh256_1 : (hs_aI h256 99 0).toInt = (hs_aI h234 99 0).toInt := gh256_1
                          have gh256_2 : (hs_aI h256 99 1).toInt = (hs_aI h234 99 1).toInt := gh256_2
                          have Ih256 := H.1 h256 Jh256
                          obtain ⟨⟨z260, rfl, az260, bz260⟩, p8z260, p9z260⟩ := P255
                          obtain ⟨q261, eq261⟩ : ∃ q : Int32, q.toInt = (hs_aI h256 99 9).toInt := ⟨_, rfl⟩
                          have kq261 := Ih256.2.2.2.1 99 9 (by decide) (by decide)
                          have k0q261 : 0 ≤ (hs_aI h256 99 9).toInt := kq261.1
                          have k1q261 : (hs_aI h256 99 9).toInt ≤ 9999 := kq261.2
                          clear kq261
                          refine hq_p rfl rfl ?_
                          refine hq_p rfl rfl ?_
                          refine ty_callm 0 [(1, 99, 9), (1, 99, 0), (1, 99, 1)] (W := ty_Wz) H Jh256 rfl (fun _ => rfl) rfl rfl rfl (hq_pre_o Ih256.1 (x := 97) (ci := 11) rfl (by decide) rfl rfl rfl rfl) (fun a k w => by unfold ty_Whz at w; unfold ty_Wz; omega) (by unfold ty_Whz ty_Wz; omega) (ct_219c (by omega) (by omega) (by omega)) ⟨⟨rfl, show ¬ ty_Whz 99 9 by unfold ty_Whz; omega⟩, ⟨rfl, show ¬ ty_Whz 99 0 by unfold ty_Whz; omega⟩, ⟨rfl, show ¬ ty_Whz 99 1 by unfold ty_Whz; omega⟩, trivial⟩ (fun h263 _ Jh263 gh263 P262 => ?_)
                          obtain ⟨gh263_0, gh263_1, gh263_2, _⟩ := gh263
                          have gh263_0 : (hs_aI h263 99 9).toInt = (hs_aI h256 99 9).toInt := gh263_0
                          have gh263_1 : (hs_aI h263 99 0).toInt = (hs_aI h256 99 0).toInt := gh263_1
                          have gh263_2 : (hs_aI h263 99 1).toInt = (hs_aI h256 99 1).toInt := gh263_2
                          have Ih263 := H.1 h263 Jh263
                          subst P262
                          refine ty_inc (ls' := fun z264 => [some (.ref 97), some (.int x1), some (.int x2), some (.int z39), some (.int z264), some (.int z212), some (.int z217), some (.int z221), some (.int z225)]) rfl rfl (fun _ => rfl) (nm_addc nk_i1 (by omega) (by omega)) (fun z264 ez264 => ?_)
                          refine hq_p rfl rfl ?_
                          exact ihn61 ((60 - z264.toInt).toNat) (by omega) z264 (some (.int z212)) (some (.int z217)) (some (.int z221)) (some (.int z225)) h263 rfl (by omega) (by omega) rfl rfl rfl rfl (by omega) (by omega) (by omega) Jh263
                    · refine hq_p rfl rfl (ty_ge (n := -1) nk_im1 (fun z265 ez265 => ?_))
                      refine hq_p rfl rfl ?_
                      refine ty_aS (W := ty_Wz) H Jh224 rfl rfl (by decide) (by omega) (by omega) (fun i e => by unfold ty_Wz; omega) (fun i e => ty_eg (ty_w26 (by omega) (by omega))) (by omega) (by omega) (fun e1 e2 w => by omega) (fun h266 eh266 Jh266 => ?_)
                      have Ih266 := H.1 h266 Jh266
                      refine hq_p rfl rfl ?_
                      refine hq_p rfl rfl (ty_ge (n := 2) nk_i2 (fun z267 ez267 => ?_))
                      refine ty_ine rfl (fun c268 => ?_) (fun c268 => ?_)
                      · clear c268
                        refine hq_p rfl rfl ?_
                        have r269 : (hs_aI h266 99 5).toInt = (hs_aI h224 99 5).toInt := by rw [eh266]; exact congrArg Int32.toInt (ty_aI_sA (by omega))
                        have r272 : (hs_aI h266 99 9).toInt = (hs_aI h224 99 9).toInt := by rw [eh266]; exact congrArg Int32.toInt (ty_aI_sA (by omega))
                        have r273 : (hs_aI h266 99 0).toInt = (hs_aI h224 99 0).toInt := by rw [eh266]; exact congrArg Int32.toInt (ty_aI_sA (by omega))
                        have r274 : (hs_aI h266 99 1).toInt = (hs_aI h224 99 1).toInt := by rw [eh266]; exact congrArg Int32.toInt (ty_aI_sA (by omega))
                        refine ty_callm 0 [(1, 99, 9), (1, 99, 0), (1, 99, 1)] (W := ty_Wz) H Jh266 rfl (fun _ => rfl) rfl rfl rfl (hq_pre_o Ih266.1 (x := 97) (ci := 11) rfl (by decide) rfl rfl rfl rfl) (fun a k w => by unfold ty_Whz at w; unfold ty_Wz; omega) (by unfold ty_Whz ty_Wz; omega) (ct_219c (by omega) (by omega) (by omega)) ⟨⟨rfl, show ¬ ty_Whz 99 9 by unfold ty_Whz; omega⟩, ⟨rfl, show ¬ ty_Whz 99 0 by unfold ty_Whz; omega⟩, ⟨rfl, show ¬ ty_Whz 99 1 by unfold ty_Whz; omega⟩, trivial⟩ (fun h271 _ Jh271 gh271 P270 => ?_)
                        obtain ⟨gh271_0, gh271_1, gh271_2, _⟩ := gh271
                        have gh271_0 : (hs_aI h271 99 9).toInt = (hs_aI h266 99 9).toInt := gh271_0
                        have gh271_1 : (hs_aI h271 99 0).toInt = (hs_aI h266 99 0).toInt := gh271_1
                        have gh271_2 : (hs_aI h271 99 1).toInt = (hs_aI h266 99 1).toInt := gh271_2
                        have Ih271 := H.1 h271 Jh271
                        subst P270
                        refine ty_inc (ls' := fun z275 => [some (.ref 97), some (.int x1), some (.int x2), some (.int z39), some (.int z275), some (.int z212), some (.int z217), some (.int z221), some (.int z225)]) rfl rfl (fun _ => rfl) (nm_addc nk_i1 (by omega) (by omega)) (fun z275 ez275 => ?_)
                        refine hq_p rfl rfl ?_
                        exact ihn61 ((60 - z275.toInt).toNat) (by omega) z275 (some (.int z212)) (some (.int z217)) (some (.int z221)) (some (.int z225)) h271 rfl (by omega) (by omega) rfl rfl rfl rfl (by omega) (by omega) (by omega) Jh271
                      · exfalso; omega
                  · refine hq_p rfl rfl ?_
                    refine hq_p rfl rfl ?_
                    refine hq_p rfl rfl ?_
                    refine ty_callm 0 [(1, 99, 5), (1, 99, 9), (1, 99, 0), (1, 99, 1)] (W := ty_Wz) H Jh224 rfl (fun _ => rfl) rfl rfl rfl (hq_pre_o Ih224.1 (x := 97) (ci := 11) rfl (by decide) rfl rfl rfl rfl) (fun a k w => by unfold ty_Wy at w; unfold ty_Wz; omega) (by unfold ty_Wy ty_Wz; omega) (ct_209 (x1 := z212) (x2 := z217) (by omega) (by omega) (by omega) (by omega) (by omega)) ⟨⟨rfl, show ¬ ty_Wy 99 5 by unfold ty_Wy; omega⟩, ⟨rfl, show ¬ ty_Wy 99 9 by unfold ty_Wy; omega⟩, ⟨rfl, show ¬ ty_Wy 99 0 by unfold ty_Wy; omega⟩, ⟨rfl, show ¬ ty_Wy 99 1 by unfold ty_Wy; omega⟩, trivial⟩ (fun h277 _ Jh277 gh277 P276 => ?_)
                    obtain ⟨gh277_0, gh277_1, gh277_2, gh277_3, _⟩ := gh277
                    have gh277_0 : (hs_aI h277 99 5).toInt = (hs_aI h224 99 5).toInt := gh277_0
                    have gh277_1 : (hs_aI h277 99 9).toInt = (hs_aI h224 99 9).toInt := gh277_1
                    have gh277_2 : (hs_aI h277 99 0).toInt = (hs_aI h224 99 0).toInt := gh277_2
                    have gh277_3 : (hs_aI h277 99 1).toInt = (hs_aI h224 99 1).toInt := gh277_3
                    have Ih277 := H.1 h277 Jh277
                    obtain ⟨z278, rfl, az278, bz278⟩ := P276
                    refine ty_zeq rfl (fun c279 => ?_) (fun c279 => ?_)
                    · refine hq_p rfl rfl ?_
                      refine hq_gR Ih277.1 rfl rfl (by decide) (by decide) rfl ?_
                      refine hq_p rfl rfl (ty_ge (n := 26) nk_b26 (fun z280 ez280 => ?_))
                      refine hq_p rfl rfl ?_
                      refine hq_p rfl rfl (ty_ge (n := z280.toInt + z212.toInt) (nm_add (by omega) (by omega)) (fun z281 ez281 => ?_))
                      refine hq_p rfl rfl ?_
                      refine hq_p rfl rfl (ty_ge (n := 1) nk_i1 (fun z282 ez282 => ?_))
                      refine ty_ine rfl (fun c283 => ?_) (fun c283 => ?_)
                      · clear c283
                        refine hq_p rfl rfl ?_
                        refine hq_gR Ih277.1 rfl rfl (by decide) (by decide) rfl ?_
                        refine hq_p rfl rfl (ty_ge (n := 26) nk_b26 (fun z284 ez284 => ?_))
                        refine hq_p rfl rfl ?_
                        refine hq_p rfl rfl (ty_ge (n := z284.toInt + z212.toInt) (nm_add (by omega) (by omega)) (fun z285 ez285 => ?_))
                        refine ty_aL Ih277 rfl rfl (by decide) (by omega) (by omega) (fun i e => ty_le (ty_w26 (by omega) (by omega))) (fun z286 ez286 az286 bz286 => ?_)
                        refine ty_aS (W := ty_Wz) H Jh277 rfl rfl (by decide) (by omega) (by omega) (fun i e => by unfold ty_Wz; omega) (fun i e => ty_eg (ty_w26 (by omega) (by omega))) (by omega) (by omega) (fun e1 e2 w => by omega) (fun h287 eh287 Jh287 => ?_)
                        have Ih287 := H.1 h287 Jh287
                        refine hq_p rfl rfl ?_
                        refine hq_p rfl rfl (ty_ge (n := 2) nk_i2 (fun z288 ez288 => ?_))
                        refine ty_ine rfl (fun c289 => ?_) (fun c289 => ?_)
                        · clear c289
                          refine hq_p rfl rfl ?_
                          have r290 : (hs_aI h287 99 5).toInt = (hs_aI h277 99 5).toInt := by rw [eh287]; exact congrArg Int32.toInt (ty_aI_sA (by omega))
                          have r293 : (hs_aI h287 99 9).toInt = (hs_aI h277 99 9).toInt := by rw [eh287]; exact congrArg Int32.toInt (ty_aI_sA (by omega))
                          have r294 : (hs_aI h287 99 0).toInt = (hs_aI h277 99 0).toInt := by rw [eh287]; exact congrArg Int32.toInt (ty_aI_sA (by omega))
                          have r295 : (hs_aI h287 99 1).toInt = (hs_aI h277 99 1).toInt := by rw [eh287]; exact congrArg Int32.toInt (ty_aI_sA (by omega))
                          refine ty_callm 0 [(1, 99, 9), (1, 99, 0), (1, 99, 1)] (W := ty_Wz) H Jh287 rfl (fun _ => rfl) rfl rfl rfl (hq_pre_o Ih287.1 (x := 97) (ci := 11) rfl (by decide) rfl rfl rfl rfl) (fun a k w => by unfold ty_Whz at w; unfold ty_Wz; omega) (by unfold ty_Whz ty_Wz; omega) (ct_219c (by omega) (by omega) (by omega)) ⟨⟨rfl, show ¬ ty_Whz 99 9 by unfold ty_Whz; omega⟩, ⟨rfl, show ¬ ty_Whz 99 0 by unfold ty_Whz; omega⟩, ⟨rfl, show ¬ ty_Whz 99 1 by unfold ty_Whz; omega⟩, trivial⟩ (fun h292 _ Jh292 gh292 P291 => ?_)
                          obtain ⟨gh292_0, gh292_1, gh292_2, _⟩ := gh292
                          have gh292_0 : (hs_aI h292 99 9).toInt = (hs_aI h287 99 9).toInt := gh292_0
                          have gh292_1 : (hs_aI h292 99 0).toInt = (hs_aI h287 99 0).toInt := gh292_1
                          have gh292_2 : (hs_aI h292 99 1).toInt = (hs_aI h287 99 1).toInt := gh292_2
                          have Ih292 := H.1 h292 Jh292
                          subst P291
                          refine ty_inc (ls' := fun z296 => [some (.ref 97), some (.int x1), some (.int x2), some (.int z39), some (.int z296), some (.int z212), some (.int z217), some (.int z221), some (.int z225)]) rfl rfl (fun _ => rfl) (nm_addc nk_i1 (by omega) (by omega)) (fun z296 ez296 => ?_)
                          refine hq_p rfl rfl ?_
                          exact ihn61 ((60 - z296.toInt).toNat) (by omega) z296 (some (.int z212)) (some (.int z217)) (some (.int z221)) (some (.int z225)) h292 rfl (by omega) (by omega) rfl rfl rfl rfl (by omega) (by omega) (by omega) Jh292
                        · exfalso; omega
                      · exfalso; omega
                    · replace c279 : 1 ≤ z278.toInt ∧ z278.toInt ≤ 1 := by omega
                      refine hq_p rfl rfl ?_
                      refine hq_gR Ih277.1 rfl rfl (by decide) (by decide) rfl ?_
                      refine hq_p rfl rfl (ty_ge (n := 26) nk_b26 (fun z297 ez297 => ?_))
                      refine hq_p rfl rfl ?_
                      refine hq_p rfl rfl (ty_ge (n := z297.toInt + z212.toInt) (nm_add (by omega) (by omega)) (fun z298 ez298 => ?_))
                      refine hq_p rfl rfl ?_
                      refine ty_aS (W := ty_Wz) H Jh277 rfl rfl (by decide) (by omega) (by omega) (fun i e => by unfold ty_Wz; omega) (fun i e => ty_eg (ty_w26 (by omega) (by omega))) (by omega) (by omega) (fun e1 e2 w => by omega) (fun h299 eh299 Jh299 => ?_)
                      have Ih299 := H.1 h299 Jh299
                      refine hq_p rfl rfl ?_
                      refine hq_gR Ih299.1 rfl rfl (by decide) (by decide) rfl ?_
                      refine hq_p rfl rfl (ty_ge (n := 26) nk_b26 (fun z300 ez300 => ?_))
                      refine hq_p rfl rfl ?_
                      refine hq_p rfl rfl (ty_ge (n := z300.toInt + z212.toInt) (nm_add (by omega) (by omega)) (fun z301 ez301 => ?_))
                      refine hq_p rfl rfl ?_
                      refine hq_p rfl rfl (ty_ge (n := 1) nk_i1 (fun z302 ez302 => ?_))
                      refine ty_ine rfl (fun c303 => ?_) (fun c303 => ?_)
                      · clear c303
                        refine hq_p rfl rfl ?_
                        refine hq_gR Ih299.1 rfl rfl (by decide) (by decide) rfl ?_
                        refine hq_p rfl rfl (ty_ge (n := 26) nk_b26 (fun z304 ez304 => ?_))
                        refine hq_p rfl rfl ?_
                        refine hq_p rfl rfl (ty_ge (n := z304.toInt + z212.toInt) (nm_add (by omega) (by omega)) (fun z305 ez305 => ?_))
                        refine ty_aL Ih299 rfl rfl (by decide) (by omega) (by omega) (fun i e => ty_le (ty_w26 (by omega) (by omega))) (fun z306 ez306 az306 bz306 => ?_)
                        refine ty_aS (W := ty_Wz) H Jh299 rfl rfl (by decide) (by omega) (by omega) (fun i e => by unfold ty_Wz; omega) (fun i e => ty_eg (ty_w26 (by omega) (by omega))) (by omega) (by omega) (fun e1 e2 w => by omega) (fun h307 eh307 Jh307 => ?_)
                        have Ih307 := H.1 h307 Jh307
                        refine hq_p rfl rfl ?_
                        refine hq_p rfl rfl (ty_ge (n := 2) nk_i2 (fun z308 ez308 => ?_))
                        refine ty_ine rfl (fun c309 => ?_) (fun c309 => ?_)
                        · clear c309
                          refine hq_p rfl rfl ?_
                          have r310 : (hs_aI h299 99 5).toInt = (hs_aI h277 99 5).toInt := by rw [eh299]; exact congrArg Int32.toInt (ty_aI_sA (by omega))
                          have r311 : (hs_aI h307 99 5).toInt = (hs_aI h299 99 5).toInt := by rw [eh307]; exact congrArg Int32.toInt (ty_aI_sA (by omega))
                          have r314 : (hs_aI h299 99 9).toInt = (hs_aI h277 99 9).toInt := by rw [eh299]; exact congrArg Int32.toInt (ty_aI_sA (by omega))
                          have r315 : (hs_aI h307 99 9).toInt = (hs_aI h299 99 9).toInt := by rw [eh307]; exact congrArg Int32.toInt (ty_aI_sA (by omega))
                          have r316 : (hs_aI h299 99 0).toInt = (hs_aI h277 99 0).toInt := by rw [eh299]; exact congrArg Int32.toInt (ty_aI_sA (by omega))
                          have r317 : (hs_aI h307 99 0).toInt = (hs_aI h299 99 0).toInt := by rw [eh307]; exact congrArg Int32.toInt (ty_aI_sA (by omega))
                          have r318 : (hs_aI h299 99 1).toInt = (hs_aI h277 99 1).toInt := by rw [eh299]; exact congrArg Int32.toInt (ty_aI_sA (by omega))
                          have r319 : (hs_aI h307 99 1).toInt = (hs_aI h299 99 1).toInt := by rw [eh307]; exact congrArg Int32.toInt (ty_aI_sA (by omega))
                          refine ty_callm 0 [(1, 99, 9), (1, 99, 0), (1, 99, 1)] (W := ty_Wz) H Jh307 rfl (fun _ => rfl) rfl rfl rfl (hq_pre_o Ih307.1 (x := 97) (ci := 11) rfl (by decide) rfl rfl rfl rfl) (fun a k w => by unfold ty_Whz at w; unfold ty_Wz; omega) (by unfold ty_Whz ty_Wz; omega) (ct_219c (by omega) (by omega) (by omega)) ⟨⟨rfl, show ¬ ty_Whz 99 9 by unfold ty_Whz; omega⟩, ⟨rfl, show ¬ ty_Whz 99 0 by unfold ty_Whz; omega⟩, ⟨rfl, show ¬ ty_Whz 99 1 by unfold ty_Whz; omega⟩, trivial⟩ (fun h313 _ Jh313 gh313 P312 => ?_)
                          obtain ⟨gh313_0, gh313_1, gh313_2, _⟩ := gh313
                          have gh313_0 : (hs_aI h313 99 9).toInt = (hs_aI h307 99 9).toInt := gh313_0
                          have gh313_1 : (hs_aI h313 99 0).toInt = (hs_aI h307 99 0).toInt := gh313_1
                          have gh313_2 : (hs_aI h313 99 1).toInt = (hs_aI h307 99 1).toInt := gh313_2
                          have Ih313 := H.1 h313 Jh313
                          subst P312
                          refine ty_inc (ls' := fun z320 => [some (.ref 97), some (.int x1), some (.int x2), some (.int z39), some (.int z320), some (.int z212), some (.int z217), some (.int z221), some (.int z225)]) rfl rfl (fun _ => rfl) (nm_addc nk_i1 (by omega) (by omega)) (fun z320 ez320 => ?_)
                          refine hq_p rfl rfl ?_
                          exact ihn61 ((60 - z320.toInt).toNat) (by omega) z320 (some (.int z212)) (some (.int z217)) (some (.int z221)) (some (.int z225)) h313 rfl (by omega) (by omega) rfl rfl rfl rfl (by omega) (by omega) (by omega) Jh313
                        · exfalso; omega
                      · exfalso; omega
          exact L83_n61 _ z40 none none none none h37 rfl (by omega) (by omega) rfl rfl rfl rfl (by omega) (by omega) (by omega) Jh37
        · refine hq_p rfl rfl ?_
          refine hq_p rfl rfl (ty_ge (n := -3) nk_bm3 (fun z321 ez321 => ?_))
          refine ty_callj 0 (W := ty_Wz) H Jh2 rfl (fun _ => rfl) rfl rfl rfl (hq_pre_o Ih2.1 (x := 97) (ci := 11) rfl (by decide) rfl rfl rfl rfl) (fun a k w => by unfold ty_Wt at w; unfold ty_Wz; omega) (by unfold ty_Wt ty_Wz; omega) (ct_140 (x1 := z321) (by omega) (by omega) (by omega)) (fun h323 _ Jh323 P322 => ?_)
          have Ih323 := H.1 h323 Jh323
          obtain ⟨z324, rfl, fz324⟩ := P322
          exact hq_W.ret rfl rfl rfl ⟨Jh323, _, rfl, by omega, by omega⟩
    · clear iz18
      refine hq_p rfl rfl ?_
      refine hq_p rfl rfl (ty_ge (n := -1) nk_im1 (fun z325 ez325 => ?_))
      refine ty_callj 0 (W := ty_Wz) H Jh2 rfl (fun _ => rfl) rfl rfl rfl (hq_pre_o Ih2.1 (x := 97) (ci := 11) rfl (by decide) rfl rfl rfl rfl) (fun a k w => by unfold ty_Wt at w; unfold ty_Wz; omega) (by unfold ty_Wt ty_Wz; omega) (ct_140 (x1 := z325) (by omega) (by omega) (by omega)) (fun h327 _ Jh327 P326 => ?_)
      have Ih327 := H.1 h327 Jh327
      obtain ⟨z328, rfl, fz328⟩ := P326
      exact hq_W.ret rfl rfl rfl ⟨Jh327, _, rfl, by omega, by omega⟩
end CT33
