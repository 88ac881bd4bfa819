/-! CONTRACTS (printed by wip/pm/cts.py) -/
section CT41
theorem ct_120m {X : pm_X} {d : Nat} {h : pm_H} {x1 : Int32} (hd : 2 ≤ d) (ax1 : (-2147483648) ≤ x1.toInt) (bx1 : x1.toInt ≤ (-1)) : ty_M X ty_Wc d 120 [.ref 0, .int x1] h (fun _ v => ∃ z : Int32, v = some (.int z) ∧ (z.toInt = -1)) := by
  intro J H hJ
  obtain ⟨d, rfl⟩ : ∃ e, d = e + 1 := ⟨d - 1, by omega⟩
  have I := H.1 h hJ
  refine hq_M.enter (q := (⟨"TrainBearers", "image", "(I)I"⟩, _, 2, some .int, 10, 2, pm_c120)) rfl rfl ?_
  show hq_W X d 10 false (some .int) pm_c120 (0, [some (.ref 0), some (.int x1)], [], h) (fun h' v => J h' ∧ (fun _ v => ∃ z : Int32, v = some (.int z) ∧ (z.toInt = -1)) h' v)
  refine hq_p rfl rfl ?_
  refine ty_zlt rfl (fun c1 => ?_) (fun c1 => ?_)
  · refine hq_p rfl rfl ?_
    refine hq_p rfl rfl (ty_ge (n := -1) nk_im1 (fun z2 ez2 => ?_))
    refine ty_callj 0 (W := ty_Wc) H hJ rfl (fun _ => rfl) rfl rfl rfl (hq_pre_o I.1 (x := 0) (ci := 10) rfl (by decide) rfl rfl rfl rfl) (fun _ _ w => w) (fun _ w => w) (ct_125 (x1 := z2) (by omega)) (fun h4 _ Jh4 P3 => ?_)
    have Ih4 := H.1 h4 Jh4
    obtain ⟨z5, rfl, fz5⟩ := P3
    exact hq_W.ret rfl rfl rfl ⟨Jh4, _, rfl, by omega⟩
  · exfalso; omega
theorem ct_120q {X : pm_X} {d : Nat} {h : pm_H} {x1 : Int32} (hd : 2 ≤ d) (ax1 : 2 ≤ x1.toInt) (bx1 : x1.toInt ≤ 2147483647) : ty_M X ty_Wc d 120 [.ref 0, .int x1] h (fun _ v => ∃ z : Int32, v = some (.int z) ∧ (z.toInt = -1)) := by
  intro J H hJ
  obtain ⟨d, rfl⟩ : ∃ e, d = e + 1 := ⟨d - 1, by omega⟩
  have I := H.1 h hJ
  refine hq_M.enter (q := (⟨"TrainBearers", "image", "(I)I"⟩, _, 2, some .int, 10, 2, pm_c120)) rfl rfl ?_
  show hq_W X d 10 false (some .int) pm_c120 (0, [some (.ref 0), some (.int x1)], [], h) (fun h' v => J h' ∧ (fun _ v => ∃ z : Int32, v = some (.int z) ∧ (z.toInt = -1)) h' v)
  refine hq_p rfl rfl ?_
  refine ty_zlt rfl (fun c1 => ?_) (fun c1 => ?_)
  · exfalso; omega
  · refine hq_p rfl rfl ?_
    refine hq_p rfl rfl (ty_ge (n := 2) nk_i2 (fun z2 ez2 => ?_))
    refine ty_ilt rfl (fun c3 => ?_) (fun c3 => ?_)
    · exfalso; omega
    · refine hq_p rfl rfl ?_
      refine hq_p rfl rfl (ty_ge (n := -1) nk_im1 (fun z4 ez4 => ?_))
      refine ty_callj 0 (W := ty_Wc) H hJ rfl (fun _ => rfl) rfl rfl rfl (hq_pre_o I.1 (x := 0) (ci := 10) rfl (by decide) rfl rfl rfl rfl) (fun _ _ w => w) (fun _ w => w) (ct_125 (x1 := z4) (by omega)) (fun h6 _ Jh6 P5 => ?_)
      have Ih6 := H.1 h6 Jh6
      obtain ⟨z7, rfl, fz7⟩ := P5
      exact hq_W.ret rfl rfl rfl ⟨Jh6, _, rfl, by omega⟩
theorem ct_121m {X : pm_X} {d : Nat} {h : pm_H} {x1 : Int32} (hd : 2 ≤ d) (ax1 : (-2147483648) ≤ x1.toInt) (bx1 : x1.toInt ≤ (-1)) : ty_M X ty_Wc d 121 [.ref 0, .int x1] h (fun _ v => ∃ z : Int32, v = some (.int z) ∧ (z.toInt = -1)) := by
  intro J H hJ
  obtain ⟨d, rfl⟩ : ∃ e, d = e + 1 := ⟨d - 1, by omega⟩
  have I := H.1 h hJ
  refine hq_M.enter (q := (⟨"TrainBearers", "back", "(I)I"⟩, _, 2, some .int, 10, 2, pm_c121)) rfl rfl ?_
  show hq_W X d 10 false (some .int) pm_c121 (0, [some (.ref 0), some (.int x1)], [], h) (fun h' v => J h' ∧ (fun _ v => ∃ z : Int32, v = some (.int z) ∧ (z.toInt = -1)) h' v)
  refine hq_p rfl rfl ?_
  refine ty_zlt rfl (fun c1 => ?_) (fun c1 => ?_)
  · refine hq_p rfl rfl ?_
    refine hq_p rfl rfl (ty_ge (n := -1) nk_im1 (fun z2 ez2 => ?_))
    refine ty_callj 0 (W := ty_Wc) H hJ rfl (fun _ => rfl) rfl rfl rfl (hq_pre_o I.1 (x := 0) (ci := 10) rfl (by decide) rfl rfl rfl rfl) (fun _ _ w => w) (fun _ w => w) (ct_125 (x1 := z2) (by omega)) (fun h4 _ Jh4 P3 => ?_)
    have Ih4 := H.1 h4 Jh4
    obtain ⟨z5, rfl, fz5⟩ := P3
    exact hq_W.ret rfl rfl rfl ⟨Jh4, _, rfl, by omega⟩
  · exfalso; omega
theorem ct_121q {X : pm_X} {d : Nat} {h : pm_H} {x1 : Int32} (hd : 2 ≤ d) (ax1 : 2 ≤ x1.toInt) (bx1 : x1.toInt ≤ 2147483647) : ty_M X ty_Wc d 121 [.ref 0, .int x1] h (fun _ v => ∃ z : Int32, v = some (.int z) ∧ (z.toInt = -1)) := by
  intro J H hJ
  obtain ⟨d, rfl⟩ : ∃ e, d = e + 1 := ⟨d - 1, by omega⟩
  have I := H.1 h hJ
  refine hq_M.enter (q := (⟨"TrainBearers", "back", "(I)I"⟩, _, 2, some .int, 10, 2, pm_c121)) rfl rfl ?_
  show hq_W X d 10 false (some .int) pm_c121 (0, [some (.ref 0), some (.int x1)], [], h) (fun h' v => J h' ∧ (fun _ v => ∃ z : Int32, v = some (.int z) ∧ (z.toInt = -1)) h' v)
  refine hq_p rfl rfl ?_
  refine ty_zlt rfl (fun c1 => ?_) (fun c1 => ?_)
  · exfalso; omega
  · refine hq_p rfl rfl ?_
    refine hq_p rfl rfl (ty_ge (n := 2) nk_i2 (fun z2 ez2 => ?_))
    refine ty_ilt rfl (fun c3 => ?_) (fun c3 => ?_)
    · exfalso; omega
    · refine hq_p rfl rfl ?_
      refine hq_p rfl rfl (ty_ge (n := -1) nk_im1 (fun z4 ez4 => ?_))
      refine ty_callj 0 (W := ty_Wc) H hJ rfl (fun _ => rfl) rfl rfl rfl (hq_pre_o I.1 (x := 0) (ci := 10) rfl (by decide) rfl rfl rfl rfl) (fun _ _ w => w) (fun _ w => w) (ct_125 (x1 := z4) (by omega)) (fun h6 _ Jh6 P5 => ?_)
      have Ih6 := H.1 h6 Jh6
      obtain ⟨z7, rfl, fz7⟩ := P5
      exact hq_W.ret rfl rfl rfl ⟨Jh6, _, rfl, by omega⟩
theorem ct_120a0 {X : pm_X} {d : Nat} {h : pm_H} {x1 : Int32} (hd : 2 ≤ d) (ax1 : 0 ≤ x1.toInt) (bx1 : x1.toInt ≤ 0) (hn : hs_fR h 0 0 = 1) (hp : hs_fR h 0 1 = 12) : ty_M X (ty_Win 46 0) d 120 [.ref 0, .int x1] h (fun h1 v => ∃ z : Int32, v = some (.int z) ∧ z.toInt = 0 ∧ (hs_fI h1 35 0).toInt = (hs_fI h 1 0).toInt ∧ (hs_fI h1 35 3).toInt = (hs_fI h 1 3).toInt ∧ (hs_fI h1 35 10).toInt = (hs_fI h 1 10).toInt ∧ (hs_aI h1 57 0).toInt = 1 ∧ (hs_aI h1 57 1).toInt = (hs_aI h 57 1).toInt) := by
  intro J0 H0 hJ0
  obtain ⟨J, eJ⟩ : ∃ J : pm_H → Prop, J = fun h' => J0 h' ∧ hs_fR h' 0 0 = 1 ∧ hs_fR h' 0 1 = 12 := ⟨_, rfl⟩
  have H : ty_C (ty_Win 46 0) J := by rw [eJ]; exact H0.refs 1 12
  have hJ : J h := by rw [eJ]; exact ⟨hJ0, hn, hp⟩
  refine hq_M.mono (Nat.le_refl _) (Q := fun h' v => J h' ∧ (fun h1 v => ∃ z : Int32, v = some (.int z) ∧ z.toInt = 0 ∧ (hs_fI h1 35 0).toInt = (hs_fI h 1 0).toInt ∧ (hs_fI h1 35 3).toInt = (hs_fI h 1 3).toInt ∧ (hs_fI h1 35 10).toInt = (hs_fI h 1 10).toInt ∧ (hs_aI h1 57 0).toInt = 1 ∧ (hs_aI h1 57 1).toInt = (hs_aI h 57 1).toInt) h' v) (fun h' v q => ⟨by have q1 := q.1; rw [eJ] at q1; exact q1.1, q.2⟩) ?_
  have p1 : ty_tr 1 := by simp [ty_tr]
  have l1 := ty_trl p1
  have p12 : ty_tr 12 := by simp [ty_tr]
  have l12 := ty_trl p12
  have p35 : ty_tr 35 := by simp [ty_tr]
  have l35 := ty_trl p35
  have p46 : ty_tr 46 := by simp [ty_tr]
  have l46 := ty_trl p46
  obtain ⟨d, rfl⟩ : ∃ e, d = e + 1 := ⟨d - 1, by omega⟩
  have I := H.1 h hJ
  refine hq_M.enter (q := (⟨"TrainBearers", "image", "(I)I"⟩, _, 2, some .int, 10, 2, pm_c120)) rfl rfl ?_
  show hq_W X d 10 false (some .int) pm_c120 (0, [some (.ref 0), some (.int x1)], [], h) (fun h' v => J h' ∧ (fun h1 v => ∃ z : Int32, v = some (.int z) ∧ z.toInt = 0 ∧ (hs_fI h1 35 0).toInt = (hs_fI h 1 0).toInt ∧ (hs_fI h1 35 3).toInt = (hs_fI h 1 3).toInt ∧ (hs_fI h1 35 10).toInt = (hs_fI h 1 10).toInt ∧ (hs_aI h1 57 0).toInt = 1 ∧ (hs_aI h1 57 1).toInt = (hs_aI h 57 1).toInt) h' v)
  refine hq_p rfl rfl ?_
  refine ty_zlt rfl (fun c1 => ?_) (fun c1 => ?_)
  · exfalso; omega
  · refine hq_p rfl rfl ?_
    refine hq_p rfl rfl (ty_ge (n := 2) nk_i2 (fun z2 ez2 => ?_))
    refine ty_ilt rfl (fun c3 => ?_) (fun c3 => ?_)
    · refine hq_p rfl rfl ?_
      refine hq_gR I.1 rfl rfl (by decide) (by decide) rfl ?_
      refine hq_p rfl rfl ?_
      refine ty_im0 I rfl (by omega) ?_
      refine hq_p rfl rfl ?_
      refine ty_gT (t := 1) I rfl rfl (by decide) (by decide) rfl (by have q := hJ; rw [eJ] at q; exact q.2.1) (fun _ => ?_)
      refine ty_callm 0 [(3, 57, 0)] (W := (ty_Win 46 0)) H hJ rfl (fun _ => rfl) rfl rfl rfl (hq_pre_o I.1 (x := 35) (ci := 8) (ty_trs p35) (by omega) rfl rfl rfl rfl) (fun a k w => by unfold ty_Wtr at w; unfold ty_Win; omega) (by unfold ty_Wtr ty_Win; omega) (ct_68 (t0 := 35) (t1 := 1) (by omega) p35 p1 (by decide)) ⟨⟨rfl, fun k => show ¬ (ty_Wtr 35) 57 k by unfold ty_Wtr; omega⟩, trivial⟩ (fun h5 _ Jh5 gh5 P4 => ?_)
      obtain ⟨gh5_0, _⟩ := gh5
      have gh5_0 : hs_aI h5 57 = hs_aI h 57 := gh5_0
      have ugh5_0 : hs_aI h5 57 = (hs_aI h 57) := gh5_0.trans rfl
      have Ih5 := H.1 h5 Jh5
      obtain ⟨rfl, c6a, c6b, c6c⟩ := P4
      obtain ⟨q7, eq7⟩ : ∃ q : Int32, q.toInt = (hs_fI h5 35 0).toInt := ⟨_, rfl⟩
      have aq7 : 0 ≤ (hs_fI h5 35 0).toInt := (Ih5.2.1 35 0 (by decide)).1
      have bq7 : (hs_fI h5 35 0).toInt ≤ 8 := (Ih5.2.1 35 0 (by decide)).2
      obtain ⟨q8, eq8⟩ : ∃ q : Int32, q.toInt = (hs_fI h5 35 3).toInt := ⟨_, rfl⟩
      have aq8 : 0 ≤ (hs_fI h5 35 3).toInt := (Ih5.2.1 35 3 (by decide)).1
      have bq8 : (hs_fI h5 35 3).toInt ≤ 8 := (Ih5.2.1 35 3 (by decide)).2
      obtain ⟨q9, eq9⟩ : ∃ q : Int32, q.toInt = (hs_fI h5 35 10).toInt := ⟨_, rfl⟩
      have aq9 : 0 ≤ (hs_fI h5 35 10).toInt := (Ih5.2.1 35 10 (by decide)).1
      have bq9 : (hs_fI h5 35 10).toInt ≤ 6 := (Ih5.2.1 35 10 (by decide)).2
      refine hq_p rfl rfl ?_
      refine hq_gR Ih5.1 rfl rfl (by decide) (by decide) rfl ?_
      refine hq_p rfl rfl ?_
      refine hq_p rfl rfl (ty_ge (n := 1) nk_i1 (fun z10 ez10 => ?_))
      refine ty_bS (W := (ty_Win 46 0)) H Jh5 rfl rfl (by decide) (by omega) (by omega) (fun i e => by unfold ty_Win; omega) (fun _ => rfl) (by omega) (fun h11 eh11 Jh11 => ?_)
      have vh11_57 : hs_aI h11 57 = (upd (hs_aI h 57) x1.toInt.toNat (z10 &&& 1)) := by rw [eh11, hs_aI_sA, ugh5_0]
      have Ih11 := H.1 h11 Jh11
      refine hq_p rfl rfl ?_
      refine hq_p rfl rfl (ty_ge (n := 0) nk_i0 (fun z12 ez12 => ?_))
      have r15 : (hs_fI h11 35 0).toInt = (hs_fI h5 35 0).toInt := by rw [eh11]; exact congrArg Int32.toInt (ty_fI_ne (by omega))
      have r16 : (hs_fI h11 35 3).toInt = (hs_fI h5 35 3).toInt := by rw [eh11]; exact congrArg Int32.toInt (ty_fI_ne (by omega))
      have r17 : (hs_fI h11 35 10).toInt = (hs_fI h5 35 10).toInt := by rw [eh11]; exact congrArg Int32.toInt (ty_fI_ne (by omega))
      refine ty_callm 0 [(0, 35, 0), (0, 35, 3), (0, 35, 10), (3, 57, 0)] (W := (ty_Win 46 0)) H Jh11 rfl (fun _ => rfl) rfl rfl rfl (hq_pre_o Ih11.1 (x := 0) (ci := 10) rfl (by decide) rfl rfl rfl rfl) (fun a k w => by unfold ty_Wc at w; unfold ty_Win; omega) (by unfold ty_Wc ty_Win; omega) (ct_126 (x1 := z12) (by omega)) ⟨⟨rfl, show ¬ ty_Wc 35 0 by unfold ty_Wc; omega⟩, ⟨rfl, show ¬ ty_Wc 35 3 by unfold ty_Wc; omega⟩, ⟨rfl, show ¬ ty_Wc 35 10 by unfold ty_Wc; omega⟩, ⟨rfl, fun k => show ¬ ty_Wc 57 k by unfold ty_Wc; omega⟩, trivial⟩ (fun h14 _ Jh14 gh14 P13 => ?_)
      obtain ⟨gh14_0, gh14_1, gh14_2, gh14_3, _⟩ := gh14
      have gh14_0 : (hs_fI h14 35 0).toInt = (hs_fI h11 35 0).toInt := gh14_0
      have gh14_1 : (hs_fI h14 35 3).toInt = (hs_fI h11 35 3).toInt := gh14_1
      have gh14_2 : (hs_fI h14 35 10).toInt = (hs_fI h11 35 10).toInt := gh14_2
      have gh14_3 : hs_aI h14 57 = hs_aI h11 57 := gh14_3
      have ugh14_3 : hs_aI h14 57 = (upd (hs_aI h 57) x1.toInt.toNat (z10 &&& 1)) := gh14_3.trans vh11_57
      have Ih14 := H.1 h14 Jh14
      obtain ⟨z18, rfl, fz18⟩ := P13
      exact hq_W.ret rfl rfl rfl ⟨Jh14, _, rfl, by omega, by omega, by omega, by omega, (by rw [ugh14_3]; exact im_u1 (by omega) (by omega)), (by rw [ugh14_3]; exact im_u0 (by omega))⟩
    · exfalso; omega
theorem ct_121a0 {X : pm_X} {d : Nat} {h : pm_H} {x1 : Int32} (hd : 2 ≤ d) (ax1 : 0 ≤ x1.toInt) (bx1 : x1.toInt ≤ 0) (hn : hs_fR h 0 0 = 1) (hp : hs_fR h 0 1 = 12) : ty_M X ty_Wbn d 121 [.ref 0, .int x1] h (fun h1 v => ∃ z : Int32, v = some (.int z) ∧ cn_bk (hs_aI h 57 0).toInt z.toInt (hs_fI h1 1 0).toInt (hs_fI h1 1 3).toInt (hs_fI h1 1 10).toInt (hs_fI h 1 0).toInt (hs_fI h 1 3).toInt (hs_fI h 1 10).toInt (hs_fI h 35 0).toInt (hs_fI h 35 3).toInt (hs_fI h 35 10).toInt) := by
  intro J0 H0 hJ0
  obtain ⟨J, eJ⟩ : ∃ J : pm_H → Prop, J = fun h' => J0 h' ∧ hs_fR h' 0 0 = 1 ∧ hs_fR h' 0 1 = 12 := ⟨_, rfl⟩
  have H : ty_C ty_Wbn J := by rw [eJ]; exact H0.refs 1 12
  have hJ : J h := by rw [eJ]; exact ⟨hJ0, hn, hp⟩
  refine hq_M.mono (Nat.le_refl _) (Q := fun h' v => J h' ∧ (fun h1 v => ∃ z : Int32, v = some (.int z) ∧ cn_bk (hs_aI h 57 0).toInt z.toInt (hs_fI h1 1 0).toInt (hs_fI h1 1 3).toInt (hs_fI h1 1 10).toInt (hs_fI h 1 0).toInt (hs_fI h 1 3).toInt (hs_fI h 1 10).toInt (hs_fI h 35 0).toInt (hs_fI h 35 3).toInt (hs_fI h 35 10).toInt) h' v) (fun h' v q => ⟨by have q1 := q.1; rw [eJ] at q1; exact q1.1, q.2⟩) ?_
  have p1 : ty_tr 1 := by simp [ty_tr]
  have l1 := ty_trl p1
  have p12 : ty_tr 12 := by simp [ty_tr]
  have l12 := ty_trl p12
  have p35 : ty_tr 35 := by simp [ty_tr]
  have l35 := ty_trl p35
  have p46 : ty_tr 46 := by simp [ty_tr]
  have l46 := ty_trl p46
  obtain ⟨d, rfl⟩ : ∃ e, d = e + 1 := ⟨d - 1, by omega⟩
  have I := H.1 h hJ
  obtain ⟨q0, eq0⟩ : ∃ q : Int32, q.toInt = (hs_fI h 1 0).toInt := ⟨_, rfl⟩
  have gq00 : 0 ≤ (hs_fI h 1 0).toInt := (I.2.1 1 0 (by decide)).1
  have gq01 : (hs_fI h 1 0).toInt ≤ 8 := (I.2.1 1 0 (by decide)).2
  obtain ⟨q3, eq3⟩ : ∃ q : Int32, q.toInt = (hs_fI h 1 3).toInt := ⟨_, rfl⟩
  have gq30 : 0 ≤ (hs_fI h 1 3).toInt := (I.2.1 1 3 (by decide)).1
  have gq31 : (hs_fI h 1 3).toInt ≤ 8 := (I.2.1 1 3 (by decide)).2
  obtain ⟨q10, eq10⟩ : ∃ q : Int32, q.toInt = (hs_fI h 1 10).toInt := ⟨_, rfl⟩
  have gq100 : 0 ≤ (hs_fI h 1 10).toInt := (I.2.1 1 10 (by decide)).1
  have gq101 : (hs_fI h 1 10).toInt ≤ 6 := (I.2.1 1 10 (by decide)).2
  refine hq_M.enter (q := (⟨"TrainBearers", "back", "(I)I"⟩, _, 2, some .int, 10, 2, pm_c121)) rfl rfl ?_
  show hq_W X d 10 false (some .int) pm_c121 (0, [some (.ref 0), some (.int x1)], [], h) (fun h' v => J h' ∧ (fun h1 v => ∃ z : Int32, v = some (.int z) ∧ cn_bk (hs_aI h 57 0).toInt z.toInt (hs_fI h1 1 0).toInt (hs_fI h1 1 3).toInt (hs_fI h1 1 10).toInt (hs_fI h 1 0).toInt (hs_fI h 1 3).toInt (hs_fI h 1 10).toInt (hs_fI h 35 0).toInt (hs_fI h 35 3).toInt (hs_fI h 35 10).toInt) h' v)
  refine hq_p rfl rfl ?_
  refine ty_zlt rfl (fun c1 => ?_) (fun c1 => ?_)
  · exfalso; omega
  · refine hq_p rfl rfl ?_
    refine hq_p rfl rfl (ty_ge (n := 2) nk_i2 (fun z2 ez2 => ?_))
    refine ty_ilt rfl (fun c3 => ?_) (fun c3 => ?_)
    · refine hq_p rfl rfl ?_
      refine hq_gR I.1 rfl rfl (by decide) (by decide) rfl ?_
      refine hq_p rfl rfl ?_
      refine ty_bLe I rfl rfl (by decide) (by omega) (by omega) (fun z4 ez4 az4 bz4 => ?_)
      rw [show x1.toInt.toNat = 0 by omega] at ez4
      refine ty_zne rfl (fun c5 => ?_) (fun c5 => ?_)
      · replace c5 : z4.toInt ≠ 0 := by omega
        refine hq_p rfl rfl ?_
        refine ty_gT (t := 1) I rfl rfl (by decide) (by decide) rfl (by have q := hJ; rw [eJ] at q; exact q.2.1) (fun _ => ?_)
        refine hq_p rfl rfl ?_
        refine hq_gR I.1 rfl rfl (by decide) (by decide) rfl ?_
        refine hq_p rfl rfl ?_
        refine ty_im0 I rfl (by omega) ?_
        refine ty_callj 0 (W := ty_Wbn) H hJ rfl (fun _ => rfl) rfl rfl rfl (hq_pre_o I.1 (x := 1) (ci := 8) (ty_trs p1) (by omega) rfl rfl rfl rfl) (fun a k w => by unfold ty_Wtr at w; unfold ty_Wbn; omega) (by unfold ty_Wtr ty_Wbn; omega) (ct_68 (t0 := 1) (t1 := 35) (by omega) p1 p35 (by decide)) (fun h7 _ Jh7 P6 => ?_)
        have Ih7 := H.1 h7 Jh7
        obtain ⟨rfl, c8a, c8b, c8c⟩ := P6
        obtain ⟨q9, eq9⟩ : ∃ q : Int32, q.toInt = (hs_fI h7 1 0).toInt := ⟨_, rfl⟩
        have aq9 : 0 ≤ (hs_fI h7 1 0).toInt := (Ih7.2.1 1 0 (by decide)).1
        have bq9 : (hs_fI h7 1 0).toInt ≤ 8 := (Ih7.2.1 1 0 (by decide)).2
        obtain ⟨q10, eq10⟩ : ∃ q : Int32, q.toInt = (hs_fI h7 1 3).toInt := ⟨_, rfl⟩
        have aq10 : 0 ≤ (hs_fI h7 1 3).toInt := (Ih7.2.1 1 3 (by decide)).1
        have bq10 : (hs_fI h7 1 3).toInt ≤ 8 := (Ih7.2.1 1 3 (by decide)).2
        obtain ⟨q11, eq11⟩ : ∃ q : Int32, q.toInt = (hs_fI h7 1 10).toInt := ⟨_, rfl⟩
        have aq11 : 0 ≤ (hs_fI h7 1 10).toInt := (Ih7.2.1 1 10 (by decide)).1
        have bq11 : (hs_fI h7 1 10).toInt ≤ 6 := (Ih7.2.1 1 10 (by decide)).2
        refine hq_p rfl rfl ?_
        obtain ⟨t12, kt12⟩ : ∃ q, hs_fR h7 0 5 = q := ⟨_, rfl⟩
        refine ty_gS Ih7 rfl rfl (by decide) (by decide) rfl kt12 (fun ot12 => ?_)
        have pt12 : ty_sp t12 := ot12
        have lt12 := ty_spl pt12
        clear ot12
        refine ty_callm 0 [(0, 1, 0), (0, 1, 3), (0, 1, 10)] (W := ty_Wbn) H Jh7 rfl (fun _ => rfl) rfl rfl rfl (hq_pre_o Ih7.1 (x := t12) (ci := 5) (ty_sps pt12) (by omega) rfl rfl rfl rfl) (fun a k w => by unfold ty_Wc at w; unfold ty_Wbn; omega) (by unfold ty_Wc ty_Wbn; omega) (ct_53 (t0 := t12) (by omega) pt12) ⟨⟨rfl, show ¬ ty_Wc 1 0 by unfold ty_Wc; omega⟩, ⟨rfl, show ¬ ty_Wc 1 3 by unfold ty_Wc; omega⟩, ⟨rfl, show ¬ ty_Wc 1 10 by unfold ty_Wc; omega⟩, trivial⟩ (fun h14 _ Jh14 gh14 P13 => ?_)
        obtain ⟨gh14_0, gh14_1, gh14_2, _⟩ := gh14
        have gh14_0 : (hs_fI h14 1 0).toInt = (hs_fI h7 1 0).toInt := gh14_0
        have gh14_1 : (hs_fI h14 1 3).toInt = (hs_fI h7 1 3).toInt := gh14_1
        have gh14_2 : (hs_fI h14 1 10).toInt = (hs_fI h7 1 10).toInt := gh14_2
        have Ih14 := H.1 h14 Jh14
        subst P13
        refine hq_p rfl rfl ?_
        refine hq_p rfl rfl (ty_ge (n := 0) nk_i0 (fun z15 ez15 => ?_))
        refine ty_callm 0 [(0, 1, 0), (0, 1, 3), (0, 1, 10)] (W := ty_Wbn) H Jh14 rfl (fun _ => rfl) rfl rfl rfl (hq_pre_o Ih14.1 (x := 0) (ci := 10) rfl (by decide) rfl rfl rfl rfl) (fun a k w => by unfold ty_Wc at w; unfold ty_Wbn; omega) (by unfold ty_Wc ty_Wbn; omega) (ct_126 (x1 := z15) (by omega)) ⟨⟨rfl, show ¬ ty_Wc 1 0 by unfold ty_Wc; omega⟩, ⟨rfl, show ¬ ty_Wc 1 3 by unfold ty_Wc; omega⟩, ⟨rfl, show ¬ ty_Wc 1 10 by unfold ty_Wc; omega⟩, trivial⟩ (fun h17 _ Jh17 gh17 P16 => ?_)
        obtain ⟨gh17_0, gh17_1, gh17_2, _⟩ := gh17
        have gh17_0 : (hs_fI h17 1 0).toInt = (hs_fI h14 1 0).toInt := gh17_0
        have gh17_1 : (hs_fI h17 1 3).toInt = (hs_fI h14 1 3).toInt := gh17_1
        have gh17_2 : (hs_fI h17 1 10).toInt = (hs_fI h14 1 10).toInt := gh17_2
        have Ih17 := H.1 h17 Jh17
        obtain ⟨z18, rfl, fz18⟩ := P16
        exact hq_W.ret rfl rfl rfl ⟨Jh17, _, rfl, by unfold cn_bk; omega⟩
      · refine hq_p rfl rfl ?_
        refine hq_p rfl rfl (ty_ge (n := -2) nk_bm2 (fun z19 ez19 => ?_))
        refine ty_callm 0 [(0, 1, 0), (0, 1, 3), (0, 1, 10)] (W := ty_Wbn) H hJ rfl (fun _ => rfl) rfl rfl rfl (hq_pre_o I.1 (x := 0) (ci := 10) rfl (by decide) rfl rfl rfl rfl) (fun a k w => by unfold ty_Wc at w; unfold ty_Wbn; omega) (by unfold ty_Wc ty_Wbn; omega) (ct_125 (x1 := z19) (by omega)) ⟨⟨rfl, show ¬ ty_Wc 1 0 by unfold ty_Wc; omega⟩, ⟨rfl, show ¬ ty_Wc 1 3 by unfold ty_Wc; omega⟩, ⟨rfl, show ¬ ty_Wc 1 10 by unfold ty_Wc; omega⟩, trivial⟩ (fun h21 _ Jh21 gh21 P20 => ?_)
        obtain ⟨gh21_0, gh21_1, gh21_2, _⟩ := gh21
        have gh21_0 : (hs_fI h21 1 0).toInt = (hs_fI h 1 0).toInt := gh21_0
        have gh21_1 : (hs_fI h21 1 3).toInt = (hs_fI h 1 3).toInt := gh21_1
        have gh21_2 : (hs_fI h21 1 10).toInt = (hs_fI h 1 10).toInt := gh21_2
        have Ih21 := H.1 h21 Jh21
        obtain ⟨z22, rfl, fz22⟩ := P20
        exact hq_W.ret rfl rfl rfl ⟨Jh21, _, rfl, by unfold cn_bk; omega⟩
    · exfalso; omega
theorem ct_120a1 {X : pm_X} {d : Nat} {h : pm_H} {x1 : Int32} (hd : 2 ≤ d) (ax1 : 1 ≤ x1.toInt) (bx1 : x1.toInt ≤ 1) (hn : hs_fR h 0 0 = 1) (hp : hs_fR h 0 1 = 12) : ty_M X (ty_Win 35 1) d 120 [.ref 0, .int x1] h (fun h1 v => ∃ z : Int32, v = some (.int z) ∧ z.toInt = 0 ∧ (hs_fI h1 46 0).toInt = (hs_fI h 1 0).toInt ∧ (hs_fI h1 46 3).toInt = (hs_fI h 1 3).toInt ∧ (hs_fI h1 46 10).toInt = (hs_fI h 1 10).toInt ∧ (hs_aI h1 57 1).toInt = 1 ∧ (hs_aI h1 57 0).toInt = (hs_aI h 57 0).toInt) := by
  intro J0 H0 hJ0
  obtain ⟨J, eJ⟩ : ∃ J : pm_H → Prop, J = fun h' => J0 h' ∧ hs_fR h' 0 0 = 1 ∧ hs_fR h' 0 1 = 12 := ⟨_, rfl⟩
  have H : ty_C (ty_Win 35 1) J := by rw [eJ]; exact H0.refs 1 12
  have hJ : J h := by rw [eJ]; exact ⟨hJ0, hn, hp⟩
  refine hq_M.mono (Nat.le_refl _) (Q := fun h' v => J h' ∧ (fun h1 v => ∃ z : Int32, v = some (.int z) ∧ z.toInt = 0 ∧ (hs_fI h1 46 0).toInt = (hs_fI h 1 0).toInt ∧ (hs_fI h1 46 3).toInt = (hs_fI h 1 3).toInt ∧ (hs_fI h1 46 10).toInt = (hs_fI h 1 10).toInt ∧ (hs_aI h1 57 1).toInt = 1 ∧ (hs_aI h1 57 0).toInt = (hs_aI h 57 0).toInt) h' v) (fun h' v q => ⟨by have q1 := q.1; rw [eJ] at q1; exact q1.1, q.2⟩) ?_
  have p1 : ty_tr 1 := by simp [ty_tr]
  have l1 := ty_trl p1
  have p12 : ty_tr 12 := by simp [ty_tr]
  have l12 := ty_trl p12
  have p35 : ty_tr 35 := by simp [ty_tr]
  have l35 := ty_trl p35
  have p46 : ty_tr 46 := by simp [ty_tr]
  have l46 := ty_trl p46
  obtain ⟨d, rfl⟩ : ∃ e, d = e + 1 := ⟨d - 1, by omega⟩
  have I := H.1 h hJ
  refine hq_M.enter (q := (⟨"TrainBearers", "image", "(I)I"⟩, _, 2, some .int, 10, 2, pm_c120)) rfl rfl ?_
  show hq_W X d 10 false (some .int) pm_c120 (0, [some (.ref 0), some (.int x1)], [], h) (fun h' v => J h' ∧ (fun h1 v => ∃ z : Int32, v = some (.int z) ∧ z.toInt = 0 ∧ (hs_fI h1 46 0).toInt = (hs_fI h 1 0).toInt ∧ (hs_fI h1 46 3).toInt = (hs_fI h 1 3).toInt ∧ (hs_fI h1 46 10).toInt = (hs_fI h 1 10).toInt ∧ (hs_aI h1 57 1).toInt = 1 ∧ (hs_aI h1 57 0).toInt = (hs_aI h 57 0).toInt) h' v)
  refine hq_p rfl rfl ?_
  refine ty_zlt rfl (fun c1 => ?_) (fun c1 => ?_)
  · exfalso; omega
  · refine hq_p rfl rfl ?_
    refine hq_p rfl rfl (ty_ge (n := 2) nk_i2 (fun z2 ez2 => ?_))
    refine ty_ilt rfl (fun c3 => ?_) (fun c3 => ?_)
    · refine hq_p rfl rfl ?_
      refine hq_gR I.1 rfl rfl (by decide) (by decide) rfl ?_
      refine hq_p rfl rfl ?_
      refine ty_im1 I rfl (by omega) ?_
      refine hq_p rfl rfl ?_
      refine ty_gT (t := 1) I rfl rfl (by decide) (by decide) rfl (by have q := hJ; rw [eJ] at q; exact q.2.1) (fun _ => ?_)
      refine ty_callm 0 [(3, 57, 0)] (W := (ty_Win 35 1)) H hJ rfl (fun _ => rfl) rfl rfl rfl (hq_pre_o I.1 (x := 46) (ci := 8) (ty_trs p46) (by omega) rfl rfl rfl rfl) (fun a k w => by unfold ty_Wtr at w; unfold ty_Win; omega) (by unfold ty_Wtr ty_Win; omega) (ct_68 (t0 := 46) (t1 := 1) (by omega) p46 p1 (by decide)) ⟨⟨rfl, fun k => show ¬ (ty_Wtr 46) 57 k by unfold ty_Wtr; omega⟩, trivial⟩ (fun h5 _ Jh5 gh5 P4 => ?_)
      obtain ⟨gh5_0, _⟩ := gh5
      have gh5_0 : hs_aI h5 57 = hs_aI h 57 := gh5_0
      have ugh5_0 : hs_aI h5 57 = (hs_aI h 57) := gh5_0.trans rfl
      have Ih5 := H.1 h5 Jh5
      obtain ⟨rfl, c6a, c6b, c6c⟩ := P4
      obtain ⟨q7, eq7⟩ : ∃ q : Int32, q.toInt = (hs_fI h5 46 0).toInt := ⟨_, rfl⟩
      have aq7 : 0 ≤ (hs_fI h5 46 0).toInt := (Ih5.2.1 46 0 (by decide)).1
      have bq7 : (hs_fI h5 46 0).toInt ≤ 8 := (Ih5.2.1 46 0 (by decide)).2
      obtain ⟨q8, eq8⟩ : ∃ q : Int32, q.toInt = (hs_fI h5 46 3).toInt := ⟨_, rfl⟩
      have aq8 : 0 ≤ (hs_fI h5 46 3).toInt := (Ih5.2.1 46 3 (by decide)).1
      have bq8 : (hs_fI h5 46 3).toInt ≤ 8 := (Ih5.2.1 46 3 (by decide)).2
      obtain ⟨q9, eq9⟩ : ∃ q : Int32, q.toInt = (hs_fI h5 46 10).toInt := ⟨_, rfl⟩
      have aq9 : 0 ≤ (hs_fI h5 46 10).toInt := (Ih5.2.1 46 10 (by decide)).1
      have bq9 : (hs_fI h5 46 10).toInt ≤ 6 := (Ih5.2.1 46 10 (by decide)).2
      refine hq_p rfl rfl ?_
      refine hq_gR Ih5.1 rfl rfl (by decide) (by decide) rfl ?_
      refine hq_p rfl rfl ?_
      refine hq_p rfl rfl (ty_ge (n := 1) nk_i1 (fun z10 ez10 => ?_))
      refine ty_bS (W := (ty_Win 35 1)) H Jh5 rfl rfl (by decide) (by omega) (by omega) (fun i e => by unfold ty_Win; omega) (fun _ => rfl) (by omega) (fun h11 eh11 Jh11 => ?_)
      have vh11_57 : hs_aI h11 57 = (upd (hs_aI h 57) x1.toInt.toNat (z10 &&& 1)) := by rw [eh11, hs_aI_sA, ugh5_0]
      have Ih11 := H.1 h11 Jh11
      refine hq_p rfl rfl ?_
      refine hq_p rfl rfl (ty_ge (n := 0) nk_i0 (fun z12 ez12 => ?_))
      have r15 : (hs_fI h11 46 0).toInt = (hs_fI h5 46 0).toInt := by rw [eh11]; exact congrArg Int32.toInt (ty_fI_ne (by omega))
      have r16 : (hs_fI h11 46 3).toInt = (hs_fI h5 46 3).toInt := by rw [eh11]; exact congrArg Int32.toInt (ty_fI_ne (by omega))
      have r17 : (hs_fI h11 46 10).toInt = (hs_fI h5 46 10).toInt := by rw [eh11]; exact congrArg Int32.toInt (ty_fI_ne (by omega))
      refine ty_callm 0 [(0, 46, 0), (0, 46, 3), (0, 46, 10), (3, 57, 0)] (W := (ty_Win 35 1)) H Jh11 rfl (fun _ => rfl) rfl rfl rfl (hq_pre_o Ih11.1 (x := 0) (ci := 10) rfl (by decide) rfl rfl rfl rfl) (fun a k w => by unfold ty_Wc at w; unfold ty_Win; omega) (by unfold ty_Wc ty_Win; omega) (ct_126 (x1 := z12) (by omega)) ⟨⟨rfl, show ¬ ty_Wc 46 0 by unfold ty_Wc; omega⟩, ⟨rfl, show ¬ ty_Wc 46 3 by unfold ty_Wc; omega⟩, ⟨rfl, show ¬ ty_Wc 46 10 by unfold ty_Wc; omega⟩, ⟨rfl, fun k => show ¬ ty_Wc 57 k by unfold ty_Wc; omega⟩, trivial⟩ (fun h14 _ Jh14 gh14 P13 => ?_)
      obtain ⟨gh14_0, gh14_1, gh14_2, gh14_3, _⟩ := gh14
      have gh14_0 : (hs_fI h14 46 0).toInt = (hs_fI h11 46 0).toInt := gh14_0
      have gh14_1 : (hs_fI h14 46 3).toInt = (hs_fI h11 46 3).toInt := gh14_1
      have gh14_2 : (hs_fI h14 46 10).toInt = (hs_fI h11 46 10).toInt := gh14_2
      have gh14_3 : hs_aI h14 57 = hs_aI h11 57 := gh14_3
      have ugh14_3 : hs_aI h14 57 = (upd (hs_aI h 57) x1.toInt.toNat (z10 &&& 1)) := gh14_3.trans vh11_57
      have Ih14 := H.1 h14 Jh14
      obtain ⟨z18, rfl, fz18⟩ := P13
      exact hq_W.ret rfl rfl rfl ⟨Jh14, _, rfl, by omega, by omega, by omega, by omega, (by rw [ugh14_3]; exact im_u1 (by omega) (by omega)), (by rw [ugh14_3]; exact im_u0 (by omega))⟩
    · exfalso; omega
theorem ct_121a1 {X : pm_X} {d : Nat} {h : pm_H} {x1 : Int32} (hd : 2 ≤ d) (ax1 : 1 ≤ x1.toInt) (bx1 : x1.toInt ≤ 1) (hn : hs_fR h 0 0 = 1) (hp : hs_fR h 0 1 = 12) : ty_M X ty_Wbn d 121 [.ref 0, .int x1] h (fun h1 v => ∃ z : Int32, v = some (.int z) ∧ cn_bk (hs_aI h 57 1).toInt z.toInt (hs_fI h1 1 0).toInt (hs_fI h1 1 3).toInt (hs_fI h1 1 10).toInt (hs_fI h 1 0).toInt (hs_fI h 1 3).toInt (hs_fI h 1 10).toInt (hs_fI h 46 0).toInt (hs_fI h 46 3).toInt (hs_fI h 46 10).toInt) := by
  intro J0 H0 hJ0
  obtain ⟨J, eJ⟩ : ∃ J : pm_H → Prop, J = fun h' => J0 h' ∧ hs_fR h' 0 0 = 1 ∧ hs_fR h' 0 1 = 12 := ⟨_, rfl⟩
  have H : ty_C ty_Wbn J := by rw [eJ]; exact H0.refs 1 12
  have hJ : J h := by rw [eJ]; exact ⟨hJ0, hn, hp⟩
  refine hq_M.mono (Nat.le_refl _) (Q := fun h' v => J h' ∧ (fun h1 v => ∃ z : Int32, v = some (.int z) ∧ cn_bk (hs_aI h 57 1).toInt z.toInt (hs_fI h1 1 0).toInt (hs_fI h1 1 3).toInt (hs_fI h1 1 10).toInt (hs_fI h 1 0).toInt (hs_fI h 1 3).toInt (hs_fI h 1 10).toInt (hs_fI h 46 0).toInt (hs_fI h 46 3).toInt (hs_fI h 46 10).toInt) h' v) (fun h' v q => ⟨by have q1 := q.1; rw [eJ] at q1; exact q1.1, q.2⟩) ?_
  have p1 : ty_tr 1 := by simp [ty_tr]
  have l1 := ty_trl p1
  have p12 : ty_tr 12 := by simp [ty_tr]
  have l12 := ty_trl p12
  have p35 : ty_tr 35 := by simp [ty_tr]
  have l35 := ty_trl p35
  have p46 : ty_tr 46 := by simp [ty_tr]
  have l46 := ty_trl p46
  obtain ⟨d, rfl⟩ : ∃ e, d = e + 1 := ⟨d - 1, by omega⟩
  have I := H.1 h hJ
  obtain ⟨q0, eq0⟩ : ∃ q : Int32, q.toInt = (hs_fI h 1 0).toInt := ⟨_, rfl⟩
  have gq00 : 0 ≤ (hs_fI h 1 0).toInt := (I.2.1 1 0 (by decide)).1
  have gq01 : (hs_fI h 1 0).toInt ≤ 8 := (I.2.1 1 0 (by decide)).2
  obtain ⟨q3, eq3⟩ : ∃ q : Int32, q.toInt = (hs_fI h 1 3).toInt := ⟨_, rfl⟩
  have gq30 : 0 ≤ (hs_fI h 1 3).toInt := (I.2.1 1 3 (by decide)).1
  have gq31 : (hs_fI h 1 3).toInt ≤ 8 := (I.2.1 1 3 (by decide)).2
  obtain ⟨q10, eq10⟩ : ∃ q : Int32, q.toInt = (hs_fI h 1 10).toInt := ⟨_, rfl⟩
  have gq100 : 0 ≤ (hs_fI h 1 10).toInt := (I.2.1 1 10 (by decide)).1
  have gq101 : (hs_fI h 1 10).toInt ≤ 6 := (I.2.1 1 10 (by decide)).2
  refine hq_M.enter (q := (⟨"TrainBearers", "back", "(I)I"⟩, _, 2, some .int, 10, 2, pm_c121)) rfl rfl ?_
  show hq_W X d 10 false (some .int) pm_c121 (0, [some (.ref 0), some (.int x1)], [], h) (fun h' v => J h' ∧ (fun h1 v => ∃ z : Int32, v = some (.int z) ∧ cn_bk (hs_aI h 57 1).toInt z.toInt (hs_fI h1 1 0).toInt (hs_fI h1 1 3).toInt (hs_fI h1 1 10).toInt (hs_fI h 1 0).toInt (hs_fI h 1 3).toInt (hs_fI h 1 10).toInt (hs_fI h 46 0).toInt (hs_fI h 46 3).toInt (hs_fI h 46 10).toInt) h' v)
  refine hq_p rfl rfl ?_
  refine ty_zlt rfl (fun c1 => ?_) (fun c1 => ?_)
  · exfalso; omega
  · refine hq_p rfl rfl ?_
    refine hq_p rfl rfl (ty_ge (n := 2) nk_i2 (fun z2 ez2 => ?_))
    refine ty_ilt rfl (fun c3 => ?_) (fun c3 => ?_)
    · refine hq_p rfl rfl ?_
      refine hq_gR I.1 rfl rfl (by decide) (by decide) rfl ?_
      refine hq_p rfl rfl ?_
      refine ty_bLe I rfl rfl (by decide) (by omega) (by omega) (fun z4 ez4 az4 bz4 => ?_)
      rw [show x1.toInt.toNat = 1 by omega] at ez4
      refine ty_zne rfl (fun c5 => ?_) (fun c5 => ?_)
      · replace c5 : z4.toInt ≠ 0 := by omega
        refine hq_p rfl rfl ?_
        refine ty_gT (t := 1) I rfl rfl (by decide) (by decide) rfl (by have q := hJ; rw [eJ] at q; exact q.2.1) (fun _ => ?_)
        refine hq_p rfl rfl ?_
        refine hq_gR I.1 rfl rfl (by decide) (by decide) rfl ?_
        refine hq_p rfl rfl ?_
        refine ty_im1 I rfl (by omega) ?_
        refine ty_callj 0 (W := ty_Wbn) H hJ rfl (fun _ => rfl) rfl rfl rfl (hq_pre_o I.1 (x := 1) (ci := 8) (ty_trs p1) (by omega) rfl rfl rfl rfl) (fun a k w => by unfold ty_Wtr at w; unfold ty_Wbn; omega) (by unfold ty_Wtr ty_Wbn; omega) (ct_68 (t0 := 1) (t1 := 46) (by omega) p1 p46 (by decide)) (fun h7 _ Jh7 P6 => ?_)
        have Ih7 := H.1 h7 Jh7
        obtain ⟨rfl, c8a, c8b, c8c⟩ := P6
        obtain ⟨q9, eq9⟩ : ∃ q : Int32, q.toInt = (hs_fI h7 1 0).toInt := ⟨_, rfl⟩
        have aq9 : 0 ≤ (hs_fI h7 1 0).toInt := (Ih7.2.1 1 0 (by decide)).1
        have bq9 : (hs_fI h7 1 0).toInt ≤ 8 := (Ih7.2.1 1 0 (by decide)).2
        obtain ⟨q10, eq10⟩ : ∃ q : Int32, q.toInt = (hs_fI h7 1 3).toInt := ⟨_, rfl⟩
        have aq10 : 0 ≤ (hs_fI h7 1 3).toInt := (Ih7.2.1 1 3 (by decide)).1
        have bq10 : (hs_fI h7 1 3).toInt ≤ 8 := (Ih7.2.1 1 3 (by decide)).2
        obtain ⟨q11, eq11⟩ : ∃ q : Int32, q.toInt = (hs_fI h7 1 10).toInt := ⟨_, rfl⟩
        have aq11 : 0 ≤ (hs_fI h7 1 10).toInt := (Ih7.2.1 1 10 (by decide)).1
        have bq11 : (hs_fI h7 1 10).toInt ≤ 6 := (Ih7.2.1 1 10 (by decide)).2
        refine hq_p rfl rfl ?_
        obtain ⟨t12, kt12⟩ : ∃ q, hs_fR h7 0 5 = q := ⟨_, rfl⟩
        refine ty_gS Ih7 rfl rfl (by decide) (by decide) rfl kt12 (fun ot12 => ?_)
        have pt12 : ty_sp t12 := ot12
        have lt12 := ty_spl pt12
        clear ot12
        refine ty_callm 0 [(0, 1, 0), (0, 1, 3), (0, 1, 10)] (W := ty_Wbn) H Jh7 rfl (fun _ => rfl) rfl rfl rfl (hq_pre_o Ih7.1 (x := t12) (ci := 5) (ty_sps pt12) (by omega) rfl rfl rfl rfl) (fun a k w => by unfold ty_Wc at w; unfold ty_Wbn; omega) (by unfold ty_Wc ty_Wbn; omega) (ct_53 (t0 := t12) (by omega) pt12) ⟨⟨rfl, show ¬ ty_Wc 1 0 by unfold ty_Wc; omega⟩, ⟨rfl, show ¬ ty_Wc 1 3 by unfold ty_Wc; omega⟩, ⟨rfl, show ¬ ty_Wc 1 10 by unfold ty_Wc; omega⟩, trivial⟩ (fun h14 _ Jh14 gh14 P13 => ?_)
        obtain ⟨gh14_0, gh14_1, gh14_2, _⟩ := gh14
        have gh14_0 : (hs_fI h14 1 0).toInt = (hs_fI h7 1 0).toInt := gh14_0
        have gh14_1 : (hs_fI h14 1 3).toInt = (hs_fI h7 1 3).toInt := gh14_1
        have gh14_2 : (hs_fI h14 1 10).toInt = (hs_fI h7 1 10).toInt := gh14_2
        have Ih14 := H.1 h14 Jh14
        subst P13
        refine hq_p rfl rfl ?_
        refine hq_p rfl rfl (ty_ge (n := 0) nk_i0 (fun z15 ez15 => ?_))
        refine ty_callm 0 [(0, 1, 0), (0, 1, 3), (0, 1, 10)] (W := ty_Wbn) H Jh14 rfl (fun _ => rfl) rfl rfl rfl (hq_pre_o Ih14.1 (x := 0) (ci := 10) rfl (by decide) rfl rfl rfl rfl) (fun a k w => by unfold ty_Wc at w; unfold ty_Wbn; omega) (by unfold ty_Wc ty_Wbn; omega) (ct_126 (x1 := z15) (by omega)) ⟨⟨rfl, show ¬ ty_Wc 1 0 by unfold ty_Wc; omega⟩, ⟨rfl, show ¬ ty_Wc 1 3 by unfold ty_Wc; omega⟩, ⟨rfl, show ¬ ty_Wc 1 10 by unfold ty_Wc; omega⟩, trivial⟩ (fun h17 _ Jh17 gh17 P16 => ?_)
        obtain ⟨gh17_0, gh17_1, gh17_2, _⟩ := gh17
        have gh17_0 : (hs_fI h17 1 0).toInt = (hs_fI h14 1 0).toInt := gh17_0
        have gh17_1 : (hs_fI h17 1 3).toInt = (hs_fI h14 1 3).toInt := gh17_1
        have gh17_2 : (hs_fI h17 1 10).toInt = (hs_fI h14 1 10).toInt := gh17_2
        have Ih17 := H.1 h17 Jh17
        obtain ⟨z18, rfl, fz18⟩ := P16
        exact hq_W.ret rfl rfl rfl ⟨Jh17, _, rfl, by unfold cn_bk; omega⟩
      · refine hq_p rfl rfl ?_
        refine hq_p rfl rfl (ty_ge (n := -2) nk_bm2 (fun z19 ez19 => ?_))
        refine ty_callm 0 [(0, 1, 0), (0, 1, 3), (0, 1, 10)] (W := ty_Wbn) H hJ rfl (fun _ => rfl) rfl rfl rfl (hq_pre_o I.1 (x := 0) (ci := 10) rfl (by decide) rfl rfl rfl rfl) (fun a k w => by unfold ty_Wc at w; unfold ty_Wbn; omega) (by unfold ty_Wc ty_Wbn; omega) (ct_125 (x1 := z19) (by omega)) ⟨⟨rfl, show ¬ ty_Wc 1 0 by unfold ty_Wc; omega⟩, ⟨rfl, show ¬ ty_Wc 1 3 by unfold ty_Wc; omega⟩, ⟨rfl, show ¬ ty_Wc 1 10 by unfold ty_Wc; omega⟩, trivial⟩ (fun h21 _ Jh21 gh21 P20 => ?_)
        obtain ⟨gh21_0, gh21_1, gh21_2, _⟩ := gh21
        have gh21_0 : (hs_fI h21 1 0).toInt = (hs_fI h 1 0).toInt := gh21_0
        have gh21_1 : (hs_fI h21 1 3).toInt = (hs_fI h 1 3).toInt := gh21_1
        have gh21_2 : (hs_fI h21 1 10).toInt = (hs_fI h 1 10).toInt := gh21_2
        have Ih21 := H.1 h21 Jh21
        obtain ⟨z22, rfl, fz22⟩ := P20
        exact hq_W.ret rfl rfl rfl ⟨Jh21, _, rfl, by unfold cn_bk; omega⟩
    · exfalso; omega
theorem ct_120b0 {X : pm_X} {d : Nat} {h : pm_H} {x1 : Int32} (hd : 2 ≤ d) (ax1 : 0 ≤ x1.toInt) (bx1 : x1.toInt ≤ 0) (hn : hs_fR h 0 0 = 12) (hp : hs_fR h 0 1 = 1) : ty_M X (ty_Win 46 0) d 120 [.ref 0, .int x1] h (fun h1 v => ∃ z : Int32, v = some (.int z) ∧ z.toInt = 0 ∧ (hs_fI h1 35 0).toInt = (hs_fI h 12 0).toInt ∧ (hs_fI h1 35 3).toInt = (hs_fI h 12 3).toInt ∧ (hs_fI h1 35 10).toInt = (hs_fI h 12 10).toInt ∧ (hs_aI h1 57 0).toInt = 1 ∧ (hs_aI h1 57 1).toInt = (hs_aI h 57 1).toInt) := by
  intro J0 H0 hJ0
  obtain ⟨J, eJ⟩ : ∃ J : pm_H → Prop, J = fun h' => J0 h' ∧ hs_fR h' 0 0 = 12 ∧ hs_fR h' 0 1 = 1 := ⟨_, rfl⟩
  have H : ty_C (ty_Win 46 0) J := by rw [eJ]; exact H0.refs 12 1
  have hJ : J h := by rw [eJ]; exact ⟨hJ0, hn, hp⟩
  refine hq_M.mono (Nat.le_refl _) (Q := fun h' v => J h' ∧ (fun h1 v => ∃ z : Int32, v = some (.int z) ∧ z.toInt = 0 ∧ (hs_fI h1 35 0).toInt = (hs_fI h 12 0).toInt ∧ (hs_fI h1 35 3).toInt = (hs_fI h 12 3).toInt ∧ (hs_fI h1 35 10).toInt = (hs_fI h 12 10).toInt ∧ (hs_aI h1 57 0).toInt = 1 ∧ (hs_aI h1 57 1).toInt = (hs_aI h 57 1).toInt) h' v) (fun h' v q => ⟨by have q1 := q.1; rw [eJ] at q1; exact q1.1, q.2⟩) ?_
  have p1 : ty_tr 1 := by simp [ty_tr]
  have l1 := ty_trl p1
  have p12 : ty_tr 12 := by simp [ty_tr]
  have l12 := ty_trl p12
  have p35 : ty_tr 35 := by simp [ty_tr]
  have l35 := ty_trl p35
  have p46 : ty_tr 46 := by simp [ty_tr]
  have l46 := ty_trl p46
  obtain ⟨d, rfl⟩ : ∃ e, d = e + 1 := ⟨d - 1, by omega⟩
  have I := H.1 h hJ
  refine hq_M.enter (q := (⟨"TrainBearers", "image", "(I)I"⟩, _, 2, some .int, 10, 2, pm_c120)) rfl rfl ?_
  show hq_W X d 10 false (some .int) pm_c120 (0, [some (.ref 0), some (.int x1)], [], h) (fun h' v => J h' ∧ (fun h1 v => ∃ z : Int32, v = some (.int z) ∧ z.toInt = 0 ∧ (hs_fI h1 35 0).toInt = (hs_fI h 12 0).toInt ∧ (hs_fI h1 35 3).toInt = (hs_fI h 12 3).toInt ∧ (hs_fI h1 35 10).toInt = (hs_fI h 12 10).toInt ∧ (hs_aI h1 57 0).toInt = 1 ∧ (hs_aI h1 57 1).toInt = (hs_aI h 57 1).toInt) h' v)
  refine hq_p rfl rfl ?_
  refine ty_zlt rfl (fun c1 => ?_) (fun c1 => ?_)
  · exfalso; omega
  · refine hq_p rfl rfl ?_
    refine hq_p rfl rfl (ty_ge (n := 2) nk_i2 (fun z2 ez2 => ?_))
    refine ty_ilt rfl (fun c3 => ?_) (fun c3 => ?_)
    · refine hq_p rfl rfl ?_
      refine hq_gR I.1 rfl rfl (by decide) (by decide) rfl ?_
      refine hq_p rfl rfl ?_
      refine ty_im0 I rfl (by omega) ?_
      refine hq_p rfl rfl ?_
      refine ty_gT (t := 12) I rfl rfl (by decide) (by decide) rfl (by have q := hJ; rw [eJ] at q; exact q.2.1) (fun _ => ?_)
      refine ty_callm 0 [(3, 57, 0)] (W := (ty_Win 46 0)) H hJ rfl (fun _ => rfl) rfl rfl rfl (hq_pre_o I.1 (x := 35) (ci := 8) (ty_trs p35) (by omega) rfl rfl rfl rfl) (fun a k w => by unfold ty_Wtr at w; unfold ty_Win; omega) (by unfold ty_Wtr ty_Win; omega) (ct_68 (t0 := 35) (t1 := 12) (by omega) p35 p12 (by decide)) ⟨⟨rfl, fun k => show ¬ (ty_Wtr 35) 57 k by unfold ty_Wtr; omega⟩, trivial⟩ (fun h5 _ Jh5 gh5 P4 => ?_)
      obtain ⟨gh5_0, _⟩ := gh5
      have gh5_0 : hs_aI h5 57 = hs_aI h 57 := gh5_0
      have ugh5_0 : hs_aI h5 57 = (hs_aI h 57) := gh5_0.trans rfl
      have Ih5 := H.1 h5 Jh5
      obtain ⟨rfl, c6a, c6b, c6c⟩ := P4
      obtain ⟨q7, eq7⟩ : ∃ q : Int32, q.toInt = (hs_fI h5 35 0).toInt := ⟨_, rfl⟩
      have aq7 : 0 ≤ (hs_fI h5 35 0).toInt := (Ih5.2.1 35 0 (by decide)).1
      have bq7 : (hs_fI h5 35 0).toInt ≤ 8 := (Ih5.2.1 35 0 (by decide)).2
      obtain ⟨q8, eq8⟩ : ∃ q : Int32, q.toInt = (hs_fI h5 35 3).toInt := ⟨_, rfl⟩
      have aq8 : 0 ≤ (hs_fI h5 35 3).toInt := (Ih5.2.1 35 3 (by decide)).1
      have bq8 : (hs_fI h5 35 3).toInt ≤ 8 := (Ih5.2.1 35 3 (by decide)).2
      obtain ⟨q9, eq9⟩ : ∃ q : Int32, q.toInt = (hs_fI h5 35 10).toInt := ⟨_, rfl⟩
      have aq9 : 0 ≤ (hs_fI h5 35 10).toInt := (Ih5.2.1 35 10 (by decide)).1
      have bq9 : (hs_fI h5 35 10).toInt ≤ 6 := (Ih5.2.1 35 10 (by decide)).2
      refine hq_p rfl rfl ?_
      refine hq_gR Ih5.1 rfl rfl (by decide) (by decide) rfl ?_
      refine hq_p rfl rfl ?_
      refine hq_p rfl rfl (ty_ge (n := 1) nk_i1 (fun z10 ez10 => ?_))
      refine ty_bS (W := (ty_Win 46 0)) H Jh5 rfl rfl (by decide) (by omega) (by omega) (fun i e => by unfold ty_Win; omega) (fun _ => rfl) (by omega) (fun h11 eh11 Jh11 => ?_)
      have vh11_57 : hs_aI h11 57 = (upd (hs_aI h 57) x1.toInt.toNat (z10 &&& 1)) := by rw [eh11, hs_aI_sA, ugh5_0]
      have Ih11 := H.1 h11 Jh11
      refine hq_p rfl rfl ?_
      refine hq_p rfl rfl (ty_ge (n := 0) nk_i0 (fun z12 ez12 => ?_))
      have r15 : (hs_fI h11 35 0).toInt = (hs_fI h5 35 0).toInt := by rw [eh11]; exact congrArg Int32.toInt (ty_fI_ne (by omega))
      have r16 : (hs_fI h11 35 3).toInt = (hs_fI h5 35 3).toInt := by rw [eh11]; exact congrArg Int32.toInt (ty_fI_ne (by omega))
      have r17 : (hs_fI h11 35 10).toInt = (hs_fI h5 35 10).toInt := by rw [eh11]; exact congrArg Int32.toInt (ty_fI_ne (by omega))
      refine ty_callm 0 [(0, 35, 0), (0, 35, 3), (0, 35, 10), (3, 57, 0)] (W := (ty_Win 46 0)) H Jh11 rfl (fun _ => rfl) rfl rfl rfl (hq_pre_o Ih11.1 (x := 0) (ci := 10) rfl (by decide) rfl rfl rfl rfl) (fun a k w => by unfold ty_Wc at w; unfold ty_Win; omega) (by unfold ty_Wc ty_Win; omega) (ct_126 (x1 := z12) (by omega)) ⟨⟨rfl, show ¬ ty_Wc 35 0 by unfold ty_Wc; omega⟩, ⟨rfl, show ¬ ty_Wc 35 3 by unfold ty_Wc; omega⟩, ⟨rfl, show ¬ ty_Wc 35 10 by unfold ty_Wc; omega⟩, ⟨rfl, fun k => show ¬ ty_Wc 57 k by unfold ty_Wc; omega⟩, trivial⟩ (fun h14 _ Jh14 gh14 P13 => ?_)
      obtain ⟨gh14_0, gh14_1, gh14_2, gh14_3, _⟩ := gh14
      have gh14_0 : (hs_fI h14 35 0).toInt = (hs_fI h11 35 0).toInt := gh14_0
      have gh14_1 : (hs_fI h14 35 3).toInt = (hs_fI h11 35 3).toInt := gh14_1
      have gh14_2 : (hs_fI h14 35 10).toInt = (hs_fI h11 35 10).toInt := gh14_2
      have gh14_3 : hs_aI h14 57 = hs_aI h11 57 := gh14_3
      have ugh14_3 : hs_aI h14 57 = (upd (hs_aI h 57) x1.toInt.toNat (z10 &&& 1)) := gh14_3.trans vh11_57
      have Ih14 := H.1 h14 Jh14
      obtain ⟨z18, rfl, fz18⟩ := P13
      exact hq_W.ret rfl rfl rfl ⟨Jh14, _, rfl, by omega, by omega, by omega, by omega, (by rw [ugh14_3]; exact im_u1 (by omega) (by omega)), (by rw [ugh14_3]; exact im_u0 (by omega))⟩
    · exfalso; omega
theorem ct_121b0 {X : pm_X} {d : Nat} {h : pm_H} {x1 : Int32} (hd : 2 ≤ d) (ax1 : 0 ≤ x1.toInt) (bx1 : x1.toInt ≤ 0) (hn : hs_fR h 0 0 = 12) (hp : hs_fR h 0 1 = 1) : ty_M X ty_Wbn d 121 [.ref 0, .int x1] h (fun h1 v => ∃ z : Int32, v = some (.int z) ∧ cn_bk (hs_aI h 57 0).toInt z.toInt (hs_fI h1 12 0).toInt (hs_fI h1 12 3).toInt (hs_fI h1 12 10).toInt (hs_fI h 12 0).toInt (hs_fI h 12 3).toInt (hs_fI h 12 10).toInt (hs_fI h 35 0).toInt (hs_fI h 35 3).toInt (hs_fI h 35 10).toInt) := by
  intro J0 H0 hJ0
  obtain ⟨J, eJ⟩ : ∃ J : pm_H → Prop, J = fun h' => J0 h' ∧ hs_fR h' 0 0 = 12 ∧ hs_fR h' 0 1 = 1 := ⟨_, rfl⟩
  have H : ty_C ty_Wbn J := by rw [eJ]; exact H0.refs 12 1
  have hJ : J h := by rw [eJ]; exact ⟨hJ0, hn, hp⟩
  refine hq_M.mono (Nat.le_refl _) (Q := fun h' v => J h' ∧ (fun h1 v => ∃ z : Int32, v = some (.int z) ∧ cn_bk (hs_aI h 57 0).toInt z.toInt (hs_fI h1 12 0).toInt (hs_fI h1 12 3).toInt (hs_fI h1 12 10).toInt (hs_fI h 12 0).toInt (hs_fI h 12 3).toInt (hs_fI h 12 10).toInt (hs_fI h 35 0).toInt (hs_fI h 35 3).toInt (hs_fI h 35 10).toInt) h' v) (fun h' v q => ⟨by have q1 := q.1; rw [eJ] at q1; exact q1.1, q.2⟩) ?_
  have p1 : ty_tr 1 := by simp [ty_tr]
  have l1 := ty_trl p1
  have p12 : ty_tr 12 := by simp [ty_tr]
  have l12 := ty_trl p12
  have p35 : ty_tr 35 := by simp [ty_tr]
  have l35 := ty_trl p35
  have p46 : ty_tr 46 := by simp [ty_tr]
  have l46 := ty_trl p46
  obtain ⟨d, rfl⟩ : ∃ e, d = e + 1 := ⟨d - 1, by omega⟩
  have I := H.1 h hJ
  obtain ⟨q0, eq0⟩ : ∃ q : Int32, q.toInt = (hs_fI h 12 0).toInt := ⟨_, rfl⟩
  have gq00 : 0 ≤ (hs_fI h 12 0).toInt := (I.2.1 12 0 (by decide)).1
  have gq01 : (hs_fI h 12 0).toInt ≤ 8 := (I.2.1 12 0 (by decide)).2
  obtain ⟨q3, eq3⟩ : ∃ q : Int32, q.toInt = (hs_fI h 12 3).toInt := ⟨_, rfl⟩
  have gq30 : 0 ≤ (hs_fI h 12 3).toInt := (I.2.1 12 3 (by decide)).1
  have gq31 : (hs_fI h 12 3).toInt ≤ 8 := (I.2.1 12 3 (by decide)).2
  obtain ⟨q10, eq10⟩ : ∃ q : Int32, q.toInt = (hs_fI h 12 10).toInt := ⟨_, rfl⟩
  have gq100 : 0 ≤ (hs_fI h 12 10).toInt := (I.2.1 12 10 (by decide)).1
  have gq101 : (hs_fI h 12 10).toInt ≤ 6 := (I.2.1 12 10 (by decide)).2
  refine hq_M.enter (q := (⟨"TrainBearers", "back", "(I)I"⟩, _, 2, some .int, 10, 2, pm_c121)) rfl rfl ?_
  show hq_W X d 10 false (some .int) pm_c121 (0, [some (.ref 0), some (.int x1)], [], h) (fun h' v => J h' ∧ (fun h1 v => ∃ z : Int32, v = some (.int z) ∧ cn_bk (hs_aI h 57 0).toInt z.toInt (hs_fI h1 12 0).toInt (hs_fI h1 12 3).toInt (hs_fI h1 12 10).toInt (hs_fI h 12 0).toInt (hs_fI h 12 3).toInt (hs_fI h 12 10).toInt (hs_fI h 35 0).toInt (hs_fI h 35 3).toInt (hs_fI h 35 10).toInt) h' v)
  refine hq_p rfl rfl ?_
  refine ty_zlt rfl (fun c1 => ?_) (fun c1 => ?_)
  · exfalso; omega
  · refine hq_p rfl rfl ?_
    refine hq_p rfl rfl (ty_ge (n := 2) nk_i2 (fun z2 ez2 => ?_))
    refine ty_ilt rfl (fun c3 => ?_) (fun c3 => ?_)
    · refine hq_p rfl rfl ?_
      refine hq_gR I.1 rfl rfl (by decide) (by decide) rfl ?_
      refine hq_p rfl rfl ?_
      refine ty_bLe I rfl rfl (by decide) (by omega) (by omega) (fun z4 ez4 az4 bz4 => ?_)
      rw [show x1.toInt.toNat = 0 by omega] at ez4
      refine ty_zne rfl (fun c5 => ?_) (fun c5 => ?_)
      · replace c5 : z4.toInt ≠ 0 := by omega
        refine hq_p rfl rfl ?_
        refine ty_gT (t := 12) I rfl rfl (by decide) (by decide) rfl (by have q := hJ; rw [eJ] at q; exact q.2.1) (fun _ => ?_)
        refine hq_p rfl rfl ?_
        refine hq_gR I.1 rfl rfl (by decide) (by decide) rfl ?_
        refine hq_p rfl rfl ?_
        refine ty_im0 I rfl (by omega) ?_
        refine ty_callj 0 (W := ty_Wbn) H hJ rfl (fun _ => rfl) rfl rfl rfl (hq_pre_o I.1 (x := 12) (ci := 8) (ty_trs p12) (by omega) rfl rfl rfl rfl) (fun a k w => by unfold ty_Wtr at w; unfold ty_Wbn; omega) (by unfold ty_Wtr ty_Wbn; omega) (ct_68 (t0 := 12) (t1 := 35) (by omega) p12 p35 (by decide)) (fun h7 _ Jh7 P6 => ?_)
        have Ih7 := H.1 h7 Jh7
        obtain ⟨rfl, c8a, c8b, c8c⟩ := P6
        obtain ⟨q9, eq9⟩ : ∃ q : Int32, q.toInt = (hs_fI h7 12 0).toInt := ⟨_, rfl⟩
        have aq9 : 0 ≤ (hs_fI h7 12 0).toInt := (Ih7.2.1 12 0 (by decide)).1
        have bq9 : (hs_fI h7 12 0).toInt ≤ 8 := (Ih7.2.1 12 0 (by decide)).2
        obtain ⟨q10, eq10⟩ : ∃ q : Int32, q.toInt = (hs_fI h7 12 3).toInt := ⟨_, rfl⟩
        have aq10 : 0 ≤ (hs_fI h7 12 3).toInt := (Ih7.2.1 12 3 (by decide)).1
        have bq10 : (hs_fI h7 12 3).toInt ≤ 8 := (Ih7.2.1 12 3 (by decide)).2
        obtain ⟨q11, eq11⟩ : ∃ q : Int32, q.toInt = (hs_fI h7 12 10).toInt := ⟨_, rfl⟩
        have aq11 : 0 ≤ (hs_fI h7 12 10).toInt := (Ih7.2.1 12 10 (by decide)).1
        have bq11 : (hs_fI h7 12 10).toInt ≤ 6 := (Ih7.2.1 12 10 (by decide)).2
        refine hq_p rfl rfl ?_
        obtain ⟨t12, kt12⟩ : ∃ q, hs_fR h7 0 5 = q := ⟨_, rfl⟩
        refine ty_gS Ih7 rfl rfl (by decide) (by decide) rfl kt12 (fun ot12 => ?_)
        have pt12 : ty_sp t12 := ot12
        have lt12 := ty_spl pt12
        clear ot12
        refine ty_callm 0 [(0, 12, 0), (0, 12, 3), (0, 12, 10)] (W := ty_Wbn) H Jh7 rfl (fun _ => rfl) rfl rfl rfl (hq_pre_o Ih7.1 (x := t12) (ci := 5) (ty_sps pt12) (by omega) rfl rfl rfl rfl) (fun a k w => by unfold ty_Wc at w; unfold ty_Wbn; omega) (by unfold ty_Wc ty_Wbn; omega) (ct_53 (t0 := t12) (by omega) pt12) ⟨⟨rfl, show ¬ ty_Wc 12 0 by unfold ty_Wc; omega⟩, ⟨rfl, show ¬ ty_Wc 12 3 by unfold ty_Wc; omega⟩, ⟨rfl, show ¬ ty_Wc 12 10 by unfold ty_Wc; omega⟩, trivial⟩ (fun h14 _ Jh14 gh14 P13 => ?_)
        obtain ⟨gh14_0, gh14_1, gh14_2, _⟩ := gh14
        have gh14_0 : (hs_fI h14 12 0).toInt = (hs_fI h7 12 0).toInt := gh14_0
        have gh14_1 : (hs_fI h14 12 3).toInt = (hs_fI h7 12 3).toInt := gh14_1
        have gh14_2 : (hs_fI h14 12 10).toInt = (hs_fI h7 12 10).toInt := gh14_2
        have Ih14 := H.1 h14 Jh14
        subst P13
        refine hq_p rfl rfl ?_
        refine hq_p rfl rfl (ty_ge (n := 0) nk_i0 (fun z15 ez15 => ?_))
        refine ty_callm 0 [(0, 12, 0), (0, 12, 3), (0, 12, 10)] (W := ty_Wbn) H Jh14 rfl (fun _ => rfl) rfl rfl rfl (hq_pre_o Ih14.1 (x := 0) (ci := 10) rfl (by decide) rfl rfl rfl rfl) (fun a k w => by unfold ty_Wc at w; unfold ty_Wbn; omega) (by unfold ty_Wc ty_Wbn; omega) (ct_126 (x1 := z15) (by omega)) ⟨⟨rfl, show ¬ ty_Wc 12 0 by unfold ty_Wc; omega⟩, ⟨rfl, show ¬ ty_Wc 12 3 by unfold ty_Wc; omega⟩, ⟨rfl, show ¬ ty_Wc 12 10 by unfold ty_Wc; omega⟩, trivial⟩ (fun h17 _ Jh17 gh17 P16 => ?_)
        obtain ⟨gh17_0, gh17_1, gh17_2, _⟩ := gh17
        have gh17_0 : (hs_fI h17 12 0).toInt = (hs_fI h14 12 0).toInt := gh17_0
        have gh17_1 : (hs_fI h17 12 3).toInt = (hs_fI h14 12 3).toInt := gh17_1
        have gh17_2 : (hs_fI h17 12 10).toInt = (hs_fI h14 12 10).toInt := gh17_2
        have Ih17 := H.1 h17 Jh17
        obtain ⟨z18, rfl, fz18⟩ := P16
        exact hq_W.ret rfl rfl rfl ⟨Jh17, _, rfl, by unfold cn_bk; omega⟩
      · refine hq_p rfl rfl ?_
        refine hq_p rfl rfl (ty_ge (n := -2) nk_bm2 (fun z19 ez19 => ?_))
        refine ty_callm 0 [(0, 12, 0), (0, 12, 3), (0, 12, 10)] (W := ty_Wbn) H hJ rfl (fun _ => rfl) rfl rfl rfl (hq_pre_o I.1 (x := 0) (ci := 10) rfl (by decide) rfl rfl rfl rfl) (fun a k w => by unfold ty_Wc at w; unfold ty_Wbn; omega) (by unfold ty_Wc ty_Wbn; omega) (ct_125 (x1 := z19) (by omega)) ⟨⟨rfl, show ¬ ty_Wc 12 0 by unfold ty_Wc; omega⟩, ⟨rfl, show ¬ ty_Wc 12 3 by unfold ty_Wc; omega⟩, ⟨rfl, show ¬ ty_Wc 12 10 by unfold ty_Wc; omega⟩, trivial⟩ (fun h21 _ Jh21 gh21 P20 => ?_)
        obtain ⟨gh21_0, gh21_1, gh21_2, _⟩ := gh21
        have gh21_0 : (hs_fI h21 12 0).toInt = (hs_fI h 12 0).toInt := gh21_0
        have gh21_1 : (hs_fI h21 12 3).toInt = (hs_fI h 12 3).toInt := gh21_1
        have gh21_2 : (hs_fI h21 12 10).toInt = (hs_fI h 12 10).toInt := gh21_2
        have Ih21 := H.1 h21 Jh21
        obtain ⟨z22, rfl, fz22⟩ := P20
        exact hq_W.ret rfl rfl rfl ⟨Jh21, _, rfl, by unfold cn_bk; omega⟩
    · exfalso; omega
theorem ct_120b1 {X : pm_X} {d : Nat} {h : pm_H} {x1 : Int32} (hd : 2 ≤ d) (ax1 : 1 ≤ x1.toInt) (bx1 : x1.toInt ≤ 1) (hn : hs_fR h 0 0 = 12) (hp : hs_fR h 0 1 = 1) : ty_M X (ty_Win 35 1) d 120 [.ref 0, .int x1] h (fun h1 v => ∃ z : Int32, v = some (.int z) ∧ z.toInt = 0 ∧ (hs_fI h1 46 0).toInt = (hs_fI h 12 0).toInt ∧ (hs_fI h1 46 3).toInt = (hs_fI h 12 3).toInt ∧ (hs_fI h1 46 10).toInt = (hs_fI h 12 10).toInt ∧ (hs_aI h1 57 1).toInt = 1 ∧ (hs_aI h1 57 0).toInt = (hs_aI h 57 0).toInt) := by
  intro J0 H0 hJ0
  obtain ⟨J, eJ⟩ : ∃ J : pm_H → Prop, J = fun h' => J0 h' ∧ hs_fR h' 0 0 = 12 ∧ hs_fR h' 0 1 = 1 := ⟨_, rfl⟩
  have H : ty_C (ty_Win 35 1) J := by rw [eJ]; exact H0.refs 12 1
  have hJ : J h := by rw [eJ]; exact ⟨hJ0, hn, hp⟩
  refine hq_M.mono (Nat.le_refl _) (Q := fun h' v => J h' ∧ (fun h1 v => ∃ z : Int32, v = some (.int z) ∧ z.toInt = 0 ∧ (hs_fI h1 46 0).toInt = (hs_fI h 12 0).toInt ∧ (hs_fI h1 46 3).toInt = (hs_fI h 12 3).toInt ∧ (hs_fI h1 46 10).toInt = (hs_fI h 12 10).toInt ∧ (hs_aI h1 57 1).toInt = 1 ∧ (hs_aI h1 57 0).toInt = (hs_aI h 57 0).toInt) h' v) (fun h' v q => ⟨by have q1 := q.1; rw [eJ] at q1; exact q1.1, q.2⟩) ?_
  have p1 : ty_tr 1 := by simp [ty_tr]
  have l1 := ty_trl p1
  have p12 : ty_tr 12 := by simp [ty_tr]
  have l12 := ty_trl p12
  have p35 : ty_tr 35 := by simp [ty_tr]
  have l35 := ty_trl p35
  have p46 : ty_tr 46 := by simp [ty_tr]
  have l46 := ty_trl p46
  obtain ⟨d, rfl⟩ : ∃ e, d = e + 1 := ⟨d - 1, by omega⟩
  have I := H.1 h hJ
  refine hq_M.enter (q := (⟨"TrainBearers", "image", "(I)I"⟩, _, 2, some .int, 10, 2, pm_c120)) rfl rfl ?_
  show hq_W X d 10 false (some .int) pm_c120 (0, [some (.ref 0), some (.int x1)], [], h) (fun h' v => J h' ∧ (fun h1 v => ∃ z : Int32, v = some (.int z) ∧ z.toInt = 0 ∧ (hs_fI h1 46 0).toInt = (hs_fI h 12 0).toInt ∧ (hs_fI h1 46 3).toInt = (hs_fI h 12 3).toInt ∧ (hs_fI h1 46 10).toInt = (hs_fI h 12 10).toInt ∧ (hs_aI h1 57 1).toInt = 1 ∧ (hs_aI h1 57 0).toInt = (hs_aI h 57 0).toInt) h' v)
  refine hq_p rfl rfl ?_
  refine ty_zlt rfl (fun c1 => ?_) (fun c1 => ?_)
  · exfalso; omega
  · refine hq_p rfl rfl ?_
    refine hq_p rfl rfl (ty_ge (n := 2) nk_i2 (fun z2 ez2 => ?_))
    refine ty_ilt rfl (fun c3 => ?_) (fun c3 => ?_)
    · refine hq_p rfl rfl ?_
      refine hq_gR I.1 rfl rfl (by decide) (by decide) rfl ?_
      refine hq_p rfl rfl ?_
      refine ty_im1 I rfl (by omega) ?_
      refine hq_p rfl rfl ?_
      refine ty_gT (t := 12) I rfl rfl (by decide) (by decide) rfl (by have q := hJ; rw [eJ] at q; exact q.2.1) (fun _ => ?_)
      refine ty_callm 0 [(3, 57, 0)] (W := (ty_Win 35 1)) H hJ rfl (fun _ => rfl) rfl rfl rfl (hq_pre_o I.1 (x := 46) (ci := 8) (ty_trs p46) (by omega) rfl rfl rfl rfl) (fun a k w => by unfold ty_Wtr at w; unfold ty_Win; omega) (by unfold ty_Wtr ty_Win; omega) (ct_68 (t0 := 46) (t1 := 12) (by omega) p46 p12 (by decide)) ⟨⟨rfl, fun k => show ¬ (ty_Wtr 46) 57 k by unfold ty_Wtr; omega⟩, trivial⟩ (fun h5 _ Jh5 gh5 P4 => ?_)
      obtain ⟨gh5_0, _⟩ := gh5
      have gh5_0 : hs_aI h5 57 = hs_aI h 57 := gh5_0
      have ugh5_0 : hs_aI h5 57 = (hs_aI h 57) := gh5_0.trans rfl
      have Ih5 := H.1 h5 Jh5
      obtain ⟨rfl, c6a, c6b, c6c⟩ := P4
      obtain ⟨q7, eq7⟩ : ∃ q : Int32, q.toInt = (hs_fI h5 46 0).toInt := ⟨_, rfl⟩
      have aq7 : 0 ≤ (hs_fI h5 46 0).toInt := (Ih5.2.1 46 0 (by decide)).1
      have bq7 : (hs_fI h5 46 0).toInt ≤ 8 := (Ih5.2.1 46 0 (by decide)).2
      obtain ⟨q8, eq8⟩ : ∃ q : Int32, q.toInt = (hs_fI h5 46 3).toInt := ⟨_, rfl⟩
      have aq8 : 0 ≤ (hs_fI h5 46 3).toInt := (Ih5.2.1 46 3 (by decide)).1
      have bq8 : (hs_fI h5 46 3).toInt ≤ 8 := (Ih5.2.1 46 3 (by decide)).2
      obtain ⟨q9, eq9⟩ : ∃ q : Int32, q.toInt = (hs_fI h5 46 10).toInt := ⟨_, rfl⟩
      have aq9 : 0 ≤ (hs_fI h5 46 10).toInt := (Ih5.2.1 46 10 (by decide)).1
      have bq9 : (hs_fI h5 46 10).toInt ≤ 6 := (Ih5.2.1 46 10 (by decide)).2
      refine hq_p rfl rfl ?_
      refine hq_gR Ih5.1 rfl rfl (by decide) (by decide) rfl ?_
      refine hq_p rfl rfl ?_
      refine hq_p rfl rfl (ty_ge (n := 1) nk_i1 (fun z10 ez10 => ?_))
      refine ty_bS (W := (ty_Win 35 1)) H Jh5 rfl rfl (by decide) (by omega) (by omega) (fun i e => by unfold ty_Win; omega) (fun _ => rfl) (by omega) (fun h11 eh11 Jh11 => ?_)
      have vh11_57 : hs_aI h11 57 = (upd (hs_aI h 57) x1.toInt.toNat (z10 &&& 1)) := by rw [eh11, hs_aI_sA, ugh5_0]
      have Ih11 := H.1 h11 Jh11
      refine hq_p rfl rfl ?_
      refine hq_p rfl rfl (ty_ge (n := 0) nk_i0 (fun z12 ez12 => ?_))
      have r15 : (hs_fI h11 46 0).toInt = (hs_fI h5 46 0).toInt := by rw [eh11]; exact congrArg Int32.toInt (ty_fI_ne (by omega))
      have r16 : (hs_fI h11 46 3).toInt = (hs_fI h5 46 3).toInt := by rw [eh11]; exact congrArg Int32.toInt (ty_fI_ne (by omega))
      have r17 : (hs_fI h11 46 10).toInt = (hs_fI h5 46 10).toInt := by rw [eh11]; exact congrArg Int32.toInt (ty_fI_ne (by omega))
      refine ty_callm 0 [(0, 46, 0), (0, 46, 3), (0, 46, 10), (3, 57, 0)] (W := (ty_Win 35 1)) H Jh11 rfl (fun _ => rfl) rfl rfl rfl (hq_pre_o Ih11.1 (x := 0) (ci := 10) rfl (by decide) rfl rfl rfl rfl) (fun a k w => by unfold ty_Wc at w; unfold ty_Win; omega) (by unfold ty_Wc ty_Win; omega) (ct_126 (x1 := z12) (by omega)) ⟨⟨rfl, show ¬ ty_Wc 46 0 by unfold ty_Wc; omega⟩, ⟨rfl, show ¬ ty_Wc 46 3 by unfold ty_Wc; omega⟩, ⟨rfl, show ¬ ty_Wc 46 10 by unfold ty_Wc; omega⟩, ⟨rfl, fun k => show ¬ ty_Wc 57 k by unfold ty_Wc; omega⟩, trivial⟩ (fun h14 _ Jh14 gh14 P13 => ?_)
      obtain ⟨gh14_0, gh14_1, gh14_2, gh14_3, _⟩ := gh14
      have gh14_0 : (hs_fI h14 46 0).toInt = (hs_fI h11 46 0).toInt := gh14_0
      have gh14_1 : (hs_fI h14 46 3).toInt = (hs_fI h11 46 3).toInt := gh14_1
      have gh14_2 : (hs_fI h14 46 10).toInt = (hs_fI h11 46 10).toInt := gh14_2
      have gh14_3 : hs_aI h14 57 = hs_aI h11 57 := gh14_3
      have ugh14_3 : hs_aI h14 57 = (upd (hs_aI h 57) x1.toInt.toNat (z10 &&& 1)) := gh14_3.trans vh11_57
      have Ih14 := H.1 h14 Jh14
      obtain ⟨z18, rfl, fz18⟩ := P13
      exact hq_W.ret rfl rfl rfl ⟨Jh14, _, rfl, by omega, by omega, by omega, by omega, (by rw [ugh14_3]; exact im_u1 (by omega) (by omega)), (by rw [ugh14_3]; exact im_u0 (by omega))⟩
    · exfalso; omega
theorem ct_121b1 {X : pm_X} {d : Nat} {h : pm_H} {x1 : Int32} (hd : 2 ≤ d) (ax1 : 1 ≤ x1.toInt) (bx1 : x1.toInt ≤ 1) (hn : hs_fR h 0 0 = 12) (hp : hs_fR h 0 1 = 1) : ty_M X ty_Wbn d 121 [.ref 0, .int x1] h (fun h1 v => ∃ z : Int32, v = some (.int z) ∧ cn_bk (hs_aI h 57 1).toInt z.toInt (hs_fI h1 12 0).toInt (hs_fI h1 12 3).toInt (hs_fI h1 12 10).toInt (hs_fI h 12 0).toInt (hs_fI h 12 3).toInt (hs_fI h 12 10).toInt (hs_fI h 46 0).toInt (hs_fI h 46 3).toInt (hs_fI h 46 10).toInt) := by
  intro J0 H0 hJ0
  obtain ⟨J, eJ⟩ : ∃ J : pm_H → Prop, J = fun h' => J0 h' ∧ hs_fR h' 0 0 = 12 ∧ hs_fR h' 0 1 = 1 := ⟨_, rfl⟩
  have H : ty_C ty_Wbn J := by rw [eJ]; exact H0.refs 12 1
  have hJ : J h := by rw [eJ]; exact ⟨hJ0, hn, hp⟩
  refine hq_M.mono (Nat.le_refl _) (Q := fun h' v => J h' ∧ (fun h1 v => ∃ z : Int32, v = some (.int z) ∧ cn_bk (hs_aI h 57 1).toInt z.toInt (hs_fI h1 12 0).toInt (hs_fI h1 12 3).toInt (hs_fI h1 12 10).toInt (hs_fI h 12 0).toInt (hs_fI h 12 3).toInt (hs_fI h 12 10).toInt (hs_fI h 46 0).toInt (hs_fI h 46 3).toInt (hs_fI h 46 10).toInt) h' v) (fun h' v q => ⟨by have q1 := q.1; rw [eJ] at q1; exact q1.1, q.2⟩) ?_
  have p1 : ty_tr 1 := by simp [ty_tr]
  have l1 := ty_trl p1
  have p12 : ty_tr 12 := by simp [ty_tr]
  have l12 := ty_trl p12
  have p35 : ty_tr 35 := by simp [ty_tr]
  have l35 := ty_trl p35
  have p46 : ty_tr 46 := by simp [ty_tr]
  have l46 := ty_trl p46
  obtain ⟨d, rfl⟩ : ∃ e, d = e + 1 := ⟨d - 1, by omega⟩
  have I := H.1 h hJ
  obtain ⟨q0, eq0⟩ : ∃ q : Int32, q.toInt = (hs_fI h 12 0).toInt := ⟨_, rfl⟩
  have gq00 : 0 ≤ (hs_fI h 12 0).toInt := (I.2.1 12 0 (by decide)).1
  have gq01 : (hs_fI h 12 0).toInt ≤ 8 := (I.2.1 12 0 (by decide)).2
  obtain ⟨q3, eq3⟩ : ∃ q : Int32, q.toInt = (hs_fI h 12 3).toInt := ⟨_, rfl⟩
  have gq30 : 0 ≤ (hs_fI h 12 3).toInt := (I.2.1 12 3 (by decide)).1
  have gq31 : (hs_fI h 12 3).toInt ≤ 8 := (I.2.1 12 3 (by decide)).2
  obtain ⟨q10, eq10⟩ : ∃ q : Int32, q.toInt = (hs_fI h 12 10).toInt := ⟨_, rfl⟩
  have gq100 : 0 ≤ (hs_fI h 12 10).toInt := (I.2.1 12 10 (by decide)).1
  have gq101 : (hs_fI h 12 10).toInt ≤ 6 := (I.2.1 12 10 (by decide)).2
  refine hq_M.enter (q := (⟨"TrainBearers", "back", "(I)I"⟩, _, 2, some .int, 10, 2, pm_c121)) rfl rfl ?_
  show hq_W X d 10 false (some .int) pm_c121 (0, [some (.ref 0), some (.int x1)], [], h) (fun h' v => J h' ∧ (fun h1 v => ∃ z : Int32, v = some (.int z) ∧ cn_bk (hs_aI h 57 1).toInt z.toInt (hs_fI h1 12 0).toInt (hs_fI h1 12 3).toInt (hs_fI h1 12 10).toInt (hs_fI h 12 0).toInt (hs_fI h 12 3).toInt (hs_fI h 12 10).toInt (hs_fI h 46 0).toInt (hs_fI h 46 3).toInt (hs_fI h 46 10).toInt) h' v)
  refine hq_p rfl rfl ?_
  refine ty_zlt rfl (fun c1 => ?_) (fun c1 => ?_)
  · exfalso; omega
  · refine hq_p rfl rfl ?_
    refine hq_p rfl rfl (ty_ge (n := 2) nk_i2 (fun z2 ez2 => ?_))
    refine ty_ilt rfl (fun c3 => ?_) (fun c3 => ?_)
    · refine hq_p rfl rfl ?_
      refine hq_gR I.1 rfl rfl (by decide) (by decide) rfl ?_
      refine hq_p rfl rfl ?_
      refine ty_bLe I rfl rfl (by decide) (by omega) (by omega) (fun z4 ez4 az4 bz4 => ?_)
      rw [show x1.toInt.toNat = 1 by omega] at ez4
      refine ty_zne rfl (fun c5 => ?_) (fun c5 => ?_)
      · replace c5 : z4.toInt ≠ 0 := by omega
        refine hq_p rfl rfl ?_
        refine ty_gT (t := 12) I rfl rfl (by decide) (by decide) rfl (by have q := hJ; rw [eJ] at q; exact q.2.1) (fun _ => ?_)
        refine hq_p rfl rfl ?_
        refine hq_gR I.1 rfl rfl (by decide) (by decide) rfl ?_
        refine hq_p rfl rfl ?_
        refine ty_im1 I rfl (by omega) ?_
        refine ty_callj 0 (W := ty_Wbn) H hJ rfl (fun _ => rfl) rfl rfl rfl (hq_pre_o I.1 (x := 12) (ci := 8) (ty_trs p12) (by omega) rfl rfl rfl rfl) (fun a k w => by unfold ty_Wtr at w; unfold ty_Wbn; omega) (by unfold ty_Wtr ty_Wbn; omega) (ct_68 (t0 := 12) (t1 := 46) (by omega) p12 p46 (by decide)) (fun h7 _ Jh7 P6 => ?_)
        have Ih7 := H.1 h7 Jh7
        obtain ⟨rfl, c8a, c8b, c8c⟩ := P6
        obtain ⟨q9, eq9⟩ : ∃ q : Int32, q.toInt = (hs_fI h7 12 0).toInt := ⟨_, rfl⟩
        have aq9 : 0 ≤ (hs_fI h7 12 0).toInt := (Ih7.2.1 12 0 (by decide)).1
        have bq9 : (hs_fI h7 12 0).toInt ≤ 8 := (Ih7.2.1 12 0 (by decide)).2
        obtain ⟨q10, eq10⟩ : ∃ q : Int32, q.toInt = (hs_fI h7 12 3).toInt := ⟨_, rfl⟩
        have aq10 : 0 ≤ (hs_fI h7 12 3).toInt := (Ih7.2.1 12 3 (by decide)).1
        have bq10 : (hs_fI h7 12 3).toInt ≤ 8 := (Ih7.2.1 12 3 (by decide)).2
        obtain ⟨q11, eq11⟩ : ∃ q : Int32, q.toInt = (hs_fI h7 12 10).toInt := ⟨_, rfl⟩
        have aq11 : 0 ≤ (hs_fI h7 12 10).toInt := (Ih7.2.1 12 10 (by decide)).1
        have bq11 : (hs_fI h7 12 10).toInt ≤ 6 := (Ih7.2.1 12 10 (by decide)).2
        refine hq_p rfl rfl ?_
        obtain ⟨t12, kt12⟩ : ∃ q, hs_fR h7 0 5 = q := ⟨_, rfl⟩
        refine ty_gS Ih7 rfl rfl (by decide) (by decide) rfl kt12 (fun ot12 => ?_)
        have pt12 : ty_sp t12 := ot12
        have lt12 := ty_spl pt12
        clear ot12
        refine ty_callm 0 [(0, 12, 0), (0, 12, 3), (0, 12, 10)] (W := ty_Wbn) H Jh7 rfl (fun _ => rfl) rfl rfl rfl (hq_pre_o Ih7.1 (x := t12) (ci := 5) (ty_sps pt12) (by omega) rfl rfl rfl rfl) (fun a k w => by unfold ty_Wc at w; unfold ty_Wbn; omega) (by unfold ty_Wc ty_Wbn; omega) (ct_53 (t0 := t12) (by omega) pt12) ⟨⟨rfl, show ¬ ty_Wc 12 0 by unfold ty_Wc; omega⟩, ⟨rfl, show ¬ ty_Wc 12 3 by unfold ty_Wc; omega⟩, ⟨rfl, show ¬ ty_Wc 12 10 by unfold ty_Wc; omega⟩, trivial⟩ (fun h14 _ Jh14 gh14 P13 => ?_)
        obtain ⟨gh14_0, gh14_1, gh14_2, _⟩ := gh14
        have gh14_0 : (hs_fI h14 12 0).toInt = (hs_fI h7 12 0).toInt := gh14_0
        have gh14_1 : (hs_fI h14 12 3).toInt = (hs_fI h7 12 3).toInt := gh14_1
        have gh14_2 : (hs_fI h14 12 10).toInt = (hs_fI h7 12 10).toInt := gh14_2
        have Ih14 := H.1 h14 Jh14
        subst P13
        refine hq_p rfl rfl ?_
        refine hq_p rfl rfl (ty_ge (n := 0) nk_i0 (fun z15 ez15 => ?_))
        refine ty_callm 0 [(0, 12, 0), (0, 12, 3), (0, 12, 10)] (W := ty_Wbn) H Jh14 rfl (fun _ => rfl) rfl rfl rfl (hq_pre_o Ih14.1 (x := 0) (ci := 10) rfl (by decide) rfl rfl rfl rfl) (fun a k w => by unfold ty_Wc at w; unfold ty_Wbn; omega) (by unfold ty_Wc ty_Wbn; omega) (ct_126 (x1 := z15) (by omega)) ⟨⟨rfl, show ¬ ty_Wc 12 0 by unfold ty_Wc; omega⟩, ⟨rfl, show ¬ ty_Wc 12 3 by unfold ty_Wc; omega⟩, ⟨rfl, show ¬ ty_Wc 12 10 by unfold ty_Wc; omega⟩, trivial⟩ (fun h17 _ Jh17 gh17 P16 => ?_)
        obtain ⟨gh17_0, gh17_1, gh17_2, _⟩ := gh17
        have gh17_0 : (hs_fI h17 12 0).toInt = (hs_fI h14 12 0).toInt := gh17_0
        have gh17_1 : (hs_fI h17 12 3).toInt = (hs_fI h14 12 3).toInt := gh17_1
        have gh17_2 : (hs_fI h17 12 10).toInt = (hs_fI h14 12 10).toInt := gh17_2
        have Ih17 := H.1 h17 Jh17
        obtain ⟨z18, rfl, fz18⟩ := P16
        exact hq_W.ret rfl rfl rfl ⟨Jh17, _, rfl, by unfold cn_bk; omega⟩
      · refine hq_p rfl rfl ?_
        refine hq_p rfl rfl (ty_ge (n := -2) nk_bm2 (fun z19 ez19 => ?_))
        refine ty_callm 0 [(0, 12, 0), (0, 12, 3), (0, 12, 10)] (W := ty_Wbn) H hJ rfl (fun _ => rfl) rfl rfl rfl (hq_pre_o I.1 (x := 0) (ci := 10) rfl (by decide) rfl rfl rfl rfl) (fun a k w => by unfold ty_Wc at w; unfold ty_Wbn; omega) (by unfold ty_Wc ty_Wbn; omega) (ct_125 (x1 := z19) (by omega)) ⟨⟨rfl, show ¬ ty_Wc 12 0 by unfold ty_Wc; omega⟩, ⟨rfl, show ¬ ty_Wc 12 3 by unfold ty_Wc; omega⟩, ⟨rfl, show ¬ ty_Wc 12 10 by unfold ty_Wc; omega⟩, trivial⟩ (fun h21 _ Jh21 gh21 P20 => ?_)
        obtain ⟨gh21_0, gh21_1, gh21_2, _⟩ := gh21
        have gh21_0 : (hs_fI h21 12 0).toInt = (hs_fI h 12 0).toInt := gh21_0
        have gh21_1 : (hs_fI h21 12 3).toInt = (hs_fI h 12 3).toInt := gh21_1
        have gh21_2 : (hs_fI h21 12 10).toInt = (hs_fI h 12 10).toInt := gh21_2
        have Ih21 := H.1 h21 Jh21
        obtain ⟨z22, rfl, fz22⟩ := P20
        exact hq_W.ret rfl rfl rfl ⟨Jh21, _, rfl, by unfold cn_bk; omega⟩
    · exfalso; omega
end CT41
