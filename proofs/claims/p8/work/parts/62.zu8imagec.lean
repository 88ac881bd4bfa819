/-! CONTRACTS (printed by wip/pm/cts.py) -/
section CT51
theorem ct_120m {X : pm_X} {d : Nat} {h : pm_H} {x1 : Int32} (hd : 2 ≤ d) (ax1 : (-2147483648) ≤ x1.toInt) (bx1 : x1.toInt ≤ (-1)) : ty_M X ty_Wc d 120 [.ref 0, .int x1] h (fun _ v => ∃ z : Int32, v = some (.int z) ∧ (z.toInt = -1)) := by
  intro J H hJ
  obtain ⟨d, rfl⟩ : ∃ e, d = e + 1 := ⟨d - 1, by omega⟩
  have I := H.1 h hJ
  refine hq_M.enter (q := (⟨"TrainBearers", "image", "(I)I"⟩, _, 2, some .int, 10, 2, pm_c120)) rfl rfl ?_
  show hq_W X d 10 false (some .int) pm_c120 (0, [some (.ref 0), some (.int x1)], [], h) (fun h' v => J h' ∧ (fun _ v => ∃ z : Int32, v = some (.int z) ∧ (z.toInt = -1)) h' v)
  refine hq_p rfl rfl ?_
  refine ty_zlt rfl (fun c1 => ?_) (fun c1 => ?_)
  · refine hq_p rfl rfl ?_
    refine hq_p rfl rfl (ty_ge (n := -1) nk_im1 (fun z2 ez2 => ?_))
    refine ty_callj 0 (W := ty_Wc) H hJ rfl (fun _ => rfl) rfl rfl rfl (hq_pre_o I.1 (x := 0) (ci := 10) rfl (by decide) rfl rfl rfl rfl) (fun _ _ w => w) (fun _ w => w) (ct_125 (x1 := z2) (by omega)) (fun h4 _ Jh4 P3 => ?_)
    have Ih4 := H.1 h4 Jh4
    obtain ⟨z5, rfl, fz5⟩ := P3
    exact hq_W.ret rfl rfl rfl ⟨Jh4, _, rfl, by omega⟩
  · exfalso; omega
theorem ct_120q {X : pm_X} {d : Nat} {h : pm_H} {x1 : Int32} (hd : 2 ≤ d) (ax1 : 2 ≤ x1.toInt) (bx1 : x1.toInt ≤ 2147483647) : ty_M X ty_Wc d 120 [.ref 0, .int x1] h (fun _ v => ∃ z : Int32, v = some (.int z) ∧ (z.toInt = -1)) := by
  intro J H hJ
  obtain ⟨d, rfl⟩ : ∃ e, d = e + 1 := ⟨d - 1, by omega⟩
  have I := H.1 h hJ
  refine hq_M.enter (q := (⟨"TrainBearers", "image", "(I)I"⟩, _, 2, some .int, 10, 2, pm_c120)) rfl rfl ?_
  show hq_W X d 10 false (some .int) pm_c120 (0, [some (.ref 0), some (.int x1)], [], h) (fun h' v => J h' ∧ (fun _ v => ∃ z : Int32, v = some (.int z) ∧ (z.toInt = -1)) h' v)
  refine hq_p rfl rfl ?_
  refine ty_zlt rfl (fun c1 => ?_) (fun c1 => ?_)
  · exfalso; omega
  · refine hq_p rfl rfl ?_
    refine hq_p rfl rfl (ty_ge (n := 2) nk_i2 (fun z2 ez2 => ?_))
    refine ty_ilt rfl (fun c3 => ?_) (fun c3 => ?_)
    · exfalso; omega
    · refine hq_p rfl rfl ?_
      refine hq_p rfl rfl (ty_ge (n := -1) nk_im1 (fun z4 ez4 => ?_))
      refine ty_callj 0 (W := ty_Wc) H hJ rfl (fun _ => rfl) rfl rfl rfl (hq_pre_o I.1 (x := 0) (ci := 10) rfl (by decide) rfl rfl rfl rfl) (fun _ _ w => w) (fun _ w => w) (ct_125 (x1 := z4) (by omega)) (fun h6 _ Jh6 P5 => ?_)
      have Ih6 := H.1 h6 Jh6
      obtain ⟨z7, rfl, fz7⟩ := P5
      exact hq_W.ret rfl rfl rfl ⟨Jh6, _, rfl, by omega⟩
theorem ct_121m {X : pm_X} {d : Nat} {h : pm_H} {x1 : Int32} (hd : 2 ≤ d) (ax1 : (-2147483648) ≤ x1.toInt) (bx1 : x1.toInt ≤ (-1)) : ty_M X ty_Wc d 121 [.ref 0, .int x1] h (fun _ v => ∃ z : Int32, v = some (.int z) ∧ (z.toInt = -1)) := by
  intro J H hJ
  obtain ⟨d, rfl⟩ : ∃ e, d = e + 1 := ⟨d - 1, by omega⟩
  have I := H.1 h hJ
  refine hq_M.enter (q := (⟨"TrainBearers", "back", "(I)I"⟩, _, 2, some .int, 10, 2, pm_c121)) rfl rfl ?_
  show hq_W X d 10 false (some .int) pm_c121 (0, [some (.ref 0), some (.int x1)], [], h) (fun h' v => J h' ∧ (fun _ v => ∃ z : Int32, v = some (.int z) ∧ (z.toInt = -1)) h' v)
  refine hq_p rfl rfl ?_
  refine ty_zlt rfl (fun c1 => ?_) (fun c1 => ?_)
  · refine hq_p rfl rfl ?_
    refine hq_p rfl rfl (ty_ge (n := -1) nk_im1 (fun z2 ez2 => ?_))
    refine ty_callj 0 (W := ty_Wc) H hJ rfl (fun _ => rfl) rfl rfl rfl (hq_pre_o I.1 (x := 0) (ci := 10) rfl (by decide) rfl rfl rfl rfl) (fun _ _ w => w) (fun _ w => w) (ct_125 (x1 := z2) (by omega)) (fun h4 _ Jh4 P3 => ?_)
    have Ih4 := H.1 h4 Jh4
    obtain ⟨z5, rfl, fz5⟩ := P3
    exact hq_W.ret rfl rfl rfl ⟨Jh4, _, rfl, by omega⟩
  · exfalso; omega
theorem ct_121q {X : pm_X} {d : Nat} {h : pm_H} {x1 : Int32} (hd : 2 ≤ d) (ax1 : 2 ≤ x1.toInt) (bx1 : x1.toInt ≤ 2147483647) : ty_M X ty_Wc d 121 [.ref 0, .int x1] h (fun _ v => ∃ z : Int32, v = some (.int z) ∧ (z.toInt = -1)) := by
  intro J H hJ
  obtain ⟨d, rfl⟩ : ∃ e, d = e + 1 := ⟨d - 1, by omega⟩
  have I := H.1 h hJ
  refine hq_M.enter (q := (⟨"TrainBearers", "back", "(I)I"⟩, _, 2, some .int, 10, 2, pm_c121)) rfl rfl ?_
  show hq_W X d 10 false (some .int) pm_c121 (0, [some (.ref 0), some (.int x1)], [], h) (fun h' v => J h' ∧ (fun _ v => ∃ z : Int32, v = some (.int z) ∧ (z.toInt = -1)) h' v)
  refine hq_p rfl rfl ?_
  refine ty_zlt rfl (fun c1 => ?_) (fun c1 => ?_)
  · exfalso; omega
  · refine hq_p rfl rfl ?_
    refine hq_p rfl rfl (ty_ge (n := 2) nk_i2 (fun z2 ez2 => ?_))
    refine ty_ilt rfl (fun c3 => ?_) (fun c3 => ?_)
    · exfalso; omega
    · refine hq_p rfl rfl ?_
      refine hq_p rfl rfl (ty_ge (n := -1) nk_im1 (fun z4 ez4 => ?_))
      refine ty_callj 0 (W := ty_Wc) H hJ rfl (fun _ => rfl) rfl rfl rfl (hq_pre_o I.1 (x := 0) (ci := 10) rfl (by decide) rfl rfl rfl rfl) (fun _ _ w => w) (fun _ w => w) (ct_125 (x1 := z4) (by omega)) (fun h6 _ Jh6 P5 => ?_)
      have Ih6 := H.1 h6 Jh6
      obtain ⟨z7, rfl, fz7⟩ := P5
      exact hq_W.ret rfl rfl rfl ⟨Jh6, _, rfl, by omega⟩
theorem ct_120a0 {X : pm_X} {d : Nat} {h : pm_H} {x1 : Int32} (hd : 2 ≤ d) (ax1 : 0 ≤ x1.toInt) (bx1 : x1.toInt ≤ 0) (hn : hs_fR h 0 0 = 1) (hp : hs_fR h 0 1 = 12) : ty_M X (ty_Wil 41 0) d 120 [.ref 0, .int x1] h (fun h1 v => ∃ z : Int32, v = some (.int z) ∧ z.toInt = 0 ∧ (∀ j, 0 ≤ j → j < 36 → hs_aI h1 41 j = hs_aI h 7 j) ∧ (hs_aI h1 57 0).toInt = 1 ∧ (hs_aI h1 57 1).toInt = (hs_aI h 57 1).toInt) := by
  intro J0 H0 hJ0
  obtain ⟨J, eJ⟩ : ∃ J : pm_H → Prop, J = fun h' => J0 h' ∧ hs_fR h' 0 0 = 1 ∧ hs_fR h' 0 1 = 12 := ⟨_, rfl⟩
  have H : ty_C (ty_Wil 41 0) J := by rw [eJ]; exact H0.refs 1 12
  have hJ : J h := by rw [eJ]; exact ⟨hJ0, hn, hp⟩
  refine hq_M.mono (Nat.le_refl _) (Q := fun h' v => J h' ∧ (fun h1 v => ∃ z : Int32, v = some (.int z) ∧ z.toInt = 0 ∧ (∀ j, 0 ≤ j → j < 36 → hs_aI h1 41 j = hs_aI h 7 j) ∧ (hs_aI h1 57 0).toInt = 1 ∧ (hs_aI h1 57 1).toInt = (hs_aI h 57 1).toInt) h' v) (fun h' v q => ⟨by have q1 := q.1; rw [eJ] at q1; exact q1.1, q.2⟩) ?_
  have p1 : ty_tr 1 := by simp [ty_tr]
  have l1 := ty_trl p1
  have p12 : ty_tr 12 := by simp [ty_tr]
  have l12 := ty_trl p12
  have p35 : ty_tr 35 := by simp [ty_tr]
  have l35 := ty_trl p35
  have p46 : ty_tr 46 := by simp [ty_tr]
  have l46 := ty_trl p46
  obtain ⟨d, rfl⟩ : ∃ e, d = e + 1 := ⟨d - 1, by omega⟩
  have I := H.1 h hJ
  refine hq_M.enter (q := (⟨"TrainBearers", "image", "(I)I"⟩, _, 2, some .int, 10, 2, pm_c120)) rfl rfl ?_
  show hq_W X d 10 false (some .int) pm_c120 (0, [some (.ref 0), some (.int x1)], [], h) (fun h' v => J h' ∧ (fun h1 v => ∃ z : Int32, v = some (.int z) ∧ z.toInt = 0 ∧ (∀ j, 0 ≤ j → j < 36 → hs_aI h1 41 j = hs_aI h 7 j) ∧ (hs_aI h1 57 0).toInt = 1 ∧ (hs_aI h1 57 1).toInt = (hs_aI h 57 1).toInt) h' v)
  refine hq_p rfl rfl ?_
  refine ty_zlt rfl (fun c1 => ?_) (fun c1 => ?_)
  · exfalso; omega
  · refine hq_p rfl rfl ?_
    refine hq_p rfl rfl (ty_ge (n := 2) nk_i2 (fun z2 ez2 => ?_))
    refine ty_ilt rfl (fun c3 => ?_) (fun c3 => ?_)
    · refine hq_p rfl rfl ?_
      refine hq_gR I.1 rfl rfl (by decide) (by decide) rfl ?_
      refine hq_p rfl rfl ?_
      refine ty_im0 I rfl (by omega) ?_
      refine hq_p rfl rfl ?_
      refine ty_gT (t := 1) I rfl rfl (by decide) (by decide) rfl (by have q := hJ; rw [eJ] at q; exact q.2.1) (fun _ => ?_)
      refine ty_callm 0 [(3, 57, 0)] (W := (ty_Wil 41 0)) H hJ rfl (fun _ => rfl) rfl rfl rfl (hq_pre_o I.1 (x := 35) (ci := 8) (ty_trs p35) (by omega) rfl rfl rfl rfl) (fun a k w => by unfold ty_Wtr at w; unfold ty_Wil; omega) (by unfold ty_Wtr ty_Wil; omega) (ct_68 (t0 := 35) (t1 := 1) (by omega) p35 p1 (by decide)) ⟨⟨rfl, fun k => show ¬ (ty_Wtr 35) 57 k by unfold ty_Wtr; omega⟩, trivial⟩ (fun h5 _ Jh5 gh5 P4 => ?_)
      obtain ⟨gh5_0, _⟩ := gh5
      have gh5_0 : hs_aI h5 57 = hs_aI h 57 := gh5_0
      have ugh5_0 : hs_aI h5 57 = (hs_aI h 57) := gh5_0.trans rfl
      have Ih5 := H.1 h5 Jh5
      obtain ⟨rfl, c6⟩ := P4
      have c6 : (∀ j, 0 ≤ j → j < 36 → hs_aI h5 41 j = hs_aI h 7 j) := c6
      refine hq_p rfl rfl ?_
      refine hq_gR Ih5.1 rfl rfl (by decide) (by decide) rfl ?_
      refine hq_p rfl rfl ?_
      refine hq_p rfl rfl (ty_ge (n := 1) nk_i1 (fun z7 ez7 => ?_))
      refine ty_bS (W := (ty_Wil 41 0)) H Jh5 rfl rfl (by decide) (by omega) (by omega) (fun i e => by unfold ty_Wil; omega) (fun _ => rfl) (by omega) (fun h8 eh8 Jh8 => ?_)
      have vh8_57 : hs_aI h8 57 = (upd (hs_aI h 57) x1.toInt.toNat (z7 &&& 1)) := by rw [eh8, hs_aI_sA, ugh5_0]
      have vh8_41 : hs_aI h8 41 = (hs_aI h5 41) := by rw [eh8]; exact (hs_aI_ne (by decide)).trans rfl
      have Ih8 := H.1 h8 Jh8
      refine hq_p rfl rfl ?_
      refine hq_p rfl rfl (ty_ge (n := 0) nk_i0 (fun z9 ez9 => ?_))
      refine ty_callm 0 [(3, 41, 0), (3, 57, 0)] (W := (ty_Wil 41 0)) H Jh8 rfl (fun _ => rfl) rfl rfl rfl (hq_pre_o Ih8.1 (x := 0) (ci := 10) rfl (by decide) rfl rfl rfl rfl) (fun a k w => by unfold ty_Wc at w; unfold ty_Wil; omega) (by unfold ty_Wc ty_Wil; omega) (ct_126 (x1 := z9) (by omega)) ⟨⟨rfl, fun k => show ¬ ty_Wc 41 k by unfold ty_Wc; omega⟩, ⟨rfl, fun k => show ¬ ty_Wc 57 k by unfold ty_Wc; omega⟩, trivial⟩ (fun h11 _ Jh11 gh11 P10 => ?_)
      obtain ⟨gh11_0, gh11_1, _⟩ := gh11
      have gh11_0 : hs_aI h11 41 = hs_aI h8 41 := gh11_0
      have ugh11_0 : hs_aI h11 41 = (hs_aI h5 41) := gh11_0.trans vh8_41
      have gh11_1 : hs_aI h11 57 = hs_aI h8 57 := gh11_1
      have ugh11_1 : hs_aI h11 57 = (upd (hs_aI h 57) x1.toInt.toNat (z7 &&& 1)) := gh11_1.trans vh8_57
      have Ih11 := H.1 h11 Jh11
      obtain ⟨z12, rfl, fz12⟩ := P10
      exact hq_W.ret rfl rfl rfl ⟨Jh11, _, rfl, by omega, (fun j j0 j1 => by rw [ugh11_0]; exact c6 j j0 j1), (by rw [ugh11_1]; exact im_u1 (by omega) (by omega)), (by rw [ugh11_1]; exact im_u0 (by omega))⟩
    · exfalso; omega
theorem ct_121a0 {X : pm_X} {d : Nat} {h : pm_H} {x1 : Int32} (hd : 2 ≤ d) (ax1 : 0 ≤ x1.toInt) (bx1 : x1.toInt ≤ 0) (hn : hs_fR h 0 0 = 1) (hp : hs_fR h 0 1 = 12) : ty_M X (ty_Wcl 7) d 121 [.ref 0, .int x1] h (fun h1 v => ∃ z : Int32, v = some (.int z) ∧ (((hs_aI h 57 0).toInt = 0 ∧ z.toInt = -2 ∧ (∀ j, 0 ≤ j → j < 36 → hs_aI h1 7 j = hs_aI h 7 j)) ∨ ((hs_aI h 57 0).toInt ≠ 0 ∧ z.toInt = 0 ∧ (∀ j, 0 ≤ j → j < 36 → hs_aI h1 7 j = hs_aI h 41 j)))) := by
  intro J0 H0 hJ0
  obtain ⟨J, eJ⟩ : ∃ J : pm_H → Prop, J = fun h' => J0 h' ∧ hs_fR h' 0 0 = 1 ∧ hs_fR h' 0 1 = 12 := ⟨_, rfl⟩
  have H : ty_C (ty_Wcl 7) J := by rw [eJ]; exact H0.refs 1 12
  have hJ : J h := by rw [eJ]; exact ⟨hJ0, hn, hp⟩
  refine hq_M.mono (Nat.le_refl _) (Q := fun h' v => J h' ∧ (fun h1 v => ∃ z : Int32, v = some (.int z) ∧ (((hs_aI h 57 0).toInt = 0 ∧ z.toInt = -2 ∧ (∀ j, 0 ≤ j → j < 36 → hs_aI h1 7 j = hs_aI h 7 j)) ∨ ((hs_aI h 57 0).toInt ≠ 0 ∧ z.toInt = 0 ∧ (∀ j, 0 ≤ j → j < 36 → hs_aI h1 7 j = hs_aI h 41 j)))) h' v) (fun h' v q => ⟨by have q1 := q.1; rw [eJ] at q1; exact q1.1, q.2⟩) ?_
  have p1 : ty_tr 1 := by simp [ty_tr]
  have l1 := ty_trl p1
  have p12 : ty_tr 12 := by simp [ty_tr]
  have l12 := ty_trl p12
  have p35 : ty_tr 35 := by simp [ty_tr]
  have l35 := ty_trl p35
  have p46 : ty_tr 46 := by simp [ty_tr]
  have l46 := ty_trl p46
  obtain ⟨d, rfl⟩ : ∃ e, d = e + 1 := ⟨d - 1, by omega⟩
  have I := H.1 h hJ
  refine hq_M.enter (q := (⟨"TrainBearers", "back", "(I)I"⟩, _, 2, some .int, 10, 2, pm_c121)) rfl rfl ?_
  show hq_W X d 10 false (some .int) pm_c121 (0, [some (.ref 0), some (.int x1)], [], h) (fun h' v => J h' ∧ (fun h1 v => ∃ z : Int32, v = some (.int z) ∧ (((hs_aI h 57 0).toInt = 0 ∧ z.toInt = -2 ∧ (∀ j, 0 ≤ j → j < 36 → hs_aI h1 7 j = hs_aI h 7 j)) ∨ ((hs_aI h 57 0).toInt ≠ 0 ∧ z.toInt = 0 ∧ (∀ j, 0 ≤ j → j < 36 → hs_aI h1 7 j = hs_aI h 41 j)))) h' v)
  refine hq_p rfl rfl ?_
  refine ty_zlt rfl (fun c1 => ?_) (fun c1 => ?_)
  · exfalso; omega
  · refine hq_p rfl rfl ?_
    refine hq_p rfl rfl (ty_ge (n := 2) nk_i2 (fun z2 ez2 => ?_))
    refine ty_ilt rfl (fun c3 => ?_) (fun c3 => ?_)
    · refine hq_p rfl rfl ?_
      refine hq_gR I.1 rfl rfl (by decide) (by decide) rfl ?_
      refine hq_p rfl rfl ?_
      refine ty_bLe I rfl rfl (by decide) (by omega) (by omega) (fun z4 ez4 az4 bz4 => ?_)
      rw [show x1.toInt.toNat = 0 by omega] at ez4
      refine ty_zne rfl (fun c5 => ?_) (fun c5 => ?_)
      · replace c5 : z4.toInt ≠ 0 := by omega
        refine hq_p rfl rfl ?_
        refine ty_gT (t := 1) I rfl rfl (by decide) (by decide) rfl (by have q := hJ; rw [eJ] at q; exact q.2.1) (fun _ => ?_)
        refine hq_p rfl rfl ?_
        refine hq_gR I.1 rfl rfl (by decide) (by decide) rfl ?_
        refine hq_p rfl rfl ?_
        refine ty_im0 I rfl (by omega) ?_
        refine ty_callj 0 (W := (ty_Wcl 7)) H hJ rfl (fun _ => rfl) rfl rfl rfl (hq_pre_o I.1 (x := 1) (ci := 8) (ty_trs p1) (by omega) rfl rfl rfl rfl) (fun a k w => by unfold ty_Wtr at w; unfold ty_Wcl; omega) (by unfold ty_Wtr ty_Wcl; omega) (ct_68 (t0 := 1) (t1 := 35) (by omega) p1 p35 (by decide)) (fun h7 _ Jh7 P6 => ?_)
        have Ih7 := H.1 h7 Jh7
        obtain ⟨rfl, c8⟩ := P6
        have c8 : (∀ j, 0 ≤ j → j < 36 → hs_aI h7 7 j = hs_aI h 41 j) := c8
        refine hq_p rfl rfl ?_
        obtain ⟨t9, kt9⟩ : ∃ q, hs_fR h7 0 5 = q := ⟨_, rfl⟩
        refine ty_gS Ih7 rfl rfl (by decide) (by decide) rfl kt9 (fun ot9 => ?_)
        have pt9 : ty_sp t9 := ot9
        have lt9 := ty_spl pt9
        clear ot9
        refine ty_callm 0 [(3, 7, 0)] (W := (ty_Wcl 7)) H Jh7 rfl (fun _ => rfl) rfl rfl rfl (hq_pre_o Ih7.1 (x := t9) (ci := 5) (ty_sps pt9) (by omega) rfl rfl rfl rfl) (fun a k w => by unfold ty_Wc at w; unfold ty_Wcl; omega) (by unfold ty_Wc ty_Wcl; omega) (ct_53 (t0 := t9) (by omega) pt9) ⟨⟨rfl, fun k => show ¬ ty_Wc 7 k by unfold ty_Wc; omega⟩, trivial⟩ (fun h11 _ Jh11 gh11 P10 => ?_)
        obtain ⟨gh11_0, _⟩ := gh11
        have gh11_0 : hs_aI h11 7 = hs_aI h7 7 := gh11_0
        have ugh11_0 : hs_aI h11 7 = (hs_aI h7 7) := gh11_0.trans rfl
        have Ih11 := H.1 h11 Jh11
        subst P10
        refine hq_p rfl rfl ?_
        refine hq_p rfl rfl (ty_ge (n := 0) nk_i0 (fun z12 ez12 => ?_))
        refine ty_callm 0 [(3, 7, 0)] (W := (ty_Wcl 7)) H Jh11 rfl (fun _ => rfl) rfl rfl rfl (hq_pre_o Ih11.1 (x := 0) (ci := 10) rfl (by decide) rfl rfl rfl rfl) (fun a k w => by unfold ty_Wc at w; unfold ty_Wcl; omega) (by unfold ty_Wc ty_Wcl; omega) (ct_126 (x1 := z12) (by omega)) ⟨⟨rfl, fun k => show ¬ ty_Wc 7 k by unfold ty_Wc; omega⟩, trivial⟩ (fun h14 _ Jh14 gh14 P13 => ?_)
        obtain ⟨gh14_0, _⟩ := gh14
        have gh14_0 : hs_aI h14 7 = hs_aI h11 7 := gh14_0
        have ugh14_0 : hs_aI h14 7 = (hs_aI h7 7) := gh14_0.trans ugh11_0
        have Ih14 := H.1 h14 Jh14
        obtain ⟨z15, rfl, fz15⟩ := P13
        exact hq_W.ret rfl rfl rfl ⟨Jh14, _, rfl, Or.inr ⟨by omega, by omega, (fun j j0 j1 => by rw [ugh14_0]; exact c8 j j0 j1)⟩⟩
      · refine hq_p rfl rfl ?_
        refine hq_p rfl rfl (ty_ge (n := -2) nk_bm2 (fun z16 ez16 => ?_))
        refine ty_callm 0 [(3, 7, 0)] (W := (ty_Wcl 7)) H hJ rfl (fun _ => rfl) rfl rfl rfl (hq_pre_o I.1 (x := 0) (ci := 10) rfl (by decide) rfl rfl rfl rfl) (fun a k w => by unfold ty_Wc at w; unfold ty_Wcl; omega) (by unfold ty_Wc ty_Wcl; omega) (ct_125 (x1 := z16) (by omega)) ⟨⟨rfl, fun k => show ¬ ty_Wc 7 k by unfold ty_Wc; omega⟩, trivial⟩ (fun h18 _ Jh18 gh18 P17 => ?_)
        obtain ⟨gh18_0, _⟩ := gh18
        have gh18_0 : hs_aI h18 7 = hs_aI h 7 := gh18_0
        have ugh18_0 : hs_aI h18 7 = (hs_aI h 7) := gh18_0.trans rfl
        have Ih18 := H.1 h18 Jh18
        obtain ⟨z19, rfl, fz19⟩ := P17
        exact hq_W.ret rfl rfl rfl ⟨Jh18, _, rfl, Or.inl ⟨by omega, by omega, (fun j _ _ => by rw [ugh18_0])⟩⟩
    · exfalso; omega
theorem ct_120a1 {X : pm_X} {d : Nat} {h : pm_H} {x1 : Int32} (hd : 2 ≤ d) (ax1 : 1 ≤ x1.toInt) (bx1 : x1.toInt ≤ 1) (hn : hs_fR h 0 0 = 1) (hp : hs_fR h 0 1 = 12) : ty_M X (ty_Wil 52 1) d 120 [.ref 0, .int x1] h (fun h1 v => ∃ z : Int32, v = some (.int z) ∧ z.toInt = 0 ∧ (∀ j, 0 ≤ j → j < 36 → hs_aI h1 52 j = hs_aI h 7 j) ∧ (hs_aI h1 57 1).toInt = 1 ∧ (hs_aI h1 57 0).toInt = (hs_aI h 57 0).toInt) := by
  intro J0 H0 hJ0
  obtain ⟨J, eJ⟩ : ∃ J : pm_H → Prop, J = fun h' => J0 h' ∧ hs_fR h' 0 0 = 1 ∧ hs_fR h' 0 1 = 12 := ⟨_, rfl⟩
  have H : ty_C (ty_Wil 52 1) J := by rw [eJ]; exact H0.refs 1 12
  have hJ : J h := by rw [eJ]; exact ⟨hJ0, hn, hp⟩
  refine hq_M.mono (Nat.le_refl _) (Q := fun h' v => J h' ∧ (fun h1 v => ∃ z : Int32, v = some (.int z) ∧ z.toInt = 0 ∧ (∀ j, 0 ≤ j → j < 36 → hs_aI h1 52 j = hs_aI h 7 j) ∧ (hs_aI h1 57 1).toInt = 1 ∧ (hs_aI h1 57 0).toInt = (hs_aI h 57 0).toInt) h' v) (fun h' v q => ⟨by have q1 := q.1; rw [eJ] at q1; exact q1.1, q.2⟩) ?_
  have p1 : ty_tr 1 := by simp [ty_tr]
  have l1 := ty_trl p1
  have p12 : ty_tr 12 := by simp [ty_tr]
  have l12 := ty_trl p12
  have p35 : ty_tr 35 := by simp [ty_tr]
  have l35 := ty_trl p35
  have p46 : ty_tr 46 := by simp [ty_tr]
  have l46 := ty_trl p46
  obtain ⟨d, rfl⟩ : ∃ e, d = e + 1 := ⟨d - 1, by omega⟩
  have I := H.1 h hJ
  refine hq_M.enter (q := (⟨"TrainBearers", "image", "(I)I"⟩, _, 2, some .int, 10, 2, pm_c120)) rfl rfl ?_
  show hq_W X d 10 false (some .int) pm_c120 (0, [some (.ref 0), some (.int x1)], [], h) (fun h' v => J h' ∧ (fun h1 v => ∃ z : Int32, v = some (.int z) ∧ z.toInt = 0 ∧ (∀ j, 0 ≤ j → j < 36 → hs_aI h1 52 j = hs_aI h 7 j) ∧ (hs_aI h1 57 1).toInt = 1 ∧ (hs_aI h1 57 0).toInt = (hs_aI h 57 0).toInt) h' v)
  refine hq_p rfl rfl ?_
  refine ty_zlt rfl (fun c1 => ?_) (fun c1 => ?_)
  · exfalso; omega
  · refine hq_p rfl rfl ?_
    refine hq_p rfl rfl (ty_ge (n := 2) nk_i2 (fun z2 ez2 => ?_))
    refine ty_ilt rfl (fun c3 => ?_) (fun c3 => ?_)
    · refine hq_p rfl rfl ?_
      refine hq_gR I.1 rfl rfl (by decide) (by decide) rfl ?_
      refine hq_p rfl rfl ?_
      refine ty_im1 I rfl (by omega) ?_
      refine hq_p rfl rfl ?_
      refine ty_gT (t := 1) I rfl rfl (by decide) (by decide) rfl (by have q := hJ; rw [eJ] at q; exact q.2.1) (fun _ => ?_)
      refine ty_callm 0 [(3, 57, 0)] (W := (ty_Wil 52 1)) H hJ rfl (fun _ => rfl) rfl rfl rfl (hq_pre_o I.1 (x := 46) (ci := 8) (ty_trs p46) (by omega) rfl rfl rfl rfl) (fun a k w => by unfold ty_Wtr at w; unfold ty_Wil; omega) (by unfold ty_Wtr ty_Wil; omega) (ct_68 (t0 := 46) (t1 := 1) (by omega) p46 p1 (by decide)) ⟨⟨rfl, fun k => show ¬ (ty_Wtr 46) 57 k by unfold ty_Wtr; omega⟩, trivial⟩ (fun h5 _ Jh5 gh5 P4 => ?_)
      obtain ⟨gh5_0, _⟩ := gh5
      have gh5_0 : hs_aI h5 57 = hs_aI h 57 := gh5_0
      have ugh5_0 : hs_aI h5 57 = (hs_aI h 57) := gh5_0.trans rfl
      have Ih5 := H.1 h5 Jh5
      obtain ⟨rfl, c6⟩ := P4
      have c6 : (∀ j, 0 ≤ j → j < 36 → hs_aI h5 52 j = hs_aI h 7 j) := c6
      refine hq_p rfl rfl ?_
      refine hq_gR Ih5.1 rfl rfl (by decide) (by decide) rfl ?_
      refine hq_p rfl rfl ?_
      refine hq_p rfl rfl (ty_ge (n := 1) nk_i1 (fun z7 ez7 => ?_))
      refine ty_bS (W := (ty_Wil 52 1)) H Jh5 rfl rfl (by decide) (by omega) (by omega) (fun i e => by unfold ty_Wil; omega) (fun _ => rfl) (by omega) (fun h8 eh8 Jh8 => ?_)
      have vh8_57 : hs_aI h8 57 = (upd (hs_aI h 57) x1.toInt.toNat (z7 &&& 1)) := by rw [eh8, hs_aI_sA, ugh5_0]
      have vh8_52 : hs_aI h8 52 = (hs_aI h5 52) := by rw [eh8]; exact (hs_aI_ne (by decide)).trans rfl
      have Ih8 := H.1 h8 Jh8
      refine hq_p rfl rfl ?_
      refine hq_p rfl rfl (ty_ge (n := 0) nk_i0 (fun z9 ez9 => ?_))
      refine ty_callm 0 [(3, 52, 0), (3, 57, 0)] (W := (ty_Wil 52 1)) H Jh8 rfl (fun _ => rfl) rfl rfl rfl (hq_pre_o Ih8.1 (x := 0) (ci := 10) rfl (by decide) rfl rfl rfl rfl) (fun a k w => by unfold ty_Wc at w; unfold ty_Wil; omega) (by unfold ty_Wc ty_Wil; omega) (ct_126 (x1 := z9) (by omega)) ⟨⟨rfl, fun k => show ¬ ty_Wc 52 k by unfold ty_Wc; omega⟩, ⟨rfl, fun k => show ¬ ty_Wc 57 k by unfold ty_Wc; omega⟩, trivial⟩ (fun h11 _ Jh11 gh11 P10 => ?_)
      obtain ⟨gh11_0, gh11_1, _⟩ := gh11
      have gh11_0 : hs_aI h11 52 = hs_aI h8 52 := gh11_0
      have ugh11_0 : hs_aI h11 52 = (hs_aI h5 52) := gh11_0.trans vh8_52
      have gh11_1 : hs_aI h11 57 = hs_aI h8 57 := gh11_1
      have ugh11_1 : hs_aI h11 57 = (upd (hs_aI h 57) x1.toInt.toNat (z7 &&& 1)) := gh11_1.trans vh8_57
      have Ih11 := H.1 h11 Jh11
      obtain ⟨z12, rfl, fz12⟩ := P10
      exact hq_W.ret rfl rfl rfl ⟨Jh11, _, rfl, by omega, (fun j j0 j1 => by rw [ugh11_0]; exact c6 j j0 j1), (by rw [ugh11_1]; exact im_u1 (by omega) (by omega)), (by rw [ugh11_1]; exact im_u0 (by omega))⟩
    · exfalso; omega
theorem ct_121a1 {X : pm_X} {d : Nat} {h : pm_H} {x1 : Int32} (hd : 2 ≤ d) (ax1 : 1 ≤ x1.toInt) (bx1 : x1.toInt ≤ 1) (hn : hs_fR h 0 0 = 1) (hp : hs_fR h 0 1 = 12) : ty_M X (ty_Wcl 7) d 121 [.ref 0, .int x1] h (fun h1 v => ∃ z : Int32, v = some (.int z) ∧ (((hs_aI h 57 1).toInt = 0 ∧ z.toInt = -2 ∧ (∀ j, 0 ≤ j → j < 36 → hs_aI h1 7 j = hs_aI h 7 j)) ∨ ((hs_aI h 57 1).toInt ≠ 0 ∧ z.toInt = 0 ∧ (∀ j, 0 ≤ j → j < 36 → hs_aI h1 7 j = hs_aI h 52 j)))) := by
  intro J0 H0 hJ0
  obtain ⟨J, eJ⟩ : ∃ J : pm_H → Prop, J = fun h' => J0 h' ∧ hs_fR h' 0 0 = 1 ∧ hs_fR h' 0 1 = 12 := ⟨_, rfl⟩
  have H : ty_C (ty_Wcl 7) J := by rw [eJ]; exact H0.refs 1 12
  have hJ : J h := by rw [eJ]; exact ⟨hJ0, hn, hp⟩
  refine hq_M.mono (Nat.le_refl _) (Q := fun h' v => J h' ∧ (fun h1 v => ∃ z : Int32, v = some (.int z) ∧ (((hs_aI h 57 1).toInt = 0 ∧ z.toInt = -2 ∧ (∀ j, 0 ≤ j → j < 36 → hs_aI h1 7 j = hs_aI h 7 j)) ∨ ((hs_aI h 57 1).toInt ≠ 0 ∧ z.toInt = 0 ∧ (∀ j, 0 ≤ j → j < 36 → hs_aI h1 7 j = hs_aI h 52 j)))) h' v) (fun h' v q => ⟨by have q1 := q.1; rw [eJ] at q1; exact q1.1, q.2⟩) ?_
  have p1 : ty_tr 1 := by simp [ty_tr]
  have l1 := ty_trl p1
  have p12 : ty_tr 12 := by simp [ty_tr]
  have l12 := ty_trl p12
  have p35 : ty_tr 35 := by simp [ty_tr]
  have l35 := ty_trl p35
  have p46 : ty_tr 46 := by simp [ty_tr]
  have l46 := ty_trl p46
  obtain ⟨d, rfl⟩ : ∃ e, d = e + 1 := ⟨d - 1, by omega⟩
  have I := H.1 h hJ
  refine hq_M.enter (q := (⟨"TrainBearers", "back", "(I)I"⟩, _, 2, some .int, 10, 2, pm_c121)) rfl rfl ?_
  show hq_W X d 10 false (some .int) pm_c121 (0, [some (.ref 0), some (.int x1)], [], h) (fun h' v => J h' ∧ (fun h1 v => ∃ z : Int32, v = some (.int z) ∧ (((hs_aI h 57 1).toInt = 0 ∧ z.toInt = -2 ∧ (∀ j, 0 ≤ j → j < 36 → hs_aI h1 7 j = hs_aI h 7 j)) ∨ ((hs_aI h 57 1).toInt ≠ 0 ∧ z.toInt = 0 ∧ (∀ j, 0 ≤ j → j < 36 → hs_aI h1 7 j = hs_aI h 52 j)))) h' v)
  refine hq_p rfl rfl ?_
  refine ty_zlt rfl (fun c1 => ?_) (fun c1 => ?_)
  · exfalso; omega
  · refine hq_p rfl rfl ?_
    refine hq_p rfl rfl (ty_ge (n := 2) nk_i2 (fun z2 ez2 => ?_))
    refine ty_ilt rfl (fun c3 => ?_) (fun c3 => ?_)
    · refine hq_p rfl rfl ?_
      refine hq_gR I.1 rfl rfl (by decide) (by decide) rfl ?_
      refine hq_p rfl rfl ?_
      refine ty_bLe I rfl rfl (by decide) (by omega) (by omega) (fun z4 ez4 az4 bz4 => ?_)
      rw [show x1.toInt.toNat = 1 by omega] at ez4
      refine ty_zne rfl (fun c5 => ?_) (fun c5 => ?_)
      · replace c5 : z4.toInt ≠ 0 := by omega
        refine hq_p rfl rfl ?_
        refine ty_gT (t := 1) I rfl rfl (by decide) (by decide) rfl (by have q := hJ; rw [eJ] at q; exact q.2.1) (fun _ => ?_)
        refine hq_p rfl rfl ?_
        refine hq_gR I.1 rfl rfl (by decide) (by decide) rfl ?_
        refine hq_p rfl rfl ?_
        refine ty_im1 I rfl (by omega) ?_
        refine ty_callj 0 (W := (ty_Wcl 7)) H hJ rfl (fun _ => rfl) rfl rfl rfl (hq_pre_o I.1 (x := 1) (ci := 8) (ty_trs p1) (by omega) rfl rfl rfl rfl) (fun a k w => by unfold ty_Wtr at w; unfold ty_Wcl; omega) (by unfold ty_Wtr ty_Wcl; omega) (ct_68 (t0 := 1) (t1 := 46) (by omega) p1 p46 (by decide)) (fun h7 _ Jh7 P6 => ?_)
        have Ih7 := H.1 h7 Jh7
        obtain ⟨rfl, c8⟩ := P6
        have c8 : (∀ j, 0 ≤ j → j < 36 → hs_aI h7 7 j = hs_aI h 52 j) := c8
        refine hq_p rfl rfl ?_
        obtain ⟨t9, kt9⟩ : ∃ q, hs_fR h7 0 5 = q := ⟨_, rfl⟩
        refine ty_gS Ih7 rfl rfl (by decide) (by decide) rfl kt9 (fun ot9 => ?_)
        have pt9 : ty_sp t9 := ot9
        have lt9 := ty_spl pt9
        clear ot9
        refine ty_callm 0 [(3, 7, 0)] (W := (ty_Wcl 7)) H Jh7 rfl (fun _ => rfl) rfl rfl rfl (hq_pre_o Ih7.1 (x := t9) (ci := 5) (ty_sps pt9) (by omega) rfl rfl rfl rfl) (fun a k w => by unfold ty_Wc at w; unfold ty_Wcl; omega) (by unfold ty_Wc ty_Wcl; omega) (ct_53 (t0 := t9) (by omega) pt9) ⟨⟨rfl, fun k => show ¬ ty_Wc 7 k by unfold ty_Wc; omega⟩, trivial⟩ (fun h11 _ Jh11 gh11 P10 => ?_)
        obtain ⟨gh11_0, _⟩ := gh11
        have gh11_0 : hs_aI h11 7 = hs_aI h7 7 := gh11_0
        have ugh11_0 : hs_aI h11 7 = (hs_aI h7 7) := gh11_0.trans rfl
        have Ih11 := H.1 h11 Jh11
        subst P10
        refine hq_p rfl rfl ?_
        refine hq_p rfl rfl (ty_ge (n := 0) nk_i0 (fun z12 ez12 => ?_))
        refine ty_callm 0 [(3, 7, 0)] (W := (ty_Wcl 7)) H Jh11 rfl (fun _ => rfl) rfl rfl rfl (hq_pre_o Ih11.1 (x := 0) (ci := 10) rfl (by decide) rfl rfl rfl rfl) (fun a k w => by unfold ty_Wc at w; unfold ty_Wcl; omega) (by unfold ty_Wc ty_Wcl; omega) (ct_126 (x1 := z12) (by omega)) ⟨⟨rfl, fun k => show ¬ ty_Wc 7 k by unfold ty_Wc; omega⟩, trivial⟩ (fun h14 _ Jh14 gh14 P13 => ?_)
        obtain ⟨gh14_0, _⟩ := gh14
        have gh14_0 : hs_aI h14 7 = hs_aI h11 7 := gh14_0
        have ugh14_0 : hs_aI h14 7 = (hs_aI h7 7) := gh14_0.trans ugh11_0
        have Ih14 := H.1 h14 Jh14
        obtain ⟨z15, rfl, fz15⟩ := P13
        exact hq_W.ret rfl rfl rfl ⟨Jh14, _, rfl, Or.inr ⟨by omega, by omega, (fun j j0 j1 => by rw [ugh14_0]; exact c8 j j0 j1)⟩⟩
      · refine hq_p rfl rfl ?_
        refine hq_p rfl rfl (ty_ge (n := -2) nk_bm2 (fun z16 ez16 => ?_))
        refine ty_callm 0 [(3, 7, 0)] (W := (ty_Wcl 7)) H hJ rfl (fun _ => rfl) rfl rfl rfl (hq_pre_o I.1 (x := 0) (ci := 10) rfl (by decide) rfl rfl rfl rfl) (fun a k w => by unfold ty_Wc at w; unfold ty_Wcl; omega) (by unfold ty_Wc ty_Wcl; omega) (ct_125 (x1 := z16) (by omega)) ⟨⟨rfl, fun k => show ¬ ty_Wc 7 k by unfold ty_Wc; omega⟩, trivial⟩ (fun h18 _ Jh18 gh18 P17 => ?_)
        obtain ⟨gh18_0, _⟩ := gh18
        have gh18_0 : hs_aI h18 7 = hs_aI h 7 := gh18_0
        have ugh18_0 : hs_aI h18 7 = (hs_aI h 7) := gh18_0.trans rfl
        have Ih18 := H.1 h18 Jh18
        obtain ⟨z19, rfl, fz19⟩ := P17
        exact hq_W.ret rfl rfl rfl ⟨Jh18, _, rfl, Or.inl ⟨by omega, by omega, (fun j _ _ => by rw [ugh18_0])⟩⟩
    · exfalso; omega
theorem ct_120b0 {X : pm_X} {d : Nat} {h : pm_H} {x1 : Int32} (hd : 2 ≤ d) (ax1 : 0 ≤ x1.toInt) (bx1 : x1.toInt ≤ 0) (hn : hs_fR h 0 0 = 12) (hp : hs_fR h 0 1 = 1) : ty_M X (ty_Wil 41 0) d 120 [.ref 0, .int x1] h (fun h1 v => ∃ z : Int32, v = some (.int z) ∧ z.toInt = 0 ∧ (∀ j, 0 ≤ j → j < 36 → hs_aI h1 41 j = hs_aI h 18 j) ∧ (hs_aI h1 57 0).toInt = 1 ∧ (hs_aI h1 57 1).toInt = (hs_aI h 57 1).toInt) := by
  intro J0 H0 hJ0
  obtain ⟨J, eJ⟩ : ∃ J : pm_H → Prop, J = fun h' => J0 h' ∧ hs_fR h' 0 0 = 12 ∧ hs_fR h' 0 1 = 1 := ⟨_, rfl⟩
  have H : ty_C (ty_Wil 41 0) J := by rw [eJ]; exact H0.refs 12 1
  have hJ : J h := by rw [eJ]; exact ⟨hJ0, hn, hp⟩
  refine hq_M.mono (Nat.le_refl _) (Q := fun h' v => J h' ∧ (fun h1 v => ∃ z : Int32, v = some (.int z) ∧ z.toInt = 0 ∧ (∀ j, 0 ≤ j → j < 36 → hs_aI h1 41 j = hs_aI h 18 j) ∧ (hs_aI h1 57 0).toInt = 1 ∧ (hs_aI h1 57 1).toInt = (hs_aI h 57 1).toInt) h' v) (fun h' v q => ⟨by have q1 := q.1; rw [eJ] at q1; exact q1.1, q.2⟩) ?_
  have p1 : ty_tr 1 := by simp [ty_tr]
  have l1 := ty_trl p1
  have p12 : ty_tr 12 := by simp [ty_tr]
  have l12 := ty_trl p12
  have p35 : ty_tr 35 := by simp [ty_tr]
  have l35 := ty_trl p35
  have p46 : ty_tr 46 := by simp [ty_tr]
  have l46 := ty_trl p46
  obtain ⟨d, rfl⟩ : ∃ e, d = e + 1 := ⟨d - 1, by omega⟩
  have I := H.1 h hJ
  refine hq_M.enter (q := (⟨"TrainBearers", "image", "(I)I"⟩, _, 2, some .int, 10, 2, pm_c120)) rfl rfl ?_
  show hq_W X d 10 false (some .int) pm_c120 (0, [some (.ref 0), some (.int x1)], [], h) (fun h' v => J h' ∧ (fun h1 v => ∃ z : Int32, v = some (.int z) ∧ z.toInt = 0 ∧ (∀ j, 0 ≤ j → j < 36 → hs_aI h1 41 j = hs_aI h 18 j) ∧ (hs_aI h1 57 0).toInt = 1 ∧ (hs_aI h1 57 1).toInt = (hs_aI h 57 1).toInt) h' v)
  refine hq_p rfl rfl ?_
  refine ty_zlt rfl (fun c1 => ?_) (fun c1 => ?_)
  · exfalso; omega
  · refine hq_p rfl rfl ?_
    refine hq_p rfl rfl (ty_ge (n := 2) nk_i2 (fun z2 ez2 => ?_))
    refine ty_ilt rfl (fun c3 => ?_) (fun c3 => ?_)
    · refine hq_p rfl rfl ?_
      refine hq_gR I.1 rfl rfl (by decide) (by decide) rfl ?_
      refine hq_p rfl rfl ?_
      refine ty_im0 I rfl (by omega) ?_
      refine hq_p rfl rfl ?_
      refine ty_gT (t := 12) I rfl rfl (by decide) (by decide) rfl (by have q := hJ; rw [eJ] at q; exact q.2.1) (fun _ => ?_)
      refine ty_callm 0 [(3, 57, 0)] (W := (ty_Wil 41 0)) H hJ rfl (fun _ => rfl) rfl rfl rfl (hq_pre_o I.1 (x := 35) (ci := 8) (ty_trs p35) (by omega) rfl rfl rfl rfl) (fun a k w => by unfold ty_Wtr at w; unfold ty_Wil; omega) (by unfold ty_Wtr ty_Wil; omega) (ct_68 (t0 := 35) (t1 := 12) (by omega) p35 p12 (by decide)) ⟨⟨rfl, fun k => show ¬ (ty_Wtr 35) 57 k by unfold ty_Wtr; omega⟩, trivial⟩ (fun h5 _ Jh5 gh5 P4 => ?_)
      obtain ⟨gh5_0, _⟩ := gh5
      have gh5_0 : hs_aI h5 57 = hs_aI h 57 := gh5_0
      have ugh5_0 : hs_aI h5 57 = (hs_aI h 57) := gh5_0.trans rfl
      have Ih5 := H.1 h5 Jh5
      obtain ⟨rfl, c6⟩ := P4
      have c6 : (∀ j, 0 ≤ j → j < 36 → hs_aI h5 41 j = hs_aI h 18 j) := c6
      refine hq_p rfl rfl ?_
      refine hq_gR Ih5.1 rfl rfl (by decide) (by decide) rfl ?_
      refine hq_p rfl rfl ?_
      refine hq_p rfl rfl (ty_ge (n := 1) nk_i1 (fun z7 ez7 => ?_))
      refine ty_bS (W := (ty_Wil 41 0)) H Jh5 rfl rfl (by decide) (by omega) (by omega) (fun i e => by unfold ty_Wil; omega) (fun _ => rfl) (by omega) (fun h8 eh8 Jh8 => ?_)
      have vh8_57 : hs_aI h8 57 = (upd (hs_aI h 57) x1.toInt.toNat (z7 &&& 1)) := by rw [eh8, hs_aI_sA, ugh5_0]
      have vh8_41 : hs_aI h8 41 = (hs_aI h5 41) := by rw [eh8]; exact (hs_aI_ne (by decide)).trans rfl
      have Ih8 := H.1 h8 Jh8
      refine hq_p rfl rfl ?_
      refine hq_p rfl rfl (ty_ge (n := 0) nk_i0 (fun z9 ez9 => ?_))
      refine ty_callm 0 [(3, 41, 0), (3, 57, 0)] (W := (ty_Wil 41 0)) H Jh8 rfl (fun _ => rfl) rfl rfl rfl (hq_pre_o Ih8.1 (x := 0) (ci := 10) rfl (by decide) rfl rfl rfl rfl) (fun a k w => by unfold ty_Wc at w; unfold ty_Wil; omega) (by unfold ty_Wc ty_Wil; omega) (ct_126 (x1 := z9) (by omega)) ⟨⟨rfl, fun k => show ¬ ty_Wc 41 k by unfold ty_Wc; omega⟩, ⟨rfl, fun k => show ¬ ty_Wc 57 k by unfold ty_Wc; omega⟩, trivial⟩ (fun h11 _ Jh11 gh11 P10 => ?_)
      obtain ⟨gh11_0, gh11_1, _⟩ := gh11
      have gh11_0 : hs_aI h11 41 = hs_aI h8 41 := gh11_0
      have ugh11_0 : hs_aI h11 41 = (hs_aI h5 41) := gh11_0.trans vh8_41
      have gh11_1 : hs_aI h11 57 = hs_aI h8 57 := gh11_1
      have ugh11_1 : hs_aI h11 57 = (upd (hs_aI h 57) x1.toInt.toNat (z7 &&& 1)) := gh11_1.trans vh8_57
      have Ih11 := H.1 h11 Jh11
      obtain ⟨z12, rfl, fz12⟩ := P10
      exact hq_W.ret rfl rfl rfl ⟨Jh11, _, rfl, by omega, (fun j j0 j1 => by rw [ugh11_0]; exact c6 j j0 j1), (by rw [ugh11_1]; exact im_u1 (by omega) (by omega)), (by rw [ugh11_1]; exact im_u0 (by omega))⟩
    · exfalso; omega
theorem ct_121b0 {X : pm_X} {d : Nat} {h : pm_H} {x1 : Int32} (hd : 2 ≤ d) (ax1 : 0 ≤ x1.toInt) (bx1 : x1.toInt ≤ 0) (hn : hs_fR h 0 0 = 12) (hp : hs_fR h 0 1 = 1) : ty_M X (ty_Wcl 18) d 121 [.ref 0, .int x1] h (fun h1 v => ∃ z : Int32, v = some (.int z) ∧ (((hs_aI h 57 0).toInt = 0 ∧ z.toInt = -2 ∧ (∀ j, 0 ≤ j → j < 36 → hs_aI h1 18 j = hs_aI h 18 j)) ∨ ((hs_aI h 57 0).toInt ≠ 0 ∧ z.toInt = 0 ∧ (∀ j, 0 ≤ j → j < 36 → hs_aI h1 18 j = hs_aI h 41 j)))) := by
  intro J0 H0 hJ0
  obtain ⟨J, eJ⟩ : ∃ J : pm_H → Prop, J = fun h' => J0 h' ∧ hs_fR h' 0 0 = 12 ∧ hs_fR h' 0 1 = 1 := ⟨_, rfl⟩
  have H : ty_C (ty_Wcl 18) J := by rw [eJ]; exact H0.refs 12 1
  have hJ : J h := by rw [eJ]; exact ⟨hJ0, hn, hp⟩
  refine hq_M.mono (Nat.le_refl _) (Q := fun h' v => J h' ∧ (fun h1 v => ∃ z : Int32, v = some (.int z) ∧ (((hs_aI h 57 0).toInt = 0 ∧ z.toInt = -2 ∧ (∀ j, 0 ≤ j → j < 36 → hs_aI h1 18 j = hs_aI h 18 j)) ∨ ((hs_aI h 57 0).toInt ≠ 0 ∧ z.toInt = 0 ∧ (∀ j, 0 ≤ j → j < 36 → hs_aI h1 18 j = hs_aI h 41 j)))) h' v) (fun h' v q => ⟨by have q1 := q.1; rw [eJ] at q1; exact q1.1, q.2⟩) ?_
  have p1 : ty_tr 1 := by simp [ty_tr]
  have l1 := ty_trl p1
  have p12 : ty_tr 12 := by simp [ty_tr]
  have l12 := ty_trl p12
  have p35 : ty_tr 35 := by simp [ty_tr]
  have l35 := ty_trl p35
  have p46 : ty_tr 46 := by simp [ty_tr]
  have l46 := ty_trl p46
  obtain ⟨d, rfl⟩ : ∃ e, d = e + 1 := ⟨d - 1, by omega⟩
  have I := H.1 h hJ
  refine hq_M.enter (q := (⟨"TrainBearers", "back", "(I)I"⟩, _, 2, some .int, 10, 2, pm_c121)) rfl rfl ?_
  show hq_W X d 10 false (some .int) pm_c121 (0, [some (.ref 0), some (.int x1)], [], h) (fun h' v => J h' ∧ (fun h1 v => ∃ z : Int32, v = some (.int z) ∧ (((hs_aI h 57 0).toInt = 0 ∧ z.toInt = -2 ∧ (∀ j, 0 ≤ j → j < 36 → hs_aI h1 18 j = hs_aI h 18 j)) ∨ ((hs_aI h 57 0).toInt ≠ 0 ∧ z.toInt = 0 ∧ (∀ j, 0 ≤ j → j < 36 → hs_aI h1 18 j = hs_aI h 41 j)))) h' v)
  refine hq_p rfl rfl ?_
  refine ty_zlt rfl (fun c1 => ?_) (fun c1 => ?_)
  · exfalso; omega
  · refine hq_p rfl rfl ?_
    refine hq_p rfl rfl (ty_ge (n := 2) nk_i2 (fun z2 ez2 => ?_))
    refine ty_ilt rfl (fun c3 => ?_) (fun c3 => ?_)
    · refine hq_p rfl rfl ?_
      refine hq_gR I.1 rfl rfl (by decide) (by decide) rfl ?_
      refine hq_p rfl rfl ?_
      refine ty_bLe I rfl rfl (by decide) (by omega) (by omega) (fun z4 ez4 az4 bz4 => ?_)
      rw [show x1.toInt.toNat = 0 by omega] at ez4
      refine ty_zne rfl (fun c5 => ?_) (fun c5 => ?_)
      · replace c5 : z4.toInt ≠ 0 := by omega
        refine hq_p rfl rfl ?_
        refine ty_gT (t := 12) I rfl rfl (by decide) (by decide) rfl (by have q := hJ; rw [eJ] at q; exact q.2.1) (fun _ => ?_)
        refine hq_p rfl rfl ?_
        refine hq_gR I.1 rfl rfl (by decide) (by decide) rfl ?_
        refine hq_p rfl rfl ?_
        refine ty_im0 I rfl (by omega) ?_
        refine ty_callj 0 (W := (ty_Wcl 18)) H hJ rfl (fun _ => rfl) rfl rfl rfl (hq_pre_o I.1 (x := 12) (ci := 8) (ty_trs p12) (by omega) rfl rfl rfl rfl) (fun a k w => by unfold ty_Wtr at w; unfold ty_Wcl; omega) (by unfold ty_Wtr ty_Wcl; omega) (ct_68 (t0 := 12) (t1 := 35) (by omega) p12 p35 (by decide)) (fun h7 _ Jh7 P6 => ?_)
        have Ih7 := H.1 h7 Jh7
        obtain ⟨rfl, c8⟩ := P6
        have c8 : (∀ j, 0 ≤ j → j < 36 → hs_aI h7 18 j = hs_aI h 41 j) := c8
        refine hq_p rfl rfl ?_
        obtain ⟨t9, kt9⟩ : ∃ q, hs_fR h7 0 5 = q := ⟨_, rfl⟩
        refine ty_gS Ih7 rfl rfl (by decide) (by decide) rfl kt9 (fun ot9 => ?_)
        have pt9 : ty_sp t9 := ot9
        have lt9 := ty_spl pt9
        clear ot9
        refine ty_callm 0 [(3, 18, 0)] (W := (ty_Wcl 18)) H Jh7 rfl (fun _ => rfl) rfl rfl rfl (hq_pre_o Ih7.1 (x := t9) (ci := 5) (ty_sps pt9) (by omega) rfl rfl rfl rfl) (fun a k w => by unfold ty_Wc at w; unfold ty_Wcl; omega) (by unfold ty_Wc ty_Wcl; omega) (ct_53 (t0 := t9) (by omega) pt9) ⟨⟨rfl, fun k => show ¬ ty_Wc 18 k by unfold ty_Wc; omega⟩, trivial⟩ (fun h11 _ Jh11 gh11 P10 => ?_)
        obtain ⟨gh11_0, _⟩ := gh11
        have gh11_0 : hs_aI h11 18 = hs_aI h7 18 := gh11_0
        have ugh11_0 : hs_aI h11 18 = (hs_aI h7 18) := gh11_0.trans rfl
        have Ih11 := H.1 h11 Jh11
        subst P10
        refine hq_p rfl rfl ?_
        refine hq_p rfl rfl (ty_ge (n := 0) nk_i0 (fun z12 ez12 => ?_))
        refine ty_callm 0 [(3, 18, 0)] (W := (ty_Wcl 18)) H Jh11 rfl (fun _ => rfl) rfl rfl rfl (hq_pre_o Ih11.1 (x := 0) (ci := 10) rfl (by decide) rfl rfl rfl rfl) (fun a k w => by unfold ty_Wc at w; unfold ty_Wcl; omega) (by unfold ty_Wc ty_Wcl; omega) (ct_126 (x1 := z12) (by omega)) ⟨⟨rfl, fun k => show ¬ ty_Wc 18 k by unfold ty_Wc; omega⟩, trivial⟩ (fun h14 _ Jh14 gh14 P13 => ?_)
        obtain ⟨gh14_0, _⟩ := gh14
        have gh14_0 : hs_aI h14 18 = hs_aI h11 18 := gh14_0
        have ugh14_0 : hs_aI h14 18 = (hs_aI h7 18) := gh14_0.trans ugh11_0
        have Ih14 := H.1 h14 Jh14
        obtain ⟨z15, rfl, fz15⟩ := P13
        exact hq_W.ret rfl rfl rfl ⟨Jh14, _, rfl, Or.inr ⟨by omega, by omega, (fun j j0 j1 => by rw [ugh14_0]; exact c8 j j0 j1)⟩⟩
      · refine hq_p rfl rfl ?_
        refine hq_p rfl rfl (ty_ge (n := -2) nk_bm2 (fun z16 ez16 => ?_))
        refine ty_callm 0 [(3, 18, 0)] (W := (ty_Wcl 18)) H hJ rfl (fun _ => rfl) rfl rfl rfl (hq_pre_o I.1 (x := 0) (ci := 10) rfl (by decide) rfl rfl rfl rfl) (fun a k w => by unfold ty_Wc at w; unfold ty_Wcl; omega) (by unfold ty_Wc ty_Wcl; omega) (ct_125 (x1 := z16) (by omega)) ⟨⟨rfl, fun k => show ¬ ty_Wc 18 k by unfold ty_Wc; omega⟩, trivial⟩ (fun h18 _ Jh18 gh18 P17 => ?_)
        obtain ⟨gh18_0, _⟩ := gh18
        have gh18_0 : hs_aI h18 18 = hs_aI h 18 := gh18_0
        have ugh18_0 : hs_aI h18 18 = (hs_aI h 18) := gh18_0.trans rfl
        have Ih18 := H.1 h18 Jh18
        obtain ⟨z19, rfl, fz19⟩ := P17
        exact hq_W.ret rfl rfl rfl ⟨Jh18, _, rfl, Or.inl ⟨by omega, by omega, (fun j _ _ => by rw [ugh18_0])⟩⟩
    · exfalso; omega
theorem ct_120b1 {X : pm_X} {d : Nat} {h : pm_H} {x1 : Int32} (hd : 2 ≤ d) (ax1 : 1 ≤ x1.toInt) (bx1 : x1.toInt ≤ 1) (hn : hs_fR h 0 0 = 12) (hp : hs_fR h 0 1 = 1) : ty_M X (ty_Wil 52 1) d 120 [.ref 0, .int x1] h (fun h1 v => ∃ z : Int32, v = some (.int z) ∧ z.toInt = 0 ∧ (∀ j, 0 ≤ j → j < 36 → hs_aI h1 52 j = hs_aI h 18 j) ∧ (hs_aI h1 57 1).toInt = 1 ∧ (hs_aI h1 57 0).toInt = (hs_aI h 57 0).toInt) := by
  intro J0 H0 hJ0
  obtain ⟨J, eJ⟩ : ∃ J : pm_H → Prop, J = fun h' => J0 h' ∧ hs_fR h' 0 0 = 12 ∧ hs_fR h' 0 1 = 1 := ⟨_, rfl⟩
  have H : ty_C (ty_Wil 52 1) J := by rw [eJ]; exact H0.refs 12 1
  have hJ : J h := by rw [eJ]; exact ⟨hJ0, hn, hp⟩
  refine hq_M.mono (Nat.le_refl _) (Q := fun h' v => J h' ∧ (fun h1 v => ∃ z : Int32, v = some (.int z) ∧ z.toInt = 0 ∧ (∀ j, 0 ≤ j → j < 36 → hs_aI h1 52 j = hs_aI h 18 j) ∧ (hs_aI h1 57 1).toInt = 1 ∧ (hs_aI h1 57 0).toInt = (hs_aI h 57 0).toInt) h' v) (fun h' v q => ⟨by have q1 := q.1; rw [eJ] at q1; exact q1.1, q.2⟩) ?_
  have p1 : ty_tr 1 := by simp [ty_tr]
  have l1 := ty_trl p1
  have p12 : ty_tr 12 := by simp [ty_tr]
  have l12 := ty_trl p12
  have p35 : ty_tr 35 := by simp [ty_tr]
  have l35 := ty_trl p35
  have p46 : ty_tr 46 := by simp [ty_tr]
  have l46 := ty_trl p46
  obtain ⟨d, rfl⟩ : ∃ e, d = e + 1 := ⟨d - 1, by omega⟩
  have I := H.1 h hJ
  refine hq_M.enter (q := (⟨"TrainBearers", "image", "(I)I"⟩, _, 2, some .int, 10, 2, pm_c120)) rfl rfl ?_
  show hq_W X d 10 false (some .int) pm_c120 (0, [some (.ref 0), some (.int x1)], [], h) (fun h' v => J h' ∧ (fun h1 v => ∃ z : Int32, v = some (.int z) ∧ z.toInt = 0 ∧ (∀ j, 0 ≤ j → j < 36 → hs_aI h1 52 j = hs_aI h 18 j) ∧ (hs_aI h1 57 1).toInt = 1 ∧ (hs_aI h1 57 0).toInt = (hs_aI h 57 0).toInt) h' v)
  refine hq_p rfl rfl ?_
  refine ty_zlt rfl (fun c1 => ?_) (fun c1 => ?_)
  · exfalso; omega
  · refine hq_p rfl rfl ?_
    refine hq_p rfl rfl (ty_ge (n := 2) nk_i2 (fun z2 ez2 => ?_))
    refine ty_ilt rfl (fun c3 => ?_) (fun c3 => ?_)
    · refine hq_p rfl rfl ?_
      refine hq_gR I.1 rfl rfl (by decide) (by decide) rfl ?_
      refine hq_p rfl rfl ?_
      refine ty_im1 I rfl (by omega) ?_
      refine hq_p rfl rfl ?_
      refine ty_gT (t := 12) I rfl rfl (by decide) (by decide) rfl (by have q := hJ; rw [eJ] at q; exact q.2.1) (fun _ => ?_)
      refine ty_callm 0 [(3, 57, 0)] (W := (ty_Wil 52 1)) H hJ rfl (fun _ => rfl) rfl rfl rfl (hq_pre_o I.1 (x := 46) (ci := 8) (ty_trs p46) (by omega) rfl rfl rfl rfl) (fun a k w => by unfold ty_Wtr at w; unfold ty_Wil; omega) (by unfold ty_Wtr ty_Wil; omega) (ct_68 (t0 := 46) (t1 := 12) (by omega) p46 p12 (by decide)) ⟨⟨rfl, fun k => show ¬ (ty_Wtr 46) 57 k by unfold ty_Wtr; omega⟩, trivial⟩ (fun h5 _ Jh5 gh5 P4 => ?_)
      obtain ⟨gh5_0, _⟩ := gh5
      have gh5_0 : hs_aI h5 57 = hs_aI h 57 := gh5_0
      have ugh5_0 : hs_aI h5 57 = (hs_aI h 57) := gh5_0.trans rfl
      have Ih5 := H.1 h5 Jh5
      obtain ⟨rfl, c6⟩ := P4
      have c6 : (∀ j, 0 ≤ j → j < 36 → hs_aI h5 52 j = hs_aI h 18 j) := c6
      refine hq_p rfl rfl ?_
      refine hq_gR Ih5.1 rfl rfl (by decide) (by decide) rfl ?_
      refine hq_p rfl rfl ?_
      refine hq_p rfl rfl (ty_ge (n := 1) nk_i1 (fun z7 ez7 => ?_))
      refine ty_bS (W := (ty_Wil 52 1)) H Jh5 rfl rfl (by decide) (by omega) (by omega) (fun i e => by unfold ty_Wil; omega) (fun _ => rfl) (by omega) (fun h8 eh8 Jh8 => ?_)
      have vh8_57 : hs_aI h8 57 = (upd (hs_aI h 57) x1.toInt.toNat (z7 &&& 1)) := by rw [eh8, hs_aI_sA, ugh5_0]
      have vh8_52 : hs_aI h8 52 = (hs_aI h5 52) := by rw [eh8]; exact (hs_aI_ne (by decide)).trans rfl
      have Ih8 := H.1 h8 Jh8
      refine hq_p rfl rfl ?_
      refine hq_p rfl rfl (ty_ge (n := 0) nk_i0 (fun z9 ez9 => ?_))
      refine ty_callm 0 [(3, 52, 0), (3, 57, 0)] (W := (ty_Wil 52 1)) H Jh8 rfl (fun _ => rfl) rfl rfl rfl (hq_pre_o Ih8.1 (x := 0) (ci := 10) rfl (by decide) rfl rfl rfl rfl) (fun a k w => by unfold ty_Wc at w; unfold ty_Wil; omega) (by unfold ty_Wc ty_Wil; omega) (ct_126 (x1 := z9) (by omega)) ⟨⟨rfl, fun k => show ¬ ty_Wc 52 k by unfold ty_Wc; omega⟩, ⟨rfl, fun k => show ¬ ty_Wc 57 k by unfold ty_Wc; omega⟩, trivial⟩ (fun h11 _ Jh11 gh11 P10 => ?_)
      obtain ⟨gh11_0, gh11_1, _⟩ := gh11
      have gh11_0 : hs_aI h11 52 = hs_aI h8 52 := gh11_0
      have ugh11_0 : hs_aI h11 52 = (hs_aI h5 52) := gh11_0.trans vh8_52
      have gh11_1 : hs_aI h11 57 = hs_aI h8 57 := gh11_1
      have ugh11_1 : hs_aI h11 57 = (upd (hs_aI h 57) x1.toInt.toNat (z7 &&& 1)) := gh11_1.trans vh8_57
      have Ih11 := H.1 h11 Jh11
      obtain ⟨z12, rfl, fz12⟩ := P10
      exact hq_W.ret rfl rfl rfl ⟨Jh11, _, rfl, by omega, (fun j j0 j1 => by rw [ugh11_0]; exact c6 j j0 j1), (by rw [ugh11_1]; exact im_u1 (by omega) (by omega)), (by rw [ugh11_1]; exact im_u0 (by omega))⟩
    · exfalso; omega
theorem ct_121b1 {X : pm_X} {d : Nat} {h : pm_H} {x1 : Int32} (hd : 2 ≤ d) (ax1 : 1 ≤ x1.toInt) (bx1 : x1.toInt ≤ 1) (hn : hs_fR h 0 0 = 12) (hp : hs_fR h 0 1 = 1) : ty_M X (ty_Wcl 18) d 121 [.ref 0, .int x1] h (fun h1 v => ∃ z : Int32, v = some (.int z) ∧ (((hs_aI h 57 1).toInt = 0 ∧ z.toInt = -2 ∧ (∀ j, 0 ≤ j → j < 36 → hs_aI h1 18 j = hs_aI h 18 j)) ∨ ((hs_aI h 57 1).toInt ≠ 0 ∧ z.toInt = 0 ∧ (∀ j, 0 ≤ j → j < 36 → hs_aI h1 18 j = hs_aI h 52 j)))) := by
  intro J0 H0 hJ0
  obtain ⟨J, eJ⟩ : ∃ J : pm_H → Prop, J = fun h' => J0 h' ∧ hs_fR h' 0 0 = 12 ∧ hs_fR h' 0 1 = 1 := ⟨_, rfl⟩
  have H : ty_C (ty_Wcl 18) J := by rw [eJ]; exact H0.refs 12 1
  have hJ : J h := by rw [eJ]; exact ⟨hJ0, hn, hp⟩
  refine hq_M.mono (Nat.le_refl _) (Q := fun h' v => J h' ∧ (fun h1 v => ∃ z : Int32, v = some (.int z) ∧ (((hs_aI h 57 1).toInt = 0 ∧ z.toInt = -2 ∧ (∀ j, 0 ≤ j → j < 36 → hs_aI h1 18 j = hs_aI h 18 j)) ∨ ((hs_aI h 57 1).toInt ≠ 0 ∧ z.toInt = 0 ∧ (∀ j, 0 ≤ j → j < 36 → hs_aI h1 18 j = hs_aI h 52 j)))) h' v) (fun h' v q => ⟨by have q1 := q.1; rw [eJ] at q1; exact q1.1, q.2⟩) ?_
  have p1 : ty_tr 1 := by simp [ty_tr]
  have l1 := ty_trl p1
  have p12 : ty_tr 12 := by simp [ty_tr]
  have l12 := ty_trl p12
  have p35 : ty_tr 35 := by simp [ty_tr]
  have l35 := ty_trl p35
  have p46 : ty_tr 46 := by simp [ty_tr]
  have l46 := ty_trl p46
  obtain ⟨d, rfl⟩ : ∃ e, d = e + 1 := ⟨d - 1, by omega⟩
  have I := H.1 h hJ
  refine hq_M.enter (q := (⟨"TrainBearers", "back", "(I)I"⟩, _, 2, some .int, 10, 2, pm_c121)) rfl rfl ?_
  show hq_W X d 10 false (some .int) pm_c121 (0, [some (.ref 0), some (.int x1)], [], h) (fun h' v => J h' ∧ (fun h1 v => ∃ z : Int32, v = some (.int z) ∧ (((hs_aI h 57 1).toInt = 0 ∧ z.toInt = -2 ∧ (∀ j, 0 ≤ j → j < 36 → hs_aI h1 18 j = hs_aI h 18 j)) ∨ ((hs_aI h 57 1).toInt ≠ 0 ∧ z.toInt = 0 ∧ (∀ j, 0 ≤ j → j < 36 → hs_aI h1 18 j = hs_aI h 52 j)))) h' v)
  refine hq_p rfl rfl ?_
  refine ty_zlt rfl (fun c1 => ?_) (fun c1 => ?_)
  · exfalso; omega
  · refine hq_p rfl rfl ?_
    refine hq_p rfl rfl (ty_ge (n := 2) nk_i2 (fun z2 ez2 => ?_))
    refine ty_ilt rfl (fun c3 => ?_) (fun c3 => ?_)
    · refine hq_p rfl rfl ?_
      refine hq_gR I.1 rfl rfl (by decide) (by decide) rfl ?_
      refine hq_p rfl rfl ?_
      refine ty_bLe I rfl rfl (by decide) (by omega) (by omega) (fun z4 ez4 az4 bz4 => ?_)
      rw [show x1.toInt.toNat = 1 by omega] at ez4
      refine ty_zne rfl (fun c5 => ?_) (fun c5 => ?_)
      · replace c5 : z4.toInt ≠ 0 := by omega
        refine hq_p rfl rfl ?_
        refine ty_gT (t := 12) I rfl rfl (by decide) (by decide) rfl (by have q := hJ; rw [eJ] at q; exact q.2.1) (fun _ => ?_)
        refine hq_p rfl rfl ?_
        refine hq_gR I.1 rfl rfl (by decide) (by decide) rfl ?_
        refine hq_p rfl rfl ?_
        refine ty_im1 I rfl (by omega) ?_
        refine ty_callj 0 (W := (ty_Wcl 18)) H hJ rfl (fun _ => rfl) rfl rfl rfl (hq_pre_o I.1 (x := 12) (ci := 8) (ty_trs p12) (by omega) rfl rfl rfl rfl) (fun a k w => by unfold ty_Wtr at w; unfold ty_Wcl; omega) (by unfold ty_Wtr ty_Wcl; omega) (ct_68 (t0 := 12) (t1 := 46) (by omega) p12 p46 (by decide)) (fun h7 _ Jh7 P6 => ?_)
        have Ih7 := H.1 h7 Jh7
        obtain ⟨rfl, c8⟩ := P6
        have c8 : (∀ j, 0 ≤ j → j < 36 → hs_aI h7 18 j = hs_aI h 52 j) := c8
        refine hq_p rfl rfl ?_
        obtain ⟨t9, kt9⟩ : ∃ q, hs_fR h7 0 5 = q := ⟨_, rfl⟩
        refine ty_gS Ih7 rfl rfl (by decide) (by decide) rfl kt9 (fun ot9 => ?_)
        have pt9 : ty_sp t9 := ot9
        have lt9 := ty_spl pt9
        clear ot9
        refine ty_callm 0 [(3, 18, 0)] (W := (ty_Wcl 18)) H Jh7 rfl (fun _ => rfl) rfl rfl rfl (hq_pre_o Ih7.1 (x := t9) (ci := 5) (ty_sps pt9) (by omega) rfl rfl rfl rfl) (fun a k w => by unfold ty_Wc at w; unfold ty_Wcl; omega) (by unfold ty_Wc ty_Wcl; omega) (ct_53 (t0 := t9) (by omega) pt9) ⟨⟨rfl, fun k => show ¬ ty_Wc 18 k by unfold ty_Wc; omega⟩, trivial⟩ (fun h11 _ Jh11 gh11 P10 => ?_)
        obtain ⟨gh11_0, _⟩ := gh11
        have gh11_0 : hs_aI h11 18 = hs_aI h7 18 := gh11_0
        have ugh11_0 : hs_aI h11 18 = (hs_aI h7 18) := gh11_0.trans rfl
        have Ih11 := H.1 h11 Jh11
        subst P10
        refine hq_p rfl rfl ?_
        refine hq_p rfl rfl (ty_ge (n := 0) nk_i0 (fun z12 ez12 => ?_))
        refine ty_callm 0 [(3, 18, 0)] (W := (ty_Wcl 18)) H Jh11 rfl (fun _ => rfl) rfl rfl rfl (hq_pre_o Ih11.1 (x := 0) (ci := 10) rfl (by decide) rfl rfl rfl rfl) (fun a k w => by unfold ty_Wc at w; unfold ty_Wcl; omega) (by unfold ty_Wc ty_Wcl; omega) (ct_126 (x1 := z12) (by omega)) ⟨⟨rfl, fun k => show ¬ ty_Wc 18 k by unfold ty_Wc; omega⟩, trivial⟩ (fun h14 _ Jh14 gh14 P13 => ?_)
        obtain ⟨gh14_0, _⟩ := gh14
        have gh14_0 : hs_aI h14 18 = hs_aI h11 18 := gh14_0
        have ugh14_0 : hs_aI h14 18 = (hs_aI h7 18) := gh14_0.trans ugh11_0
        have Ih14 := H.1 h14 Jh14
        obtain ⟨z15, rfl, fz15⟩ := P13
        exact hq_W.ret rfl rfl rfl ⟨Jh14, _, rfl, Or.inr ⟨by omega, by omega, (fun j j0 j1 => by rw [ugh14_0]; exact c8 j j0 j1)⟩⟩
      · refine hq_p rfl rfl ?_
        refine hq_p rfl rfl (ty_ge (n := -2) nk_bm2 (fun z16 ez16 => ?_))
        refine ty_callm 0 [(3, 18, 0)] (W := (ty_Wcl 18)) H hJ rfl (fun _ => rfl) rfl rfl rfl (hq_pre_o I.1 (x := 0) (ci := 10) rfl (by decide) rfl rfl rfl rfl) (fun a k w => by unfold ty_Wc at w; unfold ty_Wcl; omega) (by unfold ty_Wc ty_Wcl; omega) (ct_125 (x1 := z16) (by omega)) ⟨⟨rfl, fun k => show ¬ ty_Wc 18 k by unfold ty_Wc; omega⟩, trivial⟩ (fun h18 _ Jh18 gh18 P17 => ?_)
        obtain ⟨gh18_0, _⟩ := gh18
        have gh18_0 : hs_aI h18 18 = hs_aI h 18 := gh18_0
        have ugh18_0 : hs_aI h18 18 = (hs_aI h 18) := gh18_0.trans rfl
        have Ih18 := H.1 h18 Jh18
        obtain ⟨z19, rfl, fz19⟩ := P17
        exact hq_W.ret rfl rfl rfl ⟨Jh18, _, rfl, Or.inl ⟨by omega, by omega, (fun j _ _ => by rw [ugh18_0])⟩⟩
    · exfalso; omega
end CT51
