/-! CONTRACTS (printed by wip/pm/cts.py) -/
section CT53
theorem ct_132 {X : pm_X} {d : Nat} {h : pm_H}  (hd : 1 ≤ d) {J : pm_H → Prop} (H : ty_C ty_W0 J) (hJ : J h) (hT : ty_T J) : hq_M X d 132 [.ref 0] h (fun h' v => J h' ∧ (fun h1 v => v = none ∧ hs_fR h1 0 0 = hs_fR h 0 1 ∧ hs_fR h1 0 1 = hs_fR h 0 0) h' v) := by
  obtain ⟨d, rfl⟩ : ∃ e, d = e + 1 := ⟨d - 1, by omega⟩
  have I := H.1 h hJ
  refine hq_M.enter (q := (⟨"TrainBearers", "takePaper", "()V"⟩, _, 3, none, 10, 1, pm_c132)) rfl rfl ?_
  show hq_W X d 10 false (none) pm_c132 (0, [some (.ref 0), none, none], [], h) (fun h' v => J h' ∧ (fun h1 v => v = none ∧ hs_fR h1 0 0 = hs_fR h 0 1 ∧ hs_fR h1 0 1 = hs_fR h 0 0) h' v)
  refine hq_p rfl rfl ?_
  obtain ⟨t1, kt1⟩ : ∃ q, hs_fR h 0 0 = q := ⟨_, rfl⟩
  refine ty_gT I rfl rfl (by decide) (by decide) rfl kt1 (fun ot1 => ?_)
  have pt1 : ty_tr t1 := by rcases ot1 with rfl | rfl; exact Or.inl rfl; exact Or.inr (Or.inl rfl)
  have lt1 := ty_trl pt1
  refine hq_p (ls' := [some (.ref 0), some (.ref t1), none]) rfl rfl ?_
  refine hq_p rfl rfl ?_
  refine hq_p rfl rfl ?_
  obtain ⟨t2, kt2⟩ : ∃ q, hs_fR h 0 1 = q := ⟨_, rfl⟩
  refine ty_gT I rfl rfl (by decide) (by decide) rfl kt2 (fun ot2 => ?_)
  have pt2 : ty_tr t2 := by rcases ot2 with rfl | rfl; exact Or.inl rfl; exact Or.inr (Or.inl rfl)
  have lt2 := ty_trl pt2
  refine ty_pR (f := 4) hT I hJ rfl rfl rfl (Or.inl ⟨rfl, ot2⟩) (fun h3 eh3 Jh3 => ?_)
  have Ih3 := H.1 h3 Jh3
  refine hq_p rfl rfl ?_
  refine hq_p rfl rfl ?_
  refine ty_pR (f := 4) hT Ih3 Jh3 rfl rfl rfl (Or.inl ⟨rfl, ot1⟩) (fun h4 eh4 Jh4 => ?_)
  have Ih4 := H.1 h4 Jh4
  refine hq_p rfl rfl ?_
  obtain ⟨t5, kt5⟩ : ∃ q, hs_fR h4 0 5 = q := ⟨_, rfl⟩
  refine ty_gS Ih4 rfl rfl (by decide) (by decide) rfl kt5 (fun ot5 => ?_)
  have pt5 : ty_sp t5 := ot5
  have lt5 := ty_spl pt5
  refine hq_p (ls' := [some (.ref 0), some (.ref t1), some (.ref t5)]) rfl rfl ?_
  refine hq_p rfl rfl ?_
  refine hq_p rfl rfl ?_
  obtain ⟨t6, kt6⟩ : ∃ q, hs_fR h4 0 6 = q := ⟨_, rfl⟩
  refine ty_gS Ih4 rfl rfl (by decide) (by decide) rfl kt6 (fun ot6 => ?_)
  have pt6 : ty_sp t6 := ot6
  have lt6 := ty_spl pt6
  refine ty_pR (f := 5) hT Ih4 Jh4 rfl rfl rfl (Or.inr ⟨rfl, ot6⟩) (fun h7 eh7 Jh7 => ?_)
  have Ih7 := H.1 h7 Jh7
  refine hq_p rfl rfl ?_
  refine hq_p rfl rfl ?_
  refine ty_pR (f := 5) hT Ih7 Jh7 rfl rfl rfl (Or.inr ⟨rfl, ot5⟩) (fun h8 eh8 Jh8 => ?_)
  have Ih8 := H.1 h8 Jh8
  exact hq_W.ret rfl rfl rfl ⟨Jh8, rfl, (by rw [eh8, ty_fR_sF (by decide), eh7, ty_fR_sF (by decide), eh4, ty_fR_sF (by decide), eh3, rf_eq I rfl]; exact kt2.symm), (by rw [eh8, ty_fR_sF (by decide), eh7, ty_fR_sF (by decide), eh4, rf_eq Ih3 rfl]; exact kt1.symm)⟩
theorem ct_96a {X : pm_X} {d : Nat} {h : pm_H}  (hd : 104 ≤ d) (hX : ty_SX X) {J : pm_H → Prop} (H : ty_C (ty_Wcnl 7) J) (hJ : J h) (hT : ty_T J) (hn : hs_fR h 0 0 = 1) (hp : hs_fR h 0 1 = 12) : hq_M X d 96 [.ref 0] h (fun h' v => J h' ∧ (fun h1 v => (∃ z : Int32, v = some (.int z)) ∧ (hs_fI h1 62 1).toInt = 0 ∧ ((hs_fR h1 0 0 = 1 ∧ hs_fR h1 0 1 = 12) ∨ (hs_fR h1 0 0 = 12 ∧ hs_fR h1 0 1 = 1 ∧ (∀ j, 0 ≤ j → j < 36 → hs_aI h1 18 j = hs_aI h 7 j)))) h' v) := by
  have hJ0 := hJ
  have H0 := H
  obtain ⟨J1, eJ⟩ : ∃ J1 : pm_H → Prop, J1 = fun h' => (J h' ∧ hs_fR h' 0 0 = 1 ∧ hs_fR h' 0 1 = 12) ∧ fr_eq h' h [(3, 7, 0)] := ⟨_, rfl⟩
  have H : ty_C (ty_Wcnl 7) J1 := by rw [eJ]; exact ty_C.frs h _ (H0.refs 1 12) ⟨⟨rfl, fun k => show ¬ (ty_Wcnl 7) 7 k by unfold ty_Wcnl; omega⟩, trivial⟩
  have hJ : J1 h := by rw [eJ]; exact ⟨⟨hJ0, hn, hp⟩, fr_refl h _⟩
  have p1 : ty_tr 1 := by simp [ty_tr]
  have l1 := ty_trl p1
  have p12 : ty_tr 12 := by simp [ty_tr]
  have l12 := ty_trl p12
  obtain ⟨d, rfl⟩ : ∃ e, d = e + 1 := ⟨d - 1, by omega⟩
  have I := H.1 h hJ
  refine hq_M.enter (q := (⟨"TrainBearers", "orders", "()I"⟩, _, 3, some .int, 10, 1, pm_c96)) rfl rfl ?_
  show hq_W X d 10 false (some .int) pm_c96 (0, [some (.ref 0), none, none], [], h) (fun h' v => J h' ∧ (fun h1 v => (∃ z : Int32, v = some (.int z)) ∧ (hs_fI h1 62 1).toInt = 0 ∧ ((hs_fR h1 0 0 = 1 ∧ hs_fR h1 0 1 = 12) ∨ (hs_fR h1 0 0 = 12 ∧ hs_fR h1 0 1 = 1 ∧ (∀ j, 0 ≤ j → j < 36 → hs_aI h1 18 j = hs_aI h 7 j)))) h' v)
  refine hq_p rfl rfl ?_
  refine hq_gR I.1 rfl rfl (by decide) (by decide) rfl ?_
  refine hq_p rfl rfl (ty_ge (n := -1) nk_im1 (fun z1 ez1 => ?_))
  refine ty_pI (W := (ty_Wcnl 7)) H hJ rfl rfl (by decide) rfl rfl (by unfold ty_Wcnl; omega) rfl (by omega) (by omega) (fun h2 eh2 Jh2 => ?_)
  have wh2 : (hs_fI h2 76 5).toInt = z1.toInt := by rw [eh2]; exact congrArg Int32.toInt (ty_fI_eq I.1 rfl (by decide) rfl)
  have Ih2 := H.1 h2 Jh2
  refine hq_p rfl rfl ?_
  refine hq_gR Ih2.1 rfl rfl (by decide) (by decide) rfl ?_
  refine hq_p rfl rfl (ty_ge (n := 0) nk_i0 (fun z3 ez3 => ?_))
  refine ty_callj 0 (W := (ty_Wcnl 7)) H Jh2 rfl (fun _ => rfl) rfl rfl rfl (hq_pre_o Ih2.1 (x := 62) (ci := 3) rfl (by decide) rfl rfl rfl rfl) (fun a k w => by unfold ty_Wr0 at w; unfold ty_Wcnl; omega) (by unfold ty_Wr0 ty_Wcnl; omega) (ct_25 (x1 := z3) (by omega) hX (by omega) (by omega)) (fun h5 _ Jh5 P4 => ?_)
  have Ih5 := H.1 h5 Jh5
  obtain ⟨z6, rfl, az6, bz6⟩ := P4
  refine hq_p (ls' := [some (.ref 0), some (.int z6), none]) rfl rfl ?_
  refine hq_p rfl rfl ?_
  refine hq_gR Ih5.1 rfl rfl (by decide) (by decide) rfl ?_
  refine hq_p rfl rfl (ty_ge (n := 0) nk_i0 (fun z7 ez7 => ?_))
  refine ty_pI (W := (ty_Wcnl 7)) H Jh5 rfl rfl (by decide) rfl rfl (by unfold ty_Wcnl; omega) rfl (by omega) (by omega) (fun h8 eh8 Jh8 => ?_)
  have wh8 : (hs_fI h8 62 1).toInt = z7.toInt := by rw [eh8]; exact congrArg Int32.toInt (ty_fI_eq Ih5.1 rfl (by decide) rfl)
  have Ih8 := H.1 h8 Jh8
  refine hq_p rfl rfl ?_
  refine ty_zne rfl (fun c9 => ?_) (fun c9 => ?_)
  · replace c9 : 1 ≤ z6.toInt ∧ z6.toInt ≤ 1 := by omega
    refine hq_p rfl rfl ?_
    refine ty_gT (t := 12) Ih8 rfl rfl (by decide) (by decide) rfl (by have q := Jh8; rw [eJ] at q; exact q.1.2.2) (fun _ => ?_)
    refine hq_p rfl rfl ?_
    refine ty_gT (t := 1) Ih8 rfl rfl (by decide) (by decide) rfl (by have q := Jh8; rw [eJ] at q; exact q.1.2.1) (fun _ => ?_)
    refine ty_callz 0 (W := (ty_Wcnl 7)) H Jh8 rfl (fun _ => rfl) rfl rfl rfl (hq_pre_o Ih8.1 (x := 12) (ci := 8) (ty_trs p12) (by omega) rfl rfl rfl rfl) (fun a k w => by unfold ty_Wtr at w; unfold ty_Wcnl; omega) (by unfold ty_Wtr ty_Wcnl; omega) (ct_68 (t0 := 12) (t1 := 1) (by omega) p12 p1 (by decide)) (by unfold ty_Wtr; omega) (fun h11 _ Jh11 gh11 P10 => ?_)
    have Ih11 := H.1 h11 Jh11
    obtain ⟨rfl, c12⟩ := P10
    have u1 := Jh8
    rw [eJ] at u1
    obtain ⟨x0, _⟩ := u1.2
    have x0 : hs_aI h8 7 = hs_aI h 7 := x0
    have c12 : (∀ j, 0 ≤ j → j < 36 → hs_aI h11 18 j = hs_aI h8 7 j) := c12
    rw [x0] at c12
    obtain ⟨J3, eJ3⟩ : ∃ J3 : pm_H → Prop, J3 = fun h' => J1 h' ∧ fr_eq h' h11 [(3, 18, 0)] := ⟨_, rfl⟩
    have H : ty_C ty_Wc1 J3 := by rw [eJ3]; exact ty_C.frs h11 _ (H.mono (W' := ty_Wc1) (fun a k w => by unfold ty_Wc1 at w; unfold ty_Wcnl; omega) (by unfold ty_Wc1 ty_Wcnl; omega)) ⟨⟨rfl, fun k => show ¬ ty_Wc1 18 k by unfold ty_Wc1; omega⟩, trivial⟩
    have hJ3 : J3 h11 := by rw [eJ3]; exact ⟨Jh11, fr_refl _ _⟩
    refine hq_p rfl rfl ?_
    obtain ⟨t13, kt13⟩ : ∃ q, hs_fR h11 0 6 = q := ⟨_, rfl⟩
    refine ty_gS Ih11 rfl rfl (by decide) (by decide) rfl kt13 (fun ot13 => ?_)
    have pt13 : ty_sp t13 := ot13
    have lt13 := ty_spl pt13
    clear ot13
    refine hq_p rfl rfl ?_
    obtain ⟨t14, kt14⟩ : ∃ q, hs_fR h11 0 5 = q := ⟨_, rfl⟩
    refine ty_gS Ih11 rfl rfl (by decide) (by decide) rfl kt14 (fun ot14 => ?_)
    have pt14 : ty_sp t14 := ot14
    have lt14 := ty_spl pt14
    clear ot14
    refine ty_callz 0 (W := ty_Wc1) H hJ3 rfl (fun _ => rfl) rfl rfl rfl (hq_pre_o Ih11.1 (x := t13) (ci := 5) (ty_sps pt13) (by omega) rfl rfl rfl rfl) (fun a k w => by unfold ty_Wc at w; unfold ty_Wc1; omega) (by unfold ty_Wc ty_Wc1; omega) (ct_56 (t0 := t13) (t1 := t14) (by omega) pt13 pt14) (by unfold ty_Wc; omega) (fun h16 _ Jh16 gh16 P15 => ?_)
    have Ih16 := H.1 h16 Jh16
    subst P15
    refine hq_p rfl rfl ?_
    refine hq_gR Ih16.1 rfl rfl (by decide) (by decide) rfl ?_
    refine hq_p rfl rfl ?_
    refine hq_gR Ih16.1 rfl rfl (by decide) (by decide) rfl ?_
    refine hq_gR Ih16.1 rfl rfl (by decide) (by decide) rfl ?_
    refine hq_p rfl rfl ?_
    refine ty_gT (t := 12) Ih16 rfl rfl (by decide) (by decide) rfl (by have q := Jh16; rw [eJ3, eJ] at q; exact q.1.1.2.2) (fun _ => ?_)
    refine hq_p rfl rfl ?_
    obtain ⟨t17, kt17⟩ : ∃ q, hs_fR h16 0 6 = q := ⟨_, rfl⟩
    refine ty_gS Ih16 rfl rfl (by decide) (by decide) rfl kt17 (fun ot17 => ?_)
    have pt17 : ty_sp t17 := ot17
    have lt17 := ty_spl pt17
    clear ot17
    refine ty_callz 0 (W := ty_Wc1) H Jh16 rfl (fun _ => rfl) rfl rfl rfl (hq_pre_o Ih16.1 (x := 76) (ci := 1) rfl (by decide) rfl rfl rfl rfl) (fun a k w => by unfold ty_Wc at w; unfold ty_Wc1; omega) (by unfold ty_Wc ty_Wc1; omega) (ct_14 (t2 := 12) (t3 := t17) (by omega) p12 pt17) (by unfold ty_Wc; omega) (fun h19 _ Jh19 gh19 P18 => ?_)
    have Ih19 := H.1 h19 Jh19
    obtain ⟨z20, rfl, az20, bz20⟩ := P18
    refine hq_p (ls' := [some (.ref 0), some (.int z6), some (.int z20)]) rfl rfl ?_
    refine hq_p rfl rfl ?_
    refine ty_zge rfl (fun c21 => ?_) (fun c21 => ?_)
    · refine hq_p rfl rfl ?_
      have u3 := Jh19
      rw [eJ3, eJ] at u3
      obtain ⟨y0, _⟩ := u3.2
      have y0 : hs_aI h19 18 = hs_aI h11 18 := y0
      refine hq_inv 0 rfl (fun _ => rfl) rfl rfl rfl (hq_pre_o Ih19.1 (x := 0) (ci := 10) rfl (by decide) rfl rfl rfl rfl) ((ct_132 (by omega) (J := fun h' => ((J h' ∧ h'.1 = h19.1 ∧ h'.2.1 = h19.2.1) ∧ hs_fI h' 62 1 = hs_fI h19 62 1) ∧ hs_aI h' 18 = hs_aI h19 18) (H0.w0 (fun h j => j.1.1.1)) ⟨⟨⟨u3.1.1.1, rfl, rfl⟩, rfl⟩, rfl⟩ (fun h1 b t f j e q => ⟨⟨⟨hT h1 b t f j.1.1.1 e q, j.1.1.2.1, j.1.1.2.2⟩, (hs_fI_ne (by decide)).trans j.1.2⟩, (hs_aI_ne (by decide)).trans j.2⟩)).mono (Nat.le_refl _) (fun h22 v q => ?_))
      obtain ⟨⟨⟨⟨jh22, e1, e2⟩, gzh22⟩, v0⟩, rfl, w1, w2⟩ := q
      refine ⟨by omega, by omega, ?_⟩
      have gwh22 : (hs_fI h22 62 1).toInt = (hs_fI h19 62 1).toInt := by rw [gzh22]
      clear gzh22
      obtain ⟨J4, eJ4⟩ : ∃ J4 : pm_H → Prop, J4 = fun h' => (J h' ∧ hs_fR h' 0 0 = 12 ∧ hs_fR h' 0 1 = 1) ∧ fr_eq h' h22 [(3, 18, 0)] := ⟨_, rfl⟩
      have H : ty_C ty_Wc1 J4 := by rw [eJ4]; exact ty_C.frs h22 _ ((H0.mono (W' := ty_Wc1) (fun a k w => by unfold ty_Wc1 at w; unfold ty_Wcnl; omega) (by unfold ty_Wc1 ty_Wcnl; omega)).refs 12 1) ⟨⟨rfl, fun k => show ¬ ty_Wc1 18 k by unfold ty_Wc1; omega⟩, trivial⟩
      have Jh22 : J4 h22 := by rw [eJ4]; exact ⟨⟨jh22, w1.trans u3.1.1.2.2, w2.trans u3.1.1.2.1⟩, fr_refl _ _⟩
      have Ih22 := H.1 h22 Jh22
      refine hq_p rfl rfl ?_
      refine hq_p rfl rfl ?_
      refine ty_callz 0 (W := ty_Wc1) H Jh22 rfl (fun _ => rfl) rfl rfl rfl (hq_pre_o Ih22.1 (x := 0) (ci := 10) rfl (by decide) rfl rfl rfl rfl) (fun a k w => by unfold ty_Wc at w; unfold ty_Wc1; omega) (by unfold ty_Wc ty_Wc1; omega) (ct_126 (x1 := z20) (by omega)) (by unfold ty_Wc; omega) (fun h24 _ Jh24 gh24 P23 => ?_)
      have Ih24 := H.1 h24 Jh24
      obtain ⟨z25, rfl, fz25⟩ := P23
      have u4 := Jh24
      rw [eJ4] at u4
      obtain ⟨z0, _⟩ := u4.2
      have z0 : hs_aI h24 18 = hs_aI h22 18 := z0
      exact hq_W.ret rfl rfl rfl ⟨(by have q := Jh24; rw [eJ4] at q; exact q.1.1), ⟨_, rfl⟩, by omega, Or.inr ⟨u4.1.2.1, u4.1.2.2, fun j j0 j1 => by rw [z0, v0, y0]; exact c12 j j0 j1⟩⟩
    · refine hq_p rfl rfl ?_
      refine hq_p rfl rfl ?_
      refine ty_callz 0 (W := ty_Wc1) H Jh19 rfl (fun _ => rfl) rfl rfl rfl (hq_pre_o Ih19.1 (x := 0) (ci := 10) rfl (by decide) rfl rfl rfl rfl) (fun a k w => by unfold ty_Wc at w; unfold ty_Wc1; omega) (by unfold ty_Wc ty_Wc1; omega) (ct_125 (x1 := z20) (by omega)) (by unfold ty_Wc; omega) (fun h27 _ Jh27 gh27 P26 => ?_)
      have Ih27 := H.1 h27 Jh27
      obtain ⟨z28, rfl, fz28⟩ := P26
      exact hq_W.ret rfl rfl rfl ⟨(by have q := Jh27; rw [eJ3, eJ] at q; exact q.1.1.1), ⟨_, rfl⟩, by omega, Or.inl ⟨(by have q := Jh27; rw [eJ3, eJ] at q; exact q.1.1.2.1), (by have q := Jh27; rw [eJ3, eJ] at q; exact q.1.1.2.2)⟩⟩
  · refine hq_p rfl rfl ?_
    refine hq_p rfl rfl (ty_ge (n := -6) nk_bm6 (fun z29 ez29 => ?_))
    refine ty_callz 0 (W := (ty_Wcnl 7)) H Jh8 rfl (fun _ => rfl) rfl rfl rfl (hq_pre_o Ih8.1 (x := 0) (ci := 10) rfl (by decide) rfl rfl rfl rfl) (fun a k w => by unfold ty_Wc at w; unfold ty_Wcnl; omega) (by unfold ty_Wc ty_Wcnl; omega) (ct_125 (x1 := z29) (by omega)) (by unfold ty_Wc; omega) (fun h31 _ Jh31 gh31 P30 => ?_)
    have Ih31 := H.1 h31 Jh31
    obtain ⟨z32, rfl, fz32⟩ := P30
    exact hq_W.ret rfl rfl rfl ⟨(by have q := Jh31; rw [eJ] at q; exact q.1.1), ⟨_, rfl⟩, by omega, Or.inl ⟨(by have q := Jh31; rw [eJ] at q; exact q.1.2.1), (by have q := Jh31; rw [eJ] at q; exact q.1.2.2)⟩⟩
theorem ct_96b {X : pm_X} {d : Nat} {h : pm_H}  (hd : 104 ≤ d) (hX : ty_SX X) {J : pm_H → Prop} (H : ty_C (ty_Wcnl 18) J) (hJ : J h) (hT : ty_T J) (hn : hs_fR h 0 0 = 12) (hp : hs_fR h 0 1 = 1) : hq_M X d 96 [.ref 0] h (fun h' v => J h' ∧ (fun h1 v => (∃ z : Int32, v = some (.int z)) ∧ (hs_fI h1 62 1).toInt = 0 ∧ ((hs_fR h1 0 0 = 12 ∧ hs_fR h1 0 1 = 1) ∨ (hs_fR h1 0 0 = 1 ∧ hs_fR h1 0 1 = 12 ∧ (∀ j, 0 ≤ j → j < 36 → hs_aI h1 7 j = hs_aI h 18 j)))) h' v) := by
  have hJ0 := hJ
  have H0 := H
  obtain ⟨J1, eJ⟩ : ∃ J1 : pm_H → Prop, J1 = fun h' => (J h' ∧ hs_fR h' 0 0 = 12 ∧ hs_fR h' 0 1 = 1) ∧ fr_eq h' h [(3, 18, 0)] := ⟨_, rfl⟩
  have H : ty_C (ty_Wcnl 18) J1 := by rw [eJ]; exact ty_C.frs h _ (H0.refs 12 1) ⟨⟨rfl, fun k => show ¬ (ty_Wcnl 18) 18 k by unfold ty_Wcnl; omega⟩, trivial⟩
  have hJ : J1 h := by rw [eJ]; exact ⟨⟨hJ0, hn, hp⟩, fr_refl h _⟩
  have p1 : ty_tr 1 := by simp [ty_tr]
  have l1 := ty_trl p1
  have p12 : ty_tr 12 := by simp [ty_tr]
  have l12 := ty_trl p12
  obtain ⟨d, rfl⟩ : ∃ e, d = e + 1 := ⟨d - 1, by omega⟩
  have I := H.1 h hJ
  refine hq_M.enter (q := (⟨"TrainBearers", "orders", "()I"⟩, _, 3, some .int, 10, 1, pm_c96)) rfl rfl ?_
  show hq_W X d 10 false (some .int) pm_c96 (0, [some (.ref 0), none, none], [], h) (fun h' v => J h' ∧ (fun h1 v => (∃ z : Int32, v = some (.int z)) ∧ (hs_fI h1 62 1).toInt = 0 ∧ ((hs_fR h1 0 0 = 12 ∧ hs_fR h1 0 1 = 1) ∨ (hs_fR h1 0 0 = 1 ∧ hs_fR h1 0 1 = 12 ∧ (∀ j, 0 ≤ j → j < 36 → hs_aI h1 7 j = hs_aI h 18 j)))) h' v)
  refine hq_p rfl rfl ?_
  refine hq_gR I.1 rfl rfl (by decide) (by decide) rfl ?_
  refine hq_p rfl rfl (ty_ge (n := -1) nk_im1 (fun z1 ez1 => ?_))
  refine ty_pI (W := (ty_Wcnl 18)) H hJ rfl rfl (by decide) rfl rfl (by unfold ty_Wcnl; omega) rfl (by omega) (by omega) (fun h2 eh2 Jh2 => ?_)
  have wh2 : (hs_fI h2 76 5).toInt = z1.toInt := by rw [eh2]; exact congrArg Int32.toInt (ty_fI_eq I.1 rfl (by decide) rfl)
  have Ih2 := H.1 h2 Jh2
  refine hq_p rfl rfl ?_
  refine hq_gR Ih2.1 rfl rfl (by decide) (by decide) rfl ?_
  refine hq_p rfl rfl (ty_ge (n := 0) nk_i0 (fun z3 ez3 => ?_))
  refine ty_callj 0 (W := (ty_Wcnl 18)) H Jh2 rfl (fun _ => rfl) rfl rfl rfl (hq_pre_o Ih2.1 (x := 62) (ci := 3) rfl (by decide) rfl rfl rfl rfl) (fun a k w => by unfold ty_Wr0 at w; unfold ty_Wcnl; omega) (by unfold ty_Wr0 ty_Wcnl; omega) (ct_25 (x1 := z3) (by omega) hX (by omega) (by omega)) (fun h5 _ Jh5 P4 => ?_)
  have Ih5 := H.1 h5 Jh5
  obtain ⟨z6, rfl, az6, bz6⟩ := P4
  refine hq_p (ls' := [some (.ref 0), some (.int z6), none]) rfl rfl ?_
  refine hq_p rfl rfl ?_
  refine hq_gR Ih5.1 rfl rfl (by decide) (by decide) rfl ?_
  refine hq_p rfl rfl (ty_ge (n := 0) nk_i0 (fun z7 ez7 => ?_))
  refine ty_pI (W := (ty_Wcnl 18)) H Jh5 rfl rfl (by decide) rfl rfl (by unfold ty_Wcnl; omega) rfl (by omega) (by omega) (fun h8 eh8 Jh8 => ?_)
  have wh8 : (hs_fI h8 62 1).toInt = z7.toInt := by rw [eh8]; exact congrArg Int32.toInt (ty_fI_eq Ih5.1 rfl (by decide) rfl)
  have Ih8 := H.1 h8 Jh8
  refine hq_p rfl rfl ?_
  refine ty_zne rfl (fun c9 => ?_) (fun c9 => ?_)
  · replace c9 : 1 ≤ z6.toInt ∧ z6.toInt ≤ 1 := by omega
    refine hq_p rfl rfl ?_
    refine ty_gT (t := 1) Ih8 rfl rfl (by decide) (by decide) rfl (by have q := Jh8; rw [eJ] at q; exact q.1.2.2) (fun _ => ?_)
    refine hq_p rfl rfl ?_
    refine ty_gT (t := 12) Ih8 rfl rfl (by decide) (by decide) rfl (by have q := Jh8; rw [eJ] at q; exact q.1.2.1) (fun _ => ?_)
    refine ty_callz 0 (W := (ty_Wcnl 18)) H Jh8 rfl (fun _ => rfl) rfl rfl rfl (hq_pre_o Ih8.1 (x := 1) (ci := 8) (ty_trs p1) (by omega) rfl rfl rfl rfl) (fun a k w => by unfold ty_Wtr at w; unfold ty_Wcnl; omega) (by unfold ty_Wtr ty_Wcnl; omega) (ct_68 (t0 := 1) (t1 := 12) (by omega) p1 p12 (by decide)) (by unfold ty_Wtr; omega) (fun h11 _ Jh11 gh11 P10 => ?_)
    have Ih11 := H.1 h11 Jh11
    obtain ⟨rfl, c12⟩ := P10
    have u1 := Jh8
    rw [eJ] at u1
    obtain ⟨x0, _⟩ := u1.2
    have x0 : hs_aI h8 18 = hs_aI h 18 := x0
    have c12 : (∀ j, 0 ≤ j → j < 36 → hs_aI h11 7 j = hs_aI h8 18 j) := c12
    rw [x0] at c12
    obtain ⟨J3, eJ3⟩ : ∃ J3 : pm_H → Prop, J3 = fun h' => J1 h' ∧ fr_eq h' h11 [(3, 7, 0)] := ⟨_, rfl⟩
    have H : ty_C ty_Wc1 J3 := by rw [eJ3]; exact ty_C.frs h11 _ (H.mono (W' := ty_Wc1) (fun a k w => by unfold ty_Wc1 at w; unfold ty_Wcnl; omega) (by unfold ty_Wc1 ty_Wcnl; omega)) ⟨⟨rfl, fun k => show ¬ ty_Wc1 7 k by unfold ty_Wc1; omega⟩, trivial⟩
    have hJ3 : J3 h11 := by rw [eJ3]; exact ⟨Jh11, fr_refl _ _⟩
    refine hq_p rfl rfl ?_
    obtain ⟨t13, kt13⟩ : ∃ q, hs_fR h11 0 6 = q := ⟨_, rfl⟩
    refine ty_gS Ih11 rfl rfl (by decide) (by decide) rfl kt13 (fun ot13 => ?_)
    have pt13 : ty_sp t13 := ot13
    have lt13 := ty_spl pt13
    clear ot13
    refine hq_p rfl rfl ?_
    obtain ⟨t14, kt14⟩ : ∃ q, hs_fR h11 0 5 = q := ⟨_, rfl⟩
    refine ty_gS Ih11 rfl rfl (by decide) (by decide) rfl kt14 (fun ot14 => ?_)
    have pt14 : ty_sp t14 := ot14
    have lt14 := ty_spl pt14
    clear ot14
    refine ty_callz 0 (W := ty_Wc1) H hJ3 rfl (fun _ => rfl) rfl rfl rfl (hq_pre_o Ih11.1 (x := t13) (ci := 5) (ty_sps pt13) (by omega) rfl rfl rfl rfl) (fun a k w => by unfold ty_Wc at w; unfold ty_Wc1; omega) (by unfold ty_Wc ty_Wc1; omega) (ct_56 (t0 := t13) (t1 := t14) (by omega) pt13 pt14) (by unfold ty_Wc; omega) (fun h16 _ Jh16 gh16 P15 => ?_)
    have Ih16 := H.1 h16 Jh16
    subst P15
    refine hq_p rfl rfl ?_
    refine hq_gR Ih16.1 rfl rfl (by decide) (by decide) rfl ?_
    refine hq_p rfl rfl ?_
    refine hq_gR Ih16.1 rfl rfl (by decide) (by decide) rfl ?_
    refine hq_gR Ih16.1 rfl rfl (by decide) (by decide) rfl ?_
    refine hq_p rfl rfl ?_
    refine ty_gT (t := 1) Ih16 rfl rfl (by decide) (by decide) rfl (by have q := Jh16; rw [eJ3, eJ] at q; exact q.1.1.2.2) (fun _ => ?_)
    refine hq_p rfl rfl ?_
    obtain ⟨t17, kt17⟩ : ∃ q, hs_fR h16 0 6 = q := ⟨_, rfl⟩
    refine ty_gS Ih16 rfl rfl (by decide) (by decide) rfl kt17 (fun ot17 => ?_)
    have pt17 : ty_sp t17 := ot17
    have lt17 := ty_spl pt17
    clear ot17
    refine ty_callz 0 (W := ty_Wc1) H Jh16 rfl (fun _ => rfl) rfl rfl rfl (hq_pre_o Ih16.1 (x := 76) (ci := 1) rfl (by decide) rfl rfl rfl rfl) (fun a k w => by unfold ty_Wc at w; unfold ty_Wc1; omega) (by unfold ty_Wc ty_Wc1; omega) (ct_14 (t2 := 1) (t3 := t17) (by omega) p1 pt17) (by unfold ty_Wc; omega) (fun h19 _ Jh19 gh19 P18 => ?_)
    have Ih19 := H.1 h19 Jh19
    obtain ⟨z20, rfl, az20, bz20⟩ := P18
    refine hq_p (ls' := [some (.ref 0), some (.int z6), some (.int z20)]) rfl rfl ?_
    refine hq_p rfl rfl ?_
    refine ty_zge rfl (fun c21 => ?_) (fun c21 => ?_)
    · refine hq_p rfl rfl ?_
      have u3 := Jh19
      rw [eJ3, eJ] at u3
      obtain ⟨y0, _⟩ := u3.2
      have y0 : hs_aI h19 7 = hs_aI h11 7 := y0
      refine hq_inv 0 rfl (fun _ => rfl) rfl rfl rfl (hq_pre_o Ih19.1 (x := 0) (ci := 10) rfl (by decide) rfl rfl rfl rfl) ((ct_132 (by omega) (J := fun h' => ((J h' ∧ h'.1 = h19.1 ∧ h'.2.1 = h19.2.1) ∧ hs_fI h' 62 1 = hs_fI h19 62 1) ∧ hs_aI h' 7 = hs_aI h19 7) (H0.w0 (fun h j => j.1.1.1)) ⟨⟨⟨u3.1.1.1, rfl, rfl⟩, rfl⟩, rfl⟩ (fun h1 b t f j e q => ⟨⟨⟨hT h1 b t f j.1.1.1 e q, j.1.1.2.1, j.1.1.2.2⟩, (hs_fI_ne (by decide)).trans j.1.2⟩, (hs_aI_ne (by decide)).trans j.2⟩)).mono (Nat.le_refl _) (fun h22 v q => ?_))
      obtain ⟨⟨⟨⟨jh22, e1, e2⟩, gzh22⟩, v0⟩, rfl, w1, w2⟩ := q
      refine ⟨by omega, by omega, ?_⟩
      have gwh22 : (hs_fI h22 62 1).toInt = (hs_fI h19 62 1).toInt := by rw [gzh22]
      clear gzh22
      obtain ⟨J4, eJ4⟩ : ∃ J4 : pm_H → Prop, J4 = fun h' => (J h' ∧ hs_fR h' 0 0 = 1 ∧ hs_fR h' 0 1 = 12) ∧ fr_eq h' h22 [(3, 7, 0)] := ⟨_, rfl⟩
      have H : ty_C ty_Wc1 J4 := by rw [eJ4]; exact ty_C.frs h22 _ ((H0.mono (W' := ty_Wc1) (fun a k w => by unfold ty_Wc1 at w; unfold ty_Wcnl; omega) (by unfold ty_Wc1 ty_Wcnl; omega)).refs 1 12) ⟨⟨rfl, fun k => show ¬ ty_Wc1 7 k by unfold ty_Wc1; omega⟩, trivial⟩
      have Jh22 : J4 h22 := by rw [eJ4]; exact ⟨⟨jh22, w1.trans u3.1.1.2.2, w2.trans u3.1.1.2.1⟩, fr_refl _ _⟩
      have Ih22 := H.1 h22 Jh22
      refine hq_p rfl rfl ?_
      refine hq_p rfl rfl ?_
      refine ty_callz 0 (W := ty_Wc1) H Jh22 rfl (fun _ => rfl) rfl rfl rfl (hq_pre_o Ih22.1 (x := 0) (ci := 10) rfl (by decide) rfl rfl rfl rfl) (fun a k w => by unfold ty_Wc at w; unfold ty_Wc1; omega) (by unfold ty_Wc ty_Wc1; omega) (ct_126 (x1 := z20) (by omega)) (by unfold ty_Wc; omega) (fun h24 _ Jh24 gh24 P23 => ?_)
      have Ih24 := H.1 h24 Jh24
      obtain ⟨z25, rfl, fz25⟩ := P23
      have u4 := Jh24
      rw [eJ4] at u4
      obtain ⟨z0, _⟩ := u4.2
      have z0 : hs_aI h24 7 = hs_aI h22 7 := z0
      exact hq_W.ret rfl rfl rfl ⟨(by have q := Jh24; rw [eJ4] at q; exact q.1.1), ⟨_, rfl⟩, by omega, Or.inr ⟨u4.1.2.1, u4.1.2.2, fun j j0 j1 => by rw [z0, v0, y0]; exact c12 j j0 j1⟩⟩
    · refine hq_p rfl rfl ?_
      refine hq_p rfl rfl ?_
      refine ty_callz 0 (W := ty_Wc1) H Jh19 rfl (fun _ => rfl) rfl rfl rfl (hq_pre_o Ih19.1 (x := 0) (ci := 10) rfl (by decide) rfl rfl rfl rfl) (fun a k w => by unfold ty_Wc at w; unfold ty_Wc1; omega) (by unfold ty_Wc ty_Wc1; omega) (ct_125 (x1 := z20) (by omega)) (by unfold ty_Wc; omega) (fun h27 _ Jh27 gh27 P26 => ?_)
      have Ih27 := H.1 h27 Jh27
      obtain ⟨z28, rfl, fz28⟩ := P26
      exact hq_W.ret rfl rfl rfl ⟨(by have q := Jh27; rw [eJ3, eJ] at q; exact q.1.1.1), ⟨_, rfl⟩, by omega, Or.inl ⟨(by have q := Jh27; rw [eJ3, eJ] at q; exact q.1.1.2.1), (by have q := Jh27; rw [eJ3, eJ] at q; exact q.1.1.2.2)⟩⟩
  · refine hq_p rfl rfl ?_
    refine hq_p rfl rfl (ty_ge (n := -6) nk_bm6 (fun z29 ez29 => ?_))
    refine ty_callz 0 (W := (ty_Wcnl 18)) H Jh8 rfl (fun _ => rfl) rfl rfl rfl (hq_pre_o Ih8.1 (x := 0) (ci := 10) rfl (by decide) rfl rfl rfl rfl) (fun a k w => by unfold ty_Wc at w; unfold ty_Wcnl; omega) (by unfold ty_Wc ty_Wcnl; omega) (ct_125 (x1 := z29) (by omega)) (by unfold ty_Wc; omega) (fun h31 _ Jh31 gh31 P30 => ?_)
    have Ih31 := H.1 h31 Jh31
    obtain ⟨z32, rfl, fz32⟩ := P30
    exact hq_W.ret rfl rfl rfl ⟨(by have q := Jh31; rw [eJ] at q; exact q.1.1), ⟨_, rfl⟩, by omega, Or.inl ⟨(by have q := Jh31; rw [eJ] at q; exact q.1.2.1), (by have q := Jh31; rw [eJ] at q; exact q.1.2.2)⟩⟩
theorem ct_95 {X : pm_X} {d : Nat} {h : pm_H}  (hd : 104 ≤ d) (hX : ty_SX X) {J : pm_H → Prop} (H : ty_C ty_Wc1 J) (hJ : J h) {J2 : pm_H → Prop} (H2 : ty_C ty_Wc1 J2) (hJ2 : ∀ h, J h → J2 h) (hA : ∀ h h1, J h → ty_I h1 → h1.1 = h.1 + 8 → h.2.1 ≤ h1.2.1 → h1.2.1 ≤ h.2.1 + 870 → (∀ b, b < h.1 → h1.2.2 b = h.2.2 b) → J2 h1) : hq_M X d 95 [.ref 0] h (fun h' v => J2 h' ∧ (fun h1 v => (∃ z : Int32, v = some (.int z)) ∧ (hs_fI h1 62 1).toInt = 0) h' v) := by
  obtain ⟨d, rfl⟩ : ∃ e, d = e + 1 := ⟨d - 1, by omega⟩
  have I := H.1 h hJ
  refine hq_M.enter (q := (⟨"TrainBearers", "law", "()I"⟩, _, 2, some .int, 10, 1, pm_c95)) rfl rfl ?_
  show hq_W X d 10 false (some .int) pm_c95 (0, [some (.ref 0), none], [], h) (fun h' v => J2 h' ∧ (fun h1 v => (∃ z : Int32, v = some (.int z)) ∧ (hs_fI h1 62 1).toInt = 0) h' v)
  refine hq_p rfl rfl ?_
  obtain ⟨t1, kt1⟩ : ∃ q, hs_fR h 0 0 = q := ⟨_, rfl⟩
  refine ty_gT I rfl rfl (by decide) (by decide) rfl kt1 (fun ot1 => ?_)
  have pt1 : ty_tr t1 := by rcases ot1 with rfl | rfl; exact Or.inl rfl; exact Or.inr (Or.inl rfl)
  have lt1 := ty_trl pt1
  have ko1_ := ot1
  clear ot1
  refine ty_gI I rfl (ty_trs pt1) (by omega) (by decide) rfl (ty_trf pt1 14) (fun z2 ez2 az2 bz2 => ?_)
  refine hq_p rfl rfl (ty_ge (n := 6) nk_b6 (fun z3 ez3 => ?_))
  refine ty_ilt rfl (fun c4 => ?_) (fun c4 => ?_)
  · refine hq_p rfl rfl ?_
    refine hq_gR I.1 rfl rfl (by decide) (by decide) rfl ?_
    refine hq_p rfl rfl (ty_ge (n := 1) nk_i1 (fun z5 ez5 => ?_))
    refine ty_calll 0 (W := ty_Wc1) H hJ rfl (fun _ => rfl) rfl rfl rfl (hq_pre_o I.1 (x := 62) (ci := 3) rfl (by decide) rfl rfl rfl rfl) (fun a k w => by unfold ty_Wr0 at w; unfold ty_Wc1; omega) (by unfold ty_Wr0 ty_Wc1; omega) (ct_25 (x1 := z5) (by omega) hX (by omega) (by omega)) (fun a k w => by unfold ty_Wr0 at w; omega) (fun h7 _ Jh7 gh7 P6 => ?_)
    have r8 : hs_fR h7 0 0 = t1 := (show hs_fR h7 0 0 = hs_fR h 0 0 by unfold hs_fR hs_fV hs_vs; rw [gh7 0 (by omega)]).trans kt1
    have r9 : (hs_fI h7 t1 14).toInt = (hs_fI h t1 14).toInt := by unfold hs_fI hs_fV hs_vs; rw [gh7 t1 (by omega)]
    have Ih7 := H.1 h7 Jh7
    obtain ⟨z10, rfl, az10, bz10⟩ := P6
    refine hq_p (ls' := [some (.ref 0), some (.int z10)]) rfl rfl ?_
    refine hq_p rfl rfl ?_
    refine hq_gR Ih7.1 rfl rfl (by decide) (by decide) rfl ?_
    refine hq_p rfl rfl (ty_ge (n := 0) nk_i0 (fun z11 ez11 => ?_))
    refine ty_pI (W := ty_Wc1) H Jh7 rfl rfl (by decide) rfl rfl (by unfold ty_Wc1; omega) rfl (by omega) (by omega) (fun h12 eh12 Jh12 => ?_)
    have wh12 : (hs_fI h12 62 1).toInt = z11.toInt := by rw [eh12]; exact congrArg Int32.toInt (ty_fI_eq Ih7.1 rfl (by decide) rfl)
    have Ih12 := H.1 h12 Jh12
    refine hq_p rfl rfl ?_
    refine ty_zne rfl (fun c13 => ?_) (fun c13 => ?_)
    · replace c13 : 1 ≤ z10.toInt ∧ z10.toInt ≤ 1 := by omega
      refine hq_p rfl rfl ?_
      have r14 : hs_fR h12 0 0 = t1 := by rw [eh12]; exact (ty_fR_ne (by omega)).trans r8
      refine ty_gT Ih12 rfl rfl (by decide) (by decide) rfl r14 (fun ot1 => ?_)
      clear ot1
      refine hq_gR Ih12.1 rfl (ty_trs pt1) (by omega) (by decide) rfl ?_
      refine hq_p rfl rfl ?_
      refine ty_gT Ih12 rfl rfl (by decide) (by decide) rfl r14 (fun ot1 => ?_)
      clear ot1
      have r16 : (hs_fI h12 t1 14).toInt = (hs_fI h7 t1 14).toInt := by rw [eh12]; exact congrArg Int32.toInt (ty_fI_ne (by omega))
      refine ty_gI Ih12 rfl (ty_trs pt1) (by omega) (by decide) rfl (ty_trf pt1 14) (fun z15 ez15 az15 bz15 => ?_)
      refine al_law (by omega) Ih12 (fun h18 m1 m2 m3 m4 Ih18 tx => ?_)
      have Jh18 : J2 h18 := hA h12 h18 Jh12 Ih18 m1 m2 m3 m4
      have gh18 : (hs_fI h18 62 1).toInt = (hs_fI h12 62 1).toInt := by unfold hs_fI hs_fV hs_vs; rw [m4 62 (by have := Ih12.1.1; omega)]
      have loh18 : ∀ a, a < 58 → h18.2.2 a = h12.2.2 a := fun a ha => m4 a (by have := Ih12.1.1; omega)
      have r19 : hs_fR h18 0 0 = t1 := (show hs_fR h18 0 0 = hs_fR h12 0 0 by unfold hs_fR hs_fV hs_vs; rw [loh18 0 (by omega)]).trans r14
      have r20 : (hs_fI h18 t1 14).toInt = (hs_fI h12 t1 14).toInt := by unfold hs_fI hs_fV hs_vs; rw [loh18 t1 (by omega)]
      have H := H2
      refine ty_rS (W := ty_Wc1) H Jh18 pt1 rfl (by omega) (by omega) (fun i => tw_arr1 pt1 rfl) (fun x e => by cases e; exact tx) (fun h17 eh17 Jh17 => ?_)
      have Ih17 := H.1 h17 Jh17
      have gh17 : (hs_fI h17 62 1).toInt = (hs_fI h18 62 1).toInt := by rw [eh17]; exact congrArg Int32.toInt (hs_fI_ne (by omega))
      have lph17 : ∀ a, a ≠ (t1 + 10) → h17.2.2 a = h18.2.2 a := fun a ha => by rw [eh17]; exact hs_oth ha
      have r21 : hs_fR h17 0 0 = t1 := (show hs_fR h17 0 0 = hs_fR h18 0 0 by unfold hs_fR hs_fV hs_vs; rw [lph17 0 (by omega)]).trans r19
      have r22 : (hs_fI h17 t1 14).toInt = (hs_fI h18 t1 14).toInt := by unfold hs_fI hs_fV hs_vs; rw [lph17 t1 (by omega)]
      refine hq_p rfl rfl ?_
      refine ty_gT Ih17 rfl rfl (by decide) (by decide) rfl r21 (fun ot1 => ?_)
      clear ot1
      refine hq_p rfl rfl ?_
      refine ty_gI Ih17 rfl (ty_trs pt1) (by omega) (by decide) rfl (ty_trf pt1 14) (fun z23 ez23 az23 bz23 => ?_)
      refine hq_p rfl rfl (ty_ge (n := 1) nk_i1 (fun z24 ez24 => ?_))
      refine hq_p rfl rfl (ty_ge (n := z23.toInt + z24.toInt) (nm_add (by omega) (by omega)) (fun z25 ez25 => ?_))
      refine ty_pI (W := ty_Wc1) H Jh17 rfl (ty_trs pt1) (by omega) rfl rfl (by unfold ty_Wc1; omega) (ty_trf pt1 14) (by omega) (by omega) (fun h26 eh26 Jh26 => ?_)
      have wh26 : (hs_fI h26 t1 14).toInt = z25.toInt := by rw [eh26]; exact congrArg Int32.toInt (ty_fI_eq Ih17.1 (ty_trs pt1) (by omega) rfl)
      have Ih26 := H.1 h26 Jh26
      refine hq_p rfl rfl ?_
      refine hq_p rfl rfl ?_
      have r27 : hs_fR h26 0 0 = t1 := by rw [eh26]; exact (ty_fR_ne (by omega)).trans r21
      refine ty_gT Ih26 rfl rfl (by decide) (by decide) rfl r27 (fun ot1 => ?_)
      clear ot1
      refine ty_gI Ih26 rfl (ty_trs pt1) (by omega) (by decide) rfl (ty_trf pt1 14) (fun z28 ez28 az28 bz28 => ?_)
      refine hq_p rfl rfl (ty_ge (n := 1) nk_i1 (fun z29 ez29 => ?_))
      refine hq_p rfl rfl (ty_ge (n := z28.toInt - z29.toInt) (nm_sub (by omega) (by omega)) (fun z30 ez30 => ?_))
      have r33 : (hs_fI h26 62 1).toInt = (hs_fI h17 62 1).toInt := by rw [eh26]; exact congrArg Int32.toInt (ty_fI_ne (by omega))
      refine ty_callz 0 (W := ty_Wc1) H Jh26 rfl (fun _ => rfl) rfl rfl rfl (hq_pre_o Ih26.1 (x := 0) (ci := 10) rfl (by decide) rfl rfl rfl rfl) (fun a k w => by unfold ty_Wc at w; unfold ty_Wc1; omega) (by unfold ty_Wc ty_Wc1; omega) (ct_126 (x1 := z30) (by omega)) (by unfold ty_Wc; omega) (fun h32 _ Jh32 gh32 P31 => ?_)
      have Ih32 := H.1 h32 Jh32
      obtain ⟨z34, rfl, fz34⟩ := P31
      exact hq_W.ret rfl rfl rfl ⟨Jh32, ⟨_, rfl⟩, by omega⟩
    · refine hq_p rfl rfl ?_
      refine hq_p rfl rfl (ty_ge (n := -6) nk_bm6 (fun z35 ez35 => ?_))
      refine ty_callz 0 (W := ty_Wc1) H Jh12 rfl (fun _ => rfl) rfl rfl rfl (hq_pre_o Ih12.1 (x := 0) (ci := 10) rfl (by decide) rfl rfl rfl rfl) (fun a k w => by unfold ty_Wc at w; unfold ty_Wc1; omega) (by unfold ty_Wc ty_Wc1; omega) (ct_125 (x1 := z35) (by omega)) (by unfold ty_Wc; omega) (fun h37 _ Jh37 gh37 P36 => ?_)
      have Ih37 := H.1 h37 Jh37
      obtain ⟨z38, rfl, fz38⟩ := P36
      exact hq_W.ret rfl rfl rfl ⟨(hJ2 _ Jh37), ⟨_, rfl⟩, by omega⟩
  · refine hq_p rfl rfl ?_
    refine hq_gR I.1 rfl rfl (by decide) (by decide) rfl ?_
    refine hq_p rfl rfl (ty_ge (n := 0) nk_i0 (fun z39 ez39 => ?_))
    refine ty_pI (W := ty_Wc1) H hJ rfl rfl (by decide) rfl rfl (by unfold ty_Wc1; omega) rfl (by omega) (by omega) (fun h40 eh40 Jh40 => ?_)
    have wh40 : (hs_fI h40 62 1).toInt = z39.toInt := by rw [eh40]; exact congrArg Int32.toInt (ty_fI_eq I.1 rfl (by decide) rfl)
    have Ih40 := H.1 h40 Jh40
    refine hq_p rfl rfl ?_
    refine hq_p rfl rfl (ty_ge (n := -5) nk_bm5 (fun z41 ez41 => ?_))
    refine ty_callz 0 (W := ty_Wc1) H Jh40 rfl (fun _ => rfl) rfl rfl rfl (hq_pre_o Ih40.1 (x := 0) (ci := 10) rfl (by decide) rfl rfl rfl rfl) (fun a k w => by unfold ty_Wc at w; unfold ty_Wc1; omega) (by unfold ty_Wc ty_Wc1; omega) (ct_125 (x1 := z41) (by omega)) (by unfold ty_Wc; omega) (fun h43 _ Jh43 gh43 P42 => ?_)
    have Ih43 := H.1 h43 Jh43
    obtain ⟨z44, rfl, fz44⟩ := P42
    exact hq_W.ret rfl rfl rfl ⟨(hJ2 _ Jh43), ⟨_, rfl⟩, by omega⟩
end CT53
