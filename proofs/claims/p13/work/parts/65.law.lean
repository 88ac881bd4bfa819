/-! CONTRACTS (printed by wip/pm/cts.py) -/
section CT43
theorem ct_132 {X : pm_X} {d : Nat} {h : pm_H}  (hd : 1 ≤ d) {J : pm_H → Prop} (H : ty_C ty_W0 J) (hJ : J h) (hT : ty_T J) : hq_M X d 132 [.ref 0] h (fun h' v => J h' ∧ ty_pv h' v) := by
  obtain ⟨d, rfl⟩ : ∃ e, d = e + 1 := ⟨d - 1, by omega⟩
  have I := H.1 h hJ
  refine hq_M.enter (q := (⟨"TrainBearers", "takePaper", "()V"⟩, _, 3, none, 10, 1, pm_c132)) rfl rfl ?_
  show hq_W X d 10 false (none) pm_c132 (0, [some (.ref 0), none, none], [], h) (fun h' v => J h' ∧ ty_pv h' v)
  refine hq_p rfl rfl ?_
  obtain ⟨t1, kt1⟩ : ∃ q, hs_fR h 0 0 = q := ⟨_, rfl⟩
  refine ty_gT I rfl rfl (by decide) (by decide) rfl kt1 (fun ot1 => ?_)
  have pt1 : ty_tr t1 := by rcases ot1 with rfl | rfl; exact Or.inl rfl; exact Or.inr (Or.inl rfl)
  have lt1 := ty_trl pt1
  refine hq_p (ls' := [some (.ref 0), some (.ref t1), none]) rfl rfl ?_
  refine hq_p rfl rfl ?_
  refine hq_p rfl rfl ?_
  obtain ⟨t2, kt2⟩ : ∃ q, hs_fR h 0 1 = q := ⟨_, rfl⟩
  refine ty_gT I rfl rfl (by decide) (by decide) rfl kt2 (fun ot2 => ?_)
  have pt2 : ty_tr t2 := by rcases ot2 with rfl | rfl; exact Or.inl rfl; exact Or.inr (Or.inl rfl)
  have lt2 := ty_trl pt2
  refine ty_pR (f := 4) hT I hJ rfl rfl rfl (Or.inl ⟨rfl, ot2⟩) (fun h3 eh3 Jh3 => ?_)
  have Ih3 := H.1 h3 Jh3
  refine hq_p rfl rfl ?_
  refine hq_p rfl rfl ?_
  refine ty_pR (f := 4) hT Ih3 Jh3 rfl rfl rfl (Or.inl ⟨rfl, ot1⟩) (fun h4 eh4 Jh4 => ?_)
  have Ih4 := H.1 h4 Jh4
  refine hq_p rfl rfl ?_
  obtain ⟨t5, kt5⟩ : ∃ q, hs_fR h4 0 5 = q := ⟨_, rfl⟩
  refine ty_gS Ih4 rfl rfl (by decide) (by decide) rfl kt5 (fun ot5 => ?_)
  have pt5 : ty_sp t5 := ot5
  have lt5 := ty_spl pt5
  refine hq_p (ls' := [some (.ref 0), some (.ref t1), some (.ref t5)]) rfl rfl ?_
  refine hq_p rfl rfl ?_
  refine hq_p rfl rfl ?_
  obtain ⟨t6, kt6⟩ : ∃ q, hs_fR h4 0 6 = q := ⟨_, rfl⟩
  refine ty_gS Ih4 rfl rfl (by decide) (by decide) rfl kt6 (fun ot6 => ?_)
  have pt6 : ty_sp t6 := ot6
  have lt6 := ty_spl pt6
  refine ty_pR (f := 5) hT Ih4 Jh4 rfl rfl rfl (Or.inr ⟨rfl, ot6⟩) (fun h7 eh7 Jh7 => ?_)
  have Ih7 := H.1 h7 Jh7
  refine hq_p rfl rfl ?_
  refine hq_p rfl rfl ?_
  refine ty_pR (f := 5) hT Ih7 Jh7 rfl rfl rfl (Or.inr ⟨rfl, ot5⟩) (fun h8 eh8 Jh8 => ?_)
  have Ih8 := H.1 h8 Jh8
  exact hq_W.ret rfl rfl rfl ⟨Jh8, rfl⟩
theorem ct_96 {X : pm_X} {d : Nat} {h : pm_H}  (hd : 104 ≤ d) (hX : ty_SX X) {J : pm_H → Prop} (H : ty_C ty_Wc1 J) (hJ : J h) (hT : ty_T J) : hq_M X d 96 [.ref 0] h (fun h' v => J h' ∧ (fun h1 v => (∃ z : Int32, v = some (.int z)) ∧ (hs_fI h1 62 1).toInt = 0) h' v) := by
  obtain ⟨d, rfl⟩ : ∃ e, d = e + 1 := ⟨d - 1, by omega⟩
  have I := H.1 h hJ
  refine hq_M.enter (q := (⟨"TrainBearers", "orders", "()I"⟩, _, 3, some .int, 10, 1, pm_c96)) rfl rfl ?_
  show hq_W X d 10 false (some .int) pm_c96 (0, [some (.ref 0), none, none], [], h) (fun h' v => J h' ∧ (fun h1 v => (∃ z : Int32, v = some (.int z)) ∧ (hs_fI h1 62 1).toInt = 0) h' v)
  refine hq_p rfl rfl ?_
  refine hq_gR I.1 rfl rfl (by decide) (by decide) rfl ?_
  refine hq_p rfl rfl (ty_ge (n := -1) nk_im1 (fun z1 ez1 => ?_))
  refine ty_pI (W := ty_Wc1) H hJ rfl rfl (by decide) rfl rfl (by unfold ty_Wc1; omega) rfl (by omega) (by omega) (fun h2 eh2 Jh2 => ?_)
  have wh2 : (hs_fI h2 76 5).toInt = z1.toInt := by rw [eh2]; exact congrArg Int32.toInt (ty_fI_eq I.1 rfl (by decide) rfl)
  have Ih2 := H.1 h2 Jh2
  refine hq_p rfl rfl ?_
  refine hq_gR Ih2.1 rfl rfl (by decide) (by decide) rfl ?_
  refine hq_p rfl rfl (ty_ge (n := 0) nk_i0 (fun z3 ez3 => ?_))
  refine ty_callj 0 (W := ty_Wc1) H Jh2 rfl (fun _ => rfl) rfl rfl rfl (hq_pre_o Ih2.1 (x := 62) (ci := 3) rfl (by decide) rfl rfl rfl rfl) (fun a k w => by unfold ty_Wr0 at w; unfold ty_Wc1; omega) (by unfold ty_Wr0 ty_Wc1; omega) (ct_25 (x1 := z3) (by omega) hX (by omega) (by omega)) (fun h5 _ Jh5 P4 => ?_)
  have Ih5 := H.1 h5 Jh5
  obtain ⟨z6, rfl, az6, bz6⟩ := P4
  refine hq_p (ls' := [some (.ref 0), some (.int z6), none]) rfl rfl ?_
  refine hq_p rfl rfl ?_
  refine hq_gR Ih5.1 rfl rfl (by decide) (by decide) rfl ?_
  refine hq_p rfl rfl (ty_ge (n := 0) nk_i0 (fun z7 ez7 => ?_))
  refine ty_pI (W := ty_Wc1) H Jh5 rfl rfl (by decide) rfl rfl (by unfold ty_Wc1; omega) rfl (by omega) (by omega) (fun h8 eh8 Jh8 => ?_)
  have wh8 : (hs_fI h8 62 1).toInt = z7.toInt := by rw [eh8]; exact congrArg Int32.toInt (ty_fI_eq Ih5.1 rfl (by decide) rfl)
  have Ih8 := H.1 h8 Jh8
  refine hq_p rfl rfl ?_
  refine ty_zne rfl (fun c9 => ?_) (fun c9 => ?_)
  · replace c9 : 1 ≤ z6.toInt ∧ z6.toInt ≤ 1 := by omega
    refine hq_p rfl rfl ?_
    obtain ⟨t10, kt10⟩ : ∃ q, hs_fR h8 0 1 = q := ⟨_, rfl⟩
    refine ty_gT Ih8 rfl rfl (by decide) (by decide) rfl kt10 (fun ot10 => ?_)
    have pt10 : ty_tr t10 := by rcases ot10 with rfl | rfl; exact Or.inl rfl; exact Or.inr (Or.inl rfl)
    have lt10 := ty_trl pt10
    clear ot10
    refine hq_p rfl rfl ?_
    obtain ⟨t11, kt11⟩ : ∃ q, hs_fR h8 0 0 = q := ⟨_, rfl⟩
    refine ty_gT Ih8 rfl rfl (by decide) (by decide) rfl kt11 (fun ot11 => ?_)
    have pt11 : ty_tr t11 := by rcases ot11 with rfl | rfl; exact Or.inl rfl; exact Or.inr (Or.inl rfl)
    have lt11 := ty_trl pt11
    clear ot11
    refine ty_callz 0 (W := ty_Wc1) H Jh8 rfl (fun _ => rfl) rfl rfl rfl (hq_pre_o Ih8.1 (x := t10) (ci := 8) (ty_trs pt10) (by omega) rfl rfl rfl rfl) (fun a k w => by unfold ty_Wc at w; unfold ty_Wc1; omega) (by unfold ty_Wc ty_Wc1; omega) (ct_68 (t0 := t10) (t1 := t11) (by omega) pt10 pt11) (by unfold ty_Wc; omega) (fun h13 _ Jh13 gh13 P12 => ?_)
    have Ih13 := H.1 h13 Jh13
    subst P12
    refine hq_p rfl rfl ?_
    obtain ⟨t14, kt14⟩ : ∃ q, hs_fR h13 0 6 = q := ⟨_, rfl⟩
    refine ty_gS Ih13 rfl rfl (by decide) (by decide) rfl kt14 (fun ot14 => ?_)
    have pt14 : ty_sp t14 := ot14
    have lt14 := ty_spl pt14
    clear ot14
    refine hq_p rfl rfl ?_
    obtain ⟨t15, kt15⟩ : ∃ q, hs_fR h13 0 5 = q := ⟨_, rfl⟩
    refine ty_gS Ih13 rfl rfl (by decide) (by decide) rfl kt15 (fun ot15 => ?_)
    have pt15 : ty_sp t15 := ot15
    have lt15 := ty_spl pt15
    clear ot15
    refine ty_callz 0 (W := ty_Wc1) H Jh13 rfl (fun _ => rfl) rfl rfl rfl (hq_pre_o Ih13.1 (x := t14) (ci := 5) (ty_sps pt14) (by omega) rfl rfl rfl rfl) (fun a k w => by unfold ty_Wc at w; unfold ty_Wc1; omega) (by unfold ty_Wc ty_Wc1; omega) (ct_56 (t0 := t14) (t1 := t15) (by omega) pt14 pt15) (by unfold ty_Wc; omega) (fun h17 _ Jh17 gh17 P16 => ?_)
    have Ih17 := H.1 h17 Jh17
    subst P16
    refine hq_p rfl rfl ?_
    refine hq_gR Ih17.1 rfl rfl (by decide) (by decide) rfl ?_
    refine hq_p rfl rfl ?_
    refine hq_gR Ih17.1 rfl rfl (by decide) (by decide) rfl ?_
    refine hq_gR Ih17.1 rfl rfl (by decide) (by decide) rfl ?_
    refine hq_p rfl rfl ?_
    obtain ⟨t18, kt18⟩ : ∃ q, hs_fR h17 0 1 = q := ⟨_, rfl⟩
    refine ty_gT Ih17 rfl rfl (by decide) (by decide) rfl kt18 (fun ot18 => ?_)
    have pt18 : ty_tr t18 := by rcases ot18 with rfl | rfl; exact Or.inl rfl; exact Or.inr (Or.inl rfl)
    have lt18 := ty_trl pt18
    clear ot18
    refine hq_p rfl rfl ?_
    obtain ⟨t19, kt19⟩ : ∃ q, hs_fR h17 0 6 = q := ⟨_, rfl⟩
    refine ty_gS Ih17 rfl rfl (by decide) (by decide) rfl kt19 (fun ot19 => ?_)
    have pt19 : ty_sp t19 := ot19
    have lt19 := ty_spl pt19
    clear ot19
    refine ty_callz 0 (W := ty_Wc1) H Jh17 rfl (fun _ => rfl) rfl rfl rfl (hq_pre_o Ih17.1 (x := 76) (ci := 1) rfl (by decide) rfl rfl rfl rfl) (fun a k w => by unfold ty_Wc at w; unfold ty_Wc1; omega) (by unfold ty_Wc ty_Wc1; omega) (ct_14 (t2 := t18) (t3 := t19) (by omega) pt18 pt19) (by unfold ty_Wc; omega) (fun h21 _ Jh21 gh21 P20 => ?_)
    have Ih21 := H.1 h21 Jh21
    obtain ⟨z22, rfl, az22, bz22⟩ := P20
    refine hq_p (ls' := [some (.ref 0), some (.int z6), some (.int z22)]) rfl rfl ?_
    refine hq_p rfl rfl ?_
    refine ty_zge rfl (fun c23 => ?_) (fun c23 => ?_)
    · refine hq_p rfl rfl ?_
      refine hq_inv 0 rfl (fun _ => rfl) rfl rfl rfl (hq_pre_o Ih21.1 (x := 0) (ci := 10) rfl (by decide) rfl rfl rfl rfl) ((ct_132 (by omega) (J := fun h' => (J h' ∧ h'.1 = h21.1 ∧ h'.2.1 = h21.2.1) ∧ hs_fI h' 62 1 = hs_fI h21 62 1) (H.w0 (fun h j => j.1.1)) ⟨⟨Jh21, rfl, rfl⟩, rfl⟩ (fun h1 b t f j e q => ⟨⟨hT h1 b t f j.1.1 e q, j.1.2.1, j.1.2.2⟩, (hs_fI_ne (by decide)).trans j.2⟩)).mono (Nat.le_refl _) (fun h24 v q => ?_))
      obtain ⟨⟨⟨Jh24, e1, e2⟩, gzh24⟩, rfl⟩ := q
      refine ⟨by omega, by omega, ?_⟩
      have Ih24 := H.1 h24 Jh24
      have gwh24 : (hs_fI h24 62 1).toInt = (hs_fI h21 62 1).toInt := by rw [gzh24]
      clear gzh24
      refine hq_p rfl rfl ?_
      refine hq_p rfl rfl ?_
      refine ty_callz 0 (W := ty_Wc1) H Jh24 rfl (fun _ => rfl) rfl rfl rfl (hq_pre_o Ih24.1 (x := 0) (ci := 10) rfl (by decide) rfl rfl rfl rfl) (fun a k w => by unfold ty_Wc at w; unfold ty_Wc1; omega) (by unfold ty_Wc ty_Wc1; omega) (ct_126 (x1 := z22) (by omega)) (by unfold ty_Wc; omega) (fun h26 _ Jh26 gh26 P25 => ?_)
      have Ih26 := H.1 h26 Jh26
      obtain ⟨z27, rfl, fz27⟩ := P25
      exact hq_W.ret rfl rfl rfl ⟨Jh26, ⟨_, rfl⟩, by omega⟩
    · refine hq_p rfl rfl ?_
      refine hq_p rfl rfl ?_
      refine ty_callz 0 (W := ty_Wc1) H Jh21 rfl (fun _ => rfl) rfl rfl rfl (hq_pre_o Ih21.1 (x := 0) (ci := 10) rfl (by decide) rfl rfl rfl rfl) (fun a k w => by unfold ty_Wc at w; unfold ty_Wc1; omega) (by unfold ty_Wc ty_Wc1; omega) (ct_125 (x1 := z22) (by omega)) (by unfold ty_Wc; omega) (fun h29 _ Jh29 gh29 P28 => ?_)
      have Ih29 := H.1 h29 Jh29
      obtain ⟨z30, rfl, fz30⟩ := P28
      exact hq_W.ret rfl rfl rfl ⟨Jh29, ⟨_, rfl⟩, by omega⟩
  · refine hq_p rfl rfl ?_
    refine hq_p rfl rfl (ty_ge (n := -6) nk_bm6 (fun z31 ez31 => ?_))
    refine ty_callz 0 (W := ty_Wc1) H Jh8 rfl (fun _ => rfl) rfl rfl rfl (hq_pre_o Ih8.1 (x := 0) (ci := 10) rfl (by decide) rfl rfl rfl rfl) (fun a k w => by unfold ty_Wc at w; unfold ty_Wc1; omega) (by unfold ty_Wc ty_Wc1; omega) (ct_125 (x1 := z31) (by omega)) (by unfold ty_Wc; omega) (fun h33 _ Jh33 gh33 P32 => ?_)
    have Ih33 := H.1 h33 Jh33
    obtain ⟨z34, rfl, fz34⟩ := P32
    exact hq_W.ret rfl rfl rfl ⟨Jh33, ⟨_, rfl⟩, by omega⟩
theorem ct_95 {X : pm_X} {d : Nat} {h : pm_H}  (hd : 104 ≤ d) (hX : ty_SX X) {J : pm_H → Prop} (H : ty_C ty_Wc1 J) (hJ : J h) {J2 : pm_H → Prop} (H2 : ty_C ty_Wc1 J2) (hJ2 : ∀ h, J h → J2 h) (hA : ∀ h h1, J h → ty_I h1 → h1.1 = h.1 + 8 → h.2.1 ≤ h1.2.1 → h1.2.1 ≤ h.2.1 + 870 → (∀ b, b < h.1 → h1.2.2 b = h.2.2 b) → J2 h1) : hq_M X d 95 [.ref 0] h (fun h' v => J2 h' ∧ (fun h1 v => (∃ z : Int32, v = some (.int z)) ∧ (hs_fI h1 62 1).toInt = 0) h' v) := by
  obtain ⟨d, rfl⟩ : ∃ e, d = e + 1 := ⟨d - 1, by omega⟩
  have I := H.1 h hJ
  refine hq_M.enter (q := (⟨"TrainBearers", "law", "()I"⟩, _, 2, some .int, 10, 1, pm_c95)) rfl rfl ?_
  show hq_W X d 10 false (some .int) pm_c95 (0, [some (.ref 0), none], [], h) (fun h' v => J2 h' ∧ (fun h1 v => (∃ z : Int32, v = some (.int z)) ∧ (hs_fI h1 62 1).toInt = 0) h' v)
  refine hq_p rfl rfl ?_
  obtain ⟨t1, kt1⟩ : ∃ q, hs_fR h 0 0 = q := ⟨_, rfl⟩
  refine ty_gT I rfl rfl (by decide) (by decide) rfl kt1 (fun ot1 => ?_)
  have pt1 : ty_tr t1 := by rcases ot1 with rfl | rfl; exact Or.inl rfl; exact Or.inr (Or.inl rfl)
  have lt1 := ty_trl pt1
  clear ot1
  refine ty_gI I rfl (ty_trs pt1) (by omega) (by decide) rfl (ty_trf pt1 14) (fun z2 ez2 az2 bz2 => ?_)
  refine hq_p rfl rfl (ty_ge (n := 6) nk_b6 (fun z3 ez3 => ?_))
  refine ty_ilt rfl (fun c4 => ?_) (fun c4 => ?_)
  · refine hq_p rfl rfl ?_
    refine hq_gR I.1 rfl rfl (by decide) (by decide) rfl ?_
    refine hq_p rfl rfl (ty_ge (n := 1) nk_i1 (fun z5 ez5 => ?_))
    refine ty_calll 0 (W := ty_Wc1) H hJ rfl (fun _ => rfl) rfl rfl rfl (hq_pre_o I.1 (x := 62) (ci := 3) rfl (by decide) rfl rfl rfl rfl) (fun a k w => by unfold ty_Wr0 at w; unfold ty_Wc1; omega) (by unfold ty_Wr0 ty_Wc1; omega) (ct_25 (x1 := z5) (by omega) hX (by omega) (by omega)) (fun a k w => by unfold ty_Wr0 at w; omega) (fun h7 _ Jh7 gh7 P6 => ?_)
    have r8 : hs_fR h7 0 0 = t1 := (show hs_fR h7 0 0 = hs_fR h 0 0 by unfold hs_fR hs_fV hs_vs; rw [gh7 0 (by omega)]).trans kt1
    have r9 : (hs_fI h7 t1 14).toInt = (hs_fI h t1 14).toInt := by unfold hs_fI hs_fV hs_vs; rw [gh7 t1 (by omega)]
    have Ih7 := H.1 h7 Jh7
    obtain ⟨z10, rfl, az10, bz10⟩ := P6
    refine hq_p (ls' := [some (.ref 0), some (.int z10)]) rfl rfl ?_
    refine hq_p rfl rfl ?_
    refine hq_gR Ih7.1 rfl rfl (by decide) (by decide) rfl ?_
    refine hq_p rfl rfl (ty_ge (n := 0) nk_i0 (fun z11 ez11 => ?_))
    refine ty_pI (W := ty_Wc1) H Jh7 rfl rfl (by decide) rfl rfl (by unfold ty_Wc1; omega) rfl (by omega) (by omega) (fun h12 eh12 Jh12 => ?_)
    have wh12 : (hs_fI h12 62 1).toInt = z11.toInt := by rw [eh12]; exact congrArg Int32.toInt (ty_fI_eq Ih7.1 rfl (by decide) rfl)
    have Ih12 := H.1 h12 Jh12
    refine hq_p rfl rfl ?_
    refine ty_zne rfl (fun c13 => ?_) (fun c13 => ?_)
    · replace c13 : 1 ≤ z10.toInt ∧ z10.toInt ≤ 1 := by omega
      refine hq_p rfl rfl ?_
      have r14 : hs_fR h12 0 0 = t1 := by rw [eh12]; exact (ty_fR_ne (by omega)).trans r8
      refine ty_gT Ih12 rfl rfl (by decide) (by decide) rfl r14 (fun ot1 => ?_)
      clear ot1
      refine hq_gR Ih12.1 rfl (ty_trs pt1) (by omega) (by decide) rfl ?_
      refine hq_p rfl rfl ?_
      refine ty_gT Ih12 rfl rfl (by decide) (by decide) rfl r14 (fun ot1 => ?_)
      clear ot1
      have r16 : (hs_fI h12 t1 14).toInt = (hs_fI h7 t1 14).toInt := by rw [eh12]; exact congrArg Int32.toInt (ty_fI_ne (by omega))
      refine ty_gI Ih12 rfl (ty_trs pt1) (by omega) (by decide) rfl (ty_trf pt1 14) (fun z15 ez15 az15 bz15 => ?_)
      refine al_law (by omega) Ih12 (fun h18 m1 m2 m3 m4 Ih18 tx => ?_)
      have Jh18 : J2 h18 := hA h12 h18 Jh12 Ih18 m1 m2 m3 m4
      have gh18 : (hs_fI h18 62 1).toInt = (hs_fI h12 62 1).toInt := by unfold hs_fI hs_fV hs_vs; rw [m4 62 (by have := Ih12.1.1; omega)]
      have loh18 : ∀ a, a < 58 → h18.2.2 a = h12.2.2 a := fun a ha => m4 a (by have := Ih12.1.1; omega)
      have r19 : hs_fR h18 0 0 = t1 := (show hs_fR h18 0 0 = hs_fR h12 0 0 by unfold hs_fR hs_fV hs_vs; rw [loh18 0 (by omega)]).trans r14
      have r20 : (hs_fI h18 t1 14).toInt = (hs_fI h12 t1 14).toInt := by unfold hs_fI hs_fV hs_vs; rw [loh18 t1 (by omega)]
      have H := H2
      refine ty_rS (W := ty_Wc1) H Jh18 pt1 rfl (by omega) (by omega) (fun i => by unfold ty_Wc1; omega) (fun x e => by cases e; exact tx) (fun h17 eh17 Jh17 => ?_)
      have Ih17 := H.1 h17 Jh17
      have gh17 : (hs_fI h17 62 1).toInt = (hs_fI h18 62 1).toInt := by rw [eh17]; exact congrArg Int32.toInt (hs_fI_ne (by omega))
      have lph17 : ∀ a, a ≠ (t1 + 10) → h17.2.2 a = h18.2.2 a := fun a ha => by rw [eh17]; exact hs_oth ha
      have r21 : hs_fR h17 0 0 = t1 := (show hs_fR h17 0 0 = hs_fR h18 0 0 by unfold hs_fR hs_fV hs_vs; rw [lph17 0 (by omega)]).trans r19
      have r22 : (hs_fI h17 t1 14).toInt = (hs_fI h18 t1 14).toInt := by unfold hs_fI hs_fV hs_vs; rw [lph17 t1 (by omega)]
      refine hq_p rfl rfl ?_
      refine ty_gT Ih17 rfl rfl (by decide) (by decide) rfl r21 (fun ot1 => ?_)
      clear ot1
      refine hq_p rfl rfl ?_
      refine ty_gI Ih17 rfl (ty_trs pt1) (by omega) (by decide) rfl (ty_trf pt1 14) (fun z23 ez23 az23 bz23 => ?_)
      refine hq_p rfl rfl (ty_ge (n := 1) nk_i1 (fun z24 ez24 => ?_))
      refine hq_p rfl rfl (ty_ge (n := z23.toInt + z24.toInt) (nm_add (by omega) (by omega)) (fun z25 ez25 => ?_))
      refine ty_pI (W := ty_Wc1) H Jh17 rfl (ty_trs pt1) (by omega) rfl rfl (by unfold ty_Wc1; omega) (ty_trf pt1 14) (by omega) (by omega) (fun h26 eh26 Jh26 => ?_)
      have wh26 : (hs_fI h26 t1 14).toInt = z25.toInt := by rw [eh26]; exact congrArg Int32.toInt (ty_fI_eq Ih17.1 (ty_trs pt1) (by omega) rfl)
      have Ih26 := H.1 h26 Jh26
      refine hq_p rfl rfl ?_
      refine hq_p rfl rfl ?_
      have r27 : hs_fR h26 0 0 = t1 := by rw [eh26]; exact (ty_fR_ne (by omega)).trans r21
      refine ty_gT Ih26 rfl rfl (by decide) (by decide) rfl r27 (fun ot1 => ?_)
      clear ot1
      refine ty_gI Ih26 rfl (ty_trs pt1) (by omega) (by decide) rfl (ty_trf pt1 14) (fun z28 ez28 az28 bz28 => ?_)
      refine hq_p rfl rfl (ty_ge (n := 1) nk_i1 (fun z29 ez29 => ?_))
      refine hq_p rfl rfl (ty_ge (n := z28.toInt - z29.toInt) (nm_sub (by omega) (by omega)) (fun z30 ez30 => ?_))
      have r33 : (hs_fI h26 62 1).toInt = (hs_fI h17 62 1).toInt := by rw [eh26]; exact congrArg Int32.toInt (ty_fI_ne (by omega))
      refine ty_callz 0 (W := ty_Wc1) H Jh26 rfl (fun _ => rfl) rfl rfl rfl (hq_pre_o Ih26.1 (x := 0) (ci := 10) rfl (by decide) rfl rfl rfl rfl) (fun a k w => by unfold ty_Wc at w; unfold ty_Wc1; omega) (by unfold ty_Wc ty_Wc1; omega) (ct_126 (x1 := z30) (by omega)) (by unfold ty_Wc; omega) (fun h32 _ Jh32 gh32 P31 => ?_)
      have Ih32 := H.1 h32 Jh32
      obtain ⟨z34, rfl, fz34⟩ := P31
      exact hq_W.ret rfl rfl rfl ⟨Jh32, ⟨_, rfl⟩, by omega⟩
    · refine hq_p rfl rfl ?_
      refine hq_p rfl rfl (ty_ge (n := -6) nk_bm6 (fun z35 ez35 => ?_))
      refine ty_callz 0 (W := ty_Wc1) H Jh12 rfl (fun _ => rfl) rfl rfl rfl (hq_pre_o Ih12.1 (x := 0) (ci := 10) rfl (by decide) rfl rfl rfl rfl) (fun a k w => by unfold ty_Wc at w; unfold ty_Wc1; omega) (by unfold ty_Wc ty_Wc1; omega) (ct_125 (x1 := z35) (by omega)) (by unfold ty_Wc; omega) (fun h37 _ Jh37 gh37 P36 => ?_)
      have Ih37 := H.1 h37 Jh37
      obtain ⟨z38, rfl, fz38⟩ := P36
      exact hq_W.ret rfl rfl rfl ⟨(hJ2 _ Jh37), ⟨_, rfl⟩, by omega⟩
  · refine hq_p rfl rfl ?_
    refine hq_gR I.1 rfl rfl (by decide) (by decide) rfl ?_
    refine hq_p rfl rfl (ty_ge (n := 0) nk_i0 (fun z39 ez39 => ?_))
    refine ty_pI (W := ty_Wc1) H hJ rfl rfl (by decide) rfl rfl (by unfold ty_Wc1; omega) rfl (by omega) (by omega) (fun h40 eh40 Jh40 => ?_)
    have wh40 : (hs_fI h40 62 1).toInt = z39.toInt := by rw [eh40]; exact congrArg Int32.toInt (ty_fI_eq I.1 rfl (by decide) rfl)
    have Ih40 := H.1 h40 Jh40
    refine hq_p rfl rfl ?_
    refine hq_p rfl rfl (ty_ge (n := -5) nk_bm5 (fun z41 ez41 => ?_))
    refine ty_callz 0 (W := ty_Wc1) H Jh40 rfl (fun _ => rfl) rfl rfl rfl (hq_pre_o Ih40.1 (x := 0) (ci := 10) rfl (by decide) rfl rfl rfl rfl) (fun a k w => by unfold ty_Wc at w; unfold ty_Wc1; omega) (by unfold ty_Wc ty_Wc1; omega) (ct_125 (x1 := z41) (by omega)) (by unfold ty_Wc; omega) (fun h43 _ Jh43 gh43 P42 => ?_)
    have Ih43 := H.1 h43 Jh43
    obtain ⟨z44, rfl, fz44⟩ := P42
    exact hq_W.ret rfl rfl rfl ⟨(hJ2 _ Jh43), ⟨_, rfl⟩, by omega⟩
end CT43
