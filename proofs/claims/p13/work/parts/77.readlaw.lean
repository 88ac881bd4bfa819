/-! CONTRACTS (printed by wip/pm/cts.py) -/
section CT53
def ty_Wbt (a k : Nat) : Prop := a = 97 ∧ (k = 14 ∨ k = 15 ∨ k = 16 ∨ k = 17 ∨ k = 18 ∨ k = 19 ∨ k = 20 ∨ k = 21 ∨ k = 23 ∨ k = 26)
def ty_Wet (a k : Nat) : Prop := a = 97 ∧ (k = 13 ∨ k = 14 ∨ k = 15 ∨ k = 16 ∨ k = 17 ∨ k = 18 ∨ k = 19 ∨ k = 20)
def ty_Wrl (a k : Nat) : Prop := (a = 97 ∧ (k = 14 ∨ k = 15 ∨ k = 16 ∨ k = 17 ∨ k = 18 ∨ k = 19 ∨ k = 21 ∨ k = 23 ∨ k = 26 ∨ k = 29 ∨ k = 30)) ∨ a = 107 ∨ a = 108 ∨ a = 109 ∨ a = 110 ∨ a = 111
theorem ct_171w {X : pm_X} {d : Nat} {h : pm_H}  (hd : 3 ≤ d)  : ty_M X ty_Wo d 171 [.ref 97] h (fun h1 v => v = none ∧ tk_ok h1 ∧ (hs_fI h1 97 19).toInt = 0) := by
  intro J H hJ
  obtain ⟨d, rfl⟩ : ∃ e, d = e + 1 := ⟨d - 1, by omega⟩
  have I := H.1 h hJ
  obtain ⟨q13, eq13⟩ : ∃ q : Int32, q.toInt = (hs_fI h 97 13).toInt := ⟨_, rfl⟩
  have gq130 : 0 ≤ (hs_fI h 97 13).toInt := (I.2.1 97 13 (by decide)).1
  have gq131 : (hs_fI h 97 13).toInt ≤ 400 := (I.2.1 97 13 (by decide)).2
  refine hq_M.enter (q := (⟨"TrainBearersModel", "begin", "()V"⟩, _, 1, none, 11, 1, pm_c171)) rfl rfl ?_
  show hq_W X d 11 false (none) pm_c171 (0, [some (.ref 97)], [], h) (fun h' v => J h' ∧ (fun h1 v => v = none ∧ tk_ok h1 ∧ (hs_fI h1 97 19).toInt = 0) h' v)
  refine hq_p rfl rfl ?_
  refine hq_p rfl rfl (ty_ge (n := 0) nk_i0 (fun z1 ez1 => ?_))
  refine ty_pI (W := ty_Wo) H hJ rfl rfl (by decide) rfl rfl (by unfold ty_Wo; omega) rfl (by omega) (by omega) (fun h2 eh2 Jh2 => ?_)
  have wh2 : (hs_fI h2 97 15).toInt = z1.toInt := by rw [eh2]; exact congrArg Int32.toInt (ty_fI_eq I.1 rfl (by decide) rfl)
  have Ih2 := H.1 h2 Jh2
  refine hq_p rfl rfl ?_
  refine hq_p rfl rfl (ty_ge (n := 0) nk_i0 (fun z3 ez3 => ?_))
  refine ty_pB (W := ty_Wo) H Jh2 rfl rfl (by decide) rfl rfl rfl (by unfold ty_Wo; omega) rfl (by omega) (by omega) (fun h4 eh4 Jh4 => ?_)
  have wh4 : (hs_fI h4 97 19).toInt = z3.toInt := by rw [eh4]; exact congrArg Int32.toInt (ty_fI_eq Ih2.1 rfl (by decide) rfl)
  have Ih4 := H.1 h4 Jh4
  refine hq_p rfl rfl ?_
  refine hq_p rfl rfl (ty_ge (n := -1) nk_im1 (fun z5 ez5 => ?_))
  refine ty_pI (W := ty_Wo) H Jh4 rfl rfl (by decide) rfl rfl (by unfold ty_Wo; omega) rfl (by omega) (by omega) (fun h6 eh6 Jh6 => ?_)
  have wh6 : (hs_fI h6 97 18).toInt = z5.toInt := by rw [eh6]; exact congrArg Int32.toInt (ty_fI_eq Ih4.1 rfl (by decide) rfl)
  have Ih6 := H.1 h6 Jh6
  refine hq_p rfl rfl ?_
  have r7 : (hs_fI h2 97 13).toInt = (hs_fI h 97 13).toInt := by rw [eh2]; exact congrArg Int32.toInt (ty_fI_sF (by decide))
  have r8 : (hs_fI h4 97 13).toInt = (hs_fI h2 97 13).toInt := by rw [eh4]; exact congrArg Int32.toInt (ty_fI_sF (by decide))
  have r9 : (hs_fI h6 97 13).toInt = (hs_fI h4 97 13).toInt := by rw [eh6]; exact congrArg Int32.toInt (ty_fI_sF (by decide))
  have r10 : (hs_fI h4 97 15).toInt = (hs_fI h2 97 15).toInt := by rw [eh4]; exact congrArg Int32.toInt (ty_fI_sF (by decide))
  have r11 : (hs_fI h6 97 15).toInt = (hs_fI h4 97 15).toInt := by rw [eh6]; exact congrArg Int32.toInt (ty_fI_sF (by decide))
  have r12 : (hs_fI h6 97 19).toInt = (hs_fI h4 97 19).toInt := by rw [eh6]; exact congrArg Int32.toInt (ty_fI_sF (by decide))
  refine ty_callm 0 [(0, 97, 13), (0, 97, 19)] (W := ty_Wo) H Jh6 rfl (fun _ => rfl) rfl rfl rfl (hq_pre_o Ih6.1 (x := 97) (ci := 11) rfl (by decide) rfl rfl rfl rfl) (fun a k w => by unfold ty_Wn at w; unfold ty_Wo; omega) (by unfold ty_Wn ty_Wo; omega) (ct_172w (by omega) (by omega)) ⟨⟨rfl, show ¬ ty_Wn 97 13 by unfold ty_Wn; omega⟩, ⟨rfl, show ¬ ty_Wn 97 19 by unfold ty_Wn; omega⟩, trivial⟩ (fun h14 _ Jh14 gh14 P13 => ?_)
  obtain ⟨gh14_0, gh14_1, _⟩ := gh14
  have gh14_0 : (hs_fI h14 97 13).toInt = (hs_fI h6 97 13).toInt := gh14_0
  have gh14_1 : (hs_fI h14 97 19).toInt = (hs_fI h6 97 19).toInt := gh14_1
  have Ih14 := H.1 h14 Jh14
  obtain ⟨rq15, fq15, kq15⟩ := P13
  subst rq15
  have t1kq15 := kq15.1
  have t2kq15 := kq15.2.1
  obtain ⟨q16, eq16⟩ : ∃ q : Int32, q.toInt = (hs_fI h14 97 14).toInt := ⟨_, rfl⟩
  have aq16 : 0 ≤ (hs_fI h14 97 14).toInt := (Ih14.2.1 97 14 (by decide)).1
  have bq16 : (hs_fI h14 97 14).toInt ≤ 400 := (Ih14.2.1 97 14 (by decide)).2
  obtain ⟨q17, eq17⟩ : ∃ q : Int32, q.toInt = (hs_fI h14 97 15).toInt := ⟨_, rfl⟩
  have aq17 : 0 ≤ (hs_fI h14 97 15).toInt := (Ih14.2.1 97 15 (by decide)).1
  have bq17 : (hs_fI h14 97 15).toInt ≤ 400 := (Ih14.2.1 97 15 (by decide)).2
  obtain ⟨q18, eq18⟩ : ∃ q : Int32, q.toInt = (hs_fI h14 97 16).toInt := ⟨_, rfl⟩
  have aq18 := nm_lo q18
  have bq18 := nm_hi q18
  obtain ⟨q19, eq19⟩ : ∃ q : Int64, q.toInt = (hs_fL h14 97 17).toInt := ⟨_, rfl⟩
  have aq19 := nm_llo q19
  have bq19 := nm_lhi q19
  exact hq_W.ret rfl rfl rfl ⟨Jh14, rfl, kq15, by omega⟩
theorem ct_193 {X : pm_X} {d : Nat} {h : pm_H} {x1 : Int32} (hd : 4 ≤ d) (ax1 : 0 ≤ x1.toInt) (bx1 : x1.toInt ≤ 1) : ty_M X ty_Wbt d 193 [.ref 97, .int x1] h (fun h1 v => v = none ∧ tk_ok h1 ∧ (hs_fI h1 97 19).toInt = 0 ∧ (hs_fI h1 97 21).toInt = 0 ∧ (hs_fI h1 97 23).toInt = 0) := by
  intro J H hJ
  obtain ⟨d, rfl⟩ : ∃ e, d = e + 1 := ⟨d - 1, by omega⟩
  have I := H.1 h hJ
  refine hq_M.enter (q := (⟨"TrainBearersModel", "beginText", "(Z)V"⟩, _, 2, none, 11, 2, pm_c193)) rfl rfl ?_
  show hq_W X d 11 false (none) pm_c193 (0, [some (.ref 97), some (.int x1)], [], h) (fun h' v => J h' ∧ (fun h1 v => v = none ∧ tk_ok h1 ∧ (hs_fI h1 97 19).toInt = 0 ∧ (hs_fI h1 97 21).toInt = 0 ∧ (hs_fI h1 97 23).toInt = 0) h' v)
  refine hq_p rfl rfl ?_
  refine hq_p rfl rfl ?_
  refine ty_pB (W := ty_Wbt) H hJ rfl rfl (by decide) rfl rfl rfl (by unfold ty_Wbt; omega) rfl (by omega) (by omega) (fun h1 eh1 Jh1 => ?_)
  have wh1 : (hs_fI h1 97 20).toInt = x1.toInt := by rw [eh1]; exact congrArg Int32.toInt (ty_fI_eq I.1 rfl (by decide) rfl)
  have Ih1 := H.1 h1 Jh1
  refine hq_p rfl rfl ?_
  refine ty_callm 0 [(0, 97, 20)] (W := ty_Wbt) H Jh1 rfl (fun _ => rfl) rfl rfl rfl (hq_pre_o Ih1.1 (x := 97) (ci := 11) rfl (by decide) rfl rfl rfl rfl) (fun a k w => by unfold ty_Wo at w; unfold ty_Wbt; omega) (by unfold ty_Wo ty_Wbt; omega) (ct_171w (by omega)) ⟨⟨rfl, show ¬ ty_Wo 97 20 by unfold ty_Wo; omega⟩, trivial⟩ (fun h3 _ Jh3 gh3 P2 => ?_)
  obtain ⟨gh3_0, _⟩ := gh3
  have gh3_0 : (hs_fI h3 97 20).toInt = (hs_fI h1 97 20).toInt := gh3_0
  have Ih3 := H.1 h3 Jh3
  obtain ⟨rq4, kq4, bq4⟩ := P2
  subst rq4
  obtain ⟨q5, eq5⟩ : ∃ q : Int32, q.toInt = (hs_fI h3 97 13).toInt := ⟨_, rfl⟩
  have aq5 : 0 ≤ (hs_fI h3 97 13).toInt := (Ih3.2.1 97 13 (by decide)).1
  have bq5 : (hs_fI h3 97 13).toInt ≤ 400 := (Ih3.2.1 97 13 (by decide)).2
  obtain ⟨q6, eq6⟩ : ∃ q : Int32, q.toInt = (hs_fI h3 97 14).toInt := ⟨_, rfl⟩
  have aq6 : 0 ≤ (hs_fI h3 97 14).toInt := (Ih3.2.1 97 14 (by decide)).1
  have bq6 : (hs_fI h3 97 14).toInt ≤ 400 := (Ih3.2.1 97 14 (by decide)).2
  obtain ⟨q7, eq7⟩ : ∃ q : Int32, q.toInt = (hs_fI h3 97 15).toInt := ⟨_, rfl⟩
  have aq7 : 0 ≤ (hs_fI h3 97 15).toInt := (Ih3.2.1 97 15 (by decide)).1
  have bq7 : (hs_fI h3 97 15).toInt ≤ 400 := (Ih3.2.1 97 15 (by decide)).2
  obtain ⟨q8, eq8⟩ : ∃ q : Int32, q.toInt = (hs_fI h3 97 16).toInt := ⟨_, rfl⟩
  have aq8 := nm_lo q8
  have bq8 := nm_hi q8
  obtain ⟨q9, eq9⟩ : ∃ q : Int32, q.toInt = (hs_fI h3 97 19).toInt := ⟨_, rfl⟩
  have aq9 : 0 ≤ q9.toInt ∧ q9.toInt ≤ 1 := by omega
  obtain ⟨q10, eq10⟩ : ∃ q : Int64, q.toInt = (hs_fL h3 97 17).toInt := ⟨_, rfl⟩
  have aq10 := nm_llo q10
  have bq10 := nm_lhi q10
  have t1kq4 := kq4.1
  have t2kq4 := kq4.2.1
  refine hq_p rfl rfl ?_
  refine hq_p rfl rfl (ty_ge (n := 0) nk_i0 (fun z11 ez11 => ?_))
  refine ty_pI (W := ty_Wbt) H Jh3 rfl rfl (by decide) rfl rfl (by unfold ty_Wbt; omega) rfl (by omega) (by omega) (fun h12 eh12 Jh12 => ?_)
  have wh12 : (hs_fI h12 97 21).toInt = z11.toInt := by rw [eh12]; exact congrArg Int32.toInt (ty_fI_eq Ih3.1 rfl (by decide) rfl)
  have Ih12 := H.1 h12 Jh12
  refine hq_p rfl rfl ?_
  refine hq_p rfl rfl (ty_ge (n := 0) nk_i0 (fun z13 ez13 => ?_))
  refine ty_pI (W := ty_Wbt) H Jh12 rfl rfl (by decide) rfl rfl (by unfold ty_Wbt; omega) rfl (by omega) (by omega) (fun h14 eh14 Jh14 => ?_)
  have wh14 : (hs_fI h14 97 23).toInt = z13.toInt := by rw [eh14]; exact congrArg Int32.toInt (ty_fI_eq Ih12.1 rfl (by decide) rfl)
  have Ih14 := H.1 h14 Jh14
  refine hq_p rfl rfl ?_
  refine hq_p rfl rfl (ty_ge (n := 0) nk_i0 (fun z15 ez15 => ?_))
  refine ty_pI (W := ty_Wbt) H Jh14 rfl rfl (by decide) rfl rfl (by unfold ty_Wbt; omega) rfl (by omega) (by omega) (fun h16 eh16 Jh16 => ?_)
  have wh16 : (hs_fI h16 97 26).toInt = z15.toInt := by rw [eh16]; exact congrArg Int32.toInt (ty_fI_eq Ih14.1 rfl (by decide) rfl)
  have Ih16 := H.1 h16 Jh16
  have r17 : (hs_fI h12 97 13).toInt = (hs_fI h3 97 13).toInt := by rw [eh12]; exact congrArg Int32.toInt (ty_fI_sF (by decide))
  have r18 : (hs_fI h14 97 13).toInt = (hs_fI h12 97 13).toInt := by rw [eh14]; exact congrArg Int32.toInt (ty_fI_sF (by decide))
  have r19 : (hs_fI h16 97 13).toInt = (hs_fI h14 97 13).toInt := by rw [eh16]; exact congrArg Int32.toInt (ty_fI_sF (by decide))
  have r20 : (hs_fI h12 97 14).toInt = (hs_fI h3 97 14).toInt := by rw [eh12]; exact congrArg Int32.toInt (ty_fI_sF (by decide))
  have r21 : (hs_fI h14 97 14).toInt = (hs_fI h12 97 14).toInt := by rw [eh14]; exact congrArg Int32.toInt (ty_fI_sF (by decide))
  have r22 : (hs_fI h16 97 14).toInt = (hs_fI h14 97 14).toInt := by rw [eh16]; exact congrArg Int32.toInt (ty_fI_sF (by decide))
  have r23 : (hs_fI h12 97 15).toInt = (hs_fI h3 97 15).toInt := by rw [eh12]; exact congrArg Int32.toInt (ty_fI_sF (by decide))
  have r24 : (hs_fI h14 97 15).toInt = (hs_fI h12 97 15).toInt := by rw [eh14]; exact congrArg Int32.toInt (ty_fI_sF (by decide))
  have r25 : (hs_fI h16 97 15).toInt = (hs_fI h14 97 15).toInt := by rw [eh16]; exact congrArg Int32.toInt (ty_fI_sF (by decide))
  have r26 : (hs_fI h12 97 16).toInt = (hs_fI h3 97 16).toInt := by rw [eh12]; exact congrArg Int32.toInt (ty_fI_sF (by decide))
  have r27 : (hs_fI h14 97 16).toInt = (hs_fI h12 97 16).toInt := by rw [eh14]; exact congrArg Int32.toInt (ty_fI_sF (by decide))
  have r28 : (hs_fI h16 97 16).toInt = (hs_fI h14 97 16).toInt := by rw [eh16]; exact congrArg Int32.toInt (ty_fI_sF (by decide))
  have r29 : (hs_fI h12 97 19).toInt = (hs_fI h3 97 19).toInt := by rw [eh12]; exact congrArg Int32.toInt (ty_fI_sF (by decide))
  have r30 : (hs_fI h14 97 19).toInt = (hs_fI h12 97 19).toInt := by rw [eh14]; exact congrArg Int32.toInt (ty_fI_sF (by decide))
  have r31 : (hs_fI h16 97 19).toInt = (hs_fI h14 97 19).toInt := by rw [eh16]; exact congrArg Int32.toInt (ty_fI_sF (by decide))
  have r32 : (hs_fI h12 97 20).toInt = (hs_fI h3 97 20).toInt := by rw [eh12]; exact congrArg Int32.toInt (ty_fI_sF (by decide))
  have r33 : (hs_fI h14 97 20).toInt = (hs_fI h12 97 20).toInt := by rw [eh14]; exact congrArg Int32.toInt (ty_fI_sF (by decide))
  have r34 : (hs_fI h16 97 20).toInt = (hs_fI h14 97 20).toInt := by rw [eh16]; exact congrArg Int32.toInt (ty_fI_sF (by decide))
  have r35 : (hs_fI h14 97 21).toInt = (hs_fI h12 97 21).toInt := by rw [eh14]; exact congrArg Int32.toInt (ty_fI_sF (by decide))
  have r36 : (hs_fI h16 97 21).toInt = (hs_fI h14 97 21).toInt := by rw [eh16]; exact congrArg Int32.toInt (ty_fI_sF (by decide))
  have r37 : (hs_fI h16 97 23).toInt = (hs_fI h14 97 23).toInt := by rw [eh16]; exact congrArg Int32.toInt (ty_fI_sF (by decide))
  have r38 : (hs_fL h12 97 17).toInt = (hs_fL h3 97 17).toInt := by rw [eh12]; exact congrArg Int64.toInt (ty_fL_sF (by decide))
  have r39 : (hs_fL h14 97 17).toInt = (hs_fL h12 97 17).toInt := by rw [eh14]; exact congrArg Int64.toInt (ty_fL_sF (by decide))
  have r40 : (hs_fL h16 97 17).toInt = (hs_fL h14 97 17).toInt := by rw [eh16]; exact congrArg Int64.toInt (ty_fL_sF (by decide))
  have k41 : tk_ok h16 := tk_same kq4 (by omega) (by omega) (by omega) (by omega) (by omega)
  exact hq_W.ret rfl rfl rfl ⟨Jh16, rfl, k41, by omega, by omega, by omega⟩
theorem ct_194 {X : pm_X} {d : Nat} {h : pm_H}  (hd : 4 ≤ d)  (hk : tk_ok h) (h01 : (hs_fI h 97 19).toInt = 0 ∨ (hs_fI h 97 19).toInt = 1) : ty_M X ty_Wet d 194 [.ref 97] h (fun h1 v => v = none ∧ (hs_fI h1 97 20).toInt = 0 ∧ (hs_fI h1 97 13).toInt = 0 ∧ ((hs_fI h1 97 19).toInt = 0 ∨ (hs_fI h1 97 19).toInt = 1) ∧ ((hs_fI h1 97 19).toInt = 0 → (hs_fI h 97 19).toInt = 0)) := by
  intro J H hJ
  obtain ⟨d, rfl⟩ : ∃ e, d = e + 1 := ⟨d - 1, by omega⟩
  have I := H.1 h hJ
  refine hq_M.enter (q := (⟨"TrainBearersModel", "endText", "()V"⟩, _, 1, none, 11, 1, pm_c194)) rfl rfl ?_
  show hq_W X d 11 false (none) pm_c194 (0, [some (.ref 97)], [], h) (fun h' v => J h' ∧ (fun h1 v => v = none ∧ (hs_fI h1 97 20).toInt = 0 ∧ (hs_fI h1 97 13).toInt = 0 ∧ ((hs_fI h1 97 19).toInt = 0 ∨ (hs_fI h1 97 19).toInt = 1) ∧ ((hs_fI h1 97 19).toInt = 0 → (hs_fI h 97 19).toInt = 0)) h' v)
  obtain ⟨q1, eq1⟩ : ∃ q : Int32, q.toInt = (hs_fI h 97 13).toInt := ⟨_, rfl⟩
  have aq1 : 0 ≤ (hs_fI h 97 13).toInt := (I.2.1 97 13 (by decide)).1
  have bq1 : (hs_fI h 97 13).toInt ≤ 400 := (I.2.1 97 13 (by decide)).2
  obtain ⟨q2, eq2⟩ : ∃ q : Int32, q.toInt = (hs_fI h 97 14).toInt := ⟨_, rfl⟩
  have aq2 : 0 ≤ (hs_fI h 97 14).toInt := (I.2.1 97 14 (by decide)).1
  have bq2 : (hs_fI h 97 14).toInt ≤ 400 := (I.2.1 97 14 (by decide)).2
  obtain ⟨q3, eq3⟩ : ∃ q : Int32, q.toInt = (hs_fI h 97 15).toInt := ⟨_, rfl⟩
  have aq3 : 0 ≤ (hs_fI h 97 15).toInt := (I.2.1 97 15 (by decide)).1
  have bq3 : (hs_fI h 97 15).toInt ≤ 400 := (I.2.1 97 15 (by decide)).2
  obtain ⟨q4, eq4⟩ : ∃ q : Int32, q.toInt = (hs_fI h 97 16).toInt := ⟨_, rfl⟩
  have aq4 := nm_lo q4
  have bq4 := nm_hi q4
  obtain ⟨q5, eq5⟩ : ∃ q : Int32, q.toInt = (hs_fI h 97 19).toInt := ⟨_, rfl⟩
  have aq5 : 0 ≤ q5.toInt ∧ q5.toInt ≤ 1 := by omega
  obtain ⟨q6, eq6⟩ : ∃ q : Int64, q.toInt = (hs_fL h 97 17).toInt := ⟨_, rfl⟩
  have aq6 := nm_llo q6
  have bq6 := nm_lhi q6
  refine hq_p rfl rfl ?_
  refine ty_gB I rfl rfl (by decide) (by decide) rfl (fun z7 ez7 az7 bz7 => ?_)
  refine ty_zne rfl (fun c8 => ?_) (fun c8 => ?_)
  · replace c8 : 1 ≤ z7.toInt ∧ z7.toInt ≤ 1 := by omega
    refine hq_p rfl rfl ?_
    refine hq_p rfl rfl (ty_ge (n := 0) nk_i0 (fun z9 ez9 => ?_))
    refine ty_pB (W := ty_Wet) H hJ rfl rfl (by decide) rfl rfl rfl (by unfold ty_Wet; omega) rfl (by omega) (by omega) (fun h10 eh10 Jh10 => ?_)
    have wh10 : (hs_fI h10 97 20).toInt = z9.toInt := by rw [eh10]; exact congrArg Int32.toInt (ty_fI_eq I.1 rfl (by decide) rfl)
    have Ih10 := H.1 h10 Jh10
    refine hq_p rfl rfl ?_
    refine hq_p rfl rfl (ty_ge (n := 0) nk_i0 (fun z11 ez11 => ?_))
    refine ty_pI (W := ty_Wet) H Jh10 rfl rfl (by decide) rfl rfl (by unfold ty_Wet; omega) rfl (by omega) (by omega) (fun h12 eh12 Jh12 => ?_)
    have wh12 : (hs_fI h12 97 13).toInt = z11.toInt := by rw [eh12]; exact congrArg Int32.toInt (ty_fI_eq Ih10.1 rfl (by decide) rfl)
    have Ih12 := H.1 h12 Jh12
    have r13 : (hs_fI h10 97 14).toInt = (hs_fI h 97 14).toInt := by rw [eh10]; exact congrArg Int32.toInt (ty_fI_sF (by decide))
    have r14 : (hs_fI h12 97 14).toInt = (hs_fI h10 97 14).toInt := by rw [eh12]; exact congrArg Int32.toInt (ty_fI_sF (by decide))
    have r15 : (hs_fI h10 97 15).toInt = (hs_fI h 97 15).toInt := by rw [eh10]; exact congrArg Int32.toInt (ty_fI_sF (by decide))
    have r16 : (hs_fI h12 97 15).toInt = (hs_fI h10 97 15).toInt := by rw [eh12]; exact congrArg Int32.toInt (ty_fI_sF (by decide))
    have r17 : (hs_fI h10 97 16).toInt = (hs_fI h 97 16).toInt := by rw [eh10]; exact congrArg Int32.toInt (ty_fI_sF (by decide))
    have r18 : (hs_fI h12 97 16).toInt = (hs_fI h10 97 16).toInt := by rw [eh12]; exact congrArg Int32.toInt (ty_fI_sF (by decide))
    have r19 : (hs_fI h10 97 19).toInt = (hs_fI h 97 19).toInt := by rw [eh10]; exact congrArg Int32.toInt (ty_fI_sF (by decide))
    have r20 : (hs_fI h12 97 19).toInt = (hs_fI h10 97 19).toInt := by rw [eh12]; exact congrArg Int32.toInt (ty_fI_sF (by decide))
    have r21 : (hs_fI h12 97 20).toInt = (hs_fI h10 97 20).toInt := by rw [eh12]; exact congrArg Int32.toInt (ty_fI_sF (by decide))
    have r22 : (hs_fL h10 97 17).toInt = (hs_fL h 97 17).toInt := by rw [eh10]; exact congrArg Int64.toInt (ty_fL_sF (by decide))
    have r23 : (hs_fL h12 97 17).toInt = (hs_fL h10 97 17).toInt := by rw [eh12]; exact congrArg Int64.toInt (ty_fL_sF (by decide))
    exact hq_W.ret rfl rfl rfl ⟨Jh12, rfl, by omega, by omega, by omega, by omega⟩
  · refine hq_p rfl rfl ?_
    refine ty_gI I rfl rfl (by decide) (by decide) rfl rfl (fun z24 ez24 az24 bz24 => ?_)
    refine ty_zeq rfl (fun c25 => ?_) (fun c25 => ?_)
    · refine hq_p rfl rfl ?_
      refine hq_p rfl rfl (ty_ge (n := 0) nk_i0 (fun z26 ez26 => ?_))
      refine ty_pB (W := ty_Wet) H hJ rfl rfl (by decide) rfl rfl rfl (by unfold ty_Wet; omega) rfl (by omega) (by omega) (fun h27 eh27 Jh27 => ?_)
      have wh27 : (hs_fI h27 97 20).toInt = z26.toInt := by rw [eh27]; exact congrArg Int32.toInt (ty_fI_eq I.1 rfl (by decide) rfl)
      have Ih27 := H.1 h27 Jh27
      refine hq_p rfl rfl ?_
      refine hq_p rfl rfl (ty_ge (n := 0) nk_i0 (fun z28 ez28 => ?_))
      refine ty_pI (W := ty_Wet) H Jh27 rfl rfl (by decide) rfl rfl (by unfold ty_Wet; omega) rfl (by omega) (by omega) (fun h29 eh29 Jh29 => ?_)
      have wh29 : (hs_fI h29 97 13).toInt = z28.toInt := by rw [eh29]; exact congrArg Int32.toInt (ty_fI_eq Ih27.1 rfl (by decide) rfl)
      have Ih29 := H.1 h29 Jh29
      have r30 : (hs_fI h27 97 14).toInt = (hs_fI h 97 14).toInt := by rw [eh27]; exact congrArg Int32.toInt (ty_fI_sF (by decide))
      have r31 : (hs_fI h29 97 14).toInt = (hs_fI h27 97 14).toInt := by rw [eh29]; exact congrArg Int32.toInt (ty_fI_sF (by decide))
      have r32 : (hs_fI h27 97 15).toInt = (hs_fI h 97 15).toInt := by rw [eh27]; exact congrArg Int32.toInt (ty_fI_sF (by decide))
      have r33 : (hs_fI h29 97 15).toInt = (hs_fI h27 97 15).toInt := by rw [eh29]; exact congrArg Int32.toInt (ty_fI_sF (by decide))
      have r34 : (hs_fI h27 97 16).toInt = (hs_fI h 97 16).toInt := by rw [eh27]; exact congrArg Int32.toInt (ty_fI_sF (by decide))
      have r35 : (hs_fI h29 97 16).toInt = (hs_fI h27 97 16).toInt := by rw [eh29]; exact congrArg Int32.toInt (ty_fI_sF (by decide))
      have r36 : (hs_fI h27 97 19).toInt = (hs_fI h 97 19).toInt := by rw [eh27]; exact congrArg Int32.toInt (ty_fI_sF (by decide))
      have r37 : (hs_fI h29 97 19).toInt = (hs_fI h27 97 19).toInt := by rw [eh29]; exact congrArg Int32.toInt (ty_fI_sF (by decide))
      have r38 : (hs_fI h29 97 20).toInt = (hs_fI h27 97 20).toInt := by rw [eh29]; exact congrArg Int32.toInt (ty_fI_sF (by decide))
      have r39 : (hs_fL h27 97 17).toInt = (hs_fL h 97 17).toInt := by rw [eh27]; exact congrArg Int64.toInt (ty_fL_sF (by decide))
      have r40 : (hs_fL h29 97 17).toInt = (hs_fL h27 97 17).toInt := by rw [eh29]; exact congrArg Int64.toInt (ty_fL_sF (by decide))
      exact hq_W.ret rfl rfl rfl ⟨Jh29, rfl, by omega, by omega, by omega, by omega⟩
    · clear c25
      refine hq_p rfl rfl ?_
      refine hq_p rfl rfl (ty_ge (n := 0) nk_i0 (fun z41 ez41 => ?_))
      refine ty_callm 0 [(0, 97, 13)] (W := ty_Wet) H hJ rfl (fun _ => rfl) rfl rfl rfl (hq_pre_o I.1 (x := 97) (ci := 11) rfl (by decide) rfl rfl rfl rfl) (fun a k w => by unfold ty_Wo at w; unfold ty_Wet; omega) (by unfold ty_Wo ty_Wet; omega) (ct_175w (x1 := z41) (by omega) (by omega) (by omega) hk) ⟨⟨rfl, show ¬ ty_Wo 97 13 by unfold ty_Wo; omega⟩, trivial⟩ (fun h43 _ Jh43 gh43 P42 => ?_)
      obtain ⟨gh43_0, _⟩ := gh43
      have gh43_0 : (hs_fI h43 97 13).toInt = (hs_fI h 97 13).toInt := gh43_0
      have Ih43 := H.1 h43 Jh43
      obtain ⟨rq44, kq44, fq44⟩ := P42
      subst rq44
      have t1kq44 := kq44.1
      have t2kq44 := kq44.2.1
      obtain ⟨q45, eq45⟩ : ∃ q : Int32, q.toInt = (hs_fI h43 97 14).toInt := ⟨_, rfl⟩
      have aq45 : 0 ≤ (hs_fI h43 97 14).toInt := (Ih43.2.1 97 14 (by decide)).1
      have bq45 : (hs_fI h43 97 14).toInt ≤ 400 := (Ih43.2.1 97 14 (by decide)).2
      obtain ⟨q46, eq46⟩ : ∃ q : Int32, q.toInt = (hs_fI h43 97 15).toInt := ⟨_, rfl⟩
      have aq46 : 0 ≤ (hs_fI h43 97 15).toInt := (Ih43.2.1 97 15 (by decide)).1
      have bq46 : (hs_fI h43 97 15).toInt ≤ 400 := (Ih43.2.1 97 15 (by decide)).2
      obtain ⟨q47, eq47⟩ : ∃ q : Int32, q.toInt = (hs_fI h43 97 16).toInt := ⟨_, rfl⟩
      have aq47 := nm_lo q47
      have bq47 := nm_hi q47
      obtain ⟨q48, eq48⟩ : ∃ q : Int32, q.toInt = (hs_fI h43 97 19).toInt := ⟨_, rfl⟩
      have aq48 : 0 ≤ q48.toInt ∧ q48.toInt ≤ 1 := by omega
      obtain ⟨q49, eq49⟩ : ∃ q : Int64, q.toInt = (hs_fL h43 97 17).toInt := ⟨_, rfl⟩
      have aq49 := nm_llo q49
      have bq49 := nm_lhi q49
      refine hq_p rfl rfl ?_
      refine hq_p rfl rfl (ty_ge (n := 0) nk_i0 (fun z50 ez50 => ?_))
      refine ty_pB (W := ty_Wet) H Jh43 rfl rfl (by decide) rfl rfl rfl (by unfold ty_Wet; omega) rfl (by omega) (by omega) (fun h51 eh51 Jh51 => ?_)
      have wh51 : (hs_fI h51 97 20).toInt = z50.toInt := by rw [eh51]; exact congrArg Int32.toInt (ty_fI_eq Ih43.1 rfl (by decide) rfl)
      have Ih51 := H.1 h51 Jh51
      refine hq_p rfl rfl ?_
      refine hq_p rfl rfl (ty_ge (n := 0) nk_i0 (fun z52 ez52 => ?_))
      refine ty_pI (W := ty_Wet) H Jh51 rfl rfl (by decide) rfl rfl (by unfold ty_Wet; omega) rfl (by omega) (by omega) (fun h53 eh53 Jh53 => ?_)
      have wh53 : (hs_fI h53 97 13).toInt = z52.toInt := by rw [eh53]; exact congrArg Int32.toInt (ty_fI_eq Ih51.1 rfl (by decide) rfl)
      have Ih53 := H.1 h53 Jh53
      have r54 : (hs_fI h51 97 14).toInt = (hs_fI h43 97 14).toInt := by rw [eh51]; exact congrArg Int32.toInt (ty_fI_sF (by decide))
      have r55 : (hs_fI h53 97 14).toInt = (hs_fI h51 97 14).toInt := by rw [eh53]; exact congrArg Int32.toInt (ty_fI_sF (by decide))
      have r56 : (hs_fI h51 97 15).toInt = (hs_fI h43 97 15).toInt := by rw [eh51]; exact congrArg Int32.toInt (ty_fI_sF (by decide))
      have r57 : (hs_fI h53 97 15).toInt = (hs_fI h51 97 15).toInt := by rw [eh53]; exact congrArg Int32.toInt (ty_fI_sF (by decide))
      have r58 : (hs_fI h51 97 16).toInt = (hs_fI h43 97 16).toInt := by rw [eh51]; exact congrArg Int32.toInt (ty_fI_sF (by decide))
      have r59 : (hs_fI h53 97 16).toInt = (hs_fI h51 97 16).toInt := by rw [eh53]; exact congrArg Int32.toInt (ty_fI_sF (by decide))
      have r60 : (hs_fI h51 97 19).toInt = (hs_fI h43 97 19).toInt := by rw [eh51]; exact congrArg Int32.toInt (ty_fI_sF (by decide))
      have r61 : (hs_fI h53 97 19).toInt = (hs_fI h51 97 19).toInt := by rw [eh53]; exact congrArg Int32.toInt (ty_fI_sF (by decide))
      have r62 : (hs_fI h53 97 20).toInt = (hs_fI h51 97 20).toInt := by rw [eh53]; exact congrArg Int32.toInt (ty_fI_sF (by decide))
      have r63 : (hs_fL h51 97 17).toInt = (hs_fL h43 97 17).toInt := by rw [eh51]; exact congrArg Int64.toInt (ty_fL_sF (by decide))
      have r64 : (hs_fL h53 97 17).toInt = (hs_fL h51 97 17).toInt := by rw [eh53]; exact congrArg Int64.toInt (ty_fL_sF (by decide))
      exact hq_W.ret rfl rfl rfl ⟨Jh53, rfl, by omega, by omega, by omega, by omega⟩
set_option maxHeartbeats 20000000 in
theorem ct_195 {X : pm_X} {d : Nat} {h : pm_H}  (hd : 8 ≤ d)  (hb : (hs_fI h 97 19).toInt = 0) (hk : tk_ok h) (hnf : (hs_fI h 97 23).toInt ≤ (hs_fI h 97 14).toInt) (hLW : lwp (hs_aI h 107) (hs_aI h 108) (hs_aI h 109) (hs_fI h 97 21).toInt (hs_fI h 97 23).toInt) : ty_M X ty_Wrl d 195 [.ref 97] h (fun h1 v => v = none ∧ tk_ok h1 ∧ (hs_fI h 97 14).toInt ≤ (hs_fI h1 97 14).toInt ∧ ((hs_fI h1 97 19).toInt = 0 ∨ (hs_fI h1 97 19).toInt = 1) ∧ (hs_fI h1 97 23).toInt ≤ (hs_fI h1 97 14).toInt ∧ ((hs_fI h1 97 19).toInt = 0 → (hs_fI h 97 14).toInt + 1 ≤ (hs_fI h1 97 14).toInt ∧ lwp (hs_aI h1 107) (hs_aI h1 108) (hs_aI h1 109) (hs_fI h1 97 21).toInt (hs_fI h1 97 23).toInt)) := by
  intro J H hJ
  obtain ⟨d, rfl⟩ : ∃ e, d = e + 1 := ⟨d - 1, by omega⟩
  have I := H.1 h hJ
  refine hq_M.enter (q := (⟨"TrainBearersModel", "readLaw", "()V"⟩, _, 4, none, 11, 1, pm_c195)) rfl rfl ?_
  show hq_W X d 11 false (none) pm_c195 (0, [some (.ref 97), none, none, none], [], h) (fun h' v => J h' ∧ (fun h1 v => v = none ∧ tk_ok h1 ∧ (hs_fI h 97 14).toInt ≤ (hs_fI h1 97 14).toInt ∧ ((hs_fI h1 97 19).toInt = 0 ∨ (hs_fI h1 97 19).toInt = 1) ∧ (hs_fI h1 97 23).toInt ≤ (hs_fI h1 97 14).toInt ∧ ((hs_fI h1 97 19).toInt = 0 → (hs_fI h 97 14).toInt + 1 ≤ (hs_fI h1 97 14).toInt ∧ lwp (hs_aI h1 107) (hs_aI h1 108) (hs_aI h1 109) (hs_fI h1 97 21).toInt (hs_fI h1 97 23).toInt)) h' v)
  obtain ⟨q1, eq1⟩ : ∃ q : Int32, q.toInt = (hs_fI h 97 13).toInt := ⟨_, rfl⟩
  have aq1 : 0 ≤ (hs_fI h 97 13).toInt := (I.2.1 97 13 (by decide)).1
  have bq1 : (hs_fI h 97 13).toInt ≤ 400 := (I.2.1 97 13 (by decide)).2
  obtain ⟨q2, eq2⟩ : ∃ q : Int32, q.toInt = (hs_fI h 97 14).toInt := ⟨_, rfl⟩
  have aq2 : 0 ≤ (hs_fI h 97 14).toInt := (I.2.1 97 14 (by decide)).1
  have bq2 : (hs_fI h 97 14).toInt ≤ 400 := (I.2.1 97 14 (by decide)).2
  obtain ⟨q3, eq3⟩ : ∃ q : Int32, q.toInt = (hs_fI h 97 15).toInt := ⟨_, rfl⟩
  have aq3 : 0 ≤ (hs_fI h 97 15).toInt := (I.2.1 97 15 (by decide)).1
  have bq3 : (hs_fI h 97 15).toInt ≤ 400 := (I.2.1 97 15 (by decide)).2
  obtain ⟨q4, eq4⟩ : ∃ q : Int32, q.toInt = (hs_fI h 97 16).toInt := ⟨_, rfl⟩
  have aq4 := nm_lo q4
  have bq4 := nm_hi q4
  obtain ⟨q5, eq5⟩ : ∃ q : Int32, q.toInt = (hs_fI h 97 19).toInt := ⟨_, rfl⟩
  have aq5 : 0 ≤ q5.toInt ∧ q5.toInt ≤ 1 := by omega
  obtain ⟨q6, eq6⟩ : ∃ q : Int32, q.toInt = (hs_fI h 97 21).toInt := ⟨_, rfl⟩
  have aq6 : 0 ≤ (hs_fI h 97 21).toInt := (I.2.1 97 21 (by decide)).1
  have bq6 : (hs_fI h 97 21).toInt ≤ 12 := (I.2.1 97 21 (by decide)).2
  obtain ⟨q7, eq7⟩ : ∃ q : Int32, q.toInt = (hs_fI h 97 23).toInt := ⟨_, rfl⟩
  have aq7 : 0 ≤ (hs_fI h 97 23).toInt := (I.2.1 97 23 (by decide)).1
  have bq7 : (hs_fI h 97 23).toInt ≤ 400 := (I.2.1 97 23 (by decide)).2
  obtain ⟨q8, eq8⟩ : ∃ q : Int32, q.toInt = (hs_fI h 97 26).toInt := ⟨_, rfl⟩
  have aq8 : 0 ≤ (hs_fI h 97 26).toInt := (I.2.1 97 26 (by decide)).1
  have bq8 : (hs_fI h 97 26).toInt ≤ 50 := (I.2.1 97 26 (by decide)).2
  obtain ⟨q9, eq9⟩ : ∃ q : Int64, q.toInt = (hs_fL h 97 17).toInt := ⟨_, rfl⟩
  have aq9 := nm_llo q9
  have bq9 := nm_lhi q9
  have t1 := hk.1
  have t2 := hk.2.1
  refine hq_p rfl rfl (ty_ge (n := -1) nk_im1 (fun z10 ez10 => ?_))
  refine hq_p (ls' := [some (.ref 97), some (.int z10), none, none]) rfl rfl ?_
  refine hq_p rfl rfl (ty_ge (n := 0) nk_i0 (fun z11 ez11 => ?_))
  refine hq_p (ls' := [some (.ref 97), some (.int z10), some (.int z11), none]) rfl rfl ?_
  have L4_n26 : ∀ n26 : Nat, ∀ (y22 : Int32) (y23 : Int32), (4 - y23.toInt).toNat = n26 → -1 ≤ y22.toInt → y22.toInt ≤ 3 → 0 ≤ y23.toInt → y23.toInt ≤ 4 → (y22.toInt ≠ -1 → (hs_fI h 97 16).toInt = 1) → hq_W X d 11 false (none) pm_c195 (4, [some (.ref 97), some (.int y22), some (.int y23), none], [], h) (fun h' v => J h' ∧ (fun h1 v => v = none ∧ tk_ok h1 ∧ (hs_fI h 97 14).toInt ≤ (hs_fI h1 97 14).toInt ∧ ((hs_fI h1 97 19).toInt = 0 ∨ (hs_fI h1 97 19).toInt = 1) ∧ (hs_fI h1 97 23).toInt ≤ (hs_fI h1 97 14).toInt ∧ ((hs_fI h1 97 19).toInt = 0 → (hs_fI h 97 14).toInt + 1 ≤ (hs_fI h1 97 14).toInt ∧ lwp (hs_aI h1 107) (hs_aI h1 108) (hs_aI h1 109) (hs_fI h1 97 21).toInt (hs_fI h1 97 23).toInt)) h' v) := by
    intro n26
    induction n26 using Nat.strongRecOn with
    | ind n26 ihn26 =>
      intro y22 y23 mn26 ay22 by22 ay23 by23 x0n26
      refine hq_p rfl rfl ?_
      refine hq_p rfl rfl (ty_ge (n := 4) nk_i4 (fun z27 ez27 => ?_))
      refine ty_ige rfl (fun c28 => ?_) (fun c28 => ?_)
      · refine hq_p rfl rfl ?_
        refine hq_p rfl rfl ?_
        refine hq_p rfl rfl (ty_ge (n := -1) nk_im1 (fun z29 ez29 => ?_))
        refine ty_ieq rfl (fun c30 => ?_) (fun c30 => ?_)
        · refine hq_p rfl rfl (ty_ge (n := 0) nk_i0 (fun z31 ez31 => ?_))
          refine ty_callm 0 [(0, 97, 13), (0, 97, 21), (0, 97, 23), (0, 97, 26), (3, 107, 0), (3, 108, 0), (3, 109, 0)] (W := ty_Wrl) H hJ rfl (fun _ => rfl) rfl rfl rfl (hq_pre_o I.1 (x := 97) (ci := 11) rfl (by decide) rfl rfl rfl rfl) (fun a k w => by unfold ty_Wo at w; unfold ty_Wrl; omega) (by unfold ty_Wo ty_Wrl; omega) (ct_175w (x1 := z31) (by omega) (by omega) (by omega) hk) ⟨⟨rfl, show ¬ ty_Wo 97 13 by unfold ty_Wo; omega⟩, ⟨rfl, show ¬ ty_Wo 97 21 by unfold ty_Wo; omega⟩, ⟨rfl, show ¬ ty_Wo 97 23 by unfold ty_Wo; omega⟩, ⟨rfl, show ¬ ty_Wo 97 26 by unfold ty_Wo; omega⟩, ⟨rfl, fun k => show ¬ ty_Wo 107 k by unfold ty_Wo; omega⟩, ⟨rfl, fun k => show ¬ ty_Wo 108 k by unfold ty_Wo; omega⟩, ⟨rfl, fun k => show ¬ ty_Wo 109 k by unfold ty_Wo; omega⟩, trivial⟩ (fun h33 _ Jh33 gh33 P32 => ?_)
          obtain ⟨gh33_0, gh33_1, gh33_2, gh33_3, gh33_4, gh33_5, gh33_6, _⟩ := gh33
          have gh33_0 : (hs_fI h33 97 13).toInt = (hs_fI h 97 13).toInt := gh33_0
          have gh33_1 : (hs_fI h33 97 21).toInt = (hs_fI h 97 21).toInt := gh33_1
          have gh33_2 : (hs_fI h33 97 23).toInt = (hs_fI h 97 23).toInt := gh33_2
          have gh33_3 : (hs_fI h33 97 26).toInt = (hs_fI h 97 26).toInt := gh33_3
          have gh33_4 : hs_aI h33 107 = hs_aI h 107 := gh33_4
          have ugh33_4 : hs_aI h33 107 = (hs_aI h 107) := gh33_4.trans rfl
          have gh33_5 : hs_aI h33 108 = hs_aI h 108 := gh33_5
          have ugh33_5 : hs_aI h33 108 = (hs_aI h 108) := gh33_5.trans rfl
          have gh33_6 : hs_aI h33 109 = hs_aI h 109 := gh33_6
          have ugh33_6 : hs_aI h33 109 = (hs_aI h 109) := gh33_6.trans rfl
          have Ih33 := H.1 h33 Jh33
          obtain ⟨rq34, kq34, fq34⟩ := P32
          subst rq34
          have t1kq34 := kq34.1
          have t2kq34 := kq34.2.1
          obtain ⟨q35, eq35⟩ : ∃ q : Int32, q.toInt = (hs_fI h33 97 14).toInt := ⟨_, rfl⟩
          have aq35 : 0 ≤ (hs_fI h33 97 14).toInt := (Ih33.2.1 97 14 (by decide)).1
          have bq35 : (hs_fI h33 97 14).toInt ≤ 400 := (Ih33.2.1 97 14 (by decide)).2
          obtain ⟨q36, eq36⟩ : ∃ q : Int32, q.toInt = (hs_fI h33 97 15).toInt := ⟨_, rfl⟩
          have aq36 : 0 ≤ (hs_fI h33 97 15).toInt := (Ih33.2.1 97 15 (by decide)).1
          have bq36 : (hs_fI h33 97 15).toInt ≤ 400 := (Ih33.2.1 97 15 (by decide)).2
          obtain ⟨q37, eq37⟩ : ∃ q : Int32, q.toInt = (hs_fI h33 97 16).toInt := ⟨_, rfl⟩
          have aq37 := nm_lo q37
          have bq37 := nm_hi q37
          obtain ⟨q38, eq38⟩ : ∃ q : Int32, q.toInt = (hs_fI h33 97 19).toInt := ⟨_, rfl⟩
          have aq38 : 0 ≤ q38.toInt ∧ q38.toInt ≤ 1 := by omega
          obtain ⟨q39, eq39⟩ : ∃ q : Int64, q.toInt = (hs_fL h33 97 17).toInt := ⟨_, rfl⟩
          have aq39 := nm_llo q39
          have bq39 := nm_lhi q39
          refine hq_p rfl rfl ?_
          refine ty_gB Ih33 rfl rfl (by decide) (by decide) rfl (fun z40 ez40 az40 bz40 => ?_)
          refine ty_zeq rfl (fun c41 => ?_) (fun c41 => ?_)
          · exfalso; omega
          · clear c41
            exact hq_W.ret rfl rfl rfl ⟨Jh33, rfl, kq34, by omega, by omega, by omega, (fun q => by exfalso; omega)⟩
        · replace c30 : y22.toInt ≠ z29.toInt := by omega
          refine hq_p rfl rfl ?_
          refine ty_gI I rfl rfl (by decide) (by decide) rfl rfl (fun z43 ez43 az43 bz43 => ?_)
          refine hq_p rfl rfl (ty_ge (n := 12) nk_b12 (fun z44 ez44 => ?_))
          refine ty_ige rfl (fun c45 => ?_) (fun c45 => ?_)
          · refine hq_p rfl rfl (ty_ge (n := 0) nk_i0 (fun z46 ez46 => ?_))
            refine ty_callm 0 [(0, 97, 13), (0, 97, 21), (0, 97, 23), (0, 97, 26), (3, 107, 0), (3, 108, 0), (3, 109, 0)] (W := ty_Wrl) H hJ rfl (fun _ => rfl) rfl rfl rfl (hq_pre_o I.1 (x := 97) (ci := 11) rfl (by decide) rfl rfl rfl rfl) (fun a k w => by unfold ty_Wo at w; unfold ty_Wrl; omega) (by unfold ty_Wo ty_Wrl; omega) (ct_175w (x1 := z46) (by omega) (by omega) (by omega) hk) ⟨⟨rfl, show ¬ ty_Wo 97 13 by unfold ty_Wo; omega⟩, ⟨rfl, show ¬ ty_Wo 97 21 by unfold ty_Wo; omega⟩, ⟨rfl, show ¬ ty_Wo 97 23 by unfold ty_Wo; omega⟩, ⟨rfl, show ¬ ty_Wo 97 26 by unfold ty_Wo; omega⟩, ⟨rfl, fun k => show ¬ ty_Wo 107 k by unfold ty_Wo; omega⟩, ⟨rfl, fun k => show ¬ ty_Wo 108 k by unfold ty_Wo; omega⟩, ⟨rfl, fun k => show ¬ ty_Wo 109 k by unfold ty_Wo; omega⟩, trivial⟩ (fun h48 _ Jh48 gh48 P47 => ?_)
            obtain ⟨gh48_0, gh48_1, gh48_2, gh48_3, gh48_4, gh48_5, gh48_6, _⟩ := gh48
            have gh48_0 : (hs_fI h48 97 13).toInt = (hs_fI h 97 13).toInt := gh48_0
            have gh48_1 : (hs_fI h48 97 21).toInt = (hs_fI h 97 21).toInt := gh48_1
            have gh48_2 : (hs_fI h48 97 23).toInt = (hs_fI h 97 23).toInt := gh48_2
            have gh48_3 : (hs_fI h48 97 26).toInt = (hs_fI h 97 26).toInt := gh48_3
            have gh48_4 : hs_aI h48 107 = hs_aI h 107 := gh48_4
            have ugh48_4 : hs_aI h48 107 = (hs_aI h 107) := gh48_4.trans rfl
            have gh48_5 : hs_aI h48 108 = hs_aI h 108 := gh48_5
            have ugh48_5 : hs_aI h48 108 = (hs_aI h 108) := gh48_5.trans rfl
            have gh48_6 : hs_aI h48 109 = hs_aI h 109 := gh48_6
            have ugh48_6 : hs_aI h48 109 = (hs_aI h 109) := gh48_6.trans rfl
            have Ih48 := H.1 h48 Jh48
            obtain ⟨rq49, kq49, fq49⟩ := P47
            subst rq49
            have t1kq49 := kq49.1
            have t2kq49 := kq49.2.1
            obtain ⟨q50, eq50⟩ : ∃ q : Int32, q.toInt = (hs_fI h48 97 14).toInt := ⟨_, rfl⟩
            have aq50 : 0 ≤ (hs_fI h48 97 14).toInt := (Ih48.2.1 97 14 (by decide)).1
            have bq50 : (hs_fI h48 97 14).toInt ≤ 400 := (Ih48.2.1 97 14 (by decide)).2
            obtain ⟨q51, eq51⟩ : ∃ q : Int32, q.toInt = (hs_fI h48 97 15).toInt := ⟨_, rfl⟩
            have aq51 : 0 ≤ (hs_fI h48 97 15).toInt := (Ih48.2.1 97 15 (by decide)).1
            have bq51 : (hs_fI h48 97 15).toInt ≤ 400 := (Ih48.2.1 97 15 (by decide)).2
            obtain ⟨q52, eq52⟩ : ∃ q : Int32, q.toInt = (hs_fI h48 97 16).toInt := ⟨_, rfl⟩
            have aq52 := nm_lo q52
            have bq52 := nm_hi q52
            obtain ⟨q53, eq53⟩ : ∃ q : Int32, q.toInt = (hs_fI h48 97 19).toInt := ⟨_, rfl⟩
            have aq53 : 0 ≤ q53.toInt ∧ q53.toInt ≤ 1 := by omega
            obtain ⟨q54, eq54⟩ : ∃ q : Int64, q.toInt = (hs_fL h48 97 17).toInt := ⟨_, rfl⟩
            have aq54 := nm_llo q54
            have bq54 := nm_lhi q54
            refine hq_p rfl rfl ?_
            refine ty_gB Ih48 rfl rfl (by decide) (by decide) rfl (fun z55 ez55 az55 bz55 => ?_)
            refine ty_zeq rfl (fun c56 => ?_) (fun c56 => ?_)
            · exfalso; omega
            · clear c56
              exact hq_W.ret rfl rfl rfl ⟨Jh48, rfl, kq49, by omega, by omega, by omega, (fun q => by exfalso; omega)⟩
          · refine hq_p rfl rfl (ty_ge (n := 1) nk_i1 (fun z58 ez58 => ?_))
            refine hq_p rfl rfl ?_
            refine ty_callm 0 [(0, 97, 13), (0, 97, 21), (0, 97, 23), (0, 97, 26), (3, 107, 0), (3, 108, 0), (3, 109, 0)] (W := ty_Wrl) H hJ rfl (fun _ => rfl) rfl rfl rfl (hq_pre_o I.1 (x := 97) (ci := 11) rfl (by decide) rfl rfl rfl rfl) (fun a k w => by unfold ty_Wo at w; unfold ty_Wrl; omega) (by unfold ty_Wo ty_Wrl; omega) (ct_175w (x1 := z58) (by omega) (by omega) (by omega) hk) ⟨⟨rfl, show ¬ ty_Wo 97 13 by unfold ty_Wo; omega⟩, ⟨rfl, show ¬ ty_Wo 97 21 by unfold ty_Wo; omega⟩, ⟨rfl, show ¬ ty_Wo 97 23 by unfold ty_Wo; omega⟩, ⟨rfl, show ¬ ty_Wo 97 26 by unfold ty_Wo; omega⟩, ⟨rfl, fun k => show ¬ ty_Wo 107 k by unfold ty_Wo; omega⟩, ⟨rfl, fun k => show ¬ ty_Wo 108 k by unfold ty_Wo; omega⟩, ⟨rfl, fun k => show ¬ ty_Wo 109 k by unfold ty_Wo; omega⟩, trivial⟩ (fun h60 _ Jh60 gh60 P59 => ?_)
            obtain ⟨gh60_0, gh60_1, gh60_2, gh60_3, gh60_4, gh60_5, gh60_6, _⟩ := gh60
            have gh60_0 : (hs_fI h60 97 13).toInt = (hs_fI h 97 13).toInt := gh60_0
            have gh60_1 : (hs_fI h60 97 21).toInt = (hs_fI h 97 21).toInt := gh60_1
            have gh60_2 : (hs_fI h60 97 23).toInt = (hs_fI h 97 23).toInt := gh60_2
            have gh60_3 : (hs_fI h60 97 26).toInt = (hs_fI h 97 26).toInt := gh60_3
            have gh60_4 : hs_aI h60 107 = hs_aI h 107 := gh60_4
            have ugh60_4 : hs_aI h60 107 = (hs_aI h 107) := gh60_4.trans rfl
            have gh60_5 : hs_aI h60 108 = hs_aI h 108 := gh60_5
            have ugh60_5 : hs_aI h60 108 = (hs_aI h 108) := gh60_5.trans rfl
            have gh60_6 : hs_aI h60 109 = hs_aI h 109 := gh60_6
            have ugh60_6 : hs_aI h60 109 = (hs_aI h 109) := gh60_6.trans rfl
            have Ih60 := H.1 h60 Jh60
            obtain ⟨rq61, kq61, fq61⟩ := P59
            subst rq61
            have t1kq61 := kq61.1
            have t2kq61 := kq61.2.1
            obtain ⟨q62, eq62⟩ : ∃ q : Int32, q.toInt = (hs_fI h60 97 14).toInt := ⟨_, rfl⟩
            have aq62 : 0 ≤ (hs_fI h60 97 14).toInt := (Ih60.2.1 97 14 (by decide)).1
            have bq62 : (hs_fI h60 97 14).toInt ≤ 400 := (Ih60.2.1 97 14 (by decide)).2
            obtain ⟨q63, eq63⟩ : ∃ q : Int32, q.toInt = (hs_fI h60 97 15).toInt := ⟨_, rfl⟩
            have aq63 : 0 ≤ (hs_fI h60 97 15).toInt := (Ih60.2.1 97 15 (by decide)).1
            have bq63 : (hs_fI h60 97 15).toInt ≤ 400 := (Ih60.2.1 97 15 (by decide)).2
            obtain ⟨q64, eq64⟩ : ∃ q : Int32, q.toInt = (hs_fI h60 97 16).toInt := ⟨_, rfl⟩
            have aq64 := nm_lo q64
            have bq64 := nm_hi q64
            obtain ⟨q65, eq65⟩ : ∃ q : Int32, q.toInt = (hs_fI h60 97 19).toInt := ⟨_, rfl⟩
            have aq65 : 0 ≤ q65.toInt ∧ q65.toInt ≤ 1 := by omega
            obtain ⟨q66, eq66⟩ : ∃ q : Int64, q.toInt = (hs_fL h60 97 17).toInt := ⟨_, rfl⟩
            have aq66 := nm_llo q66
            have bq66 := nm_lhi q66
            refine hq_p rfl rfl ?_
            refine ty_gB Ih60 rfl rfl (by decide) (by decide) rfl (fun z67 ez67 az67 bz67 => ?_)
            refine ty_zeq rfl (fun c68 => ?_) (fun c68 => ?_)
            · have t3 := hk.2.2.1 (by omega)
              have gF : (hs_fI h 97 14).toInt + 1 ≤ (hs_fI h60 97 14).toInt := by omega
              clear fq61
              refine hq_p rfl rfl (ty_ge (n := 8) nk_b8 (fun z69 ez69 => ?_))
              refine hq_p rfl rfl ?_
              refine ty_gI Ih60 rfl rfl (by decide) (by decide) rfl rfl (fun z70 ez70 az70 bz70 => ?_)
              refine hq_p rfl rfl (ty_ge (n := 8 * z70.toInt) (nm_cmul ez69 (by omega) (by omega)) (fun z71 ez71 => ?_))
              refine hq_p (ls' := [some (.ref 97), some (.int y22), some (.int z71), none]) rfl rfl ?_
              refine hq_p rfl rfl (ty_ge (n := 0) nk_i0 (fun z72 ez72 => ?_))
              refine hq_p (ls' := [some (.ref 97), some (.int y22), some (.int z71), some (.int z72)]) rfl rfl ?_
              have L75_n95 : ∀ n95 : Nat, ∀ (y91 : Int32) (h92 : pm_H), (8 - y91.toInt).toNat = n95 → 0 ≤ y91.toInt → y91.toInt ≤ 8 → (∀ j, j < 8 * (hs_fI h 97 21).toInt.toNat → hs_aI h92 107 j = hs_aI h 107 j) → hs_aI h92 108 = hs_aI h 108 → hs_aI h92 109 = hs_aI h 109 → (hs_fI h92 97 13).toInt = (hs_fI h60 97 13).toInt → (hs_fI h92 97 14).toInt = (hs_fI h60 97 14).toInt → (hs_fI h92 97 15).toInt = (hs_fI h60 97 15).toInt → (hs_fI h92 97 16).toInt = (hs_fI h60 97 16).toInt → (hs_fI h92 97 19).toInt = (hs_fI h60 97 19).toInt → (hs_fI h92 97 21).toInt = (hs_fI h60 97 21).toInt → (hs_fI h92 97 23).toInt = (hs_fI h60 97 23).toInt → (hs_fI h92 97 26).toInt = (hs_fI h60 97 26).toInt → (hs_fL h92 97 17).toInt = (hs_fL h60 97 17).toInt → J h92 → hq_W X d 11 false (none) pm_c195 (75, [some (.ref 97), some (.int y22), some (.int z71), some (.int y91)], [], h92) (fun h' v => J h' ∧ (fun h1 v => v = none ∧ tk_ok h1 ∧ (hs_fI h 97 14).toInt ≤ (hs_fI h1 97 14).toInt ∧ ((hs_fI h1 97 19).toInt = 0 ∨ (hs_fI h1 97 19).toInt = 1) ∧ (hs_fI h1 97 23).toInt ≤ (hs_fI h1 97 14).toInt ∧ ((hs_fI h1 97 19).toInt = 0 → (hs_fI h 97 14).toInt + 1 ≤ (hs_fI h1 97 14).toInt ∧ lwp (hs_aI h1 107) (hs_aI h1 108) (hs_aI h1 109) (hs_fI h1 97 21).toInt (hs_fI h1 97 23).toInt)) h' v) := by
                intro n95
                induction n95 using Nat.strongRecOn with
                | ind n95 ihn95 =>
                  intro y91 h92 mn95 ay91 by91 x0n95 x1n95 x2n95 x3n95 x4n95 x5n95 x6n95 x7n95 x8n95 x9n95 x10n95 x11n95 Jh92
                  have Ih92 := H.1 h92 Jh92
                  refine hq_p rfl rfl ?_
                  refine hq_p rfl rfl (ty_ge (n := 8) nk_b8 (fun z96 ez96 => ?_))
                  refine ty_ige rfl (fun c97 => ?_) (fun c97 => ?_)
                  · refine hq_p rfl rfl ?_
                    refine hq_gR Ih92.1 rfl rfl (by decide) (by decide) rfl ?_
                    refine hq_p rfl rfl ?_
                    refine hq_p rfl rfl ?_
                    refine ty_aS (W := ty_Wrl) H Jh92 rfl rfl (by decide) (by omega) (by omega) (fun i e => by unfold ty_Wrl; omega) (fun _ _ => ty_eg rfl) (by omega) (by omega) (fun e1 e2 w => by omega) (fun h98 eh98 Jh98 => ?_)
                    have vh98_107 : hs_aI h98 107 = (upd (hs_aI h92 107) z71.toInt.toNat y22) := by rw [eh98, hs_aI_sA]
                    have vh98_108 : hs_aI h98 108 = (hs_aI h 108) := by rw [eh98]; exact (hs_aI_ne (by decide)).trans x1n95
                    have vh98_109 : hs_aI h98 109 = (hs_aI h 109) := by rw [eh98]; exact (hs_aI_ne (by decide)).trans x2n95
                    have Ih98 := H.1 h98 Jh98
                    refine hq_p rfl rfl ?_
                    refine hq_p rfl rfl ?_
                    have r100 : (hs_fI h98 97 21).toInt = (hs_fI h92 97 21).toInt := by rw [eh98]; exact congrArg Int32.toInt (ty_fI_ne (by omega))
                    refine ty_gI Ih98 rfl rfl (by decide) (by decide) rfl rfl (fun z99 ez99 az99 bz99 => ?_)
                    refine hq_p rfl rfl (ty_ge (n := 1) nk_i1 (fun z101 ez101 => ?_))
                    refine hq_p rfl rfl (ty_ge (n := z99.toInt + z101.toInt) (nm_add (by omega) (by omega)) (fun z102 ez102 => ?_))
                    refine ty_pI (W := ty_Wrl) H Jh98 rfl rfl (by decide) rfl rfl (by unfold ty_Wrl; omega) rfl (by omega) (by omega) (fun h103 eh103 Jh103 => ?_)
                    have wh103 : (hs_fI h103 97 21).toInt = z102.toInt := by rw [eh103]; exact congrArg Int32.toInt (ty_fI_eq Ih98.1 rfl (by decide) rfl)
                    have vh103_107 : hs_aI h103 107 = (upd (hs_aI h92 107) z71.toInt.toNat y22) := by rw [eh103]; exact (hs_aI_ne (by decide)).trans vh98_107
                    have vh103_108 : hs_aI h103 108 = (hs_aI h 108) := by rw [eh103]; exact (hs_aI_ne (by decide)).trans vh98_108
                    have vh103_109 : hs_aI h103 109 = (hs_aI h 109) := by rw [eh103]; exact (hs_aI_ne (by decide)).trans vh98_109
                    have Ih103 := H.1 h103 Jh103
                    refine hq_p rfl rfl ?_
                    refine hq_gR Ih103.1 rfl rfl (by decide) (by decide) rfl ?_
                    refine hq_p rfl rfl ?_
                    refine hq_p rfl rfl (ty_ge (n := 3) nk_i3 (fun z104 ez104 => ?_))
                    refine hq_p rfl rfl (ty_ge (n := z71.toInt + z104.toInt) (nm_add (by omega) (by omega)) (fun z105 ez105 => ?_))
                    refine hq_p rfl rfl ?_
                    have r107 : (hs_fI h98 97 23).toInt = (hs_fI h92 97 23).toInt := by rw [eh98]; exact congrArg Int32.toInt (ty_fI_ne (by omega))
                    have r108 : (hs_fI h103 97 23).toInt = (hs_fI h98 97 23).toInt := by rw [eh103]; exact congrArg Int32.toInt (ty_fI_sF (by decide))
                    refine ty_gI Ih103 rfl rfl (by decide) (by decide) rfl rfl (fun z106 ez106 az106 bz106 => ?_)
                    refine ty_aS (W := ty_Wrl) H Jh103 rfl rfl (by decide) (by omega) (by omega) (fun i e => by unfold ty_Wrl; omega) (fun _ _ => ty_eg rfl) (by omega) (by omega) (fun e1 e2 w => by omega) (fun h109 eh109 Jh109 => ?_)
                    have vh109_107 : hs_aI h109 107 = (upd (upd (hs_aI h92 107) z71.toInt.toNat y22) z105.toInt.toNat z106) := by rw [eh109, hs_aI_sA, vh103_107]
                    have vh109_108 : hs_aI h109 108 = (hs_aI h 108) := by rw [eh109]; exact (hs_aI_ne (by decide)).trans vh103_108
                    have vh109_109 : hs_aI h109 109 = (hs_aI h 109) := by rw [eh109]; exact (hs_aI_ne (by decide)).trans vh103_109
                    have Ih109 := H.1 h109 Jh109
                    have r110 : (hs_fI h98 97 13).toInt = (hs_fI h92 97 13).toInt := by rw [eh98]; exact congrArg Int32.toInt (ty_fI_ne (by omega))
                    have r111 : (hs_fI h103 97 13).toInt = (hs_fI h98 97 13).toInt := by rw [eh103]; exact congrArg Int32.toInt (ty_fI_sF (by decide))
                    have r112 : (hs_fI h109 97 13).toInt = (hs_fI h103 97 13).toInt := by rw [eh109]; exact congrArg Int32.toInt (ty_fI_ne (by omega))
                    have r113 : (hs_fI h98 97 14).toInt = (hs_fI h92 97 14).toInt := by rw [eh98]; exact congrArg Int32.toInt (ty_fI_ne (by omega))
                    have r114 : (hs_fI h103 97 14).toInt = (hs_fI h98 97 14).toInt := by rw [eh103]; exact congrArg Int32.toInt (ty_fI_sF (by decide))
                    have r115 : (hs_fI h109 97 14).toInt = (hs_fI h103 97 14).toInt := by rw [eh109]; exact congrArg Int32.toInt (ty_fI_ne (by omega))
                    have r116 : (hs_fI h98 97 15).toInt = (hs_fI h92 97 15).toInt := by rw [eh98]; exact congrArg Int32.toInt (ty_fI_ne (by omega))
                    have r117 : (hs_fI h103 97 15).toInt = (hs_fI h98 97 15).toInt := by rw [eh103]; exact congrArg Int32.toInt (ty_fI_sF (by decide))
                    have r118 : (hs_fI h109 97 15).toInt = (hs_fI h103 97 15).toInt := by rw [eh109]; exact congrArg Int32.toInt (ty_fI_ne (by omega))
                    have r119 : (hs_fI h98 97 16).toInt = (hs_fI h92 97 16).toInt := by rw [eh98]; exact congrArg Int32.toInt (ty_fI_ne (by omega))
                    have r120 : (hs_fI h103 97 16).toInt = (hs_fI h98 97 16).toInt := by rw [eh103]; exact congrArg Int32.toInt (ty_fI_sF (by decide))
                    have r121 : (hs_fI h109 97 16).toInt = (hs_fI h103 97 16).toInt := by rw [eh109]; exact congrArg Int32.toInt (ty_fI_ne (by omega))
                    have r122 : (hs_fI h98 97 19).toInt = (hs_fI h92 97 19).toInt := by rw [eh98]; exact congrArg Int32.toInt (ty_fI_ne (by omega))
                    have r123 : (hs_fI h103 97 19).toInt = (hs_fI h98 97 19).toInt := by rw [eh103]; exact congrArg Int32.toInt (ty_fI_sF (by decide))
                    have r124 : (hs_fI h109 97 19).toInt = (hs_fI h103 97 19).toInt := by rw [eh109]; exact congrArg Int32.toInt (ty_fI_ne (by omega))
                    have r125 : (hs_fI h109 97 21).toInt = (hs_fI h103 97 21).toInt := by rw [eh109]; exact congrArg Int32.toInt (ty_fI_ne (by omega))
                    have r126 : (hs_fI h109 97 23).toInt = (hs_fI h103 97 23).toInt := by rw [eh109]; exact congrArg Int32.toInt (ty_fI_ne (by omega))
                    have r127 : (hs_fI h98 97 26).toInt = (hs_fI h92 97 26).toInt := by rw [eh98]; exact congrArg Int32.toInt (ty_fI_ne (by omega))
                    have r128 : (hs_fI h103 97 26).toInt = (hs_fI h98 97 26).toInt := by rw [eh103]; exact congrArg Int32.toInt (ty_fI_sF (by decide))
                    have r129 : (hs_fI h109 97 26).toInt = (hs_fI h103 97 26).toInt := by rw [eh109]; exact congrArg Int32.toInt (ty_fI_ne (by omega))
                    have r130 : (hs_fL h98 97 17).toInt = (hs_fL h92 97 17).toInt := by rw [eh98]; exact congrArg Int64.toInt (ty_fL_ne (by omega))
                    have r131 : (hs_fL h103 97 17).toInt = (hs_fL h98 97 17).toInt := by rw [eh103]; exact congrArg Int64.toInt (ty_fL_sF (by decide))
                    have r132 : (hs_fL h109 97 17).toInt = (hs_fL h103 97 17).toInt := by rw [eh109]; exact congrArg Int64.toInt (ty_fL_ne (by omega))
                    refine hq_p rfl rfl ?_
                    refine hq_p rfl rfl (ty_ge (n := 3) nk_i3 (fun z133 ez133 => ?_))
                    refine ty_ieq rfl (fun c134 => ?_) (fun c134 => ?_)
                    · have k135 : tk_ok h109 := tk_same kq61 (by omega) (by omega) (by omega) (by omega) (by omega)
                      have cA : (hs_fI h109 97 19).toInt = 0 → ty_cw (pt (hs_aI h109 108)) (pt (hs_aI h109 109)) (hs_fI h 97 23).toInt (hs_fI h109 97 23).toInt ∧ ∀ k : Nat, (k : Int) < (hs_fI h 97 23).toInt → pt (hs_aI h109 108) k = pt (hs_aI h 108) k ∧ pt (hs_aI h109 109) k = pt (hs_aI h 109) k := fun q => ⟨cw_nil (by omega), fun k hk => (by rw [vh109_108, vh109_109]; exact ⟨rfl, rfl⟩)⟩
                      refine hq_p rfl rfl ?_
                      refine hq_gR Ih109.1 rfl rfl (by decide) (by decide) rfl ?_
                      refine hq_p rfl rfl ?_
                      refine hq_p rfl rfl (ty_ge (n := 4) nk_i4 (fun z136 ez136 => ?_))
                      refine hq_p rfl rfl (ty_ge (n := z71.toInt + z136.toInt) (nm_add (by omega) (by omega)) (fun z137 ez137 => ?_))
                      refine hq_p rfl rfl ?_
                      refine ty_gI Ih109 rfl rfl (by decide) (by decide) rfl rfl (fun z138 ez138 az138 bz138 => ?_)
                      refine ty_aS (W := ty_Wrl) H Jh109 rfl rfl (by decide) (by omega) (by omega) (fun i e => by unfold ty_Wrl; omega) (fun _ _ => ty_eg rfl) (by omega) (by omega) (fun e1 e2 w => by omega) (fun h139 eh139 Jh139 => ?_)
                      have vh139_107 : hs_aI h139 107 = (upd (upd (upd (hs_aI h92 107) z71.toInt.toNat y22) z105.toInt.toNat z106) z137.toInt.toNat z138) := by rw [eh139, hs_aI_sA, vh109_107]
                      have vh139_108 : hs_aI h139 108 = (hs_aI h109 108) := by rw [eh139]; exact (hs_aI_ne (by decide)).trans rfl
                      have vh139_109 : hs_aI h139 109 = (hs_aI h109 109) := by rw [eh139]; exact (hs_aI_ne (by decide)).trans rfl
                      have Ih139 := H.1 h139 Jh139
                      refine hq_p rfl rfl ?_
                      refine hq_gR Ih139.1 rfl rfl (by decide) (by decide) rfl ?_
                      refine hq_p rfl rfl ?_
                      refine hq_p rfl rfl (ty_ge (n := 5) nk_i5 (fun z140 ez140 => ?_))
                      refine hq_p rfl rfl (ty_ge (n := z71.toInt + z140.toInt) (nm_add (by omega) (by omega)) (fun z141 ez141 => ?_))
                      refine hq_p rfl rfl ?_
                      have r143 : (hs_fI h139 97 23).toInt = (hs_fI h109 97 23).toInt := by rw [eh139]; exact congrArg Int32.toInt (ty_fI_ne (by omega))
                      refine ty_gI Ih139 rfl rfl (by decide) (by decide) rfl rfl (fun z142 ez142 az142 bz142 => ?_)
                      refine ty_aS (W := ty_Wrl) H Jh139 rfl rfl (by decide) (by omega) (by omega) (fun i e => by unfold ty_Wrl; omega) (fun _ _ => ty_eg rfl) (by omega) (by omega) (fun e1 e2 w => by omega) (fun h144 eh144 Jh144 => ?_)
                      have vh144_107 : hs_aI h144 107 = (upd (upd (upd (upd (hs_aI h92 107) z71.toInt.toNat y22) z105.toInt.toNat z106) z137.toInt.toNat z138) z141.toInt.toNat z142) := by rw [eh144, hs_aI_sA, vh139_107]
                      have vh144_108 : hs_aI h144 108 = (hs_aI h109 108) := by rw [eh144]; exact (hs_aI_ne (by decide)).trans vh139_108
                      have vh144_109 : hs_aI h144 109 = (hs_aI h109 109) := by rw [eh144]; exact (hs_aI_ne (by decide)).trans vh139_109
                      have Ih144 := H.1 h144 Jh144
                      refine hq_p rfl rfl ?_
                      have r146 : (hs_fI h139 97 19).toInt = (hs_fI h109 97 19).toInt := by rw [eh139]; exact congrArg Int32.toInt (ty_fI_ne (by omega))
                      have r147 : (hs_fI h144 97 19).toInt = (hs_fI h139 97 19).toInt := by rw [eh144]; exact congrArg Int32.toInt (ty_fI_ne (by omega))
                      refine ty_gB Ih144 rfl rfl (by decide) (by decide) rfl (fun z145 ez145 az145 bz145 => ?_)
                      refine ty_zne rfl (fun c148 => ?_) (fun c148 => ?_)
                      · exfalso; omega
                      · refine hq_p rfl rfl ?_
                        refine hq_p rfl rfl (ty_gle (n := 294) (by decide) (fun z149 ez149 => ?_))
                        refine ty_callp 0 Ih144 rfl (fun _ => rfl) rfl rfl rfl (hq_pre_o Ih144.1 (x := 97) (ci := 11) rfl (by decide) rfl rfl rfl rfl) (ct_173w (x1 := z149) (by omega)) (fun _ P150 => ?_)
                        obtain ⟨z151, rfl, az151, bz151, iz151⟩ := P150
                        refine ty_zeq rfl (fun c152 => ?_) (fun c152 => ?_)
                        · clear iz151
                          have r153 : (hs_fI h139 97 13).toInt = (hs_fI h109 97 13).toInt := by rw [eh139]; exact congrArg Int32.toInt (ty_fI_ne (by omega))
                          have r154 : (hs_fI h144 97 13).toInt = (hs_fI h139 97 13).toInt := by rw [eh144]; exact congrArg Int32.toInt (ty_fI_ne (by omega))
                          have r155 : (hs_fI h139 97 14).toInt = (hs_fI h109 97 14).toInt := by rw [eh139]; exact congrArg Int32.toInt (ty_fI_ne (by omega))
                          have r156 : (hs_fI h144 97 14).toInt = (hs_fI h139 97 14).toInt := by rw [eh144]; exact congrArg Int32.toInt (ty_fI_ne (by omega))
                          have r157 : (hs_fI h139 97 15).toInt = (hs_fI h109 97 15).toInt := by rw [eh139]; exact congrArg Int32.toInt (ty_fI_ne (by omega))
                          have r158 : (hs_fI h144 97 15).toInt = (hs_fI h139 97 15).toInt := by rw [eh144]; exact congrArg Int32.toInt (ty_fI_ne (by omega))
                          have r159 : (hs_fI h139 97 16).toInt = (hs_fI h109 97 16).toInt := by rw [eh139]; exact congrArg Int32.toInt (ty_fI_ne (by omega))
                          have r160 : (hs_fI h144 97 16).toInt = (hs_fI h139 97 16).toInt := by rw [eh144]; exact congrArg Int32.toInt (ty_fI_ne (by omega))
                          have r161 : (hs_fI h139 97 21).toInt = (hs_fI h109 97 21).toInt := by rw [eh139]; exact congrArg Int32.toInt (ty_fI_ne (by omega))
                          have r162 : (hs_fI h144 97 21).toInt = (hs_fI h139 97 21).toInt := by rw [eh144]; exact congrArg Int32.toInt (ty_fI_ne (by omega))
                          have r163 : (hs_fI h144 97 23).toInt = (hs_fI h139 97 23).toInt := by rw [eh144]; exact congrArg Int32.toInt (ty_fI_ne (by omega))
                          have r164 : (hs_fI h139 97 26).toInt = (hs_fI h109 97 26).toInt := by rw [eh139]; exact congrArg Int32.toInt (ty_fI_ne (by omega))
                          have r165 : (hs_fI h144 97 26).toInt = (hs_fI h139 97 26).toInt := by rw [eh144]; exact congrArg Int32.toInt (ty_fI_ne (by omega))
                          have r166 : (hs_fL h139 97 17).toInt = (hs_fL h109 97 17).toInt := by rw [eh139]; exact congrArg Int64.toInt (ty_fL_ne (by omega))
                          have r167 : (hs_fL h144 97 17).toInt = (hs_fL h139 97 17).toInt := by rw [eh144]; exact congrArg Int64.toInt (ty_fL_ne (by omega))
                          have k168 : tk_ok h144 := tk_same k135 (by omega) (by omega) (by omega) (by omega) (by omega)
                          have cB : (hs_fI h144 97 19).toInt = 0 → (hs_fI h109 97 19).toInt = 0 ∧ ty_cw (pt (hs_aI h144 108)) (pt (hs_aI h144 109)) (hs_fI h109 97 23).toInt (hs_fI h144 97 23).toInt ∧ ∀ k : Nat, (k : Int) < (hs_fI h109 97 23).toInt → pt (hs_aI h144 108) k = pt (hs_aI h109 108) k ∧ pt (hs_aI h144 109) k = pt (hs_aI h109 109) k := fun q => ⟨by omega, cw_nil (by omega), fun k hk => (by rw [vh144_108, vh144_109]; exact ⟨rfl, rfl⟩)⟩
                          refine hq_p rfl rfl ?_
                          refine hq_gR Ih144.1 rfl rfl (by decide) (by decide) rfl ?_
                          refine hq_p rfl rfl ?_
                          refine hq_p rfl rfl (ty_ge (n := 6) nk_b6 (fun z169 ez169 => ?_))
                          refine hq_p rfl rfl (ty_ge (n := z71.toInt + z169.toInt) (nm_add (by omega) (by omega)) (fun z170 ez170 => ?_))
                          refine hq_p rfl rfl ?_
                          refine ty_gI Ih144 rfl rfl (by decide) (by decide) rfl rfl (fun z171 ez171 az171 bz171 => ?_)
                          refine ty_aS (W := ty_Wrl) H Jh144 rfl rfl (by decide) (by omega) (by omega) (fun i e => by unfold ty_Wrl; omega) (fun _ _ => ty_eg rfl) (by omega) (by omega) (fun e1 e2 w => by omega) (fun h172 eh172 Jh172 => ?_)
                          have vh172_107 : hs_aI h172 107 = (upd (upd (upd (upd (upd (hs_aI h92 107) z71.toInt.toNat y22) z105.toInt.toNat z106) z137.toInt.toNat z138) z141.toInt.toNat z142) z170.toInt.toNat z171) := by rw [eh172, hs_aI_sA, vh144_107]
                          have vh172_108 : hs_aI h172 108 = (hs_aI h144 108) := by rw [eh172]; exact (hs_aI_ne (by decide)).trans rfl
                          have vh172_109 : hs_aI h172 109 = (hs_aI h144 109) := by rw [eh172]; exact (hs_aI_ne (by decide)).trans rfl
                          have Ih172 := H.1 h172 Jh172
                          have r173 : (hs_fI h172 97 13).toInt = (hs_fI h144 97 13).toInt := by rw [eh172]; exact congrArg Int32.toInt (ty_fI_ne (by omega))
                          have r174 : (hs_fI h172 97 14).toInt = (hs_fI h144 97 14).toInt := by rw [eh172]; exact congrArg Int32.toInt (ty_fI_ne (by omega))
                          have r175 : (hs_fI h172 97 15).toInt = (hs_fI h144 97 15).toInt := by rw [eh172]; exact congrArg Int32.toInt (ty_fI_ne (by omega))
                          have r176 : (hs_fI h172 97 16).toInt = (hs_fI h144 97 16).toInt := by rw [eh172]; exact congrArg Int32.toInt (ty_fI_ne (by omega))
                          have r177 : (hs_fI h172 97 19).toInt = (hs_fI h144 97 19).toInt := by rw [eh172]; exact congrArg Int32.toInt (ty_fI_ne (by omega))
                          have r178 : (hs_fI h172 97 21).toInt = (hs_fI h144 97 21).toInt := by rw [eh172]; exact congrArg Int32.toInt (ty_fI_ne (by omega))
                          have r179 : (hs_fI h172 97 23).toInt = (hs_fI h144 97 23).toInt := by rw [eh172]; exact congrArg Int32.toInt (ty_fI_ne (by omega))
                          have r180 : (hs_fI h172 97 26).toInt = (hs_fI h144 97 26).toInt := by rw [eh172]; exact congrArg Int32.toInt (ty_fI_ne (by omega))
                          have r181 : (hs_fL h172 97 17).toInt = (hs_fL h144 97 17).toInt := by rw [eh172]; exact congrArg Int64.toInt (ty_fL_ne (by omega))
                          have k182 : tk_ok h172 := tk_same k168 (by omega) (by omega) (by omega) (by omega) (by omega)
                          have lw : (hs_fI h172 97 19).toInt = 0 → (hs_fI h 97 14).toInt + 1 ≤ (hs_fI h172 97 14).toInt ∧ lwp (hs_aI h172 107) (hs_aI h172 108) (hs_aI h172 109) (hs_fI h172 97 21).toInt (hs_fI h172 97 23).toInt := fun q => by
                            obtain ⟨b1, b2, b3⟩ := cB (by omega)
                            obtain ⟨a2, a3⟩ := cA (by omega)
                            refine ⟨by omega, ?_⟩
                            rw [vh172_108, vh172_109, show (hs_fI h172 97 23).toInt = (hs_fI h144 97 23).toInt by omega]
                            have v3 : pt (hs_aI h172 107) (8 * (hs_fI h 97 21).toInt.toNat + 3) = (hs_fI h 97 23).toInt := by rw [vh172_107, pt_ne (show 8 * (hs_fI h 97 21).toInt.toNat + 3 ≠ z170.toInt.toNat by omega), pt_ne (show 8 * (hs_fI h 97 21).toInt.toNat + 3 ≠ z141.toInt.toNat by omega), pt_ne (show 8 * (hs_fI h 97 21).toInt.toNat + 3 ≠ z137.toInt.toNat by omega), show 8 * (hs_fI h 97 21).toInt.toNat + 3 = z105.toInt.toNat by omega, pt_eq]; omega
                            have v4 : pt (hs_aI h172 107) (8 * (hs_fI h 97 21).toInt.toNat + 4) = (hs_fI h109 97 23).toInt := by rw [vh172_107, pt_ne (show 8 * (hs_fI h 97 21).toInt.toNat + 4 ≠ z170.toInt.toNat by omega), pt_ne (show 8 * (hs_fI h 97 21).toInt.toNat + 4 ≠ z141.toInt.toNat by omega), show 8 * (hs_fI h 97 21).toInt.toNat + 4 = z137.toInt.toNat by omega, pt_eq]; omega
                            have v5 : pt (hs_aI h172 107) (8 * (hs_fI h 97 21).toInt.toNat + 5) = (hs_fI h109 97 23).toInt := by rw [vh172_107, pt_ne (show 8 * (hs_fI h 97 21).toInt.toNat + 5 ≠ z170.toInt.toNat by omega), show 8 * (hs_fI h 97 21).toInt.toNat + 5 = z141.toInt.toNat by omega, pt_eq]; omega
                            have v6 : pt (hs_aI h172 107) (8 * (hs_fI h 97 21).toInt.toNat + 6) = (hs_fI h144 97 23).toInt := by rw [vh172_107, show 8 * (hs_fI h 97 21).toInt.toNat + 6 = z170.toInt.toNat by omega, pt_eq]; omega
                            refine lwp_s (c := (hs_fI h 97 21).toInt.toNat) hLW (by omega) (fun j hj => ?_) (fun k hk => ?_) (by omega) (by omega) (lw1_m v3 v4 (by omega) (by omega) (by omega) (cw_cong a2 (fun k hk => b3 k (by omega)))) (lw1_m v5 v6 (by omega) (by omega) (by omega) b2)
                            · rw [vh172_107, pt_ne (show j ≠ z170.toInt.toNat by omega), pt_ne (show j ≠ z141.toInt.toNat by omega), pt_ne (show j ≠ z137.toInt.toNat by omega), pt_ne (show j ≠ z105.toInt.toNat by omega), pt_ne (show j ≠ z71.toInt.toNat by omega)]; show (hs_aI h92 107 j).toInt = _; rw [x0n95 j hj]; rfl
                            · rw [(b3 k (by omega)).1, (b3 k (by omega)).2]; exact a3 k hk
                          exact hq_W.ret rfl rfl rfl ⟨Jh172, rfl, k182, by omega, by omega, by omega, lw⟩
                        · replace c152 : 1 ≤ z151.toInt ∧ z151.toInt ≤ 1 := by omega
                          have f183 := iz151 (by omega)
                          clear iz151
                          refine hq_p rfl rfl ?_
                          have r184 : (hs_fI h139 97 13).toInt = (hs_fI h109 97 13).toInt := by rw [eh139]; exact congrArg Int32.toInt (ty_fI_ne (by omega))
                          have r185 : (hs_fI h144 97 13).toInt = (hs_fI h139 97 13).toInt := by rw [eh144]; exact congrArg Int32.toInt (ty_fI_ne (by omega))
                          have r186 : (hs_fI h139 97 14).toInt = (hs_fI h109 97 14).toInt := by rw [eh139]; exact congrArg Int32.toInt (ty_fI_ne (by omega))
                          have r187 : (hs_fI h144 97 14).toInt = (hs_fI h139 97 14).toInt := by rw [eh144]; exact congrArg Int32.toInt (ty_fI_ne (by omega))
                          have r188 : (hs_fI h139 97 15).toInt = (hs_fI h109 97 15).toInt := by rw [eh139]; exact congrArg Int32.toInt (ty_fI_ne (by omega))
                          have r189 : (hs_fI h144 97 15).toInt = (hs_fI h139 97 15).toInt := by rw [eh144]; exact congrArg Int32.toInt (ty_fI_ne (by omega))
                          have r190 : (hs_fI h139 97 16).toInt = (hs_fI h109 97 16).toInt := by rw [eh139]; exact congrArg Int32.toInt (ty_fI_ne (by omega))
                          have r191 : (hs_fI h144 97 16).toInt = (hs_fI h139 97 16).toInt := by rw [eh144]; exact congrArg Int32.toInt (ty_fI_ne (by omega))
                          have r192 : (hs_fI h139 97 21).toInt = (hs_fI h109 97 21).toInt := by rw [eh139]; exact congrArg Int32.toInt (ty_fI_ne (by omega))
                          have r193 : (hs_fI h144 97 21).toInt = (hs_fI h139 97 21).toInt := by rw [eh144]; exact congrArg Int32.toInt (ty_fI_ne (by omega))
                          have r194 : (hs_fI h144 97 23).toInt = (hs_fI h139 97 23).toInt := by rw [eh144]; exact congrArg Int32.toInt (ty_fI_ne (by omega))
                          have r195 : (hs_fI h139 97 26).toInt = (hs_fI h109 97 26).toInt := by rw [eh139]; exact congrArg Int32.toInt (ty_fI_ne (by omega))
                          have r196 : (hs_fI h144 97 26).toInt = (hs_fI h139 97 26).toInt := by rw [eh144]; exact congrArg Int32.toInt (ty_fI_ne (by omega))
                          have r197 : (hs_fL h139 97 17).toInt = (hs_fL h109 97 17).toInt := by rw [eh139]; exact congrArg Int64.toInt (ty_fL_ne (by omega))
                          have r198 : (hs_fL h144 97 17).toInt = (hs_fL h139 97 17).toInt := by rw [eh144]; exact congrArg Int64.toInt (ty_fL_ne (by omega))
                          have k199 : tk_ok h144 := tk_same k135 (by omega) (by omega) (by omega) (by omega) (by omega)
                          refine ty_callm 0 [(0, 97, 13), (0, 97, 19), (0, 97, 21), (0, 97, 23), (0, 97, 26), (3, 107, 0), (3, 108, 0), (3, 109, 0)] (W := ty_Wrl) H Jh144 rfl (fun _ => rfl) rfl rfl rfl (hq_pre_o Ih144.1 (x := 97) (ci := 11) rfl (by decide) rfl rfl rfl rfl) (fun a k w => by unfold ty_Wn at w; unfold ty_Wrl; omega) (by unfold ty_Wn ty_Wrl; omega) (ct_172w (by omega) (by omega)) ⟨⟨rfl, show ¬ ty_Wn 97 13 by unfold ty_Wn; omega⟩, ⟨rfl, show ¬ ty_Wn 97 19 by unfold ty_Wn; omega⟩, ⟨rfl, show ¬ ty_Wn 97 21 by unfold ty_Wn; omega⟩, ⟨rfl, show ¬ ty_Wn 97 23 by unfold ty_Wn; omega⟩, ⟨rfl, show ¬ ty_Wn 97 26 by unfold ty_Wn; omega⟩, ⟨rfl, fun k => show ¬ ty_Wn 107 k by unfold ty_Wn; omega⟩, ⟨rfl, fun k => show ¬ ty_Wn 108 k by unfold ty_Wn; omega⟩, ⟨rfl, fun k => show ¬ ty_Wn 109 k by unfold ty_Wn; omega⟩, trivial⟩ (fun h201 _ Jh201 gh201 P200 => ?_)
                          obtain ⟨gh201_0, gh201_1, gh201_2, gh201_3, gh201_4, gh201_5, gh201_6, gh201_7, _⟩ := gh201
                          have gh201_0 : (hs_fI h201 97 13).toInt = (hs_fI h144 97 13).toInt := gh201_0
                          have gh201_1 : (hs_fI h201 97 19).toInt = (hs_fI h144 97 19).toInt := gh201_1
                          have gh201_2 : (hs_fI h201 97 21).toInt = (hs_fI h144 97 21).toInt := gh201_2
                          have gh201_3 : (hs_fI h201 97 23).toInt = (hs_fI h144 97 23).toInt := gh201_3
                          have gh201_4 : (hs_fI h201 97 26).toInt = (hs_fI h144 97 26).toInt := gh201_4
                          have gh201_5 : hs_aI h201 107 = hs_aI h144 107 := gh201_5
                          have ugh201_5 : hs_aI h201 107 = (upd (upd (upd (upd (hs_aI h92 107) z71.toInt.toNat y22) z105.toInt.toNat z106) z137.toInt.toNat z138) z141.toInt.toNat z142) := gh201_5.trans vh144_107
                          have gh201_6 : hs_aI h201 108 = hs_aI h144 108 := gh201_6
                          have ugh201_6 : hs_aI h201 108 = (hs_aI h109 108) := gh201_6.trans vh144_108
                          have gh201_7 : hs_aI h201 109 = hs_aI h144 109 := gh201_7
                          have ugh201_7 : hs_aI h201 109 = (hs_aI h109 109) := gh201_7.trans vh144_109
                          have Ih201 := H.1 h201 Jh201
                          obtain ⟨rq202, fq202, kq202⟩ := P200
                          subst rq202
                          have t1kq202 := kq202.1
                          have t2kq202 := kq202.2.1
                          obtain ⟨q203, eq203⟩ : ∃ q : Int32, q.toInt = (hs_fI h201 97 14).toInt := ⟨_, rfl⟩
                          have aq203 : 0 ≤ (hs_fI h201 97 14).toInt := (Ih201.2.1 97 14 (by decide)).1
                          have bq203 : (hs_fI h201 97 14).toInt ≤ 400 := (Ih201.2.1 97 14 (by decide)).2
                          obtain ⟨q204, eq204⟩ : ∃ q : Int32, q.toInt = (hs_fI h201 97 15).toInt := ⟨_, rfl⟩
                          have aq204 : 0 ≤ (hs_fI h201 97 15).toInt := (Ih201.2.1 97 15 (by decide)).1
                          have bq204 : (hs_fI h201 97 15).toInt ≤ 400 := (Ih201.2.1 97 15 (by decide)).2
                          obtain ⟨q205, eq205⟩ : ∃ q : Int32, q.toInt = (hs_fI h201 97 16).toInt := ⟨_, rfl⟩
                          have aq205 := nm_lo q205
                          have bq205 := nm_hi q205
                          obtain ⟨q206, eq206⟩ : ∃ q : Int64, q.toInt = (hs_fL h201 97 17).toInt := ⟨_, rfl⟩
                          have aq206 := nm_llo q206
                          have bq206 := nm_lhi q206
                          refine hq_p rfl rfl ?_
                          refine hq_p rfl rfl (ty_ge (n := 1) nk_i1 (fun z207 ez207 => ?_))
                          refine ty_callm 0 [(0, 97, 13), (0, 97, 21), (3, 107, 0)] (W := ty_Wrl) H Jh201 rfl (fun _ => rfl) rfl rfl rfl (hq_pre_o Ih201.1 (x := 97) (ci := 11) rfl (by decide) rfl rfl rfl rfl) (fun a k w => by unfold ty_Wps at w; unfold ty_Wrl; omega) (by unfold ty_Wps ty_Wrl; omega) (ct_192 (x1 := z207) (by omega) (by omega) (by omega) (by omega) kq202 (by omega)) ⟨⟨rfl, show ¬ ty_Wps 97 13 by unfold ty_Wps; omega⟩, ⟨rfl, show ¬ ty_Wps 97 21 by unfold ty_Wps; omega⟩, ⟨rfl, fun k => show ¬ ty_Wps 107 k by unfold ty_Wps; omega⟩, trivial⟩ (fun h210 _ Jh210 gh210 P209 => ?_)
                          obtain ⟨gh210_0, gh210_1, gh210_2, _⟩ := gh210
                          have gh210_0 : (hs_fI h210 97 13).toInt = (hs_fI h201 97 13).toInt := gh210_0
                          have gh210_1 : (hs_fI h210 97 21).toInt = (hs_fI h201 97 21).toInt := gh210_1
                          have gh210_2 : hs_aI h210 107 = hs_aI h201 107 := gh210_2
                          have ugh210_2 : hs_aI h210 107 = (upd (upd (upd (upd (hs_aI h92 107) z71.toInt.toNat y22) z105.toInt.toNat z106) z137.toInt.toNat z138) z141.toInt.toNat z142) := gh210_2.trans ugh201_5
                          have Ih210 := H.1 h210 Jh210
                          obtain ⟨rq211, kq211, fq211, oq211, nq211, mq211, cq211⟩ := P209
                          subst rq211
                          obtain ⟨q212, eq212⟩ : ∃ q : Int32, q.toInt = (hs_fI h210 97 14).toInt := ⟨_, rfl⟩
                          have aq212 : 0 ≤ (hs_fI h210 97 14).toInt := (Ih210.2.1 97 14 (by decide)).1
                          have bq212 : (hs_fI h210 97 14).toInt ≤ 400 := (Ih210.2.1 97 14 (by decide)).2
                          obtain ⟨q213, eq213⟩ : ∃ q : Int32, q.toInt = (hs_fI h210 97 15).toInt := ⟨_, rfl⟩
                          have aq213 : 0 ≤ (hs_fI h210 97 15).toInt := (Ih210.2.1 97 15 (by decide)).1
                          have bq213 : (hs_fI h210 97 15).toInt ≤ 400 := (Ih210.2.1 97 15 (by decide)).2
                          obtain ⟨q214, eq214⟩ : ∃ q : Int32, q.toInt = (hs_fI h210 97 16).toInt := ⟨_, rfl⟩
                          have aq214 := nm_lo q214
                          have bq214 := nm_hi q214
                          obtain ⟨q215, eq215⟩ : ∃ q : Int32, q.toInt = (hs_fI h210 97 19).toInt := ⟨_, rfl⟩
                          have aq215 : 0 ≤ q215.toInt ∧ q215.toInt ≤ 1 := by omega
                          obtain ⟨q216, eq216⟩ : ∃ q : Int32, q.toInt = (hs_fI h210 97 23).toInt := ⟨_, rfl⟩
                          have aq216 : 0 ≤ (hs_fI h210 97 23).toInt := (Ih210.2.1 97 23 (by decide)).1
                          have bq216 : (hs_fI h210 97 23).toInt ≤ 400 := (Ih210.2.1 97 23 (by decide)).2
                          obtain ⟨q217, eq217⟩ : ∃ q : Int32, q.toInt = (hs_fI h210 97 29).toInt := ⟨_, rfl⟩
                          have aq217 : 0 ≤ (hs_fI h210 97 29).toInt := (Ih210.2.1 97 29 (by decide)).1
                          have bq217 : (hs_fI h210 97 29).toInt ≤ 400 := (Ih210.2.1 97 29 (by decide)).2
                          obtain ⟨q218, eq218⟩ : ∃ q : Int32, q.toInt = (hs_fI h210 97 30).toInt := ⟨_, rfl⟩
                          have aq218 : 0 ≤ (hs_fI h210 97 30).toInt := (Ih210.2.1 97 30 (by decide)).1
                          have bq218 : (hs_fI h210 97 30).toInt ≤ 8 := (Ih210.2.1 97 30 (by decide)).2
                          obtain ⟨q219, eq219⟩ : ∃ q : Int64, q.toInt = (hs_fL h210 97 17).toInt := ⟨_, rfl⟩
                          have aq219 := nm_llo q219
                          have bq219 := nm_lhi q219
                          have t1kq211 := kq211.1
                          have t2kq211 := kq211.2.1
                          have cB : (hs_fI h210 97 19).toInt = 0 → (hs_fI h109 97 19).toInt = 0 ∧ ty_cw (pt (hs_aI h210 108)) (pt (hs_aI h210 109)) (hs_fI h109 97 23).toInt (hs_fI h210 97 23).toInt ∧ ∀ k : Nat, (k : Int) < (hs_fI h109 97 23).toInt → pt (hs_aI h210 108) k = pt (hs_aI h109 108) k ∧ pt (hs_aI h210 109) k = pt (hs_aI h109 109) k := fun q => (by have c := cq211 q; rw [ugh201_6, ugh201_7, show (hs_fI h201 97 23).toInt = (hs_fI h109 97 23).toInt by omega] at c; exact ⟨by omega, c.1, fun k hk => c.2 k (by omega)⟩)
                          refine hq_p rfl rfl ?_
                          refine hq_gR Ih210.1 rfl rfl (by decide) (by decide) rfl ?_
                          refine hq_p rfl rfl ?_
                          refine hq_p rfl rfl (ty_ge (n := 6) nk_b6 (fun z221 ez221 => ?_))
                          refine hq_p rfl rfl (ty_ge (n := z71.toInt + z221.toInt) (nm_add (by omega) (by omega)) (fun z222 ez222 => ?_))
                          refine hq_p rfl rfl ?_
                          refine ty_gI Ih210 rfl rfl (by decide) (by decide) rfl rfl (fun z223 ez223 az223 bz223 => ?_)
                          refine ty_aS (W := ty_Wrl) H Jh210 rfl rfl (by decide) (by omega) (by omega) (fun i e => by unfold ty_Wrl; omega) (fun _ _ => ty_eg rfl) (by omega) (by omega) (fun e1 e2 w => by omega) (fun h224 eh224 Jh224 => ?_)
                          have vh224_107 : hs_aI h224 107 = (upd (upd (upd (upd (upd (hs_aI h92 107) z71.toInt.toNat y22) z105.toInt.toNat z106) z137.toInt.toNat z138) z141.toInt.toNat z142) z222.toInt.toNat z223) := by rw [eh224, hs_aI_sA, ugh210_2]
                          have vh224_108 : hs_aI h224 108 = (hs_aI h210 108) := by rw [eh224]; exact (hs_aI_ne (by decide)).trans rfl
                          have vh224_109 : hs_aI h224 109 = (hs_aI h210 109) := by rw [eh224]; exact (hs_aI_ne (by decide)).trans rfl
                          have Ih224 := H.1 h224 Jh224
                          have r225 : (hs_fI h224 97 13).toInt = (hs_fI h210 97 13).toInt := by rw [eh224]; exact congrArg Int32.toInt (ty_fI_ne (by omega))
                          have r226 : (hs_fI h224 97 14).toInt = (hs_fI h210 97 14).toInt := by rw [eh224]; exact congrArg Int32.toInt (ty_fI_ne (by omega))
                          have r227 : (hs_fI h224 97 15).toInt = (hs_fI h210 97 15).toInt := by rw [eh224]; exact congrArg Int32.toInt (ty_fI_ne (by omega))
                          have r228 : (hs_fI h224 97 16).toInt = (hs_fI h210 97 16).toInt := by rw [eh224]; exact congrArg Int32.toInt (ty_fI_ne (by omega))
                          have r229 : (hs_fI h224 97 19).toInt = (hs_fI h210 97 19).toInt := by rw [eh224]; exact congrArg Int32.toInt (ty_fI_ne (by omega))
                          have r230 : (hs_fI h224 97 21).toInt = (hs_fI h210 97 21).toInt := by rw [eh224]; exact congrArg Int32.toInt (ty_fI_ne (by omega))
                          have r231 : (hs_fI h224 97 23).toInt = (hs_fI h210 97 23).toInt := by rw [eh224]; exact congrArg Int32.toInt (ty_fI_ne (by omega))
                          have r232 : (hs_fI h224 97 29).toInt = (hs_fI h210 97 29).toInt := by rw [eh224]; exact congrArg Int32.toInt (ty_fI_ne (by omega))
                          have r233 : (hs_fI h224 97 30).toInt = (hs_fI h210 97 30).toInt := by rw [eh224]; exact congrArg Int32.toInt (ty_fI_ne (by omega))
                          have r234 : (hs_fL h224 97 17).toInt = (hs_fL h210 97 17).toInt := by rw [eh224]; exact congrArg Int64.toInt (ty_fL_ne (by omega))
                          have k235 : tk_ok h224 := tk_same kq211 (by omega) (by omega) (by omega) (by omega) (by omega)
                          have lw : (hs_fI h224 97 19).toInt = 0 → (hs_fI h 97 14).toInt + 1 ≤ (hs_fI h224 97 14).toInt ∧ lwp (hs_aI h224 107) (hs_aI h224 108) (hs_aI h224 109) (hs_fI h224 97 21).toInt (hs_fI h224 97 23).toInt := fun q => by
                            obtain ⟨b1, b2, b3⟩ := cB (by omega)
                            obtain ⟨a2, a3⟩ := cA (by omega)
                            refine ⟨by omega, ?_⟩
                            rw [vh224_108, vh224_109, show (hs_fI h224 97 23).toInt = (hs_fI h210 97 23).toInt by omega]
                            have v3 : pt (hs_aI h224 107) (8 * (hs_fI h 97 21).toInt.toNat + 3) = (hs_fI h 97 23).toInt := by rw [vh224_107, pt_ne (show 8 * (hs_fI h 97 21).toInt.toNat + 3 ≠ z222.toInt.toNat by omega), pt_ne (show 8 * (hs_fI h 97 21).toInt.toNat + 3 ≠ z141.toInt.toNat by omega), pt_ne (show 8 * (hs_fI h 97 21).toInt.toNat + 3 ≠ z137.toInt.toNat by omega), show 8 * (hs_fI h 97 21).toInt.toNat + 3 = z105.toInt.toNat by omega, pt_eq]; omega
                            have v4 : pt (hs_aI h224 107) (8 * (hs_fI h 97 21).toInt.toNat + 4) = (hs_fI h109 97 23).toInt := by rw [vh224_107, pt_ne (show 8 * (hs_fI h 97 21).toInt.toNat + 4 ≠ z222.toInt.toNat by omega), pt_ne (show 8 * (hs_fI h 97 21).toInt.toNat + 4 ≠ z141.toInt.toNat by omega), show 8 * (hs_fI h 97 21).toInt.toNat + 4 = z137.toInt.toNat by omega, pt_eq]; omega
                            have v5 : pt (hs_aI h224 107) (8 * (hs_fI h 97 21).toInt.toNat + 5) = (hs_fI h109 97 23).toInt := by rw [vh224_107, pt_ne (show 8 * (hs_fI h 97 21).toInt.toNat + 5 ≠ z222.toInt.toNat by omega), show 8 * (hs_fI h 97 21).toInt.toNat + 5 = z141.toInt.toNat by omega, pt_eq]; omega
                            have v6 : pt (hs_aI h224 107) (8 * (hs_fI h 97 21).toInt.toNat + 6) = (hs_fI h210 97 23).toInt := by rw [vh224_107, show 8 * (hs_fI h 97 21).toInt.toNat + 6 = z222.toInt.toNat by omega, pt_eq]; omega
                            refine lwp_s (c := (hs_fI h 97 21).toInt.toNat) hLW (by omega) (fun j hj => ?_) (fun k hk => ?_) (by omega) (by omega) (lw1_m v3 v4 (by omega) (by omega) (by omega) (cw_cong a2 (fun k hk => b3 k (by omega)))) (lw1_m v5 v6 (by omega) (by omega) (by omega) b2)
                            · rw [vh224_107, pt_ne (show j ≠ z222.toInt.toNat by omega), pt_ne (show j ≠ z141.toInt.toNat by omega), pt_ne (show j ≠ z137.toInt.toNat by omega), pt_ne (show j ≠ z105.toInt.toNat by omega), pt_ne (show j ≠ z71.toInt.toNat by omega)]; show (hs_aI h92 107 j).toInt = _; rw [x0n95 j hj]; rfl
                            · rw [(b3 k (by omega)).1, (b3 k (by omega)).2]; exact a3 k hk
                          exact hq_W.ret rfl rfl rfl ⟨Jh224, rfl, k235, by omega, by omega, by omega, lw⟩
                    · replace c134 : 0 ≤ y22.toInt ∧ y22.toInt ≤ 2 := by omega
                      refine hq_p rfl rfl ?_
                      refine hq_p rfl rfl (ty_ge (n := 0) nk_i0 (fun z236 ez236 => ?_))
                      have k237 : tk_ok h109 := tk_same kq61 (by omega) (by omega) (by omega) (by omega) (by omega)
                      refine ty_callm 0 [(0, 97, 13), (0, 97, 21), (3, 107, 0)] (W := ty_Wrl) H Jh109 rfl (fun _ => rfl) rfl rfl rfl (hq_pre_o Ih109.1 (x := 97) (ci := 11) rfl (by decide) rfl rfl rfl rfl) (fun a k w => by unfold ty_Wps at w; unfold ty_Wrl; omega) (by unfold ty_Wps ty_Wrl; omega) (ct_192 (x1 := z236) (by omega) (by omega) (by omega) (by omega) k237 (by omega)) ⟨⟨rfl, show ¬ ty_Wps 97 13 by unfold ty_Wps; omega⟩, ⟨rfl, show ¬ ty_Wps 97 21 by unfold ty_Wps; omega⟩, ⟨rfl, fun k => show ¬ ty_Wps 107 k by unfold ty_Wps; omega⟩, trivial⟩ (fun h239 _ Jh239 gh239 P238 => ?_)
                      obtain ⟨gh239_0, gh239_1, gh239_2, _⟩ := gh239
                      have gh239_0 : (hs_fI h239 97 13).toInt = (hs_fI h109 97 13).toInt := gh239_0
                      have gh239_1 : (hs_fI h239 97 21).toInt = (hs_fI h109 97 21).toInt := gh239_1
                      have gh239_2 : hs_aI h239 107 = hs_aI h109 107 := gh239_2
                      have ugh239_2 : hs_aI h239 107 = (upd (upd (hs_aI h92 107) z71.toInt.toNat y22) z105.toInt.toNat z106) := gh239_2.trans vh109_107
                      have Ih239 := H.1 h239 Jh239
                      obtain ⟨rq240, kq240, fq240, oq240, nq240, mq240, cq240⟩ := P238
                      subst rq240
                      obtain ⟨q241, eq241⟩ : ∃ q : Int32, q.toInt = (hs_fI h239 97 14).toInt := ⟨_, rfl⟩
                      have aq241 : 0 ≤ (hs_fI h239 97 14).toInt := (Ih239.2.1 97 14 (by decide)).1
                      have bq241 : (hs_fI h239 97 14).toInt ≤ 400 := (Ih239.2.1 97 14 (by decide)).2
                      obtain ⟨q242, eq242⟩ : ∃ q : Int32, q.toInt = (hs_fI h239 97 15).toInt := ⟨_, rfl⟩
                      have aq242 : 0 ≤ (hs_fI h239 97 15).toInt := (Ih239.2.1 97 15 (by decide)).1
                      have bq242 : (hs_fI h239 97 15).toInt ≤ 400 := (Ih239.2.1 97 15 (by decide)).2
                      obtain ⟨q243, eq243⟩ : ∃ q : Int32, q.toInt = (hs_fI h239 97 16).toInt := ⟨_, rfl⟩
                      have aq243 := nm_lo q243
                      have bq243 := nm_hi q243
                      obtain ⟨q244, eq244⟩ : ∃ q : Int32, q.toInt = (hs_fI h239 97 19).toInt := ⟨_, rfl⟩
                      have aq244 : 0 ≤ q244.toInt ∧ q244.toInt ≤ 1 := by omega
                      obtain ⟨q245, eq245⟩ : ∃ q : Int32, q.toInt = (hs_fI h239 97 23).toInt := ⟨_, rfl⟩
                      have aq245 : 0 ≤ (hs_fI h239 97 23).toInt := (Ih239.2.1 97 23 (by decide)).1
                      have bq245 : (hs_fI h239 97 23).toInt ≤ 400 := (Ih239.2.1 97 23 (by decide)).2
                      obtain ⟨q246, eq246⟩ : ∃ q : Int32, q.toInt = (hs_fI h239 97 29).toInt := ⟨_, rfl⟩
                      have aq246 : 0 ≤ (hs_fI h239 97 29).toInt := (Ih239.2.1 97 29 (by decide)).1
                      have bq246 : (hs_fI h239 97 29).toInt ≤ 400 := (Ih239.2.1 97 29 (by decide)).2
                      obtain ⟨q247, eq247⟩ : ∃ q : Int32, q.toInt = (hs_fI h239 97 30).toInt := ⟨_, rfl⟩
                      have aq247 : 0 ≤ (hs_fI h239 97 30).toInt := (Ih239.2.1 97 30 (by decide)).1
                      have bq247 : (hs_fI h239 97 30).toInt ≤ 8 := (Ih239.2.1 97 30 (by decide)).2
                      obtain ⟨q248, eq248⟩ : ∃ q : Int64, q.toInt = (hs_fL h239 97 17).toInt := ⟨_, rfl⟩
                      have aq248 := nm_llo q248
                      have bq248 := nm_lhi q248
                      have t1kq240 := kq240.1
                      have t2kq240 := kq240.2.1
                      have cA : (hs_fI h239 97 19).toInt = 0 → ty_cw (pt (hs_aI h239 108)) (pt (hs_aI h239 109)) (hs_fI h 97 23).toInt (hs_fI h239 97 23).toInt ∧ ∀ k : Nat, (k : Int) < (hs_fI h 97 23).toInt → pt (hs_aI h239 108) k = pt (hs_aI h 108) k ∧ pt (hs_aI h239 109) k = pt (hs_aI h 109) k := fun q => (by have c := cq240 q; rw [vh109_108, vh109_109, show (hs_fI h109 97 23).toInt = (hs_fI h 97 23).toInt by omega] at c; exact ⟨c.1, fun k hk => c.2 k (by omega)⟩)
                      refine hq_p rfl rfl ?_
                      refine hq_gR Ih239.1 rfl rfl (by decide) (by decide) rfl ?_
                      refine hq_p rfl rfl ?_
                      refine hq_p rfl rfl (ty_ge (n := 4) nk_i4 (fun z250 ez250 => ?_))
                      refine hq_p rfl rfl (ty_ge (n := z71.toInt + z250.toInt) (nm_add (by omega) (by omega)) (fun z251 ez251 => ?_))
                      refine hq_p rfl rfl ?_
                      refine ty_gI Ih239 rfl rfl (by decide) (by decide) rfl rfl (fun z252 ez252 az252 bz252 => ?_)
                      refine ty_aS (W := ty_Wrl) H Jh239 rfl rfl (by decide) (by omega) (by omega) (fun i e => by unfold ty_Wrl; omega) (fun _ _ => ty_eg rfl) (by omega) (by omega) (fun e1 e2 w => by omega) (fun h253 eh253 Jh253 => ?_)
                      have vh253_107 : hs_aI h253 107 = (upd (upd (upd (hs_aI h92 107) z71.toInt.toNat y22) z105.toInt.toNat z106) z251.toInt.toNat z252) := by rw [eh253, hs_aI_sA, ugh239_2]
                      have vh253_108 : hs_aI h253 108 = (hs_aI h239 108) := by rw [eh253]; exact (hs_aI_ne (by decide)).trans rfl
                      have vh253_109 : hs_aI h253 109 = (hs_aI h239 109) := by rw [eh253]; exact (hs_aI_ne (by decide)).trans rfl
                      have Ih253 := H.1 h253 Jh253
                      refine hq_p rfl rfl ?_
                      refine hq_gR Ih253.1 rfl rfl (by decide) (by decide) rfl ?_
                      refine hq_p rfl rfl ?_
                      refine hq_p rfl rfl (ty_ge (n := 5) nk_i5 (fun z254 ez254 => ?_))
                      refine hq_p rfl rfl (ty_ge (n := z71.toInt + z254.toInt) (nm_add (by omega) (by omega)) (fun z255 ez255 => ?_))
                      refine hq_p rfl rfl ?_
                      have r257 : (hs_fI h253 97 23).toInt = (hs_fI h239 97 23).toInt := by rw [eh253]; exact congrArg Int32.toInt (ty_fI_ne (by omega))
                      refine ty_gI Ih253 rfl rfl (by decide) (by decide) rfl rfl (fun z256 ez256 az256 bz256 => ?_)
                      refine ty_aS (W := ty_Wrl) H Jh253 rfl rfl (by decide) (by omega) (by omega) (fun i e => by unfold ty_Wrl; omega) (fun _ _ => ty_eg rfl) (by omega) (by omega) (fun e1 e2 w => by omega) (fun h258 eh258 Jh258 => ?_)
                      have vh258_107 : hs_aI h258 107 = (upd (upd (upd (upd (hs_aI h92 107) z71.toInt.toNat y22) z105.toInt.toNat z106) z251.toInt.toNat z252) z255.toInt.toNat z256) := by rw [eh258, hs_aI_sA, vh253_107]
                      have vh258_108 : hs_aI h258 108 = (hs_aI h239 108) := by rw [eh258]; exact (hs_aI_ne (by decide)).trans vh253_108
                      have vh258_109 : hs_aI h258 109 = (hs_aI h239 109) := by rw [eh258]; exact (hs_aI_ne (by decide)).trans vh253_109
                      have Ih258 := H.1 h258 Jh258
                      refine hq_p rfl rfl ?_
                      have r260 : (hs_fI h253 97 19).toInt = (hs_fI h239 97 19).toInt := by rw [eh253]; exact congrArg Int32.toInt (ty_fI_ne (by omega))
                      have r261 : (hs_fI h258 97 19).toInt = (hs_fI h253 97 19).toInt := by rw [eh258]; exact congrArg Int32.toInt (ty_fI_ne (by omega))
                      refine ty_gB Ih258 rfl rfl (by decide) (by decide) rfl (fun z259 ez259 az259 bz259 => ?_)
                      refine ty_zne rfl (fun c262 => ?_) (fun c262 => ?_)
                      · replace c262 : 1 ≤ z259.toInt ∧ z259.toInt ≤ 1 := by omega
                        have r263 : (hs_fI h253 97 13).toInt = (hs_fI h239 97 13).toInt := by rw [eh253]; exact congrArg Int32.toInt (ty_fI_ne (by omega))
                        have r264 : (hs_fI h258 97 13).toInt = (hs_fI h253 97 13).toInt := by rw [eh258]; exact congrArg Int32.toInt (ty_fI_ne (by omega))
                        have r265 : (hs_fI h253 97 14).toInt = (hs_fI h239 97 14).toInt := by rw [eh253]; exact congrArg Int32.toInt (ty_fI_ne (by omega))
                        have r266 : (hs_fI h258 97 14).toInt = (hs_fI h253 97 14).toInt := by rw [eh258]; exact congrArg Int32.toInt (ty_fI_ne (by omega))
                        have r267 : (hs_fI h253 97 15).toInt = (hs_fI h239 97 15).toInt := by rw [eh253]; exact congrArg Int32.toInt (ty_fI_ne (by omega))
                        have r268 : (hs_fI h258 97 15).toInt = (hs_fI h253 97 15).toInt := by rw [eh258]; exact congrArg Int32.toInt (ty_fI_ne (by omega))
                        have r269 : (hs_fI h253 97 16).toInt = (hs_fI h239 97 16).toInt := by rw [eh253]; exact congrArg Int32.toInt (ty_fI_ne (by omega))
                        have r270 : (hs_fI h258 97 16).toInt = (hs_fI h253 97 16).toInt := by rw [eh258]; exact congrArg Int32.toInt (ty_fI_ne (by omega))
                        have r271 : (hs_fI h253 97 21).toInt = (hs_fI h239 97 21).toInt := by rw [eh253]; exact congrArg Int32.toInt (ty_fI_ne (by omega))
                        have r272 : (hs_fI h258 97 21).toInt = (hs_fI h253 97 21).toInt := by rw [eh258]; exact congrArg Int32.toInt (ty_fI_ne (by omega))
                        have r273 : (hs_fI h258 97 23).toInt = (hs_fI h253 97 23).toInt := by rw [eh258]; exact congrArg Int32.toInt (ty_fI_ne (by omega))
                        have r274 : (hs_fI h253 97 29).toInt = (hs_fI h239 97 29).toInt := by rw [eh253]; exact congrArg Int32.toInt (ty_fI_ne (by omega))
                        have r275 : (hs_fI h258 97 29).toInt = (hs_fI h253 97 29).toInt := by rw [eh258]; exact congrArg Int32.toInt (ty_fI_ne (by omega))
                        have r276 : (hs_fI h253 97 30).toInt = (hs_fI h239 97 30).toInt := by rw [eh253]; exact congrArg Int32.toInt (ty_fI_ne (by omega))
                        have r277 : (hs_fI h258 97 30).toInt = (hs_fI h253 97 30).toInt := by rw [eh258]; exact congrArg Int32.toInt (ty_fI_ne (by omega))
                        have r278 : (hs_fL h253 97 17).toInt = (hs_fL h239 97 17).toInt := by rw [eh253]; exact congrArg Int64.toInt (ty_fL_ne (by omega))
                        have r279 : (hs_fL h258 97 17).toInt = (hs_fL h253 97 17).toInt := by rw [eh258]; exact congrArg Int64.toInt (ty_fL_ne (by omega))
                        have k280 : tk_ok h258 := tk_same kq240 (by omega) (by omega) (by omega) (by omega) (by omega)
                        have cB : (hs_fI h258 97 19).toInt = 0 → (hs_fI h239 97 19).toInt = 0 ∧ ty_cw (pt (hs_aI h258 108)) (pt (hs_aI h258 109)) (hs_fI h239 97 23).toInt (hs_fI h258 97 23).toInt ∧ ∀ k : Nat, (k : Int) < (hs_fI h239 97 23).toInt → pt (hs_aI h258 108) k = pt (hs_aI h239 108) k ∧ pt (hs_aI h258 109) k = pt (hs_aI h239 109) k := fun q => ⟨by omega, cw_nil (by omega), fun k hk => (by rw [vh258_108, vh258_109]; exact ⟨rfl, rfl⟩)⟩
                        refine hq_p rfl rfl ?_
                        refine hq_gR Ih258.1 rfl rfl (by decide) (by decide) rfl ?_
                        refine hq_p rfl rfl ?_
                        refine hq_p rfl rfl (ty_ge (n := 6) nk_b6 (fun z281 ez281 => ?_))
                        refine hq_p rfl rfl (ty_ge (n := z71.toInt + z281.toInt) (nm_add (by omega) (by omega)) (fun z282 ez282 => ?_))
                        refine hq_p rfl rfl ?_
                        refine ty_gI Ih258 rfl rfl (by decide) (by decide) rfl rfl (fun z283 ez283 az283 bz283 => ?_)
                        refine ty_aS (W := ty_Wrl) H Jh258 rfl rfl (by decide) (by omega) (by omega) (fun i e => by unfold ty_Wrl; omega) (fun _ _ => ty_eg rfl) (by omega) (by omega) (fun e1 e2 w => by omega) (fun h284 eh284 Jh284 => ?_)
                        have vh284_107 : hs_aI h284 107 = (upd (upd (upd (upd (upd (hs_aI h92 107) z71.toInt.toNat y22) z105.toInt.toNat z106) z251.toInt.toNat z252) z255.toInt.toNat z256) z282.toInt.toNat z283) := by rw [eh284, hs_aI_sA, vh258_107]
                        have vh284_108 : hs_aI h284 108 = (hs_aI h258 108) := by rw [eh284]; exact (hs_aI_ne (by decide)).trans rfl
                        have vh284_109 : hs_aI h284 109 = (hs_aI h258 109) := by rw [eh284]; exact (hs_aI_ne (by decide)).trans rfl
                        have Ih284 := H.1 h284 Jh284
                        have r285 : (hs_fI h284 97 13).toInt = (hs_fI h258 97 13).toInt := by rw [eh284]; exact congrArg Int32.toInt (ty_fI_ne (by omega))
                        have r286 : (hs_fI h284 97 14).toInt = (hs_fI h258 97 14).toInt := by rw [eh284]; exact congrArg Int32.toInt (ty_fI_ne (by omega))
                        have r287 : (hs_fI h284 97 15).toInt = (hs_fI h258 97 15).toInt := by rw [eh284]; exact congrArg Int32.toInt (ty_fI_ne (by omega))
                        have r288 : (hs_fI h284 97 16).toInt = (hs_fI h258 97 16).toInt := by rw [eh284]; exact congrArg Int32.toInt (ty_fI_ne (by omega))
                        have r289 : (hs_fI h284 97 19).toInt = (hs_fI h258 97 19).toInt := by rw [eh284]; exact congrArg Int32.toInt (ty_fI_ne (by omega))
                        have r290 : (hs_fI h284 97 21).toInt = (hs_fI h258 97 21).toInt := by rw [eh284]; exact congrArg Int32.toInt (ty_fI_ne (by omega))
                        have r291 : (hs_fI h284 97 23).toInt = (hs_fI h258 97 23).toInt := by rw [eh284]; exact congrArg Int32.toInt (ty_fI_ne (by omega))
                        have r292 : (hs_fI h284 97 29).toInt = (hs_fI h258 97 29).toInt := by rw [eh284]; exact congrArg Int32.toInt (ty_fI_ne (by omega))
                        have r293 : (hs_fI h284 97 30).toInt = (hs_fI h258 97 30).toInt := by rw [eh284]; exact congrArg Int32.toInt (ty_fI_ne (by omega))
                        have r294 : (hs_fL h284 97 17).toInt = (hs_fL h258 97 17).toInt := by rw [eh284]; exact congrArg Int64.toInt (ty_fL_ne (by omega))
                        have k295 : tk_ok h284 := tk_same k280 (by omega) (by omega) (by omega) (by omega) (by omega)
                        have lw : (hs_fI h284 97 19).toInt = 0 → (hs_fI h 97 14).toInt + 1 ≤ (hs_fI h284 97 14).toInt ∧ lwp (hs_aI h284 107) (hs_aI h284 108) (hs_aI h284 109) (hs_fI h284 97 21).toInt (hs_fI h284 97 23).toInt := fun q => by
                          obtain ⟨b1, b2, b3⟩ := cB (by omega)
                          obtain ⟨a2, a3⟩ := cA (by omega)
                          refine ⟨by omega, ?_⟩
                          rw [vh284_108, vh284_109, show (hs_fI h284 97 23).toInt = (hs_fI h258 97 23).toInt by omega]
                          have v3 : pt (hs_aI h284 107) (8 * (hs_fI h 97 21).toInt.toNat + 3) = (hs_fI h 97 23).toInt := by rw [vh284_107, pt_ne (show 8 * (hs_fI h 97 21).toInt.toNat + 3 ≠ z282.toInt.toNat by omega), pt_ne (show 8 * (hs_fI h 97 21).toInt.toNat + 3 ≠ z255.toInt.toNat by omega), pt_ne (show 8 * (hs_fI h 97 21).toInt.toNat + 3 ≠ z251.toInt.toNat by omega), show 8 * (hs_fI h 97 21).toInt.toNat + 3 = z105.toInt.toNat by omega, pt_eq]; omega
                          have v4 : pt (hs_aI h284 107) (8 * (hs_fI h 97 21).toInt.toNat + 4) = (hs_fI h239 97 23).toInt := by rw [vh284_107, pt_ne (show 8 * (hs_fI h 97 21).toInt.toNat + 4 ≠ z282.toInt.toNat by omega), pt_ne (show 8 * (hs_fI h 97 21).toInt.toNat + 4 ≠ z255.toInt.toNat by omega), show 8 * (hs_fI h 97 21).toInt.toNat + 4 = z251.toInt.toNat by omega, pt_eq]; omega
                          have v5 : pt (hs_aI h284 107) (8 * (hs_fI h 97 21).toInt.toNat + 5) = (hs_fI h239 97 23).toInt := by rw [vh284_107, pt_ne (show 8 * (hs_fI h 97 21).toInt.toNat + 5 ≠ z282.toInt.toNat by omega), show 8 * (hs_fI h 97 21).toInt.toNat + 5 = z255.toInt.toNat by omega, pt_eq]; omega
                          have v6 : pt (hs_aI h284 107) (8 * (hs_fI h 97 21).toInt.toNat + 6) = (hs_fI h258 97 23).toInt := by rw [vh284_107, show 8 * (hs_fI h 97 21).toInt.toNat + 6 = z282.toInt.toNat by omega, pt_eq]; omega
                          refine lwp_s (c := (hs_fI h 97 21).toInt.toNat) hLW (by omega) (fun j hj => ?_) (fun k hk => ?_) (by omega) (by omega) (lw1_m v3 v4 (by omega) (by omega) (by omega) (cw_cong a2 (fun k hk => b3 k (by omega)))) (lw1_m v5 v6 (by omega) (by omega) (by omega) b2)
                          · rw [vh284_107, pt_ne (show j ≠ z282.toInt.toNat by omega), pt_ne (show j ≠ z255.toInt.toNat by omega), pt_ne (show j ≠ z251.toInt.toNat by omega), pt_ne (show j ≠ z105.toInt.toNat by omega), pt_ne (show j ≠ z71.toInt.toNat by omega)]; show (hs_aI h92 107 j).toInt = _; rw [x0n95 j hj]; rfl
                          · rw [(b3 k (by omega)).1, (b3 k (by omega)).2]; exact a3 k hk
                        exact hq_W.ret rfl rfl rfl ⟨Jh284, rfl, k295, by omega, by omega, by omega, lw⟩
                      · refine hq_p rfl rfl ?_
                        refine hq_p rfl rfl (ty_gle (n := 294) (by decide) (fun z296 ez296 => ?_))
                        refine ty_callp 0 Ih258 rfl (fun _ => rfl) rfl rfl rfl (hq_pre_o Ih258.1 (x := 97) (ci := 11) rfl (by decide) rfl rfl rfl rfl) (ct_173w (x1 := z296) (by omega)) (fun _ P297 => ?_)
                        obtain ⟨z298, rfl, az298, bz298, iz298⟩ := P297
                        refine ty_zeq rfl (fun c299 => ?_) (fun c299 => ?_)
                        · clear iz298
                          have r300 : (hs_fI h253 97 13).toInt = (hs_fI h239 97 13).toInt := by rw [eh253]; exact congrArg Int32.toInt (ty_fI_ne (by omega))
                          have r301 : (hs_fI h258 97 13).toInt = (hs_fI h253 97 13).toInt := by rw [eh258]; exact congrArg Int32.toInt (ty_fI_ne (by omega))
                          have r302 : (hs_fI h253 97 14).toInt = (hs_fI h239 97 14).toInt := by rw [eh253]; exact congrArg Int32.toInt (ty_fI_ne (by omega))
                          have r303 : (hs_fI h258 97 14).toInt = (hs_fI h253 97 14).toInt := by rw [eh258]; exact congrArg Int32.toInt (ty_fI_ne (by omega))
                          have r304 : (hs_fI h253 97 15).toInt = (hs_fI h239 97 15).toInt := by rw [eh253]; exact congrArg Int32.toInt (ty_fI_ne (by omega))
                          have r305 : (hs_fI h258 97 15).toInt = (hs_fI h253 97 15).toInt := by rw [eh258]; exact congrArg Int32.toInt (ty_fI_ne (by omega))
                          have r306 : (hs_fI h253 97 16).toInt = (hs_fI h239 97 16).toInt := by rw [eh253]; exact congrArg Int32.toInt (ty_fI_ne (by omega))
                          have r307 : (hs_fI h258 97 16).toInt = (hs_fI h253 97 16).toInt := by rw [eh258]; exact congrArg Int32.toInt (ty_fI_ne (by omega))
                          have r308 : (hs_fI h253 97 21).toInt = (hs_fI h239 97 21).toInt := by rw [eh253]; exact congrArg Int32.toInt (ty_fI_ne (by omega))
                          have r309 : (hs_fI h258 97 21).toInt = (hs_fI h253 97 21).toInt := by rw [eh258]; exact congrArg Int32.toInt (ty_fI_ne (by omega))
                          have r310 : (hs_fI h258 97 23).toInt = (hs_fI h253 97 23).toInt := by rw [eh258]; exact congrArg Int32.toInt (ty_fI_ne (by omega))
                          have r311 : (hs_fI h253 97 29).toInt = (hs_fI h239 97 29).toInt := by rw [eh253]; exact congrArg Int32.toInt (ty_fI_ne (by omega))
                          have r312 : (hs_fI h258 97 29).toInt = (hs_fI h253 97 29).toInt := by rw [eh258]; exact congrArg Int32.toInt (ty_fI_ne (by omega))
                          have r313 : (hs_fI h253 97 30).toInt = (hs_fI h239 97 30).toInt := by rw [eh253]; exact congrArg Int32.toInt (ty_fI_ne (by omega))
                          have r314 : (hs_fI h258 97 30).toInt = (hs_fI h253 97 30).toInt := by rw [eh258]; exact congrArg Int32.toInt (ty_fI_ne (by omega))
                          have r315 : (hs_fL h253 97 17).toInt = (hs_fL h239 97 17).toInt := by rw [eh253]; exact congrArg Int64.toInt (ty_fL_ne (by omega))
                          have r316 : (hs_fL h258 97 17).toInt = (hs_fL h253 97 17).toInt := by rw [eh258]; exact congrArg Int64.toInt (ty_fL_ne (by omega))
                          have k317 : tk_ok h258 := tk_same kq240 (by omega) (by omega) (by omega) (by omega) (by omega)
                          have cB : (hs_fI h258 97 19).toInt = 0 → (hs_fI h239 97 19).toInt = 0 ∧ ty_cw (pt (hs_aI h258 108)) (pt (hs_aI h258 109)) (hs_fI h239 97 23).toInt (hs_fI h258 97 23).toInt ∧ ∀ k : Nat, (k : Int) < (hs_fI h239 97 23).toInt → pt (hs_aI h258 108) k = pt (hs_aI h239 108) k ∧ pt (hs_aI h258 109) k = pt (hs_aI h239 109) k := fun q => ⟨by omega, cw_nil (by omega), fun k hk => (by rw [vh258_108, vh258_109]; exact ⟨rfl, rfl⟩)⟩
                          refine hq_p rfl rfl ?_
                          refine hq_gR Ih258.1 rfl rfl (by decide) (by decide) rfl ?_
                          refine hq_p rfl rfl ?_
                          refine hq_p rfl rfl (ty_ge (n := 6) nk_b6 (fun z318 ez318 => ?_))
                          refine hq_p rfl rfl (ty_ge (n := z71.toInt + z318.toInt) (nm_add (by omega) (by omega)) (fun z319 ez319 => ?_))
                          refine hq_p rfl rfl ?_
                          refine ty_gI Ih258 rfl rfl (by decide) (by decide) rfl rfl (fun z320 ez320 az320 bz320 => ?_)
                          refine ty_aS (W := ty_Wrl) H Jh258 rfl rfl (by decide) (by omega) (by omega) (fun i e => by unfold ty_Wrl; omega) (fun _ _ => ty_eg rfl) (by omega) (by omega) (fun e1 e2 w => by omega) (fun h321 eh321 Jh321 => ?_)
                          have vh321_107 : hs_aI h321 107 = (upd (upd (upd (upd (upd (hs_aI h92 107) z71.toInt.toNat y22) z105.toInt.toNat z106) z251.toInt.toNat z252) z255.toInt.toNat z256) z319.toInt.toNat z320) := by rw [eh321, hs_aI_sA, vh258_107]
                          have vh321_108 : hs_aI h321 108 = (hs_aI h258 108) := by rw [eh321]; exact (hs_aI_ne (by decide)).trans rfl
                          have vh321_109 : hs_aI h321 109 = (hs_aI h258 109) := by rw [eh321]; exact (hs_aI_ne (by decide)).trans rfl
                          have Ih321 := H.1 h321 Jh321
                          have r322 : (hs_fI h321 97 13).toInt = (hs_fI h258 97 13).toInt := by rw [eh321]; exact congrArg Int32.toInt (ty_fI_ne (by omega))
                          have r323 : (hs_fI h321 97 14).toInt = (hs_fI h258 97 14).toInt := by rw [eh321]; exact congrArg Int32.toInt (ty_fI_ne (by omega))
                          have r324 : (hs_fI h321 97 15).toInt = (hs_fI h258 97 15).toInt := by rw [eh321]; exact congrArg Int32.toInt (ty_fI_ne (by omega))
                          have r325 : (hs_fI h321 97 16).toInt = (hs_fI h258 97 16).toInt := by rw [eh321]; exact congrArg Int32.toInt (ty_fI_ne (by omega))
                          have r326 : (hs_fI h321 97 19).toInt = (hs_fI h258 97 19).toInt := by rw [eh321]; exact congrArg Int32.toInt (ty_fI_ne (by omega))
                          have r327 : (hs_fI h321 97 21).toInt = (hs_fI h258 97 21).toInt := by rw [eh321]; exact congrArg Int32.toInt (ty_fI_ne (by omega))
                          have r328 : (hs_fI h321 97 23).toInt = (hs_fI h258 97 23).toInt := by rw [eh321]; exact congrArg Int32.toInt (ty_fI_ne (by omega))
                          have r329 : (hs_fI h321 97 29).toInt = (hs_fI h258 97 29).toInt := by rw [eh321]; exact congrArg Int32.toInt (ty_fI_ne (by omega))
                          have r330 : (hs_fI h321 97 30).toInt = (hs_fI h258 97 30).toInt := by rw [eh321]; exact congrArg Int32.toInt (ty_fI_ne (by omega))
                          have r331 : (hs_fL h321 97 17).toInt = (hs_fL h258 97 17).toInt := by rw [eh321]; exact congrArg Int64.toInt (ty_fL_ne (by omega))
                          have k332 : tk_ok h321 := tk_same k317 (by omega) (by omega) (by omega) (by omega) (by omega)
                          have lw : (hs_fI h321 97 19).toInt = 0 → (hs_fI h 97 14).toInt + 1 ≤ (hs_fI h321 97 14).toInt ∧ lwp (hs_aI h321 107) (hs_aI h321 108) (hs_aI h321 109) (hs_fI h321 97 21).toInt (hs_fI h321 97 23).toInt := fun q => by
                            obtain ⟨b1, b2, b3⟩ := cB (by omega)
                            obtain ⟨a2, a3⟩ := cA (by omega)
                            refine ⟨by omega, ?_⟩
                            rw [vh321_108, vh321_109, show (hs_fI h321 97 23).toInt = (hs_fI h258 97 23).toInt by omega]
                            have v3 : pt (hs_aI h321 107) (8 * (hs_fI h 97 21).toInt.toNat + 3) = (hs_fI h 97 23).toInt := by rw [vh321_107, pt_ne (show 8 * (hs_fI h 97 21).toInt.toNat + 3 ≠ z319.toInt.toNat by omega), pt_ne (show 8 * (hs_fI h 97 21).toInt.toNat + 3 ≠ z255.toInt.toNat by omega), pt_ne (show 8 * (hs_fI h 97 21).toInt.toNat + 3 ≠ z251.toInt.toNat by omega), show 8 * (hs_fI h 97 21).toInt.toNat + 3 = z105.toInt.toNat by omega, pt_eq]; omega
                            have v4 : pt (hs_aI h321 107) (8 * (hs_fI h 97 21).toInt.toNat + 4) = (hs_fI h239 97 23).toInt := by rw [vh321_107, pt_ne (show 8 * (hs_fI h 97 21).toInt.toNat + 4 ≠ z319.toInt.toNat by omega), pt_ne (show 8 * (hs_fI h 97 21).toInt.toNat + 4 ≠ z255.toInt.toNat by omega), show 8 * (hs_fI h 97 21).toInt.toNat + 4 = z251.toInt.toNat by omega, pt_eq]; omega
                            have v5 : pt (hs_aI h321 107) (8 * (hs_fI h 97 21).toInt.toNat + 5) = (hs_fI h239 97 23).toInt := by rw [vh321_107, pt_ne (show 8 * (hs_fI h 97 21).toInt.toNat + 5 ≠ z319.toInt.toNat by omega), show 8 * (hs_fI h 97 21).toInt.toNat + 5 = z255.toInt.toNat by omega, pt_eq]; omega
                            have v6 : pt (hs_aI h321 107) (8 * (hs_fI h 97 21).toInt.toNat + 6) = (hs_fI h258 97 23).toInt := by rw [vh321_107, show 8 * (hs_fI h 97 21).toInt.toNat + 6 = z319.toInt.toNat by omega, pt_eq]; omega
                            refine lwp_s (c := (hs_fI h 97 21).toInt.toNat) hLW (by omega) (fun j hj => ?_) (fun k hk => ?_) (by omega) (by omega) (lw1_m v3 v4 (by omega) (by omega) (by omega) (cw_cong a2 (fun k hk => b3 k (by omega)))) (lw1_m v5 v6 (by omega) (by omega) (by omega) b2)
                            · rw [vh321_107, pt_ne (show j ≠ z319.toInt.toNat by omega), pt_ne (show j ≠ z255.toInt.toNat by omega), pt_ne (show j ≠ z251.toInt.toNat by omega), pt_ne (show j ≠ z105.toInt.toNat by omega), pt_ne (show j ≠ z71.toInt.toNat by omega)]; show (hs_aI h92 107 j).toInt = _; rw [x0n95 j hj]; rfl
                            · rw [(b3 k (by omega)).1, (b3 k (by omega)).2]; exact a3 k hk
                          exact hq_W.ret rfl rfl rfl ⟨Jh321, rfl, k332, by omega, by omega, by omega, lw⟩
                        · replace c299 : 1 ≤ z298.toInt ∧ z298.toInt ≤ 1 := by omega
                          have f333 := iz298 (by omega)
                          clear iz298
                          refine hq_p rfl rfl ?_
                          have r334 : (hs_fI h253 97 13).toInt = (hs_fI h239 97 13).toInt := by rw [eh253]; exact congrArg Int32.toInt (ty_fI_ne (by omega))
                          have r335 : (hs_fI h258 97 13).toInt = (hs_fI h253 97 13).toInt := by rw [eh258]; exact congrArg Int32.toInt (ty_fI_ne (by omega))
                          have r336 : (hs_fI h253 97 14).toInt = (hs_fI h239 97 14).toInt := by rw [eh253]; exact congrArg Int32.toInt (ty_fI_ne (by omega))
                          have r337 : (hs_fI h258 97 14).toInt = (hs_fI h253 97 14).toInt := by rw [eh258]; exact congrArg Int32.toInt (ty_fI_ne (by omega))
                          have r338 : (hs_fI h253 97 15).toInt = (hs_fI h239 97 15).toInt := by rw [eh253]; exact congrArg Int32.toInt (ty_fI_ne (by omega))
                          have r339 : (hs_fI h258 97 15).toInt = (hs_fI h253 97 15).toInt := by rw [eh258]; exact congrArg Int32.toInt (ty_fI_ne (by omega))
                          have r340 : (hs_fI h253 97 16).toInt = (hs_fI h239 97 16).toInt := by rw [eh253]; exact congrArg Int32.toInt (ty_fI_ne (by omega))
                          have r341 : (hs_fI h258 97 16).toInt = (hs_fI h253 97 16).toInt := by rw [eh258]; exact congrArg Int32.toInt (ty_fI_ne (by omega))
                          have r342 : (hs_fI h253 97 21).toInt = (hs_fI h239 97 21).toInt := by rw [eh253]; exact congrArg Int32.toInt (ty_fI_ne (by omega))
                          have r343 : (hs_fI h258 97 21).toInt = (hs_fI h253 97 21).toInt := by rw [eh258]; exact congrArg Int32.toInt (ty_fI_ne (by omega))
                          have r344 : (hs_fI h258 97 23).toInt = (hs_fI h253 97 23).toInt := by rw [eh258]; exact congrArg Int32.toInt (ty_fI_ne (by omega))
                          have r345 : (hs_fI h253 97 29).toInt = (hs_fI h239 97 29).toInt := by rw [eh253]; exact congrArg Int32.toInt (ty_fI_ne (by omega))
                          have r346 : (hs_fI h258 97 29).toInt = (hs_fI h253 97 29).toInt := by rw [eh258]; exact congrArg Int32.toInt (ty_fI_ne (by omega))
                          have r347 : (hs_fI h253 97 30).toInt = (hs_fI h239 97 30).toInt := by rw [eh253]; exact congrArg Int32.toInt (ty_fI_ne (by omega))
                          have r348 : (hs_fI h258 97 30).toInt = (hs_fI h253 97 30).toInt := by rw [eh258]; exact congrArg Int32.toInt (ty_fI_ne (by omega))
                          have r349 : (hs_fL h253 97 17).toInt = (hs_fL h239 97 17).toInt := by rw [eh253]; exact congrArg Int64.toInt (ty_fL_ne (by omega))
                          have r350 : (hs_fL h258 97 17).toInt = (hs_fL h253 97 17).toInt := by rw [eh258]; exact congrArg Int64.toInt (ty_fL_ne (by omega))
                          have k351 : tk_ok h258 := tk_same kq240 (by omega) (by omega) (by omega) (by omega) (by omega)
                          refine ty_callm 0 [(0, 97, 13), (0, 97, 19), (0, 97, 21), (0, 97, 23), (3, 107, 0), (3, 108, 0), (3, 109, 0)] (W := ty_Wrl) H Jh258 rfl (fun _ => rfl) rfl rfl rfl (hq_pre_o Ih258.1 (x := 97) (ci := 11) rfl (by decide) rfl rfl rfl rfl) (fun a k w => by unfold ty_Wn at w; unfold ty_Wrl; omega) (by unfold ty_Wn ty_Wrl; omega) (ct_172w (by omega) (by omega)) ⟨⟨rfl, show ¬ ty_Wn 97 13 by unfold ty_Wn; omega⟩, ⟨rfl, show ¬ ty_Wn 97 19 by unfold ty_Wn; omega⟩, ⟨rfl, show ¬ ty_Wn 97 21 by unfold ty_Wn; omega⟩, ⟨rfl, show ¬ ty_Wn 97 23 by unfold ty_Wn; omega⟩, ⟨rfl, fun k => show ¬ ty_Wn 107 k by unfold ty_Wn; omega⟩, ⟨rfl, fun k => show ¬ ty_Wn 108 k by unfold ty_Wn; omega⟩, ⟨rfl, fun k => show ¬ ty_Wn 109 k by unfold ty_Wn; omega⟩, trivial⟩ (fun h353 _ Jh353 gh353 P352 => ?_)
                          obtain ⟨gh353_0, gh353_1, gh353_2, gh353_3, gh353_4, gh353_5, gh353_6, _⟩ := gh353
                          have gh353_0 : (hs_fI h353 97 13).toInt = (hs_fI h258 97 13).toInt := gh353_0
                          have gh353_1 : (hs_fI h353 97 19).toInt = (hs_fI h258 97 19).toInt := gh353_1
                          have gh353_2 : (hs_fI h353 97 21).toInt = (hs_fI h258 97 21).toInt := gh353_2
                          have gh353_3 : (hs_fI h353 97 23).toInt = (hs_fI h258 97 23).toInt := gh353_3
                          have gh353_4 : hs_aI h353 107 = hs_aI h258 107 := gh353_4
                          have ugh353_4 : hs_aI h353 107 = (upd (upd (upd (upd (hs_aI h92 107) z71.toInt.toNat y22) z105.toInt.toNat z106) z251.toInt.toNat z252) z255.toInt.toNat z256) := gh353_4.trans vh258_107
                          have gh353_5 : hs_aI h353 108 = hs_aI h258 108 := gh353_5
                          have ugh353_5 : hs_aI h353 108 = (hs_aI h239 108) := gh353_5.trans vh258_108
                          have gh353_6 : hs_aI h353 109 = hs_aI h258 109 := gh353_6
                          have ugh353_6 : hs_aI h353 109 = (hs_aI h239 109) := gh353_6.trans vh258_109
                          have Ih353 := H.1 h353 Jh353
                          obtain ⟨rq354, fq354, kq354⟩ := P352
                          subst rq354
                          have t1kq354 := kq354.1
                          have t2kq354 := kq354.2.1
                          obtain ⟨q355, eq355⟩ : ∃ q : Int32, q.toInt = (hs_fI h353 97 14).toInt := ⟨_, rfl⟩
                          have aq355 : 0 ≤ (hs_fI h353 97 14).toInt := (Ih353.2.1 97 14 (by decide)).1
                          have bq355 : (hs_fI h353 97 14).toInt ≤ 400 := (Ih353.2.1 97 14 (by decide)).2
                          obtain ⟨q356, eq356⟩ : ∃ q : Int32, q.toInt = (hs_fI h353 97 15).toInt := ⟨_, rfl⟩
                          have aq356 : 0 ≤ (hs_fI h353 97 15).toInt := (Ih353.2.1 97 15 (by decide)).1
                          have bq356 : (hs_fI h353 97 15).toInt ≤ 400 := (Ih353.2.1 97 15 (by decide)).2
                          obtain ⟨q357, eq357⟩ : ∃ q : Int32, q.toInt = (hs_fI h353 97 16).toInt := ⟨_, rfl⟩
                          have aq357 := nm_lo q357
                          have bq357 := nm_hi q357
                          obtain ⟨q358, eq358⟩ : ∃ q : Int64, q.toInt = (hs_fL h353 97 17).toInt := ⟨_, rfl⟩
                          have aq358 := nm_llo q358
                          have bq358 := nm_lhi q358
                          refine hq_p rfl rfl ?_
                          refine hq_p rfl rfl (ty_ge (n := 1) nk_i1 (fun z359 ez359 => ?_))
                          refine ty_callm 0 [(0, 97, 13), (0, 97, 21), (3, 107, 0)] (W := ty_Wrl) H Jh353 rfl (fun _ => rfl) rfl rfl rfl (hq_pre_o Ih353.1 (x := 97) (ci := 11) rfl (by decide) rfl rfl rfl rfl) (fun a k w => by unfold ty_Wps at w; unfold ty_Wrl; omega) (by unfold ty_Wps ty_Wrl; omega) (ct_192 (x1 := z359) (by omega) (by omega) (by omega) (by omega) kq354 (by omega)) ⟨⟨rfl, show ¬ ty_Wps 97 13 by unfold ty_Wps; omega⟩, ⟨rfl, show ¬ ty_Wps 97 21 by unfold ty_Wps; omega⟩, ⟨rfl, fun k => show ¬ ty_Wps 107 k by unfold ty_Wps; omega⟩, trivial⟩ (fun h362 _ Jh362 gh362 P361 => ?_)
                          obtain ⟨gh362_0, gh362_1, gh362_2, _⟩ := gh362
                          have gh362_0 : (hs_fI h362 97 13).toInt = (hs_fI h353 97 13).toInt := gh362_0
                          have gh362_1 : (hs_fI h362 97 21).toInt = (hs_fI h353 97 21).toInt := gh362_1
                          have gh362_2 : hs_aI h362 107 = hs_aI h353 107 := gh362_2
                          have ugh362_2 : hs_aI h362 107 = (upd (upd (upd (upd (hs_aI h92 107) z71.toInt.toNat y22) z105.toInt.toNat z106) z251.toInt.toNat z252) z255.toInt.toNat z256) := gh362_2.trans ugh353_4
                          have Ih362 := H.1 h362 Jh362
                          obtain ⟨rq363, kq363, fq363, oq363, nq363, mq363, cq363⟩ := P361
                          subst rq363
                          obtain ⟨q364, eq364⟩ : ∃ q : Int32, q.toInt = (hs_fI h362 97 14).toInt := ⟨_, rfl⟩
                          have aq364 : 0 ≤ (hs_fI h362 97 14).toInt := (Ih362.2.1 97 14 (by decide)).1
                          have bq364 : (hs_fI h362 97 14).toInt ≤ 400 := (Ih362.2.1 97 14 (by decide)).2
                          obtain ⟨q365, eq365⟩ : ∃ q : Int32, q.toInt = (hs_fI h362 97 15).toInt := ⟨_, rfl⟩
                          have aq365 : 0 ≤ (hs_fI h362 97 15).toInt := (Ih362.2.1 97 15 (by decide)).1
                          have bq365 : (hs_fI h362 97 15).toInt ≤ 400 := (Ih362.2.1 97 15 (by decide)).2
                          obtain ⟨q366, eq366⟩ : ∃ q : Int32, q.toInt = (hs_fI h362 97 16).toInt := ⟨_, rfl⟩
                          have aq366 := nm_lo q366
                          have bq366 := nm_hi q366
                          obtain ⟨q367, eq367⟩ : ∃ q : Int32, q.toInt = (hs_fI h362 97 19).toInt := ⟨_, rfl⟩
                          have aq367 : 0 ≤ q367.toInt ∧ q367.toInt ≤ 1 := by omega
                          obtain ⟨q368, eq368⟩ : ∃ q : Int32, q.toInt = (hs_fI h362 97 23).toInt := ⟨_, rfl⟩
                          have aq368 : 0 ≤ (hs_fI h362 97 23).toInt := (Ih362.2.1 97 23 (by decide)).1
                          have bq368 : (hs_fI h362 97 23).toInt ≤ 400 := (Ih362.2.1 97 23 (by decide)).2
                          obtain ⟨q369, eq369⟩ : ∃ q : Int32, q.toInt = (hs_fI h362 97 29).toInt := ⟨_, rfl⟩
                          have aq369 : 0 ≤ (hs_fI h362 97 29).toInt := (Ih362.2.1 97 29 (by decide)).1
                          have bq369 : (hs_fI h362 97 29).toInt ≤ 400 := (Ih362.2.1 97 29 (by decide)).2
                          obtain ⟨q370, eq370⟩ : ∃ q : Int32, q.toInt = (hs_fI h362 97 30).toInt := ⟨_, rfl⟩
                          have aq370 : 0 ≤ (hs_fI h362 97 30).toInt := (Ih362.2.1 97 30 (by decide)).1
                          have bq370 : (hs_fI h362 97 30).toInt ≤ 8 := (Ih362.2.1 97 30 (by decide)).2
                          obtain ⟨q371, eq371⟩ : ∃ q : Int64, q.toInt = (hs_fL h362 97 17).toInt := ⟨_, rfl⟩
                          have aq371 := nm_llo q371
                          have bq371 := nm_lhi q371
                          have t1kq363 := kq363.1
                          have t2kq363 := kq363.2.1
                          have cB : (hs_fI h362 97 19).toInt = 0 → (hs_fI h239 97 19).toInt = 0 ∧ ty_cw (pt (hs_aI h362 108)) (pt (hs_aI h362 109)) (hs_fI h239 97 23).toInt (hs_fI h362 97 23).toInt ∧ ∀ k : Nat, (k : Int) < (hs_fI h239 97 23).toInt → pt (hs_aI h362 108) k = pt (hs_aI h239 108) k ∧ pt (hs_aI h362 109) k = pt (hs_aI h239 109) k := fun q => (by have c := cq363 q; rw [ugh353_5, ugh353_6, show (hs_fI h353 97 23).toInt = (hs_fI h239 97 23).toInt by omega] at c; exact ⟨by omega, c.1, fun k hk => c.2 k (by omega)⟩)
                          refine hq_p rfl rfl ?_
                          refine hq_gR Ih362.1 rfl rfl (by decide) (by decide) rfl ?_
                          refine hq_p rfl rfl ?_
                          refine hq_p rfl rfl (ty_ge (n := 6) nk_b6 (fun z373 ez373 => ?_))
                          refine hq_p rfl rfl (ty_ge (n := z71.toInt + z373.toInt) (nm_add (by omega) (by omega)) (fun z374 ez374 => ?_))
                          refine hq_p rfl rfl ?_
                          refine ty_gI Ih362 rfl rfl (by decide) (by decide) rfl rfl (fun z375 ez375 az375 bz375 => ?_)
                          refine ty_aS (W := ty_Wrl) H Jh362 rfl rfl (by decide) (by omega) (by omega) (fun i e => by unfold ty_Wrl; omega) (fun _ _ => ty_eg rfl) (by omega) (by omega) (fun e1 e2 w => by omega) (fun h376 eh376 Jh376 => ?_)
                          have vh376_107 : hs_aI h376 107 = (upd (upd (upd (upd (upd (hs_aI h92 107) z71.toInt.toNat y22) z105.toInt.toNat z106) z251.toInt.toNat z252) z255.toInt.toNat z256) z374.toInt.toNat z375) := by rw [eh376, hs_aI_sA, ugh362_2]
                          have vh376_108 : hs_aI h376 108 = (hs_aI h362 108) := by rw [eh376]; exact (hs_aI_ne (by decide)).trans rfl
                          have vh376_109 : hs_aI h376 109 = (hs_aI h362 109) := by rw [eh376]; exact (hs_aI_ne (by decide)).trans rfl
                          have Ih376 := H.1 h376 Jh376
                          have r377 : (hs_fI h376 97 13).toInt = (hs_fI h362 97 13).toInt := by rw [eh376]; exact congrArg Int32.toInt (ty_fI_ne (by omega))
                          have r378 : (hs_fI h376 97 14).toInt = (hs_fI h362 97 14).toInt := by rw [eh376]; exact congrArg Int32.toInt (ty_fI_ne (by omega))
                          have r379 : (hs_fI h376 97 15).toInt = (hs_fI h362 97 15).toInt := by rw [eh376]; exact congrArg Int32.toInt (ty_fI_ne (by omega))
                          have r380 : (hs_fI h376 97 16).toInt = (hs_fI h362 97 16).toInt := by rw [eh376]; exact congrArg Int32.toInt (ty_fI_ne (by omega))
                          have r381 : (hs_fI h376 97 19).toInt = (hs_fI h362 97 19).toInt := by rw [eh376]; exact congrArg Int32.toInt (ty_fI_ne (by omega))
                          have r382 : (hs_fI h376 97 21).toInt = (hs_fI h362 97 21).toInt := by rw [eh376]; exact congrArg Int32.toInt (ty_fI_ne (by omega))
                          have r383 : (hs_fI h376 97 23).toInt = (hs_fI h362 97 23).toInt := by rw [eh376]; exact congrArg Int32.toInt (ty_fI_ne (by omega))
                          have r384 : (hs_fI h376 97 29).toInt = (hs_fI h362 97 29).toInt := by rw [eh376]; exact congrArg Int32.toInt (ty_fI_ne (by omega))
                          have r385 : (hs_fI h376 97 30).toInt = (hs_fI h362 97 30).toInt := by rw [eh376]; exact congrArg Int32.toInt (ty_fI_ne (by omega))
                          have r386 : (hs_fL h376 97 17).toInt = (hs_fL h362 97 17).toInt := by rw [eh376]; exact congrArg Int64.toInt (ty_fL_ne (by omega))
                          have k387 : tk_ok h376 := tk_same kq363 (by omega) (by omega) (by omega) (by omega) (by omega)
                          have lw : (hs_fI h376 97 19).toInt = 0 → (hs_fI h 97 14).toInt + 1 ≤ (hs_fI h376 97 14).toInt ∧ lwp (hs_aI h376 107) (hs_aI h376 108) (hs_aI h376 109) (hs_fI h376 97 21).toInt (hs_fI h376 97 23).toInt := fun q => by
                            obtain ⟨b1, b2, b3⟩ := cB (by omega)
                            obtain ⟨a2, a3⟩ := cA (by omega)
                            refine ⟨by omega, ?_⟩
                            rw [vh376_108, vh376_109, show (hs_fI h376 97 23).toInt = (hs_fI h362 97 23).toInt by omega]
                            have v3 : pt (hs_aI h376 107) (8 * (hs_fI h 97 21).toInt.toNat + 3) = (hs_fI h 97 23).toInt := by rw [vh376_107, pt_ne (show 8 * (hs_fI h 97 21).toInt.toNat + 3 ≠ z374.toInt.toNat by omega), pt_ne (show 8 * (hs_fI h 97 21).toInt.toNat + 3 ≠ z255.toInt.toNat by omega), pt_ne (show 8 * (hs_fI h 97 21).toInt.toNat + 3 ≠ z251.toInt.toNat by omega), show 8 * (hs_fI h 97 21).toInt.toNat + 3 = z105.toInt.toNat by omega, pt_eq]; omega
                            have v4 : pt (hs_aI h376 107) (8 * (hs_fI h 97 21).toInt.toNat + 4) = (hs_fI h239 97 23).toInt := by rw [vh376_107, pt_ne (show 8 * (hs_fI h 97 21).toInt.toNat + 4 ≠ z374.toInt.toNat by omega), pt_ne (show 8 * (hs_fI h 97 21).toInt.toNat + 4 ≠ z255.toInt.toNat by omega), show 8 * (hs_fI h 97 21).toInt.toNat + 4 = z251.toInt.toNat by omega, pt_eq]; omega
                            have v5 : pt (hs_aI h376 107) (8 * (hs_fI h 97 21).toInt.toNat + 5) = (hs_fI h239 97 23).toInt := by rw [vh376_107, pt_ne (show 8 * (hs_fI h 97 21).toInt.toNat + 5 ≠ z374.toInt.toNat by omega), show 8 * (hs_fI h 97 21).toInt.toNat + 5 = z255.toInt.toNat by omega, pt_eq]; omega
                            have v6 : pt (hs_aI h376 107) (8 * (hs_fI h 97 21).toInt.toNat + 6) = (hs_fI h362 97 23).toInt := by rw [vh376_107, show 8 * (hs_fI h 97 21).toInt.toNat + 6 = z374.toInt.toNat by omega, pt_eq]; omega
                            refine lwp_s (c := (hs_fI h 97 21).toInt.toNat) hLW (by omega) (fun j hj => ?_) (fun k hk => ?_) (by omega) (by omega) (lw1_m v3 v4 (by omega) (by omega) (by omega) (cw_cong a2 (fun k hk => b3 k (by omega)))) (lw1_m v5 v6 (by omega) (by omega) (by omega) b2)
                            · rw [vh376_107, pt_ne (show j ≠ z374.toInt.toNat by omega), pt_ne (show j ≠ z255.toInt.toNat by omega), pt_ne (show j ≠ z251.toInt.toNat by omega), pt_ne (show j ≠ z105.toInt.toNat by omega), pt_ne (show j ≠ z71.toInt.toNat by omega)]; show (hs_aI h92 107 j).toInt = _; rw [x0n95 j hj]; rfl
                            · rw [(b3 k (by omega)).1, (b3 k (by omega)).2]; exact a3 k hk
                          exact hq_W.ret rfl rfl rfl ⟨Jh376, rfl, k387, by omega, by omega, by omega, lw⟩
                  · refine hq_p rfl rfl ?_
                    refine hq_gR Ih92.1 rfl rfl (by decide) (by decide) rfl ?_
                    refine hq_p rfl rfl ?_
                    refine hq_p rfl rfl ?_
                    refine hq_p rfl rfl (ty_ge (n := z71.toInt + y91.toInt) (nm_add (by omega) (by omega)) (fun z388 ez388 => ?_))
                    refine hq_p rfl rfl (ty_ge (n := 0) nk_i0 (fun z389 ez389 => ?_))
                    refine ty_aS (W := ty_Wrl) H Jh92 rfl rfl (by decide) (by omega) (by omega) (fun i e => by unfold ty_Wrl; omega) (fun _ _ => ty_eg rfl) (by omega) (by omega) (fun e1 e2 w => by omega) (fun h390 eh390 Jh390 => ?_)
                    have Ih390 := H.1 h390 Jh390
                    refine ty_inc (ls' := fun z391 => [some (.ref 97), some (.int y22), some (.int z71), some (.int z391)]) rfl rfl (fun _ => rfl) (nm_addc nk_i1 (by omega) (by omega)) (fun z391 ez391 => ?_)
                    refine hq_p rfl rfl ?_
                    have r392 : (hs_fI h390 97 13).toInt = (hs_fI h92 97 13).toInt := by rw [eh390]; exact congrArg Int32.toInt (ty_fI_ne (by omega))
                    have r393 : (hs_fI h390 97 14).toInt = (hs_fI h92 97 14).toInt := by rw [eh390]; exact congrArg Int32.toInt (ty_fI_ne (by omega))
                    have r394 : (hs_fI h390 97 15).toInt = (hs_fI h92 97 15).toInt := by rw [eh390]; exact congrArg Int32.toInt (ty_fI_ne (by omega))
                    have r395 : (hs_fI h390 97 16).toInt = (hs_fI h92 97 16).toInt := by rw [eh390]; exact congrArg Int32.toInt (ty_fI_ne (by omega))
                    have r396 : (hs_fI h390 97 19).toInt = (hs_fI h92 97 19).toInt := by rw [eh390]; exact congrArg Int32.toInt (ty_fI_ne (by omega))
                    have r397 : (hs_fI h390 97 21).toInt = (hs_fI h92 97 21).toInt := by rw [eh390]; exact congrArg Int32.toInt (ty_fI_ne (by omega))
                    have r398 : (hs_fI h390 97 23).toInt = (hs_fI h92 97 23).toInt := by rw [eh390]; exact congrArg Int32.toInt (ty_fI_ne (by omega))
                    have r399 : (hs_fI h390 97 26).toInt = (hs_fI h92 97 26).toInt := by rw [eh390]; exact congrArg Int32.toInt (ty_fI_ne (by omega))
                    have r400 : (hs_fL h390 97 17).toInt = (hs_fL h92 97 17).toInt := by rw [eh390]; exact congrArg Int64.toInt (ty_fL_ne (by omega))
                    exact ihn95 ((8 - z391.toInt).toNat) (by omega) z391 h390 rfl (by omega) (by omega) (fun j hj => by rw [eh390, ty_aI_sA (by omega)]; exact x0n95 j hj) (by rw [eh390]; exact (hs_aI_ne (by decide)).trans x1n95) (by rw [eh390]; exact (hs_aI_ne (by decide)).trans x2n95) (by omega) (by omega) (by omega) (by omega) (by omega) (by omega) (by omega) (by omega) (by omega) Jh390
              exact L75_n95 _ z72 h60 rfl (by omega) (by omega) (fun j hj => by rw [ugh60_4]) ugh60_5 ugh60_6 (by omega) (by omega) (by omega) (by omega) (by omega) (by omega) (by omega) (by omega) (by omega) Jh60
            · replace c68 : 1 ≤ z67.toInt ∧ z67.toInt ≤ 1 := by omega
              exact hq_W.ret rfl rfl rfl ⟨Jh60, rfl, kq61, by omega, by omega, by omega, (fun q => by exfalso; omega)⟩
      · refine hq_p rfl rfl ?_
        refine hq_p rfl rfl ?_
        refine hq_gR I.1 rfl rfl (by decide) (by decide) rfl ?_
        refine hq_p rfl rfl ?_
        refine ty_lL I rfl rfl (by decide) (by omega) (by omega) (fun z402 ez402 az402 bz402 => ?_)
        refine ty_callp 0 I rfl (fun _ => rfl) rfl rfl rfl (hq_pre_o I.1 (x := 97) (ci := 11) rfl (by decide) rfl rfl rfl rfl) (ct_173w (x1 := z402) (by omega)) (fun _ P403 => ?_)
        obtain ⟨z404, rfl, az404, bz404, iz404⟩ := P403
        refine ty_zeq rfl (fun c405 => ?_) (fun c405 => ?_)
        · clear iz404
          refine hq_p rfl rfl ?_
          refine hq_p (ls' := [some (.ref 97), some (.int y22), some (.int y23), none]) rfl rfl ?_
          refine ty_inc (ls' := fun z406 => [some (.ref 97), some (.int y22), some (.int z406), none]) rfl rfl (fun _ => rfl) (nm_addc nk_i1 (by omega) (by omega)) (fun z406 ez406 => ?_)
          refine hq_p rfl rfl ?_
          exact ihn26 ((4 - z406.toInt).toNat) (by omega) y22 z406 rfl (by omega) (by omega) (by omega) (by omega) (by omega)
        · replace c405 : 1 ≤ z404.toInt ∧ z404.toInt ≤ 1 := by omega
          have f407 := iz404 (by omega)
          clear iz404
          refine hq_p rfl rfl ?_
          refine hq_p rfl rfl ?_
          refine hq_p (ls' := [some (.ref 97), some (.int y23), some (.int y23), none]) rfl rfl ?_
          refine ty_inc (ls' := fun z408 => [some (.ref 97), some (.int y23), some (.int z408), none]) rfl rfl (fun _ => rfl) (nm_addc nk_i1 (by omega) (by omega)) (fun z408 ez408 => ?_)
          refine hq_p rfl rfl ?_
          exact ihn26 ((4 - z408.toInt).toNat) (by omega) y23 z408 rfl (by omega) (by omega) (by omega) (by omega) (by omega)
  exact L4_n26 _ z10 z11 rfl (by omega) (by omega) (by omega) (by omega) (by omega)
end CT53
