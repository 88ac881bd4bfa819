/-! CONTRACTS (printed by wip/pm/cts.py) -/
section CT23
/-- and whether it is bad, and where -/
def ty_Wo (a k : Nat) : Prop := a = 97 ∧ (k = 14 ∨ k = 15 ∨ k = 16 ∨ k = 17 ∨ k = 18 ∨ k = 19)
theorem ct_175 {X : pm_X} {d : Nat} {h : pm_H} {x1 : Int32} (hd : 3 ≤ d) (ax1 : 0 ≤ x1.toInt) (bx1 : x1.toInt ≤ 1) (hto : (hs_fI h 97 15).toInt ≤ (hs_fI h 97 13).toInt) : ty_M X ty_Wo d 175 [.ref 97, .int x1] h (fun h1 v => v = none ∧ (((hs_fI h1 97 19).toInt = 1 ∧ (hs_fI h1 97 14).toInt = (hs_fI h 97 14).toInt ∧ (hs_fI h1 97 15).toInt = (hs_fI h 97 15).toInt ∧ (hs_fI h1 97 16).toInt = (hs_fI h 97 16).toInt) ∨ ((hs_fI h1 97 19).toInt = 0 ∧ (hs_fI h 97 19).toInt = 0 ∧ x1.toInt = 1 ∧ (hs_fI h 97 15).toInt ≤ (hs_fI h1 97 14).toInt ∧ (hs_fI h1 97 14).toInt ≤ (hs_fI h1 97 15).toInt ∧ (hs_fI h1 97 15).toInt ≤ (hs_fI h 97 13).toInt ∧ ((hs_fI h1 97 16).toInt ≠ 0 → (hs_fI h1 97 14).toInt + 1 ≤ (hs_fI h1 97 15).toInt)))) := by
  intro J H hJ
  obtain ⟨d, rfl⟩ : ∃ e, d = e + 1 := ⟨d - 1, by omega⟩
  have I := H.1 h hJ
  obtain ⟨q13, eq13⟩ : ∃ q : Int32, q.toInt = (hs_fI h 97 13).toInt := ⟨_, rfl⟩
  have gq130 : 0 ≤ (hs_fI h 97 13).toInt := (I.2.1 97 13 (by decide)).1
  have gq131 : (hs_fI h 97 13).toInt ≤ 400 := (I.2.1 97 13 (by decide)).2
  obtain ⟨q14, eq14⟩ : ∃ q : Int32, q.toInt = (hs_fI h 97 14).toInt := ⟨_, rfl⟩
  have gq140 : 0 ≤ (hs_fI h 97 14).toInt := (I.2.1 97 14 (by decide)).1
  have gq141 : (hs_fI h 97 14).toInt ≤ 400 := (I.2.1 97 14 (by decide)).2
  obtain ⟨q15, eq15⟩ : ∃ q : Int32, q.toInt = (hs_fI h 97 15).toInt := ⟨_, rfl⟩
  have gq150 : 0 ≤ (hs_fI h 97 15).toInt := (I.2.1 97 15 (by decide)).1
  have gq151 : (hs_fI h 97 15).toInt ≤ 400 := (I.2.1 97 15 (by decide)).2
  obtain ⟨q16, eq16⟩ : ∃ q : Int32, q.toInt = (hs_fI h 97 16).toInt := ⟨_, rfl⟩
  have gq160 : -2147483648 ≤ (hs_fI h 97 16).toInt := (I.2.1 97 16 (by decide)).1
  have gq161 : (hs_fI h 97 16).toInt ≤ 2147483647 := (I.2.1 97 16 (by decide)).2
  refine hq_M.enter (q := (⟨"TrainBearersModel", "must", "(Z)V"⟩, _, 2, none, 11, 2, pm_c175)) rfl rfl ?_
  show hq_W X d 11 false (none) pm_c175 (0, [some (.ref 97), some (.int x1)], [], h) (fun h' v => J h' ∧ (fun h1 v => v = none ∧ (((hs_fI h1 97 19).toInt = 1 ∧ (hs_fI h1 97 14).toInt = (hs_fI h 97 14).toInt ∧ (hs_fI h1 97 15).toInt = (hs_fI h 97 15).toInt ∧ (hs_fI h1 97 16).toInt = (hs_fI h 97 16).toInt) ∨ ((hs_fI h1 97 19).toInt = 0 ∧ (hs_fI h 97 19).toInt = 0 ∧ x1.toInt = 1 ∧ (hs_fI h 97 15).toInt ≤ (hs_fI h1 97 14).toInt ∧ (hs_fI h1 97 14).toInt ≤ (hs_fI h1 97 15).toInt ∧ (hs_fI h1 97 15).toInt ≤ (hs_fI h 97 13).toInt ∧ ((hs_fI h1 97 16).toInt ≠ 0 → (hs_fI h1 97 14).toInt + 1 ≤ (hs_fI h1 97 15).toInt)))) h' v)
  refine hq_p rfl rfl ?_
  refine ty_gB I rfl rfl (by decide) (by decide) rfl (fun z1 ez1 az1 bz1 => ?_)
  refine ty_zne rfl (fun c2 => ?_) (fun c2 => ?_)
  · replace c2 : 1 ≤ z1.toInt ∧ z1.toInt ≤ 1 := by omega
    refine hq_p rfl rfl ?_
    refine ty_gB I rfl rfl (by decide) (by decide) rfl (fun z3 ez3 az3 bz3 => ?_)
    refine ty_zne rfl (fun c4 => ?_) (fun c4 => ?_)
    · clear c4
      exact hq_W.ret rfl rfl rfl ⟨hJ, rfl, by omega⟩
    · exfalso; omega
  · refine hq_p rfl rfl ?_
    refine ty_zne rfl (fun c5 => ?_) (fun c5 => ?_)
    · replace c5 : 1 ≤ x1.toInt ∧ x1.toInt ≤ 1 := by omega
      refine hq_p rfl rfl ?_
      refine ty_gB I rfl rfl (by decide) (by decide) rfl (fun z6 ez6 az6 bz6 => ?_)
      refine ty_zne rfl (fun c7 => ?_) (fun c7 => ?_)
      · exfalso; omega
      · refine hq_p rfl rfl ?_
        refine ty_callg 0 (c := 97) (j := 19) (W := ty_Wo) H hJ rfl (fun _ => rfl) rfl rfl rfl (hq_pre_o I.1 (x := 97) (ci := 11) rfl (by decide) rfl rfl rfl rfl) (fun a k w => by unfold ty_Wn at w; unfold ty_Wo; omega) (by unfold ty_Wn ty_Wo; omega) (ct_172 (by omega) (by omega)) (by decide) (by unfold ty_Wn; omega) (fun h9 _ Jh9 gh9 P8 => ?_)
        have Ih9 := H.1 h9 Jh9
        obtain ⟨rq10, f1q10, f2q10, f3q10, f4q10⟩ := P8
        subst rq10
        exact hq_W.ret rfl rfl rfl ⟨Jh9, rfl, by omega⟩
    · refine hq_p rfl rfl ?_
      refine hq_p rfl rfl (ty_ge (n := 1) nk_i1 (fun z11 ez11 => ?_))
      refine ty_pB (W := ty_Wo) H hJ rfl rfl (by decide) rfl rfl rfl (by unfold ty_Wo; omega) rfl (by omega) (by omega) (fun h12 eh12 Jh12 => ?_)
      have wh12 : (hs_fI h12 97 19).toInt = z11.toInt := by rw [eh12]; exact congrArg Int32.toInt (ty_fI_eq I.1 rfl (by decide) rfl)
      have Ih12 := H.1 h12 Jh12
      refine hq_p rfl rfl ?_
      refine hq_p rfl rfl ?_
      have r14 : (hs_fI h12 97 14).toInt = (hs_fI h 97 14).toInt := by rw [eh12]; exact congrArg Int32.toInt (ty_fI_sF (by decide))
      refine ty_gI Ih12 rfl rfl (by decide) (by decide) rfl rfl (fun z13 ez13 az13 bz13 => ?_)
      refine ty_pI (W := ty_Wo) H Jh12 rfl rfl (by decide) rfl rfl (by unfold ty_Wo; omega) rfl (by omega) (by omega) (fun h15 eh15 Jh15 => ?_)
      have wh15 : (hs_fI h15 97 18).toInt = z13.toInt := by rw [eh15]; exact congrArg Int32.toInt (ty_fI_eq Ih12.1 rfl (by decide) rfl)
      have Ih15 := H.1 h15 Jh15
      refine hq_p rfl rfl ?_
      have r17 : (hs_fI h15 97 19).toInt = (hs_fI h12 97 19).toInt := by rw [eh15]; exact congrArg Int32.toInt (ty_fI_sF (by decide))
      refine ty_gB Ih15 rfl rfl (by decide) (by decide) rfl (fun z16 ez16 az16 bz16 => ?_)
      refine ty_zne rfl (fun c18 => ?_) (fun c18 => ?_)
      · clear c18
        have r19 : (hs_fI h12 97 13).toInt = (hs_fI h 97 13).toInt := by rw [eh12]; exact congrArg Int32.toInt (ty_fI_sF (by decide))
        have r20 : (hs_fI h15 97 13).toInt = (hs_fI h12 97 13).toInt := by rw [eh15]; exact congrArg Int32.toInt (ty_fI_sF (by decide))
        have r21 : (hs_fI h15 97 14).toInt = (hs_fI h12 97 14).toInt := by rw [eh15]; exact congrArg Int32.toInt (ty_fI_sF (by decide))
        have r22 : (hs_fI h12 97 15).toInt = (hs_fI h 97 15).toInt := by rw [eh12]; exact congrArg Int32.toInt (ty_fI_sF (by decide))
        have r23 : (hs_fI h15 97 15).toInt = (hs_fI h12 97 15).toInt := by rw [eh15]; exact congrArg Int32.toInt (ty_fI_sF (by decide))
        have r24 : (hs_fI h12 97 16).toInt = (hs_fI h 97 16).toInt := by rw [eh12]; exact congrArg Int32.toInt (ty_fI_sF (by decide))
        have r25 : (hs_fI h15 97 16).toInt = (hs_fI h12 97 16).toInt := by rw [eh15]; exact congrArg Int32.toInt (ty_fI_sF (by decide))
        exact hq_W.ret rfl rfl rfl ⟨Jh15, rfl, by omega⟩
      · exfalso; omega
theorem ct_171 {X : pm_X} {d : Nat} {h : pm_H}  (hd : 3 ≤ d)  : ty_M X ty_Wo d 171 [.ref 97] h (fun h1 v => v = none ∧ (hs_fI h1 97 19).toInt = 0 ∧ 0 ≤ (hs_fI h1 97 14).toInt ∧ (hs_fI h1 97 14).toInt ≤ (hs_fI h1 97 15).toInt ∧ (hs_fI h1 97 15).toInt ≤ (hs_fI h 97 13).toInt ∧ ((hs_fI h1 97 16).toInt ≠ 0 → (hs_fI h1 97 14).toInt + 1 ≤ (hs_fI h1 97 15).toInt)) := by
  intro J H hJ
  obtain ⟨d, rfl⟩ : ∃ e, d = e + 1 := ⟨d - 1, by omega⟩
  have I := H.1 h hJ
  obtain ⟨q13, eq13⟩ : ∃ q : Int32, q.toInt = (hs_fI h 97 13).toInt := ⟨_, rfl⟩
  have gq130 : 0 ≤ (hs_fI h 97 13).toInt := (I.2.1 97 13 (by decide)).1
  have gq131 : (hs_fI h 97 13).toInt ≤ 400 := (I.2.1 97 13 (by decide)).2
  refine hq_M.enter (q := (⟨"TrainBearersModel", "begin", "()V"⟩, _, 1, none, 11, 1, pm_c171)) rfl rfl ?_
  show hq_W X d 11 false (none) pm_c171 (0, [some (.ref 97)], [], h) (fun h' v => J h' ∧ (fun h1 v => v = none ∧ (hs_fI h1 97 19).toInt = 0 ∧ 0 ≤ (hs_fI h1 97 14).toInt ∧ (hs_fI h1 97 14).toInt ≤ (hs_fI h1 97 15).toInt ∧ (hs_fI h1 97 15).toInt ≤ (hs_fI h 97 13).toInt ∧ ((hs_fI h1 97 16).toInt ≠ 0 → (hs_fI h1 97 14).toInt + 1 ≤ (hs_fI h1 97 15).toInt)) h' v)
  refine hq_p rfl rfl ?_
  refine hq_p rfl rfl (ty_ge (n := 0) nk_i0 (fun z1 ez1 => ?_))
  refine ty_pI (W := ty_Wo) H hJ rfl rfl (by decide) rfl rfl (by unfold ty_Wo; omega) rfl (by omega) (by omega) (fun h2 eh2 Jh2 => ?_)
  have wh2 : (hs_fI h2 97 15).toInt = z1.toInt := by rw [eh2]; exact congrArg Int32.toInt (ty_fI_eq I.1 rfl (by decide) rfl)
  have Ih2 := H.1 h2 Jh2
  refine hq_p rfl rfl ?_
  refine hq_p rfl rfl (ty_ge (n := 0) nk_i0 (fun z3 ez3 => ?_))
  refine ty_pB (W := ty_Wo) H Jh2 rfl rfl (by decide) rfl rfl rfl (by unfold ty_Wo; omega) rfl (by omega) (by omega) (fun h4 eh4 Jh4 => ?_)
  have wh4 : (hs_fI h4 97 19).toInt = z3.toInt := by rw [eh4]; exact congrArg Int32.toInt (ty_fI_eq Ih2.1 rfl (by decide) rfl)
  have Ih4 := H.1 h4 Jh4
  refine hq_p rfl rfl ?_
  refine hq_p rfl rfl (ty_ge (n := -1) nk_im1 (fun z5 ez5 => ?_))
  refine ty_pI (W := ty_Wo) H Jh4 rfl rfl (by decide) rfl rfl (by unfold ty_Wo; omega) rfl (by omega) (by omega) (fun h6 eh6 Jh6 => ?_)
  have wh6 : (hs_fI h6 97 18).toInt = z5.toInt := by rw [eh6]; exact congrArg Int32.toInt (ty_fI_eq Ih4.1 rfl (by decide) rfl)
  have Ih6 := H.1 h6 Jh6
  refine hq_p rfl rfl ?_
  have r7 : (hs_fI h2 97 13).toInt = (hs_fI h 97 13).toInt := by rw [eh2]; exact congrArg Int32.toInt (ty_fI_sF (by decide))
  have r8 : (hs_fI h4 97 13).toInt = (hs_fI h2 97 13).toInt := by rw [eh4]; exact congrArg Int32.toInt (ty_fI_sF (by decide))
  have r9 : (hs_fI h6 97 13).toInt = (hs_fI h4 97 13).toInt := by rw [eh6]; exact congrArg Int32.toInt (ty_fI_sF (by decide))
  have r10 : (hs_fI h4 97 15).toInt = (hs_fI h2 97 15).toInt := by rw [eh4]; exact congrArg Int32.toInt (ty_fI_sF (by decide))
  have r11 : (hs_fI h6 97 15).toInt = (hs_fI h4 97 15).toInt := by rw [eh6]; exact congrArg Int32.toInt (ty_fI_sF (by decide))
  have r12 : (hs_fI h6 97 19).toInt = (hs_fI h4 97 19).toInt := by rw [eh6]; exact congrArg Int32.toInt (ty_fI_sF (by decide))
  refine ty_callg 0 (c := 97) (j := 19) (W := ty_Wo) H Jh6 rfl (fun _ => rfl) rfl rfl rfl (hq_pre_o Ih6.1 (x := 97) (ci := 11) rfl (by decide) rfl rfl rfl rfl) (fun a k w => by unfold ty_Wn at w; unfold ty_Wo; omega) (by unfold ty_Wn ty_Wo; omega) (ct_172 (by omega) (by omega)) (by decide) (by unfold ty_Wn; omega) (fun h14 _ Jh14 gh14 P13 => ?_)
  have Ih14 := H.1 h14 Jh14
  obtain ⟨rq15, f1q15, f2q15, f3q15, f4q15⟩ := P13
  subst rq15
  exact hq_W.ret rfl rfl rfl ⟨Jh14, rfl, by omega⟩
end CT23
