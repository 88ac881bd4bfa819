/-! CONTRACTS (printed by wip/pm/cts.py) -/
section CT60
def ty_Wor (a k : Nat) : Prop := a = 202 ∨ (97 ≤ a ∧ a < 129 ∧ (a = 97 → k ≠ 11) ∧ (a = 99 → k < 98) ∧ a ≠ 100 ∧ a ≠ 106)
def odz (h : pm_H) : Prop := (hs_fI h 97 19).toInt = 0 → odp (hs_aI h 127) (hs_aI h 108) (hs_aI h 109) (hs_fI h 97 21).toInt (hs_fI h 97 23).toInt
set_option maxHeartbeats 20000000 in
theorem ct_249 {X : pm_X} {d : Nat} {h : pm_H}  (hd : 12 ≤ d)  : ty_M X ty_Wor d 249 [.ref 97] h (fun h1 v => (∃ z : Int32, v = some (.int z)) ∧ (hs_fI h1 97 13).toInt = 0 ∧ (hs_fI h1 97 20).toInt = 0) := by
  intro J H hJ
  obtain ⟨d, rfl⟩ : ∃ e, d = e + 1 := ⟨d - 1, by omega⟩
  have I := H.1 h hJ
  refine hq_M.enter (q := (⟨"TrainBearersModel", "orders", "()I"⟩, _, 4, some .int, 11, 1, pm_c249)) rfl rfl ?_
  show hq_W X d 11 false (some .int) pm_c249 (0, [some (.ref 97), none, none, none], [], h) (fun h' v => J h' ∧ (fun h1 v => (∃ z : Int32, v = some (.int z)) ∧ (hs_fI h1 97 13).toInt = 0 ∧ (hs_fI h1 97 20).toInt = 0) h' v)
  obtain ⟨q1, eq1⟩ : ∃ q : Int32, q.toInt = (hs_fI h 97 20).toInt := ⟨_, rfl⟩
  have aq1 := nm_lo q1
  have bq1 := nm_hi q1
  refine hq_p rfl rfl ?_
  refine hq_p rfl rfl (ty_ge (n := 0) nk_i0 (fun z2 ez2 => ?_))
  refine ty_pI (W := ty_Wor) H hJ rfl rfl (by decide) rfl rfl (by unfold ty_Wor; omega) rfl (by omega) (by omega) (fun h3 eh3 Jh3 => ?_)
  have wh3 : (hs_fI h3 97 0).toInt = z2.toInt := by rw [eh3]; exact congrArg Int32.toInt (ty_fI_eq I.1 rfl (by decide) rfl)
  have Ih3 := H.1 h3 Jh3
  refine hq_p rfl rfl ?_
  refine hq_p rfl rfl (ty_ge (n := -1) nk_im1 (fun z4 ez4 => ?_))
  refine ty_pI (W := ty_Wor) H Jh3 rfl rfl (by decide) rfl rfl (by unfold ty_Wor; omega) rfl (by omega) (by omega) (fun h5 eh5 Jh5 => ?_)
  have wh5 : (hs_fI h5 97 53).toInt = z4.toInt := by rw [eh5]; exact congrArg Int32.toInt (ty_fI_eq Ih3.1 rfl (by decide) rfl)
  have Ih5 := H.1 h5 Jh5
  refine hq_p rfl rfl ?_
  refine hq_p rfl rfl (ty_ge (n := 1) nk_i1 (fun z6 ez6 => ?_))
  refine ty_callm 0 [] (W := ty_Wor) H Jh5 rfl (fun _ => rfl) rfl rfl rfl (hq_pre_o Ih5.1 (x := 97) (ci := 11) rfl (by decide) rfl rfl rfl rfl) (fun a k w => by unfold ty_Wbt at w; unfold ty_Wor; omega) (by unfold ty_Wbt ty_Wor; omega) (ct_193 (x1 := z6) (by omega) (by omega) (by omega)) trivial (fun h8 _ Jh8 gh8 P7 => ?_)
  have Ih8 := H.1 h8 Jh8
  obtain ⟨rq9, kq9, bq9, cq9, nq9⟩ := P7
  subst rq9
  obtain ⟨q10, eq10⟩ : ∃ q : Int32, q.toInt = (hs_fI h8 97 13).toInt := ⟨_, rfl⟩
  have aq10 : 0 ≤ (hs_fI h8 97 13).toInt := (Ih8.2.1 97 13 (by decide)).1
  have bq10 : (hs_fI h8 97 13).toInt ≤ 400 := (Ih8.2.1 97 13 (by decide)).2
  obtain ⟨q11, eq11⟩ : ∃ q : Int32, q.toInt = (hs_fI h8 97 14).toInt := ⟨_, rfl⟩
  have aq11 : 0 ≤ (hs_fI h8 97 14).toInt := (Ih8.2.1 97 14 (by decide)).1
  have bq11 : (hs_fI h8 97 14).toInt ≤ 400 := (Ih8.2.1 97 14 (by decide)).2
  obtain ⟨q12, eq12⟩ : ∃ q : Int32, q.toInt = (hs_fI h8 97 15).toInt := ⟨_, rfl⟩
  have aq12 : 0 ≤ (hs_fI h8 97 15).toInt := (Ih8.2.1 97 15 (by decide)).1
  have bq12 : (hs_fI h8 97 15).toInt ≤ 400 := (Ih8.2.1 97 15 (by decide)).2
  obtain ⟨q13, eq13⟩ : ∃ q : Int32, q.toInt = (hs_fI h8 97 16).toInt := ⟨_, rfl⟩
  have aq13 := nm_lo q13
  have bq13 := nm_hi q13
  obtain ⟨q14, eq14⟩ : ∃ q : Int32, q.toInt = (hs_fI h8 97 19).toInt := ⟨_, rfl⟩
  have aq14 : 0 ≤ q14.toInt ∧ q14.toInt ≤ 1 := by omega
  obtain ⟨q15, eq15⟩ : ∃ q : Int32, q.toInt = (hs_fI h8 97 21).toInt := ⟨_, rfl⟩
  have aq15 : 0 ≤ (hs_fI h8 97 21).toInt := (Ih8.2.1 97 21 (by decide)).1
  have bq15 : (hs_fI h8 97 21).toInt ≤ 12 := (Ih8.2.1 97 21 (by decide)).2
  obtain ⟨q16, eq16⟩ : ∃ q : Int32, q.toInt = (hs_fI h8 97 23).toInt := ⟨_, rfl⟩
  have aq16 : 0 ≤ (hs_fI h8 97 23).toInt := (Ih8.2.1 97 23 (by decide)).1
  have bq16 : (hs_fI h8 97 23).toInt ≤ 400 := (Ih8.2.1 97 23 (by decide)).2
  obtain ⟨q17, eq17⟩ : ∃ q : Int64, q.toInt = (hs_fL h8 97 17).toInt := ⟨_, rfl⟩
  have aq17 := nm_llo q17
  have bq17 := nm_lhi q17
  have t1kq9 := kq9.1
  have t2kq9 := kq9.2.1
  refine hq_p rfl rfl ?_
  refine ty_callm 0 [(0, 97, 13)] (W := ty_Wor) H Jh8 rfl (fun _ => rfl) rfl rfl rfl (hq_pre_o Ih8.1 (x := 97) (ci := 11) rfl (by decide) rfl rfl rfl rfl) (fun a k w => by unfold ty_Wro at w; unfold ty_Wor; omega) (by unfold ty_Wro ty_Wor; omega) (ct_245 (by omega) (by omega) kq9 (by omega) (odp_0 (by omega))) ⟨⟨rfl, show ¬ ty_Wro 97 13 by unfold ty_Wro; omega⟩, trivial⟩ (fun h20 _ Jh20 gh20 P19 => ?_)
  obtain ⟨gh20_0, _⟩ := gh20
  have gh20_0 : (hs_fI h20 97 13).toInt = (hs_fI h8 97 13).toInt := gh20_0
  have Ih20 := H.1 h20 Jh20
  obtain ⟨rq21, kq21, fq21, oq21, nq21, cq21⟩ := P19
  subst rq21
  obtain ⟨q22, eq22⟩ : ∃ q : Int32, q.toInt = (hs_fI h20 97 14).toInt := ⟨_, rfl⟩
  have aq22 : 0 ≤ (hs_fI h20 97 14).toInt := (Ih20.2.1 97 14 (by decide)).1
  have bq22 : (hs_fI h20 97 14).toInt ≤ 400 := (Ih20.2.1 97 14 (by decide)).2
  obtain ⟨q23, eq23⟩ : ∃ q : Int32, q.toInt = (hs_fI h20 97 15).toInt := ⟨_, rfl⟩
  have aq23 : 0 ≤ (hs_fI h20 97 15).toInt := (Ih20.2.1 97 15 (by decide)).1
  have bq23 : (hs_fI h20 97 15).toInt ≤ 400 := (Ih20.2.1 97 15 (by decide)).2
  obtain ⟨q24, eq24⟩ : ∃ q : Int32, q.toInt = (hs_fI h20 97 16).toInt := ⟨_, rfl⟩
  have aq24 := nm_lo q24
  have bq24 := nm_hi q24
  obtain ⟨q25, eq25⟩ : ∃ q : Int32, q.toInt = (hs_fI h20 97 19).toInt := ⟨_, rfl⟩
  have aq25 : 0 ≤ q25.toInt ∧ q25.toInt ≤ 1 := by omega
  obtain ⟨q26, eq26⟩ : ∃ q : Int32, q.toInt = (hs_fI h20 97 21).toInt := ⟨_, rfl⟩
  have aq26 : 0 ≤ (hs_fI h20 97 21).toInt := (Ih20.2.1 97 21 (by decide)).1
  have bq26 : (hs_fI h20 97 21).toInt ≤ 12 := (Ih20.2.1 97 21 (by decide)).2
  obtain ⟨q27, eq27⟩ : ∃ q : Int32, q.toInt = (hs_fI h20 97 23).toInt := ⟨_, rfl⟩
  have aq27 : 0 ≤ (hs_fI h20 97 23).toInt := (Ih20.2.1 97 23 (by decide)).1
  have bq27 : (hs_fI h20 97 23).toInt ≤ 400 := (Ih20.2.1 97 23 (by decide)).2
  obtain ⟨q28, eq28⟩ : ∃ q : Int64, q.toInt = (hs_fL h20 97 17).toInt := ⟨_, rfl⟩
  have aq28 := nm_llo q28
  have bq28 := nm_lhi q28
  have t1kq21 := kq21.1
  have t2kq21 := kq21.2.1
  have L19_n31 : ∀ n31 : Nat, ∀ (h30 : pm_H), (401 - (hs_fI h30 97 14).toInt).toNat = n31 → tk_ok h30 → odz h30 → (hs_fI h30 97 23).toInt ≤ (hs_fI h30 97 14).toInt → ((hs_fI h30 97 19).toInt = 0 ∨ (hs_fI h30 97 19).toInt = 1) → J h30 → hq_W X d 11 false (some .int) pm_c249 (19, [some (.ref 97), none, none, none], [], h30) (fun h' v => J h' ∧ (fun h1 v => (∃ z : Int32, v = some (.int z)) ∧ (hs_fI h1 97 13).toInt = 0 ∧ (hs_fI h1 97 20).toInt = 0) h' v) := by
    intro n31
    induction n31 using Nat.strongRecOn with
    | ind n31 ihn31 =>
      intro h30 mn31 x0n31 x1n31 x2n31 x3n31 Jh30
      have Ih30 := H.1 h30 Jh30
      have w1h30 := x0n31.1
      have w2h30 := x0n31.2.1
      obtain ⟨q32, eq32⟩ : ∃ q : Int32, q.toInt = (hs_fI h30 97 13).toInt := ⟨_, rfl⟩
      have aq32 : 0 ≤ (hs_fI h30 97 13).toInt := (Ih30.2.1 97 13 (by decide)).1
      have bq32 : (hs_fI h30 97 13).toInt ≤ 400 := (Ih30.2.1 97 13 (by decide)).2
      obtain ⟨q33, eq33⟩ : ∃ q : Int32, q.toInt = (hs_fI h30 97 14).toInt := ⟨_, rfl⟩
      have aq33 : 0 ≤ (hs_fI h30 97 14).toInt := (Ih30.2.1 97 14 (by decide)).1
      have bq33 : (hs_fI h30 97 14).toInt ≤ 400 := (Ih30.2.1 97 14 (by decide)).2
      obtain ⟨q34, eq34⟩ : ∃ q : Int32, q.toInt = (hs_fI h30 97 15).toInt := ⟨_, rfl⟩
      have aq34 : 0 ≤ (hs_fI h30 97 15).toInt := (Ih30.2.1 97 15 (by decide)).1
      have bq34 : (hs_fI h30 97 15).toInt ≤ 400 := (Ih30.2.1 97 15 (by decide)).2
      obtain ⟨q35, eq35⟩ : ∃ q : Int32, q.toInt = (hs_fI h30 97 16).toInt := ⟨_, rfl⟩
      have aq35 := nm_lo q35
      have bq35 := nm_hi q35
      obtain ⟨q36, eq36⟩ : ∃ q : Int32, q.toInt = (hs_fI h30 97 19).toInt := ⟨_, rfl⟩
      have aq36 : 0 ≤ q36.toInt ∧ q36.toInt ≤ 1 := by omega
      obtain ⟨q37, eq37⟩ : ∃ q : Int32, q.toInt = (hs_fI h30 97 21).toInt := ⟨_, rfl⟩
      have aq37 : 0 ≤ (hs_fI h30 97 21).toInt := (Ih30.2.1 97 21 (by decide)).1
      have bq37 : (hs_fI h30 97 21).toInt ≤ 12 := (Ih30.2.1 97 21 (by decide)).2
      obtain ⟨q38, eq38⟩ : ∃ q : Int32, q.toInt = (hs_fI h30 97 23).toInt := ⟨_, rfl⟩
      have aq38 : 0 ≤ (hs_fI h30 97 23).toInt := (Ih30.2.1 97 23 (by decide)).1
      have bq38 : (hs_fI h30 97 23).toInt ≤ 400 := (Ih30.2.1 97 23 (by decide)).2
      obtain ⟨q39, eq39⟩ : ∃ q : Int64, q.toInt = (hs_fL h30 97 17).toInt := ⟨_, rfl⟩
      have aq39 := nm_llo q39
      have bq39 := nm_lhi q39
      refine hq_p rfl rfl ?_
      refine ty_gB Ih30 rfl rfl (by decide) (by decide) rfl (fun z40 ez40 az40 bz40 => ?_)
      refine ty_zne rfl (fun c41 => ?_) (fun c41 => ?_)
      · replace c41 : 1 ≤ z40.toInt ∧ z40.toInt ≤ 1 := by omega
        refine hq_p rfl rfl ?_
        refine ty_callm 0 [(0, 97, 21), (0, 97, 23), (3, 127, 0), (3, 108, 0), (3, 109, 0)] (W := ty_Wor) H Jh30 rfl (fun _ => rfl) rfl rfl rfl (hq_pre_o Ih30.1 (x := 97) (ci := 11) rfl (by decide) rfl rfl rfl rfl) (fun a k w => by unfold ty_Wet at w; unfold ty_Wor; omega) (by unfold ty_Wet ty_Wor; omega) (ct_194 (by omega) x0n31 (by omega)) ⟨⟨rfl, show ¬ ty_Wet 97 21 by unfold ty_Wet; omega⟩, ⟨rfl, show ¬ ty_Wet 97 23 by unfold ty_Wet; omega⟩, ⟨rfl, fun k => show ¬ ty_Wet 127 k by unfold ty_Wet; omega⟩, ⟨rfl, fun k => show ¬ ty_Wet 108 k by unfold ty_Wet; omega⟩, ⟨rfl, fun k => show ¬ ty_Wet 109 k by unfold ty_Wet; omega⟩, trivial⟩ (fun h44 _ Jh44 gh44 P43 => ?_)
        obtain ⟨gh44_0, gh44_1, gh44_2, gh44_3, gh44_4, _⟩ := gh44
        have gh44_0 : (hs_fI h44 97 21).toInt = (hs_fI h30 97 21).toInt := gh44_0
        have gh44_1 : (hs_fI h44 97 23).toInt = (hs_fI h30 97 23).toInt := gh44_1
        have gh44_2 : hs_aI h44 127 = hs_aI h30 127 := gh44_2
        have ugh44_2 : hs_aI h44 127 = (hs_aI h30 127) := gh44_2.trans rfl
        have gh44_3 : hs_aI h44 108 = hs_aI h30 108 := gh44_3
        have ugh44_3 : hs_aI h44 108 = (hs_aI h30 108) := gh44_3.trans rfl
        have gh44_4 : hs_aI h44 109 = hs_aI h30 109 := gh44_4
        have ugh44_4 : hs_aI h44 109 = (hs_aI h30 109) := gh44_4.trans rfl
        have Ih44 := H.1 h44 Jh44
        obtain ⟨rq45, aq45, bq45, cq45, dq45⟩ := P43
        subst rq45
        obtain ⟨q46, eq46⟩ : ∃ q : Int32, q.toInt = (hs_fI h44 97 13).toInt := ⟨_, rfl⟩
        have aq46 : 0 ≤ (hs_fI h44 97 13).toInt := (Ih44.2.1 97 13 (by decide)).1
        have bq46 : (hs_fI h44 97 13).toInt ≤ 400 := (Ih44.2.1 97 13 (by decide)).2
        obtain ⟨q47, eq47⟩ : ∃ q : Int32, q.toInt = (hs_fI h44 97 19).toInt := ⟨_, rfl⟩
        have aq47 : 0 ≤ q47.toInt ∧ q47.toInt ≤ 1 := by omega
        obtain ⟨q48, eq48⟩ : ∃ q : Int32, q.toInt = (hs_fI h44 97 20).toInt := ⟨_, rfl⟩
        have aq48 := nm_lo q48
        have bq48 := nm_hi q48
        refine hq_p rfl rfl ?_
        refine ty_gB Ih44 rfl rfl (by decide) (by decide) rfl (fun z49 ez49 az49 bz49 => ?_)
        refine ty_zeq rfl (fun c50 => ?_) (fun c50 => ?_)
        · have l51 : odp (hs_aI h44 127) (hs_aI h44 108) (hs_aI h44 109) (hs_fI h44 97 21).toInt (hs_fI h44 97 23).toInt := odp_e (x1n31 (by omega)) ugh44_2 ugh44_3 ugh44_4 (by omega) (by omega)
          obtain ⟨R7, eR7⟩ : ∃ R, hs_aI h44 127 = R := ⟨_, rfl⟩
          obtain ⟨R8, eR8⟩ : ∃ R, hs_aI h44 108 = R := ⟨_, rfl⟩
          obtain ⟨R9, eR9⟩ : ∃ R, hs_aI h44 109 = R := ⟨_, rfl⟩
          obtain ⟨nc, enc⟩ : ∃ q : Int, (hs_fI h44 97 21).toInt = q := ⟨_, rfl⟩
          obtain ⟨nn, enn⟩ : ∃ q : Int, (hs_fI h44 97 23).toInt = q := ⟨_, rfl⟩
          rw [eR7, eR8, eR9, enc, enn] at l51
          have hOD := l51
          have nc0 : 0 ≤ nc ∧ nc ≤ 12 := by omega
          have nn0 : nn ≤ 400 := by omega
          obtain ⟨J1, eJ⟩ : ∃ J1 : pm_H → Prop, J1 = fun h' => ((((J h' ∧ hs_aI h' 127 = R7) ∧ hs_aI h' 108 = R8) ∧ hs_aI h' 109 = R9) ∧ (hs_fI h' 97 13).toInt = 0) ∧ (hs_fI h' 97 21).toInt = nc := ⟨_, rfl⟩
          have H1 : ty_C ty_Wrun J1 := by rw [eJ]; exact (((((H.mono (W' := ty_Wrun) (fun a k w => by unfold ty_Wrun at w; unfold ty_Wor; omega) (by unfold ty_Wrun ty_Wor; omega)).arr 127 (by decide) (fun k => by unfold ty_Wrun; omega) R7).arr 108 (by decide) (fun k => by unfold ty_Wrun; omega) R8).arr 109 (by decide) (fun k => by unfold ty_Wrun; omega) R9).fld 97 13 (by decide) (by unfold ty_Wrun; omega) (by decide) 0).fld 97 21 (by decide) (by unfold ty_Wrun; omega) (by decide) nc
          have hJ1 : J1 h44 := by rw [eJ]; exact ⟨⟨⟨⟨⟨Jh44, eR7⟩, eR8⟩, eR9⟩, by omega⟩, enc⟩
          have H := H1
          have a7 : ∀ h', J1 h' → hs_aI h' 127 = R7 ∧ hs_aI h' 108 = R8 ∧ hs_aI h' 109 = R9 ∧ (hs_fI h' 97 13).toInt = 0 ∧ (hs_fI h' 97 21).toInt = nc := fun h' j => by rw [eJ] at j; exact ⟨j.1.1.1.1.2, j.1.1.1.2, j.1.1.2, j.1.2, j.2⟩
          refine hq_p rfl rfl ?_
          refine hq_p rfl rfl (ty_ge (n := 17) nk_b17 (fun z52 ez52 => ?_))
          refine ty_callm 0 [(0, 97, 20)] (W := ty_Wrun) H hJ1 rfl (fun _ => rfl) rfl rfl rfl (hq_pre_o Ih44.1 (x := 97) (ci := 11) rfl (by decide) rfl rfl rfl rfl) (fun a k w => by unfold ty_Wq at w; unfold ty_Wrun; omega) (by unfold ty_Wq ty_Wrun; omega) (ct_143 (x1 := z52) (by omega) (by omega) (by omega)) ⟨⟨rfl, show ¬ ty_Wq 97 20 by unfold ty_Wq; omega⟩, trivial⟩ (fun h54 _ Jh54 gh54 P53 => ?_)
          obtain ⟨gh54_0, _⟩ := gh54
          have gh54_0 : (hs_fI h54 97 20).toInt = (hs_fI h44 97 20).toInt := gh54_0
          have Ih54 := H.1 h54 Jh54
          subst P53
          refine hq_p rfl rfl ?_
          refine ty_gI Ih54 rfl rfl (by decide) (by decide) rfl rfl (fun z55 ez55 az55 bz55 => ?_)
          refine hq_p (ls' := [some (.ref 97), some (.int z55), none, none]) rfl rfl ?_
          refine hq_p rfl rfl (ty_ge (n := 0) nk_i0 (fun z56 ez56 => ?_))
          refine hq_p (ls' := [some (.ref 97), some (.int z55), some (.int z56), none]) rfl rfl ?_
          have L77_n141 : ∀ n141 : Nat, ∀ (y137 : Int32) (h138 : pm_H), (464 - y137.toInt).toNat = n141 → 0 ≤ y137.toInt → y137.toInt ≤ 464 → (hs_fI h138 97 20).toInt = (hs_fI h54 97 20).toInt → J1 h138 → hq_W X d 11 false (some .int) pm_c249 (77, [some (.ref 97), some (.int z55), some (.int y137), none], [], h138) (fun h' v => J h' ∧ (fun h1 v => (∃ z : Int32, v = some (.int z)) ∧ (hs_fI h1 97 13).toInt = 0 ∧ (hs_fI h1 97 20).toInt = 0) h' v) := by
            intro n141
            induction n141 using Nat.strongRecOn with
            | ind n141 ihn141 =>
              intro y137 h138 mn141 ay137 by137 x0n141 Jh138
              have Ih138 := H.1 h138 Jh138
              refine hq_p rfl rfl ?_
              refine hq_p rfl rfl (ty_ge (n := 464) nk_s464 (fun z142 ez142 => ?_))
              refine ty_ige rfl (fun c143 => ?_) (fun c143 => ?_)
              · refine hq_p rfl rfl (ty_ge (n := 0) nk_i0 (fun z144 ez144 => ?_))
                refine hq_p (ls' := [some (.ref 97), some (.int z55), some (.int z144), none]) rfl rfl ?_
                have L104_n179 : ∀ n179 : Nat, ∀ (y175 : Int32) (h176 : pm_H), (16 - y175.toInt).toNat = n179 → 0 ≤ y175.toInt → y175.toInt ≤ 16 → (hs_fI h176 97 20).toInt = (hs_fI h138 97 20).toInt → J1 h176 → hq_W X d 11 false (some .int) pm_c249 (104, [some (.ref 97), some (.int z55), some (.int y175), none], [], h176) (fun h' v => J h' ∧ (fun h1 v => (∃ z : Int32, v = some (.int z)) ∧ (hs_fI h1 97 13).toInt = 0 ∧ (hs_fI h1 97 20).toInt = 0) h' v) := by
                  intro n179
                  induction n179 using Nat.strongRecOn with
                  | ind n179 ihn179 =>
                    intro y175 h176 mn179 ay175 by175 x0n179 Jh176
                    have Ih176 := H.1 h176 Jh176
                    refine hq_p rfl rfl ?_
                    refine hq_p rfl rfl (ty_ge (n := 16) nk_b16 (fun z180 ez180 => ?_))
                    refine ty_ige rfl (fun c181 => ?_) (fun c181 => ?_)
                    · refine hq_p rfl rfl ?_
                      refine hq_p rfl rfl (ty_ge (n := 0) nk_i0 (fun z182 ez182 => ?_))
                      refine ty_pI (W := ty_Wrun) H Jh176 rfl rfl (by decide) rfl rfl (by unfold ty_Wrun; omega) rfl (by omega) (by omega) (fun h183 eh183 Jh183 => ?_)
                      have wh183 : (hs_fI h183 97 51).toInt = z182.toInt := by rw [eh183]; exact congrArg Int32.toInt (ty_fI_eq Ih176.1 rfl (by decide) rfl)
                      have Ih183 := H.1 h183 Jh183
                      refine hq_p rfl rfl ?_
                      refine hq_p rfl rfl (ty_ge (n := -1) nk_im1 (fun z184 ez184 => ?_))
                      refine ty_pI (W := ty_Wrun) H Jh183 rfl rfl (by decide) rfl rfl (by unfold ty_Wrun; omega) rfl (by omega) (by omega) (fun h185 eh185 Jh185 => ?_)
                      have wh185 : (hs_fI h185 97 52).toInt = z184.toInt := by rw [eh185]; exact congrArg Int32.toInt (ty_fI_eq Ih183.1 rfl (by decide) rfl)
                      have Ih185 := H.1 h185 Jh185
                      have r186 : (hs_fI h185 97 51).toInt = (hs_fI h183 97 51).toInt := by rw [eh185]; exact congrArg Int32.toInt (ty_fI_sF (by decide))
                      have r187 : (hs_fI h183 97 20).toInt = (hs_fI h176 97 20).toInt := by rw [eh183]; exact congrArg Int32.toInt (ty_fI_sF (by decide))
                      have r188 : (hs_fI h185 97 20).toInt = (hs_fI h183 97 20).toInt := by rw [eh185]; exact congrArg Int32.toInt (ty_fI_sF (by decide))
                      refine hq_p rfl rfl (ty_ge (n := 0) nk_i0 (fun z189 ez189 => ?_))
                      refine hq_p (ls' := [some (.ref 97), some (.int z55), some (.int z189), none]) rfl rfl ?_
                      have L140_n199 : ∀ n199 : Nat, ∀ (y193 : Int32) (w194 : Option Value) (h195 : pm_H), (12 - y193.toInt).toNat = n199 → 0 ≤ y193.toInt → y193.toInt ≤ 12 → pm_two w194 = false → (hs_fI h195 97 20).toInt = 0 → 0 ≤ (hs_fI h195 97 51).toInt ∧ (hs_fI h195 97 51).toInt ≤ 20 * y193.toInt → J1 h195 → hq_W X d 11 false (some .int) pm_c249 (140, [some (.ref 97), some (.int z55), some (.int y193), w194], [], h195) (fun h' v => J h' ∧ (fun h1 v => (∃ z : Int32, v = some (.int z)) ∧ (hs_fI h1 97 13).toInt = 0 ∧ (hs_fI h1 97 20).toInt = 0) h' v) := by
                        intro n199
                        induction n199 using Nat.strongRecOn with
                        | ind n199 ihn199 =>
                          intro y193 w194 h195 mn199 ay193 by193 kw194 x0n199 x1n199 Jh195
                          have Ih195 := H.1 h195 Jh195
                          obtain ⟨q200, eq200⟩ : ∃ q : Int32, q.toInt = (hs_fI h195 97 20).toInt := ⟨_, rfl⟩
                          have aq200 := nm_lo q200
                          have bq200 := nm_hi q200
                          refine hq_p rfl rfl ?_
                          refine hq_p rfl rfl ?_
                          refine ty_gI Ih195 rfl rfl (by decide) (by decide) rfl rfl (fun z201 ez201 az201 bz201 => ?_)
                          have ncz : z201.toInt = nc := by have q := (a7 h195 Jh195).2.2.2.2; omega
                          refine ty_ige rfl (fun c202 => ?_) (fun c202 => ?_)
                          · refine hq_p rfl rfl ?_
                            refine hq_p rfl rfl ?_
                            refine ty_gI Ih195 rfl rfl (by decide) (by decide) rfl rfl (fun z203 ez203 az203 bz203 => ?_)
                            refine ty_callm 0 [(0, 97, 20)] (W := ty_Wrun) H Jh195 rfl (fun _ => rfl) rfl rfl rfl (hq_pre_o Ih195.1 (x := 97) (ci := 11) rfl (by decide) rfl rfl rfl rfl) (fun a k w => by unfold ty_Wt at w; unfold ty_Wrun; omega) (by unfold ty_Wt ty_Wrun; omega) (ct_140 (x1 := z203) (by omega) (by omega) (by omega)) ⟨⟨rfl, show ¬ ty_Wt 97 20 by unfold ty_Wt; omega⟩, trivial⟩ (fun h205 _ Jh205 gh205 P204 => ?_)
                            obtain ⟨gh205_0, _⟩ := gh205
                            have gh205_0 : (hs_fI h205 97 20).toInt = (hs_fI h195 97 20).toInt := gh205_0
                            have Ih205 := H.1 h205 Jh205
                            obtain ⟨z206, rfl, fz206⟩ := P204
                            have t13 := (a7 h205 Jh205).2.2.2.1
                            exact hq_W.ret rfl rfl rfl ⟨(by have q := Jh205; rw [eJ] at q; exact q.1.1.1.1.1), ⟨_, rfl⟩, by omega, by omega⟩
                          · refine hq_p rfl rfl (ty_ge (n := 0) nk_i0 (fun z207 ez207 => ?_))
                            refine hq_p (ls' := [some (.ref 97), some (.int z55), some (.int y193), some (.int z207)]) rfl rfl ?_
                            have L150_n214 : ∀ n214 : Nat, ∀ (y210 : Int32) (h211 : pm_H), (20 - y210.toInt).toNat = n214 → 0 ≤ y210.toInt → y210.toInt ≤ 20 → (hs_fI h211 97 20).toInt = 0 → 0 ≤ (hs_fI h211 97 51).toInt ∧ (hs_fI h211 97 51).toInt ≤ 20 * y193.toInt + y210.toInt → J1 h211 → hq_W X d 11 false (some .int) pm_c249 (150, [some (.ref 97), some (.int z55), some (.int y193), some (.int y210)], [], h211) (fun h' v => J h' ∧ (fun h1 v => (∃ z : Int32, v = some (.int z)) ∧ (hs_fI h1 97 13).toInt = 0 ∧ (hs_fI h1 97 20).toInt = 0) h' v) := by
                              intro n214
                              induction n214 using Nat.strongRecOn with
                              | ind n214 ihn214 =>
                                intro y210 h211 mn214 ay210 by210 x0n214 x1n214 Jh211
                                have Ih211 := H.1 h211 Jh211
                                obtain ⟨q215, eq215⟩ : ∃ q : Int32, q.toInt = (hs_fI h211 97 20).toInt := ⟨_, rfl⟩
                                have aq215 := nm_lo q215
                                have bq215 := nm_hi q215
                                refine hq_p rfl rfl ?_
                                refine hq_p rfl rfl ?_
                                refine hq_gR Ih211.1 rfl rfl (by decide) (by decide) rfl ?_
                                refine hq_p rfl rfl (ty_ge (n := 8) nk_b8 (fun z216 ez216 => ?_))
                                refine hq_p rfl rfl ?_
                                refine hq_p rfl rfl (ty_ge (n := 8 * y193.toInt) (nm_cmul ez216 (by omega) (by omega)) (fun z217 ez217 => ?_))
                                refine hq_p rfl rfl (ty_ge (n := 7) nk_b7 (fun z218 ez218 => ?_))
                                refine hq_p rfl rfl (ty_ge (n := z217.toInt + z218.toInt) (nm_add (by omega) (by omega)) (fun z219 ez219 => ?_))
                                refine ty_aL Ih211 rfl rfl (by decide) (by omega) (by omega) (fun _ _ => ty_le rfl) (fun z220 ez220 az220 bz220 => ?_)
                                have odz220 := hOD y193.toInt.toNat (by omega)
                                have zzz220 : z220.toInt = pt R7 (8 * y193.toInt.toNat + 7) := by show z220.toInt = (R7 (8 * y193.toInt.toNat + 7)).toInt; rw [ez220, (a7 h211 Jh211).1, show z219.toInt.toNat = 8 * y193.toInt.toNat + 7 by omega]
                                have zlz220 := odz220.2.2.2.1
                                have zhz220 := odz220.2.2.2.2
                                rw [← zzz220] at zlz220 zhz220
                                refine ty_ige rfl (fun c221 => ?_) (fun c221 => ?_)
                                · refine ty_inc (ls' := fun z222 => [some (.ref 97), some (.int z55), some (.int z222), some (.int y210)]) rfl rfl (fun _ => rfl) (nm_addc nk_i1 (by omega) (by omega)) (fun z222 ez222 => ?_)
                                  refine hq_p rfl rfl ?_
                                  exact ihn199 ((12 - z222.toInt).toNat) (by omega) z222 (some (.int y210)) h211 rfl (by omega) (by omega) rfl (by omega) (by omega) Jh211
                                · refine hq_p rfl rfl ?_
                                  refine hq_p rfl rfl (ty_ge (n := 8) nk_b8 (fun z223 ez223 => ?_))
                                  refine hq_p rfl rfl ?_
                                  refine hq_p rfl rfl (ty_ge (n := 8 * y193.toInt) (nm_cmul ez223 (by omega) (by omega)) (fun z224 ez224 => ?_))
                                  have aa := a7 h211 Jh211
                                  refine ty_callj 0 (W := ty_Wrun) H Jh211 rfl (fun _ => rfl) rfl rfl rfl (hq_pre_o Ih211.1 (x := 97) (ci := 11) rfl (by decide) rfl rfl rfl rfl) (fun _ _ w => w) (fun _ w => w) (ct_248z (x1 := z224) (by omega) (by omega) (by omega) (by omega) (c := y193.toInt.toNat) (by omega) (nn := nn) nn0 (by rw [aa.1, aa.2.1, aa.2.2.1]; exact odz220) (by omega)) (fun h226 _ Jh226 P225 => ?_)
                                  have Ih226 := H.1 h226 Jh226
                                  obtain ⟨⟨⟨z227, rfl, az227, bz227⟩, dz227, ez227⟩, oz227⟩ := P225
                                  obtain ⟨q228, eq228⟩ : ∃ q : Int32, q.toInt = (hs_fI h226 97 20).toInt := ⟨_, rfl⟩
                                  have e2q228 : q228.toInt = 0 := by omega
                                  refine ty_zge rfl (fun c229 => ?_) (fun c229 => ?_)
                                  · refine ty_inc (ls' := fun z230 => [some (.ref 97), some (.int z55), some (.int y193), some (.int z230)]) rfl rfl (fun _ => rfl) (nm_addc nk_i1 (by omega) (by omega)) (fun z230 ez230 => ?_)
                                    refine hq_p rfl rfl ?_
                                    exact ihn214 ((20 - z230.toInt).toNat) (by omega) z230 h226 rfl (by omega) (by omega) (by omega) (by omega) Jh226
                                  · refine hq_p rfl rfl ?_
                                    refine hq_p rfl rfl ?_
                                    refine ty_callm 0 [(0, 97, 20)] (W := ty_Wrun) H Jh226 rfl (fun _ => rfl) rfl rfl rfl (hq_pre_o Ih226.1 (x := 97) (ci := 11) rfl (by decide) rfl rfl rfl rfl) (fun a k w => by unfold ty_Wgb at w; unfold ty_Wrun; omega) (by unfold ty_Wgb ty_Wrun; omega) (ct_250 (x1 := z55) (by omega) (by omega) (by omega)) ⟨⟨rfl, show ¬ ty_Wgb 97 20 by unfold ty_Wgb; omega⟩, trivial⟩ (fun h232 _ Jh232 gh232 P231 => ?_)
                                    obtain ⟨gh232_0, _⟩ := gh232
                                    have gh232_0 : (hs_fI h232 97 20).toInt = (hs_fI h226 97 20).toInt := gh232_0
                                    have Ih232 := H.1 h232 Jh232
                                    subst P231
                                    refine hq_p rfl rfl ?_
                                    refine hq_p rfl rfl ?_
                                    refine ty_pI (W := ty_Wrun) H Jh232 rfl rfl (by decide) rfl rfl (by unfold ty_Wrun; omega) rfl (by omega) (by omega) (fun h233 eh233 Jh233 => ?_)
                                    have wh233 : (hs_fI h233 97 53).toInt = y193.toInt := by rw [eh233]; exact congrArg Int32.toInt (ty_fI_eq Ih232.1 rfl (by decide) rfl)
                                    have Ih233 := H.1 h233 Jh233
                                    refine hq_p rfl rfl ?_
                                    refine hq_p rfl rfl (ty_ge (n := -3) nk_bm3 (fun z234 ez234 => ?_))
                                    have r235 : (hs_fI h233 97 20).toInt = (hs_fI h232 97 20).toInt := by rw [eh233]; exact congrArg Int32.toInt (ty_fI_sF (by decide))
                                    refine ty_callm 0 [(0, 97, 20)] (W := ty_Wrun) H Jh233 rfl (fun _ => rfl) rfl rfl rfl (hq_pre_o Ih233.1 (x := 97) (ci := 11) rfl (by decide) rfl rfl rfl rfl) (fun a k w => by unfold ty_Wt at w; unfold ty_Wrun; omega) (by unfold ty_Wt ty_Wrun; omega) (ct_140 (x1 := z234) (by omega) (by omega) (by omega)) ⟨⟨rfl, show ¬ ty_Wt 97 20 by unfold ty_Wt; omega⟩, trivial⟩ (fun h237 _ Jh237 gh237 P236 => ?_)
                                    obtain ⟨gh237_0, _⟩ := gh237
                                    have gh237_0 : (hs_fI h237 97 20).toInt = (hs_fI h233 97 20).toInt := gh237_0
                                    have Ih237 := H.1 h237 Jh237
                                    obtain ⟨z238, rfl, fz238⟩ := P236
                                    have t13 := (a7 h237 Jh237).2.2.2.1
                                    exact hq_W.ret rfl rfl rfl ⟨(by have q := Jh237; rw [eJ] at q; exact q.1.1.1.1.1), ⟨_, rfl⟩, by omega, by omega⟩
                            exact L150_n214 _ z207 h195 rfl (by omega) (by omega) (by omega) (by omega) Jh195
                      exact L140_n199 _ z189 none h185 rfl (by omega) (by omega) rfl (by omega) (by omega) Jh185
                    · refine hq_p rfl rfl ?_
                      refine hq_gR Ih176.1 rfl rfl (by decide) (by decide) rfl ?_
                      refine hq_p rfl rfl ?_
                      refine hq_p rfl rfl ?_
                      refine hq_gR Ih176.1 rfl rfl (by decide) (by decide) rfl ?_
                      refine hq_p rfl rfl ?_
                      refine ty_aL Ih176 rfl rfl (by decide) (by omega) (by omega) (fun _ _ => ty_le rfl) (fun z239 ez239 az239 bz239 => ?_)
                      refine ty_aS (W := ty_Wrun) H Jh176 rfl rfl (by decide) (by omega) (by omega) (fun i e => by unfold ty_Wrun; omega) (fun _ _ => ty_eg rfl) (by omega) (by omega) (fun e1 e2 w => by omega) (fun h240 eh240 Jh240 => ?_)
                      have Ih240 := H.1 h240 Jh240
                      refine ty_inc (ls' := fun z241 => [some (.ref 97), some (.int z55), some (.int z241), none]) rfl rfl (fun _ => rfl) (nm_addc nk_i1 (by omega) (by omega)) (fun z241 ez241 => ?_)
                      refine hq_p rfl rfl ?_
                      have r242 : (hs_fI h240 97 20).toInt = (hs_fI h176 97 20).toInt := by rw [eh240]; exact congrArg Int32.toInt (ty_fI_ne (by omega))
                      exact ihn179 ((16 - z241.toInt).toNat) (by omega) z241 h240 rfl (by omega) (by omega) (by omega) Jh240
                exact L104_n179 _ z144 h138 rfl (by omega) (by omega) (by omega) Jh138
              · refine hq_p rfl rfl ?_
                refine hq_gR Ih138.1 rfl rfl (by decide) (by decide) rfl ?_
                refine hq_p rfl rfl ?_
                refine hq_p rfl rfl ?_
                refine hq_gR Ih138.1 rfl rfl (by decide) (by decide) rfl ?_
                refine hq_p rfl rfl ?_
                refine ty_aLx Ih138 rfl rfl (by decide) (by omega) (by omega) (fun z243 ez243 az243 bz243 => ?_)
                refine ty_aS (lo := (ty_a 102 y137.toInt.toNat).1) (hi := (ty_a 102 y137.toInt.toNat).2) (W := ty_Wrun) H Jh138 rfl rfl (by decide) (by omega) (by omega) (fun i e => by unfold ty_Wrun; omega) (fun i e => ty_pe (show ty_sb (5 + i % 29) = ty_sb (5 + y137.toInt.toNat % 29) from congrArg ty_sb (show 5 + i % 29 = 5 + y137.toInt.toNat % 29 by omega))) az243 bz243 (fun e1 e2 w => by omega) (fun h244 eh244 Jh244 => ?_)
                have Ih244 := H.1 h244 Jh244
                refine ty_inc (ls' := fun z245 => [some (.ref 97), some (.int z55), some (.int z245), none]) rfl rfl (fun _ => rfl) (nm_addc nk_i1 (by omega) (by omega)) (fun z245 ez245 => ?_)
                refine hq_p rfl rfl ?_
                have r246 : (hs_fI h244 97 20).toInt = (hs_fI h138 97 20).toInt := by rw [eh244]; exact congrArg Int32.toInt (ty_fI_ne (by omega))
                exact ihn141 ((464 - z245.toInt).toNat) (by omega) z245 h244 rfl (by omega) (by omega) (by omega) Jh244
          exact L77_n141 _ z56 h54 rfl (by omega) (by omega) (by omega) Jh54
        · replace c50 : 1 ≤ z49.toInt ∧ z49.toInt ≤ 1 := by omega
          refine hq_p rfl rfl ?_
          refine hq_p rfl rfl (ty_ge (n := -6) nk_bm6 (fun z247 ez247 => ?_))
          refine ty_callm 0 [(0, 97, 13), (0, 97, 19), (0, 97, 20), (0, 97, 21), (0, 97, 23), (3, 127, 0), (3, 108, 0), (3, 109, 0)] (W := ty_Wor) H Jh44 rfl (fun _ => rfl) rfl rfl rfl (hq_pre_o Ih44.1 (x := 97) (ci := 11) rfl (by decide) rfl rfl rfl rfl) (fun a k w => by unfold ty_Wt at w; unfold ty_Wor; omega) (by unfold ty_Wt ty_Wor; omega) (ct_140 (x1 := z247) (by omega) (by omega) (by omega)) ⟨⟨rfl, show ¬ ty_Wt 97 13 by unfold ty_Wt; omega⟩, ⟨rfl, show ¬ ty_Wt 97 19 by unfold ty_Wt; omega⟩, ⟨rfl, show ¬ ty_Wt 97 20 by unfold ty_Wt; omega⟩, ⟨rfl, show ¬ ty_Wt 97 21 by unfold ty_Wt; omega⟩, ⟨rfl, show ¬ ty_Wt 97 23 by unfold ty_Wt; omega⟩, ⟨rfl, fun k => show ¬ ty_Wt 127 k by unfold ty_Wt; omega⟩, ⟨rfl, fun k => show ¬ ty_Wt 108 k by unfold ty_Wt; omega⟩, ⟨rfl, fun k => show ¬ ty_Wt 109 k by unfold ty_Wt; omega⟩, trivial⟩ (fun h249 _ Jh249 gh249 P248 => ?_)
          obtain ⟨gh249_0, gh249_1, gh249_2, gh249_3, gh249_4, gh249_5, gh249_6, gh249_7, _⟩ := gh249
          have gh249_0 : (hs_fI h249 97 13).toInt = (hs_fI h44 97 13).toInt := gh249_0
          have gh249_1 : (hs_fI h249 97 19).toInt = (hs_fI h44 97 19).toInt := gh249_1
          have gh249_2 : (hs_fI h249 97 20).toInt = (hs_fI h44 97 20).toInt := gh249_2
          have gh249_3 : (hs_fI h249 97 21).toInt = (hs_fI h44 97 21).toInt := gh249_3
          have gh249_4 : (hs_fI h249 97 23).toInt = (hs_fI h44 97 23).toInt := gh249_4
          have gh249_5 : hs_aI h249 127 = hs_aI h44 127 := gh249_5
          have ugh249_5 : hs_aI h249 127 = (hs_aI h30 127) := gh249_5.trans ugh44_2
          have gh249_6 : hs_aI h249 108 = hs_aI h44 108 := gh249_6
          have ugh249_6 : hs_aI h249 108 = (hs_aI h30 108) := gh249_6.trans ugh44_3
          have gh249_7 : hs_aI h249 109 = hs_aI h44 109 := gh249_7
          have ugh249_7 : hs_aI h249 109 = (hs_aI h30 109) := gh249_7.trans ugh44_4
          have Ih249 := H.1 h249 Jh249
          obtain ⟨z250, rfl, fz250⟩ := P248
          exact hq_W.ret rfl rfl rfl ⟨Jh249, ⟨_, rfl⟩, by omega, by omega⟩
      · refine hq_p rfl rfl ?_
        refine hq_p rfl rfl (ty_ge (n := 59) nk_b59 (fun z251 ez251 => ?_))
        refine ty_callp 0 Ih30 rfl (fun _ => rfl) rfl rfl rfl (hq_pre_o Ih30.1 (x := 97) (ci := 11) rfl (by decide) rfl rfl rfl rfl) (ct_174w (x1 := z251) (by omega)) (fun _ P252 => ?_)
        obtain ⟨z253, rfl, az253, bz253, iz253⟩ := P252
        refine ty_zeq rfl (fun c254 => ?_) (fun c254 => ?_)
        · clear iz253
          refine hq_p rfl rfl ?_
          refine ty_callm 0 [(0, 97, 21), (0, 97, 23), (3, 127, 0), (3, 108, 0), (3, 109, 0)] (W := ty_Wor) H Jh30 rfl (fun _ => rfl) rfl rfl rfl (hq_pre_o Ih30.1 (x := 97) (ci := 11) rfl (by decide) rfl rfl rfl rfl) (fun a k w => by unfold ty_Wet at w; unfold ty_Wor; omega) (by unfold ty_Wet ty_Wor; omega) (ct_194 (by omega) x0n31 (by omega)) ⟨⟨rfl, show ¬ ty_Wet 97 21 by unfold ty_Wet; omega⟩, ⟨rfl, show ¬ ty_Wet 97 23 by unfold ty_Wet; omega⟩, ⟨rfl, fun k => show ¬ ty_Wet 127 k by unfold ty_Wet; omega⟩, ⟨rfl, fun k => show ¬ ty_Wet 108 k by unfold ty_Wet; omega⟩, ⟨rfl, fun k => show ¬ ty_Wet 109 k by unfold ty_Wet; omega⟩, trivial⟩ (fun h257 _ Jh257 gh257 P256 => ?_)
          obtain ⟨gh257_0, gh257_1, gh257_2, gh257_3, gh257_4, _⟩ := gh257
          have gh257_0 : (hs_fI h257 97 21).toInt = (hs_fI h30 97 21).toInt := gh257_0
          have gh257_1 : (hs_fI h257 97 23).toInt = (hs_fI h30 97 23).toInt := gh257_1
          have gh257_2 : hs_aI h257 127 = hs_aI h30 127 := gh257_2
          have ugh257_2 : hs_aI h257 127 = (hs_aI h30 127) := gh257_2.trans rfl
          have gh257_3 : hs_aI h257 108 = hs_aI h30 108 := gh257_3
          have ugh257_3 : hs_aI h257 108 = (hs_aI h30 108) := gh257_3.trans rfl
          have gh257_4 : hs_aI h257 109 = hs_aI h30 109 := gh257_4
          have ugh257_4 : hs_aI h257 109 = (hs_aI h30 109) := gh257_4.trans rfl
          have Ih257 := H.1 h257 Jh257
          obtain ⟨rq258, aq258, bq258, cq258, dq258⟩ := P256
          subst rq258
          obtain ⟨q259, eq259⟩ : ∃ q : Int32, q.toInt = (hs_fI h257 97 13).toInt := ⟨_, rfl⟩
          have aq259 : 0 ≤ (hs_fI h257 97 13).toInt := (Ih257.2.1 97 13 (by decide)).1
          have bq259 : (hs_fI h257 97 13).toInt ≤ 400 := (Ih257.2.1 97 13 (by decide)).2
          obtain ⟨q260, eq260⟩ : ∃ q : Int32, q.toInt = (hs_fI h257 97 19).toInt := ⟨_, rfl⟩
          have aq260 : 0 ≤ q260.toInt ∧ q260.toInt ≤ 1 := by omega
          obtain ⟨q261, eq261⟩ : ∃ q : Int32, q.toInt = (hs_fI h257 97 20).toInt := ⟨_, rfl⟩
          have aq261 := nm_lo q261
          have bq261 := nm_hi q261
          refine hq_p rfl rfl ?_
          refine ty_gB Ih257 rfl rfl (by decide) (by decide) rfl (fun z262 ez262 az262 bz262 => ?_)
          refine ty_zeq rfl (fun c263 => ?_) (fun c263 => ?_)
          · have l264 : odp (hs_aI h257 127) (hs_aI h257 108) (hs_aI h257 109) (hs_fI h257 97 21).toInt (hs_fI h257 97 23).toInt := odp_e (x1n31 (by omega)) ugh257_2 ugh257_3 ugh257_4 (by omega) (by omega)
            obtain ⟨R7, eR7⟩ : ∃ R, hs_aI h257 127 = R := ⟨_, rfl⟩
            obtain ⟨R8, eR8⟩ : ∃ R, hs_aI h257 108 = R := ⟨_, rfl⟩
            obtain ⟨R9, eR9⟩ : ∃ R, hs_aI h257 109 = R := ⟨_, rfl⟩
            obtain ⟨nc, enc⟩ : ∃ q : Int, (hs_fI h257 97 21).toInt = q := ⟨_, rfl⟩
            obtain ⟨nn, enn⟩ : ∃ q : Int, (hs_fI h257 97 23).toInt = q := ⟨_, rfl⟩
            rw [eR7, eR8, eR9, enc, enn] at l264
            have hOD := l264
            have nc0 : 0 ≤ nc ∧ nc ≤ 12 := by omega
            have nn0 : nn ≤ 400 := by omega
            obtain ⟨J1, eJ⟩ : ∃ J1 : pm_H → Prop, J1 = fun h' => ((((J h' ∧ hs_aI h' 127 = R7) ∧ hs_aI h' 108 = R8) ∧ hs_aI h' 109 = R9) ∧ (hs_fI h' 97 13).toInt = 0) ∧ (hs_fI h' 97 21).toInt = nc := ⟨_, rfl⟩
            have H1 : ty_C ty_Wrun J1 := by rw [eJ]; exact (((((H.mono (W' := ty_Wrun) (fun a k w => by unfold ty_Wrun at w; unfold ty_Wor; omega) (by unfold ty_Wrun ty_Wor; omega)).arr 127 (by decide) (fun k => by unfold ty_Wrun; omega) R7).arr 108 (by decide) (fun k => by unfold ty_Wrun; omega) R8).arr 109 (by decide) (fun k => by unfold ty_Wrun; omega) R9).fld 97 13 (by decide) (by unfold ty_Wrun; omega) (by decide) 0).fld 97 21 (by decide) (by unfold ty_Wrun; omega) (by decide) nc
            have hJ1 : J1 h257 := by rw [eJ]; exact ⟨⟨⟨⟨⟨Jh257, eR7⟩, eR8⟩, eR9⟩, by omega⟩, enc⟩
            have H := H1
            have a7 : ∀ h', J1 h' → hs_aI h' 127 = R7 ∧ hs_aI h' 108 = R8 ∧ hs_aI h' 109 = R9 ∧ (hs_fI h' 97 13).toInt = 0 ∧ (hs_fI h' 97 21).toInt = nc := fun h' j => by rw [eJ] at j; exact ⟨j.1.1.1.1.2, j.1.1.1.2, j.1.1.2, j.1.2, j.2⟩
            refine hq_p rfl rfl ?_
            refine hq_p rfl rfl (ty_ge (n := 17) nk_b17 (fun z265 ez265 => ?_))
            refine ty_callm 0 [(0, 97, 20)] (W := ty_Wrun) H hJ1 rfl (fun _ => rfl) rfl rfl rfl (hq_pre_o Ih257.1 (x := 97) (ci := 11) rfl (by decide) rfl rfl rfl rfl) (fun a k w => by unfold ty_Wq at w; unfold ty_Wrun; omega) (by unfold ty_Wq ty_Wrun; omega) (ct_143 (x1 := z265) (by omega) (by omega) (by omega)) ⟨⟨rfl, show ¬ ty_Wq 97 20 by unfold ty_Wq; omega⟩, trivial⟩ (fun h267 _ Jh267 gh267 P266 => ?_)
            obtain ⟨gh267_0, _⟩ := gh267
            have gh267_0 : (hs_fI h267 97 20).toInt = (hs_fI h257 97 20).toInt := gh267_0
            have Ih267 := H.1 h267 Jh267
            subst P266
            refine hq_p rfl rfl ?_
            refine ty_gI Ih267 rfl rfl (by decide) (by decide) rfl rfl (fun z268 ez268 az268 bz268 => ?_)
            refine hq_p (ls' := [some (.ref 97), some (.int z268), none, none]) rfl rfl ?_
            refine hq_p rfl rfl (ty_ge (n := 0) nk_i0 (fun z269 ez269 => ?_))
            refine hq_p (ls' := [some (.ref 97), some (.int z268), some (.int z269), none]) rfl rfl ?_
            have L77_n354 : ∀ n354 : Nat, ∀ (y350 : Int32) (h351 : pm_H), (464 - y350.toInt).toNat = n354 → 0 ≤ y350.toInt → y350.toInt ≤ 464 → (hs_fI h351 97 20).toInt = (hs_fI h267 97 20).toInt → J1 h351 → hq_W X d 11 false (some .int) pm_c249 (77, [some (.ref 97), some (.int z268), some (.int y350), none], [], h351) (fun h' v => J h' ∧ (fun h1 v => (∃ z : Int32, v = some (.int z)) ∧ (hs_fI h1 97 13).toInt = 0 ∧ (hs_fI h1 97 20).toInt = 0) h' v) := by
              intro n354
              induction n354 using Nat.strongRecOn with
              | ind n354 ihn354 =>
                intro y350 h351 mn354 ay350 by350 x0n354 Jh351
                have Ih351 := H.1 h351 Jh351
                refine hq_p rfl rfl ?_
                refine hq_p rfl rfl (ty_ge (n := 464) nk_s464 (fun z355 ez355 => ?_))
                refine ty_ige rfl (fun c356 => ?_) (fun c356 => ?_)
                · refine hq_p rfl rfl (ty_ge (n := 0) nk_i0 (fun z357 ez357 => ?_))
                  refine hq_p (ls' := [some (.ref 97), some (.int z268), some (.int z357), none]) rfl rfl ?_
                  have L104_n392 : ∀ n392 : Nat, ∀ (y388 : Int32) (h389 : pm_H), (16 - y388.toInt).toNat = n392 → 0 ≤ y388.toInt → y388.toInt ≤ 16 → (hs_fI h389 97 20).toInt = (hs_fI h351 97 20).toInt → J1 h389 → hq_W X d 11 false (some .int) pm_c249 (104, [some (.ref 97), some (.int z268), some (.int y388), none], [], h389) (fun h' v => J h' ∧ (fun h1 v => (∃ z : Int32, v = some (.int z)) ∧ (hs_fI h1 97 13).toInt = 0 ∧ (hs_fI h1 97 20).toInt = 0) h' v) := by
                    intro n392
                    induction n392 using Nat.strongRecOn with
                    | ind n392 ihn392 =>
                      intro y388 h389 mn392 ay388 by388 x0n392 Jh389
                      have Ih389 := H.1 h389 Jh389
                      refine hq_p rfl rfl ?_
                      refine hq_p rfl rfl (ty_ge (n := 16) nk_b16 (fun z393 ez393 => ?_))
                      refine ty_ige rfl (fun c394 => ?_) (fun c394 => ?_)
                      · refine hq_p rfl rfl ?_
                        refine hq_p rfl rfl (ty_ge (n := 0) nk_i0 (fun z395 ez395 => ?_))
                        refine ty_pI (W := ty_Wrun) H Jh389 rfl rfl (by decide) rfl rfl (by unfold ty_Wrun; omega) rfl (by omega) (by omega) (fun h396 eh396 Jh396 => ?_)
                        have wh396 : (hs_fI h396 97 51).toInt = z395.toInt := by rw [eh396]; exact congrArg Int32.toInt (ty_fI_eq Ih389.1 rfl (by decide) rfl)
                        have Ih396 := H.1 h396 Jh396
                        refine hq_p rfl rfl ?_
                        refine hq_p rfl rfl (ty_ge (n := -1) nk_im1 (fun z397 ez397 => ?_))
                        refine ty_pI (W := ty_Wrun) H Jh396 rfl rfl (by decide) rfl rfl (by unfold ty_Wrun; omega) rfl (by omega) (by omega) (fun h398 eh398 Jh398 => ?_)
                        have wh398 : (hs_fI h398 97 52).toInt = z397.toInt := by rw [eh398]; exact congrArg Int32.toInt (ty_fI_eq Ih396.1 rfl (by decide) rfl)
                        have Ih398 := H.1 h398 Jh398
                        have r399 : (hs_fI h398 97 51).toInt = (hs_fI h396 97 51).toInt := by rw [eh398]; exact congrArg Int32.toInt (ty_fI_sF (by decide))
                        have r400 : (hs_fI h396 97 20).toInt = (hs_fI h389 97 20).toInt := by rw [eh396]; exact congrArg Int32.toInt (ty_fI_sF (by decide))
                        have r401 : (hs_fI h398 97 20).toInt = (hs_fI h396 97 20).toInt := by rw [eh398]; exact congrArg Int32.toInt (ty_fI_sF (by decide))
                        refine hq_p rfl rfl (ty_ge (n := 0) nk_i0 (fun z402 ez402 => ?_))
                        refine hq_p (ls' := [some (.ref 97), some (.int z268), some (.int z402), none]) rfl rfl ?_
                        have L140_n412 : ∀ n412 : Nat, ∀ (y406 : Int32) (w407 : Option Value) (h408 : pm_H), (12 - y406.toInt).toNat = n412 → 0 ≤ y406.toInt → y406.toInt ≤ 12 → pm_two w407 = false → (hs_fI h408 97 20).toInt = 0 → 0 ≤ (hs_fI h408 97 51).toInt ∧ (hs_fI h408 97 51).toInt ≤ 20 * y406.toInt → J1 h408 → hq_W X d 11 false (some .int) pm_c249 (140, [some (.ref 97), some (.int z268), some (.int y406), w407], [], h408) (fun h' v => J h' ∧ (fun h1 v => (∃ z : Int32, v = some (.int z)) ∧ (hs_fI h1 97 13).toInt = 0 ∧ (hs_fI h1 97 20).toInt = 0) h' v) := by
                          intro n412
                          induction n412 using Nat.strongRecOn with
                          | ind n412 ihn412 =>
                            intro y406 w407 h408 mn412 ay406 by406 kw407 x0n412 x1n412 Jh408
                            have Ih408 := H.1 h408 Jh408
                            obtain ⟨q413, eq413⟩ : ∃ q : Int32, q.toInt = (hs_fI h408 97 20).toInt := ⟨_, rfl⟩
                            have aq413 := nm_lo q413
                            have bq413 := nm_hi q413
                            refine hq_p rfl rfl ?_
                            refine hq_p rfl rfl ?_
                            refine ty_gI Ih408 rfl rfl (by decide) (by decide) rfl rfl (fun z414 ez414 az414 bz414 => ?_)
                            have ncz : z414.toInt = nc := by have q := (a7 h408 Jh408).2.2.2.2; omega
                            refine ty_ige rfl (fun c415 => ?_) (fun c415 => ?_)
                            · refine hq_p rfl rfl ?_
                              refine hq_p rfl rfl ?_
                              refine ty_gI Ih408 rfl rfl (by decide) (by decide) rfl rfl (fun z416 ez416 az416 bz416 => ?_)
                              refine ty_callm 0 [(0, 97, 20)] (W := ty_Wrun) H Jh408 rfl (fun _ => rfl) rfl rfl rfl (hq_pre_o Ih408.1 (x := 97) (ci := 11) rfl (by decide) rfl rfl rfl rfl) (fun a k w => by unfold ty_Wt at w; unfold ty_Wrun; omega) (by unfold ty_Wt ty_Wrun; omega) (ct_140 (x1 := z416) (by omega) (by omega) (by omega)) ⟨⟨rfl, show ¬ ty_Wt 97 20 by unfold ty_Wt; omega⟩, trivial⟩ (fun h418 _ Jh418 gh418 P417 => ?_)
                              obtain ⟨gh418_0, _⟩ := gh418
                              have gh418_0 : (hs_fI h418 97 20).toInt = (hs_fI h408 97 20).toInt := gh418_0
                              have Ih418 := H.1 h418 Jh418
                              obtain ⟨z419, rfl, fz419⟩ := P417
                              have t13 := (a7 h418 Jh418).2.2.2.1
                              exact hq_W.ret rfl rfl rfl ⟨(by have q := Jh418; rw [eJ] at q; exact q.1.1.1.1.1), ⟨_, rfl⟩, by omega, by omega⟩
                            · refine hq_p rfl rfl (ty_ge (n := 0) nk_i0 (fun z420 ez420 => ?_))
                              refine hq_p (ls' := [some (.ref 97), some (.int z268), some (.int y406), some (.int z420)]) rfl rfl ?_
                              have L150_n427 : ∀ n427 : Nat, ∀ (y423 : Int32) (h424 : pm_H), (20 - y423.toInt).toNat = n427 → 0 ≤ y423.toInt → y423.toInt ≤ 20 → (hs_fI h424 97 20).toInt = 0 → 0 ≤ (hs_fI h424 97 51).toInt ∧ (hs_fI h424 97 51).toInt ≤ 20 * y406.toInt + y423.toInt → J1 h424 → hq_W X d 11 false (some .int) pm_c249 (150, [some (.ref 97), some (.int z268), some (.int y406), some (.int y423)], [], h424) (fun h' v => J h' ∧ (fun h1 v => (∃ z : Int32, v = some (.int z)) ∧ (hs_fI h1 97 13).toInt = 0 ∧ (hs_fI h1 97 20).toInt = 0) h' v) := by
                                intro n427
                                induction n427 using Nat.strongRecOn with
                                | ind n427 ihn427 =>
                                  intro y423 h424 mn427 ay423 by423 x0n427 x1n427 Jh424
                                  have Ih424 := H.1 h424 Jh424
                                  obtain ⟨q428, eq428⟩ : ∃ q : Int32, q.toInt = (hs_fI h424 97 20).toInt := ⟨_, rfl⟩
                                  have aq428 := nm_lo q428
                                  have bq428 := nm_hi q428
                                  refine hq_p rfl rfl ?_
                                  refine hq_p rfl rfl ?_
                                  refine hq_gR Ih424.1 rfl rfl (by decide) (by decide) rfl ?_
                                  refine hq_p rfl rfl (ty_ge (n := 8) nk_b8 (fun z429 ez429 => ?_))
                                  refine hq_p rfl rfl ?_
                                  refine hq_p rfl rfl (ty_ge (n := 8 * y406.toInt) (nm_cmul ez429 (by omega) (by omega)) (fun z430 ez430 => ?_))
                                  refine hq_p rfl rfl (ty_ge (n := 7) nk_b7 (fun z431 ez431 => ?_))
                                  refine hq_p rfl rfl (ty_ge (n := z430.toInt + z431.toInt) (nm_add (by omega) (by omega)) (fun z432 ez432 => ?_))
                                  refine ty_aL Ih424 rfl rfl (by decide) (by omega) (by omega) (fun _ _ => ty_le rfl) (fun z433 ez433 az433 bz433 => ?_)
                                  have odz433 := hOD y406.toInt.toNat (by omega)
                                  have zzz433 : z433.toInt = pt R7 (8 * y406.toInt.toNat + 7) := by show z433.toInt = (R7 (8 * y406.toInt.toNat + 7)).toInt; rw [ez433, (a7 h424 Jh424).1, show z432.toInt.toNat = 8 * y406.toInt.toNat + 7 by omega]
                                  have zlz433 := odz433.2.2.2.1
                                  have zhz433 := odz433.2.2.2.2
                                  rw [← zzz433] at zlz433 zhz433
                                  refine ty_ige rfl (fun c434 => ?_) (fun c434 => ?_)
                                  · refine ty_inc (ls' := fun z435 => [some (.ref 97), some (.int z268), some (.int z435), some (.int y423)]) rfl rfl (fun _ => rfl) (nm_addc nk_i1 (by omega) (by omega)) (fun z435 ez435 => ?_)
                                    refine hq_p rfl rfl ?_
                                    exact ihn412 ((12 - z435.toInt).toNat) (by omega) z435 (some (.int y423)) h424 rfl (by omega) (by omega) rfl (by omega) (by omega) Jh424
                                  · refine hq_p rfl rfl ?_
                                    refine hq_p rfl rfl (ty_ge (n := 8) nk_b8 (fun z436 ez436 => ?_))
                                    refine hq_p rfl rfl ?_
                                    refine hq_p rfl rfl (ty_ge (n := 8 * y406.toInt) (nm_cmul ez436 (by omega) (by omega)) (fun z437 ez437 => ?_))
                                    have aa := a7 h424 Jh424
                                    refine ty_callj 0 (W := ty_Wrun) H Jh424 rfl (fun _ => rfl) rfl rfl rfl (hq_pre_o Ih424.1 (x := 97) (ci := 11) rfl (by decide) rfl rfl rfl rfl) (fun _ _ w => w) (fun _ w => w) (ct_248z (x1 := z437) (by omega) (by omega) (by omega) (by omega) (c := y406.toInt.toNat) (by omega) (nn := nn) nn0 (by rw [aa.1, aa.2.1, aa.2.2.1]; exact odz433) (by omega)) (fun h439 _ Jh439 P438 => ?_)
                                    have Ih439 := H.1 h439 Jh439
                                    obtain ⟨⟨⟨z440, rfl, az440, bz440⟩, dz440, ez440⟩, oz440⟩ := P438
                                    obtain ⟨q441, eq441⟩ : ∃ q : Int32, q.toInt = (hs_fI h439 97 20).toInt := ⟨_, rfl⟩
                                    have e2q441 : q441.toInt = 0 := by omega
                                    refine ty_zge rfl (fun c442 => ?_) (fun c442 => ?_)
                                    · refine ty_inc (ls' := fun z443 => [some (.ref 97), some (.int z268), some (.int y406), some (.int z443)]) rfl rfl (fun _ => rfl) (nm_addc nk_i1 (by omega) (by omega)) (fun z443 ez443 => ?_)
                                      refine hq_p rfl rfl ?_
                                      exact ihn427 ((20 - z443.toInt).toNat) (by omega) z443 h439 rfl (by omega) (by omega) (by omega) (by omega) Jh439
                                    · refine hq_p rfl rfl ?_
                                      refine hq_p rfl rfl ?_
                                      refine ty_callm 0 [(0, 97, 20)] (W := ty_Wrun) H Jh439 rfl (fun _ => rfl) rfl rfl rfl (hq_pre_o Ih439.1 (x := 97) (ci := 11) rfl (by decide) rfl rfl rfl rfl) (fun a k w => by unfold ty_Wgb at w; unfold ty_Wrun; omega) (by unfold ty_Wgb ty_Wrun; omega) (ct_250 (x1 := z268) (by omega) (by omega) (by omega)) ⟨⟨rfl, show ¬ ty_Wgb 97 20 by unfold ty_Wgb; omega⟩, trivial⟩ (fun h445 _ Jh445 gh445 P444 => ?_)
                                      obtain ⟨gh445_0, _⟩ := gh445
                                      have gh445_0 : (hs_fI h445 97 20).toInt = (hs_fI h439 97 20).toInt := gh445_0
                                      have Ih445 := H.1 h445 Jh445
                                      subst P444
                                      refine hq_p rfl rfl ?_
                                      refine hq_p rfl rfl ?_
                                      refine ty_pI (W := ty_Wrun) H Jh445 rfl rfl (by decide) rfl rfl (by unfold ty_Wrun; omega) rfl (by omega) (by omega) (fun h446 eh446 Jh446 => ?_)
                                      have wh446 : (hs_fI h446 97 53).toInt = y406.toInt := by rw [eh446]; exact congrArg Int32.toInt (ty_fI_eq Ih445.1 rfl (by decide) rfl)
                                      have Ih446 := H.1 h446 Jh446
                                      refine hq_p rfl rfl ?_
                                      refine hq_p rfl rfl (ty_ge (n := -3) nk_bm3 (fun z447 ez447 => ?_))
                                      have r448 : (hs_fI h446 97 20).toInt = (hs_fI h445 97 20).toInt := by rw [eh446]; exact congrArg Int32.toInt (ty_fI_sF (by decide))
                                      refine ty_callm 0 [(0, 97, 20)] (W := ty_Wrun) H Jh446 rfl (fun _ => rfl) rfl rfl rfl (hq_pre_o Ih446.1 (x := 97) (ci := 11) rfl (by decide) rfl rfl rfl rfl) (fun a k w => by unfold ty_Wt at w; unfold ty_Wrun; omega) (by unfold ty_Wt ty_Wrun; omega) (ct_140 (x1 := z447) (by omega) (by omega) (by omega)) ⟨⟨rfl, show ¬ ty_Wt 97 20 by unfold ty_Wt; omega⟩, trivial⟩ (fun h450 _ Jh450 gh450 P449 => ?_)
                                      obtain ⟨gh450_0, _⟩ := gh450
                                      have gh450_0 : (hs_fI h450 97 20).toInt = (hs_fI h446 97 20).toInt := gh450_0
                                      have Ih450 := H.1 h450 Jh450
                                      obtain ⟨z451, rfl, fz451⟩ := P449
                                      have t13 := (a7 h450 Jh450).2.2.2.1
                                      exact hq_W.ret rfl rfl rfl ⟨(by have q := Jh450; rw [eJ] at q; exact q.1.1.1.1.1), ⟨_, rfl⟩, by omega, by omega⟩
                              exact L150_n427 _ z420 h408 rfl (by omega) (by omega) (by omega) (by omega) Jh408
                        exact L140_n412 _ z402 none h398 rfl (by omega) (by omega) rfl (by omega) (by omega) Jh398
                      · refine hq_p rfl rfl ?_
                        refine hq_gR Ih389.1 rfl rfl (by decide) (by decide) rfl ?_
                        refine hq_p rfl rfl ?_
                        refine hq_p rfl rfl ?_
                        refine hq_gR Ih389.1 rfl rfl (by decide) (by decide) rfl ?_
                        refine hq_p rfl rfl ?_
                        refine ty_aL Ih389 rfl rfl (by decide) (by omega) (by omega) (fun _ _ => ty_le rfl) (fun z452 ez452 az452 bz452 => ?_)
                        refine ty_aS (W := ty_Wrun) H Jh389 rfl rfl (by decide) (by omega) (by omega) (fun i e => by unfold ty_Wrun; omega) (fun _ _ => ty_eg rfl) (by omega) (by omega) (fun e1 e2 w => by omega) (fun h453 eh453 Jh453 => ?_)
                        have Ih453 := H.1 h453 Jh453
                        refine ty_inc (ls' := fun z454 => [some (.ref 97), some (.int z268), some (.int z454), none]) rfl rfl (fun _ => rfl) (nm_addc nk_i1 (by omega) (by omega)) (fun z454 ez454 => ?_)
                        refine hq_p rfl rfl ?_
                        have r455 : (hs_fI h453 97 20).toInt = (hs_fI h389 97 20).toInt := by rw [eh453]; exact congrArg Int32.toInt (ty_fI_ne (by omega))
                        exact ihn392 ((16 - z454.toInt).toNat) (by omega) z454 h453 rfl (by omega) (by omega) (by omega) Jh453
                  exact L104_n392 _ z357 h351 rfl (by omega) (by omega) (by omega) Jh351
                · refine hq_p rfl rfl ?_
                  refine hq_gR Ih351.1 rfl rfl (by decide) (by decide) rfl ?_
                  refine hq_p rfl rfl ?_
                  refine hq_p rfl rfl ?_
                  refine hq_gR Ih351.1 rfl rfl (by decide) (by decide) rfl ?_
                  refine hq_p rfl rfl ?_
                  refine ty_aLx Ih351 rfl rfl (by decide) (by omega) (by omega) (fun z456 ez456 az456 bz456 => ?_)
                  refine ty_aS (lo := (ty_a 102 y350.toInt.toNat).1) (hi := (ty_a 102 y350.toInt.toNat).2) (W := ty_Wrun) H Jh351 rfl rfl (by decide) (by omega) (by omega) (fun i e => by unfold ty_Wrun; omega) (fun i e => ty_pe (show ty_sb (5 + i % 29) = ty_sb (5 + y350.toInt.toNat % 29) from congrArg ty_sb (show 5 + i % 29 = 5 + y350.toInt.toNat % 29 by omega))) az456 bz456 (fun e1 e2 w => by omega) (fun h457 eh457 Jh457 => ?_)
                  have Ih457 := H.1 h457 Jh457
                  refine ty_inc (ls' := fun z458 => [some (.ref 97), some (.int z268), some (.int z458), none]) rfl rfl (fun _ => rfl) (nm_addc nk_i1 (by omega) (by omega)) (fun z458 ez458 => ?_)
                  refine hq_p rfl rfl ?_
                  have r459 : (hs_fI h457 97 20).toInt = (hs_fI h351 97 20).toInt := by rw [eh457]; exact congrArg Int32.toInt (ty_fI_ne (by omega))
                  exact ihn354 ((464 - z458.toInt).toNat) (by omega) z458 h457 rfl (by omega) (by omega) (by omega) Jh457
            exact L77_n354 _ z269 h267 rfl (by omega) (by omega) (by omega) Jh267
          · replace c263 : 1 ≤ z262.toInt ∧ z262.toInt ≤ 1 := by omega
            refine hq_p rfl rfl ?_
            refine hq_p rfl rfl (ty_ge (n := -6) nk_bm6 (fun z460 ez460 => ?_))
            refine ty_callm 0 [(0, 97, 13), (0, 97, 19), (0, 97, 20), (0, 97, 21), (0, 97, 23), (3, 127, 0), (3, 108, 0), (3, 109, 0)] (W := ty_Wor) H Jh257 rfl (fun _ => rfl) rfl rfl rfl (hq_pre_o Ih257.1 (x := 97) (ci := 11) rfl (by decide) rfl rfl rfl rfl) (fun a k w => by unfold ty_Wt at w; unfold ty_Wor; omega) (by unfold ty_Wt ty_Wor; omega) (ct_140 (x1 := z460) (by omega) (by omega) (by omega)) ⟨⟨rfl, show ¬ ty_Wt 97 13 by unfold ty_Wt; omega⟩, ⟨rfl, show ¬ ty_Wt 97 19 by unfold ty_Wt; omega⟩, ⟨rfl, show ¬ ty_Wt 97 20 by unfold ty_Wt; omega⟩, ⟨rfl, show ¬ ty_Wt 97 21 by unfold ty_Wt; omega⟩, ⟨rfl, show ¬ ty_Wt 97 23 by unfold ty_Wt; omega⟩, ⟨rfl, fun k => show ¬ ty_Wt 127 k by unfold ty_Wt; omega⟩, ⟨rfl, fun k => show ¬ ty_Wt 108 k by unfold ty_Wt; omega⟩, ⟨rfl, fun k => show ¬ ty_Wt 109 k by unfold ty_Wt; omega⟩, trivial⟩ (fun h462 _ Jh462 gh462 P461 => ?_)
            obtain ⟨gh462_0, gh462_1, gh462_2, gh462_3, gh462_4, gh462_5, gh462_6, gh462_7, _⟩ := gh462
            have gh462_0 : (hs_fI h462 97 13).toInt = (hs_fI h257 97 13).toInt := gh462_0
            have gh462_1 : (hs_fI h462 97 19).toInt = (hs_fI h257 97 19).toInt := gh462_1
            have gh462_2 : (hs_fI h462 97 20).toInt = (hs_fI h257 97 20).toInt := gh462_2
            have gh462_3 : (hs_fI h462 97 21).toInt = (hs_fI h257 97 21).toInt := gh462_3
            have gh462_4 : (hs_fI h462 97 23).toInt = (hs_fI h257 97 23).toInt := gh462_4
            have gh462_5 : hs_aI h462 127 = hs_aI h257 127 := gh462_5
            have ugh462_5 : hs_aI h462 127 = (hs_aI h30 127) := gh462_5.trans ugh257_2
            have gh462_6 : hs_aI h462 108 = hs_aI h257 108 := gh462_6
            have ugh462_6 : hs_aI h462 108 = (hs_aI h30 108) := gh462_6.trans ugh257_3
            have gh462_7 : hs_aI h462 109 = hs_aI h257 109 := gh462_7
            have ugh462_7 : hs_aI h462 109 = (hs_aI h30 109) := gh462_7.trans ugh257_4
            have Ih462 := H.1 h462 Jh462
            obtain ⟨z463, rfl, fz463⟩ := P461
            exact hq_W.ret rfl rfl rfl ⟨Jh462, ⟨_, rfl⟩, by omega, by omega⟩
        · replace c254 : 1 ≤ z253.toInt ∧ z253.toInt ≤ 1 := by omega
          have f464 := iz253 (by omega)
          clear iz253
          refine hq_p rfl rfl ?_
          have t3 := x0n31.2.2.1 (by omega)
          refine ty_callm 0 [(0, 97, 13), (0, 97, 19), (0, 97, 21), (0, 97, 23), (3, 127, 0), (3, 108, 0), (3, 109, 0)] (W := ty_Wor) H Jh30 rfl (fun _ => rfl) rfl rfl rfl (hq_pre_o Ih30.1 (x := 97) (ci := 11) rfl (by decide) rfl rfl rfl rfl) (fun a k w => by unfold ty_Wn at w; unfold ty_Wor; omega) (by unfold ty_Wn ty_Wor; omega) (ct_172w (by omega) (by omega)) ⟨⟨rfl, show ¬ ty_Wn 97 13 by unfold ty_Wn; omega⟩, ⟨rfl, show ¬ ty_Wn 97 19 by unfold ty_Wn; omega⟩, ⟨rfl, show ¬ ty_Wn 97 21 by unfold ty_Wn; omega⟩, ⟨rfl, show ¬ ty_Wn 97 23 by unfold ty_Wn; omega⟩, ⟨rfl, fun k => show ¬ ty_Wn 127 k by unfold ty_Wn; omega⟩, ⟨rfl, fun k => show ¬ ty_Wn 108 k by unfold ty_Wn; omega⟩, ⟨rfl, fun k => show ¬ ty_Wn 109 k by unfold ty_Wn; omega⟩, trivial⟩ (fun h466 _ Jh466 gh466 P465 => ?_)
          obtain ⟨gh466_0, gh466_1, gh466_2, gh466_3, gh466_4, gh466_5, gh466_6, _⟩ := gh466
          have gh466_0 : (hs_fI h466 97 13).toInt = (hs_fI h30 97 13).toInt := gh466_0
          have gh466_1 : (hs_fI h466 97 19).toInt = (hs_fI h30 97 19).toInt := gh466_1
          have gh466_2 : (hs_fI h466 97 21).toInt = (hs_fI h30 97 21).toInt := gh466_2
          have gh466_3 : (hs_fI h466 97 23).toInt = (hs_fI h30 97 23).toInt := gh466_3
          have gh466_4 : hs_aI h466 127 = hs_aI h30 127 := gh466_4
          have ugh466_4 : hs_aI h466 127 = (hs_aI h30 127) := gh466_4.trans rfl
          have gh466_5 : hs_aI h466 108 = hs_aI h30 108 := gh466_5
          have ugh466_5 : hs_aI h466 108 = (hs_aI h30 108) := gh466_5.trans rfl
          have gh466_6 : hs_aI h466 109 = hs_aI h30 109 := gh466_6
          have ugh466_6 : hs_aI h466 109 = (hs_aI h30 109) := gh466_6.trans rfl
          have Ih466 := H.1 h466 Jh466
          obtain ⟨rq467, fq467, kq467⟩ := P465
          subst rq467
          have t1kq467 := kq467.1
          have t2kq467 := kq467.2.1
          obtain ⟨q468, eq468⟩ : ∃ q : Int32, q.toInt = (hs_fI h466 97 14).toInt := ⟨_, rfl⟩
          have aq468 : 0 ≤ (hs_fI h466 97 14).toInt := (Ih466.2.1 97 14 (by decide)).1
          have bq468 : (hs_fI h466 97 14).toInt ≤ 400 := (Ih466.2.1 97 14 (by decide)).2
          obtain ⟨q469, eq469⟩ : ∃ q : Int32, q.toInt = (hs_fI h466 97 15).toInt := ⟨_, rfl⟩
          have aq469 : 0 ≤ (hs_fI h466 97 15).toInt := (Ih466.2.1 97 15 (by decide)).1
          have bq469 : (hs_fI h466 97 15).toInt ≤ 400 := (Ih466.2.1 97 15 (by decide)).2
          obtain ⟨q470, eq470⟩ : ∃ q : Int32, q.toInt = (hs_fI h466 97 16).toInt := ⟨_, rfl⟩
          have aq470 := nm_lo q470
          have bq470 := nm_hi q470
          obtain ⟨q471, eq471⟩ : ∃ q : Int64, q.toInt = (hs_fL h466 97 17).toInt := ⟨_, rfl⟩
          have aq471 := nm_llo q471
          have bq471 := nm_lhi q471
          refine hq_p rfl rfl ?_
          have l473 : odp (hs_aI h466 127) (hs_aI h466 108) (hs_aI h466 109) (hs_fI h466 97 21).toInt (hs_fI h466 97 23).toInt := odp_e (x1n31 (by omega)) ugh466_4 ugh466_5 ugh466_6 (by omega) (by omega)
          refine ty_callm 0 [(0, 97, 13)] (W := ty_Wor) H Jh466 rfl (fun _ => rfl) rfl rfl rfl (hq_pre_o Ih466.1 (x := 97) (ci := 11) rfl (by decide) rfl rfl rfl rfl) (fun a k w => by unfold ty_Wro at w; unfold ty_Wor; omega) (by unfold ty_Wro ty_Wor; omega) (ct_245 (by omega) (by omega) kq467 (by omega) l473) ⟨⟨rfl, show ¬ ty_Wro 97 13 by unfold ty_Wro; omega⟩, trivial⟩ (fun h475 _ Jh475 gh475 P474 => ?_)
          obtain ⟨gh475_0, _⟩ := gh475
          have gh475_0 : (hs_fI h475 97 13).toInt = (hs_fI h466 97 13).toInt := gh475_0
          have Ih475 := H.1 h475 Jh475
          obtain ⟨rq476, kq476, fq476, oq476, nq476, cq476⟩ := P474
          subst rq476
          obtain ⟨q477, eq477⟩ : ∃ q : Int32, q.toInt = (hs_fI h475 97 14).toInt := ⟨_, rfl⟩
          have aq477 : 0 ≤ (hs_fI h475 97 14).toInt := (Ih475.2.1 97 14 (by decide)).1
          have bq477 : (hs_fI h475 97 14).toInt ≤ 400 := (Ih475.2.1 97 14 (by decide)).2
          obtain ⟨q478, eq478⟩ : ∃ q : Int32, q.toInt = (hs_fI h475 97 15).toInt := ⟨_, rfl⟩
          have aq478 : 0 ≤ (hs_fI h475 97 15).toInt := (Ih475.2.1 97 15 (by decide)).1
          have bq478 : (hs_fI h475 97 15).toInt ≤ 400 := (Ih475.2.1 97 15 (by decide)).2
          obtain ⟨q479, eq479⟩ : ∃ q : Int32, q.toInt = (hs_fI h475 97 16).toInt := ⟨_, rfl⟩
          have aq479 := nm_lo q479
          have bq479 := nm_hi q479
          obtain ⟨q480, eq480⟩ : ∃ q : Int32, q.toInt = (hs_fI h475 97 19).toInt := ⟨_, rfl⟩
          have aq480 : 0 ≤ q480.toInt ∧ q480.toInt ≤ 1 := by omega
          obtain ⟨q481, eq481⟩ : ∃ q : Int32, q.toInt = (hs_fI h475 97 21).toInt := ⟨_, rfl⟩
          have aq481 : 0 ≤ (hs_fI h475 97 21).toInt := (Ih475.2.1 97 21 (by decide)).1
          have bq481 : (hs_fI h475 97 21).toInt ≤ 12 := (Ih475.2.1 97 21 (by decide)).2
          obtain ⟨q482, eq482⟩ : ∃ q : Int32, q.toInt = (hs_fI h475 97 23).toInt := ⟨_, rfl⟩
          have aq482 : 0 ≤ (hs_fI h475 97 23).toInt := (Ih475.2.1 97 23 (by decide)).1
          have bq482 : (hs_fI h475 97 23).toInt ≤ 400 := (Ih475.2.1 97 23 (by decide)).2
          obtain ⟨q483, eq483⟩ : ∃ q : Int64, q.toInt = (hs_fL h475 97 17).toInt := ⟨_, rfl⟩
          have aq483 := nm_llo q483
          have bq483 := nm_lhi q483
          have t1kq476 := kq476.1
          have t2kq476 := kq476.2.1
          refine hq_p rfl rfl ?_
          exact ihn31 ((401 - (hs_fI h475 97 14).toInt).toNat) (by omega) h475 rfl kq476 (fun q => (cq476 q).2) (by omega) (by omega) Jh475
  exact L19_n31 _ h20 rfl kq21 (fun q => (cq21 q).2) (by omega) (by omega) Jh20
end CT60
