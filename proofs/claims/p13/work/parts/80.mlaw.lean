/-! CONTRACTS (printed by wip/pm/cts.py) -/
section CT54
def ty_Wla (a k : Nat) : Prop := (a = 97 ∧ (k = 0 ∨ k = 1 ∨ (13 ≤ k ∧ k ≤ 21) ∨ k = 23 ∨ k = 26 ∨ k = 29 ∨ k = 30)) ∨ a = 98 ∨ (107 ≤ a ∧ a ≤ 111)
def lwz (h : pm_H) : Prop := (hs_fI h 97 19).toInt = 0 → lwp (hs_aI h 107) (hs_aI h 108) (hs_aI h 109) (hs_fI h 97 21).toInt (hs_fI h 97 23).toInt
set_option maxRecDepth 8000 in
set_option maxHeartbeats 20000000 in
theorem ct_196 {X : pm_X} {d : Nat} {h : pm_H}  (hd : 9 ≤ d) {J : pm_H → Prop} (H : ty_C ty_Wla J) (hJ : J h) (ho : (hs_fI h 97 20).toInt = 0) (hL : ∀ h h1, J h → ty_I h1 → h1.1 = h.1 → h1.2.1 = h.2.1 → (∀ b, b ≠ 99 → h1.2.2 b = h.2.2 b) → (hs_aI h1 99 5).toInt = (hs_aI h 99 5).toInt → J h1) : hq_M X d 196 [.ref 97] h (fun h' v => J h' ∧ (fun h1 v => (∃ z : Int32, v = some (.int z)) ∧ (hs_fI h1 97 13).toInt = 0 ∧ (hs_fI h1 97 20).toInt = 0) h' v) := by
  obtain ⟨d, rfl⟩ : ∃ e, d = e + 1 := ⟨d - 1, by omega⟩
  have I := H.1 h hJ
  refine hq_M.enter (q := (⟨"TrainBearersModel", "law", "()I"⟩, _, 3, some .int, 11, 1, pm_c196)) rfl rfl ?_
  show hq_W X d 11 false (some .int) pm_c196 (0, [some (.ref 97), none, none], [], h) (fun h' v => J h' ∧ (fun h1 v => (∃ z : Int32, v = some (.int z)) ∧ (hs_fI h1 97 13).toInt = 0 ∧ (hs_fI h1 97 20).toInt = 0) h' v)
  obtain ⟨q1, eq1⟩ : ∃ q : Int32, q.toInt = (hs_fI h 97 13).toInt := ⟨_, rfl⟩
  have aq1 : 0 ≤ (hs_fI h 97 13).toInt := (I.2.1 97 13 (by decide)).1
  have bq1 : (hs_fI h 97 13).toInt ≤ 400 := (I.2.1 97 13 (by decide)).2
  obtain ⟨q2, eq2⟩ : ∃ q : Int32, q.toInt = (hs_fI h 97 20).toInt := ⟨_, rfl⟩
  have aq2 := nm_lo q2
  have bq2 := nm_hi q2
  refine hq_p rfl rfl ?_
  refine hq_p rfl rfl (ty_ge (n := 0) nk_i0 (fun z3 ez3 => ?_))
  refine ty_pI (W := ty_Wla) H hJ rfl rfl (by decide) rfl rfl (by unfold ty_Wla; omega) rfl (by omega) (by omega) (fun h4 eh4 Jh4 => ?_)
  have wh4 : (hs_fI h4 97 0).toInt = z3.toInt := by rw [eh4]; exact congrArg Int32.toInt (ty_fI_eq I.1 rfl (by decide) rfl)
  have Ih4 := H.1 h4 Jh4
  refine hq_p rfl rfl ?_
  refine hq_gR Ih4.1 rfl rfl (by decide) (by decide) rfl ?_
  refine hq_p rfl rfl (ty_ge (n := 3) nk_i3 (fun z5 ez5 => ?_))
  refine ty_aL Ih4 rfl rfl (by decide) (by omega) (by omega) (fun i e => ty_le (ty_w2 (by omega) (by omega))) (fun z6 ez6 az6 bz6 => ?_)
  rw [show z5.toInt.toNat = 3 by omega] at ez6
  refine hq_p rfl rfl (ty_ge (n := 6) nk_b6 (fun z7 ez7 => ?_))
  refine ty_ine rfl (fun c8 => ?_) (fun c8 => ?_)
  · replace c8 : 0 ≤ z6.toInt ∧ z6.toInt ≤ 5 := by omega
    refine hq_p rfl rfl ?_
    refine hq_p rfl rfl (ty_ge (n := 0) nk_i0 (fun z9 ez9 => ?_))
    have r12 : (hs_fI h4 97 13).toInt = (hs_fI h 97 13).toInt := by rw [eh4]; exact congrArg Int32.toInt (ty_fI_sF (by decide))
    have r13 : (hs_aI h4 99 3).toInt = (hs_aI h 99 3).toInt := by rw [eh4]; exact congrArg Int32.toInt (ty_aI_ne (by omega))
    refine ty_callm 0 [(0, 97, 13), (1, 99, 3)] (W := ty_Wla) H Jh4 rfl (fun _ => rfl) rfl rfl rfl (hq_pre_o Ih4.1 (x := 97) (ci := 11) rfl (by decide) rfl rfl rfl rfl) (fun a k w => by unfold ty_Wbt at w; unfold ty_Wla; omega) (by unfold ty_Wbt ty_Wla; omega) (ct_193 (x1 := z9) (by omega) (by omega) (by omega)) ⟨⟨rfl, show ¬ ty_Wbt 97 13 by unfold ty_Wbt; omega⟩, ⟨rfl, show ¬ ty_Wbt 99 3 by unfold ty_Wbt; omega⟩, trivial⟩ (fun h11 _ Jh11 gh11 P10 => ?_)
    obtain ⟨gh11_0, gh11_1, _⟩ := gh11
    have gh11_0 : (hs_fI h11 97 13).toInt = (hs_fI h4 97 13).toInt := gh11_0
    have gh11_1 : (hs_aI h11 99 3).toInt = (hs_aI h4 99 3).toInt := gh11_1
    have Ih11 := H.1 h11 Jh11
    obtain ⟨rq14, kq14, bq14, cq14, nq14⟩ := P10
    subst rq14
    obtain ⟨q15, eq15⟩ : ∃ q : Int32, q.toInt = (hs_fI h11 97 14).toInt := ⟨_, rfl⟩
    have aq15 : 0 ≤ (hs_fI h11 97 14).toInt := (Ih11.2.1 97 14 (by decide)).1
    have bq15 : (hs_fI h11 97 14).toInt ≤ 400 := (Ih11.2.1 97 14 (by decide)).2
    obtain ⟨q16, eq16⟩ : ∃ q : Int32, q.toInt = (hs_fI h11 97 15).toInt := ⟨_, rfl⟩
    have aq16 : 0 ≤ (hs_fI h11 97 15).toInt := (Ih11.2.1 97 15 (by decide)).1
    have bq16 : (hs_fI h11 97 15).toInt ≤ 400 := (Ih11.2.1 97 15 (by decide)).2
    obtain ⟨q17, eq17⟩ : ∃ q : Int32, q.toInt = (hs_fI h11 97 16).toInt := ⟨_, rfl⟩
    have aq17 := nm_lo q17
    have bq17 := nm_hi q17
    obtain ⟨q18, eq18⟩ : ∃ q : Int32, q.toInt = (hs_fI h11 97 19).toInt := ⟨_, rfl⟩
    have aq18 : 0 ≤ q18.toInt ∧ q18.toInt ≤ 1 := by omega
    obtain ⟨q19, eq19⟩ : ∃ q : Int32, q.toInt = (hs_fI h11 97 21).toInt := ⟨_, rfl⟩
    have aq19 : 0 ≤ (hs_fI h11 97 21).toInt := (Ih11.2.1 97 21 (by decide)).1
    have bq19 : (hs_fI h11 97 21).toInt ≤ 12 := (Ih11.2.1 97 21 (by decide)).2
    obtain ⟨q20, eq20⟩ : ∃ q : Int32, q.toInt = (hs_fI h11 97 23).toInt := ⟨_, rfl⟩
    have aq20 : 0 ≤ (hs_fI h11 97 23).toInt := (Ih11.2.1 97 23 (by decide)).1
    have bq20 : (hs_fI h11 97 23).toInt ≤ 400 := (Ih11.2.1 97 23 (by decide)).2
    obtain ⟨q21, eq21⟩ : ∃ q : Int64, q.toInt = (hs_fL h11 97 17).toInt := ⟨_, rfl⟩
    have aq21 := nm_llo q21
    have bq21 := nm_lhi q21
    have t1kq14 := kq14.1
    have t2kq14 := kq14.2.1
    refine hq_p rfl rfl ?_
    refine ty_callm 0 [(0, 97, 13), (1, 99, 3)] (W := ty_Wla) H Jh11 rfl (fun _ => rfl) rfl rfl rfl (hq_pre_o Ih11.1 (x := 97) (ci := 11) rfl (by decide) rfl rfl rfl rfl) (fun a k w => by unfold ty_Wrl at w; unfold ty_Wla; omega) (by unfold ty_Wrl ty_Wla; omega) (ct_195 (by omega) (by omega) kq14 (by omega) (lwp_0 (by omega))) ⟨⟨rfl, show ¬ ty_Wrl 97 13 by unfold ty_Wrl; omega⟩, ⟨rfl, show ¬ ty_Wrl 99 3 by unfold ty_Wrl; omega⟩, trivial⟩ (fun h24 _ Jh24 gh24 P23 => ?_)
    obtain ⟨gh24_0, gh24_1, _⟩ := gh24
    have gh24_0 : (hs_fI h24 97 13).toInt = (hs_fI h11 97 13).toInt := gh24_0
    have gh24_1 : (hs_aI h24 99 3).toInt = (hs_aI h11 99 3).toInt := gh24_1
    have Ih24 := H.1 h24 Jh24
    obtain ⟨rq25, kq25, fq25, oq25, nq25, cq25⟩ := P23
    subst rq25
    obtain ⟨q26, eq26⟩ : ∃ q : Int32, q.toInt = (hs_fI h24 97 14).toInt := ⟨_, rfl⟩
    have aq26 : 0 ≤ (hs_fI h24 97 14).toInt := (Ih24.2.1 97 14 (by decide)).1
    have bq26 : (hs_fI h24 97 14).toInt ≤ 400 := (Ih24.2.1 97 14 (by decide)).2
    obtain ⟨q27, eq27⟩ : ∃ q : Int32, q.toInt = (hs_fI h24 97 15).toInt := ⟨_, rfl⟩
    have aq27 : 0 ≤ (hs_fI h24 97 15).toInt := (Ih24.2.1 97 15 (by decide)).1
    have bq27 : (hs_fI h24 97 15).toInt ≤ 400 := (Ih24.2.1 97 15 (by decide)).2
    obtain ⟨q28, eq28⟩ : ∃ q : Int32, q.toInt = (hs_fI h24 97 16).toInt := ⟨_, rfl⟩
    have aq28 := nm_lo q28
    have bq28 := nm_hi q28
    obtain ⟨q29, eq29⟩ : ∃ q : Int32, q.toInt = (hs_fI h24 97 19).toInt := ⟨_, rfl⟩
    have aq29 : 0 ≤ q29.toInt ∧ q29.toInt ≤ 1 := by omega
    obtain ⟨q30, eq30⟩ : ∃ q : Int32, q.toInt = (hs_fI h24 97 21).toInt := ⟨_, rfl⟩
    have aq30 : 0 ≤ (hs_fI h24 97 21).toInt := (Ih24.2.1 97 21 (by decide)).1
    have bq30 : (hs_fI h24 97 21).toInt ≤ 12 := (Ih24.2.1 97 21 (by decide)).2
    obtain ⟨q31, eq31⟩ : ∃ q : Int32, q.toInt = (hs_fI h24 97 23).toInt := ⟨_, rfl⟩
    have aq31 : 0 ≤ (hs_fI h24 97 23).toInt := (Ih24.2.1 97 23 (by decide)).1
    have bq31 : (hs_fI h24 97 23).toInt ≤ 400 := (Ih24.2.1 97 23 (by decide)).2
    obtain ⟨q32, eq32⟩ : ∃ q : Int64, q.toInt = (hs_fL h24 97 17).toInt := ⟨_, rfl⟩
    have aq32 := nm_llo q32
    have bq32 := nm_lhi q32
    have t1kq25 := kq25.1
    have t2kq25 := kq25.2.1
    have L37_n35 : ∀ n35 : Nat, ∀ (h34 : pm_H), (401 - (hs_fI h34 97 14).toInt).toNat = n35 → tk_ok h34 → lwz h34 → (hs_fI h34 97 23).toInt ≤ (hs_fI h34 97 14).toInt → ((hs_fI h34 97 19).toInt = 0 ∨ (hs_fI h34 97 19).toInt = 1) → (hs_aI h34 99 3).toInt = (hs_aI h24 99 3).toInt → J h34 → hq_W X d 11 false (some .int) pm_c196 (37, [some (.ref 97), none, none], [], h34) (fun h' v => J h' ∧ (fun h1 v => (∃ z : Int32, v = some (.int z)) ∧ (hs_fI h1 97 13).toInt = 0 ∧ (hs_fI h1 97 20).toInt = 0) h' v) := by
      intro n35
      induction n35 using Nat.strongRecOn with
      | ind n35 ihn35 =>
        intro h34 mn35 x0n35 x1n35 x2n35 x3n35 x4n35 Jh34
        have Ih34 := H.1 h34 Jh34
        have w1h34 := x0n35.1
        have w2h34 := x0n35.2.1
        obtain ⟨q36, eq36⟩ : ∃ q : Int32, q.toInt = (hs_fI h34 97 13).toInt := ⟨_, rfl⟩
        have aq36 : 0 ≤ (hs_fI h34 97 13).toInt := (Ih34.2.1 97 13 (by decide)).1
        have bq36 : (hs_fI h34 97 13).toInt ≤ 400 := (Ih34.2.1 97 13 (by decide)).2
        obtain ⟨q37, eq37⟩ : ∃ q : Int32, q.toInt = (hs_fI h34 97 14).toInt := ⟨_, rfl⟩
        have aq37 : 0 ≤ (hs_fI h34 97 14).toInt := (Ih34.2.1 97 14 (by decide)).1
        have bq37 : (hs_fI h34 97 14).toInt ≤ 400 := (Ih34.2.1 97 14 (by decide)).2
        obtain ⟨q38, eq38⟩ : ∃ q : Int32, q.toInt = (hs_fI h34 97 15).toInt := ⟨_, rfl⟩
        have aq38 : 0 ≤ (hs_fI h34 97 15).toInt := (Ih34.2.1 97 15 (by decide)).1
        have bq38 : (hs_fI h34 97 15).toInt ≤ 400 := (Ih34.2.1 97 15 (by decide)).2
        obtain ⟨q39, eq39⟩ : ∃ q : Int32, q.toInt = (hs_fI h34 97 16).toInt := ⟨_, rfl⟩
        have aq39 := nm_lo q39
        have bq39 := nm_hi q39
        obtain ⟨q40, eq40⟩ : ∃ q : Int32, q.toInt = (hs_fI h34 97 19).toInt := ⟨_, rfl⟩
        have aq40 : 0 ≤ q40.toInt ∧ q40.toInt ≤ 1 := by omega
        obtain ⟨q41, eq41⟩ : ∃ q : Int32, q.toInt = (hs_fI h34 97 21).toInt := ⟨_, rfl⟩
        have aq41 : 0 ≤ (hs_fI h34 97 21).toInt := (Ih34.2.1 97 21 (by decide)).1
        have bq41 : (hs_fI h34 97 21).toInt ≤ 12 := (Ih34.2.1 97 21 (by decide)).2
        obtain ⟨q42, eq42⟩ : ∃ q : Int32, q.toInt = (hs_fI h34 97 23).toInt := ⟨_, rfl⟩
        have aq42 : 0 ≤ (hs_fI h34 97 23).toInt := (Ih34.2.1 97 23 (by decide)).1
        have bq42 : (hs_fI h34 97 23).toInt ≤ 400 := (Ih34.2.1 97 23 (by decide)).2
        obtain ⟨q43, eq43⟩ : ∃ q : Int64, q.toInt = (hs_fL h34 97 17).toInt := ⟨_, rfl⟩
        have aq43 := nm_llo q43
        have bq43 := nm_lhi q43
        refine hq_p rfl rfl ?_
        refine ty_gB Ih34 rfl rfl (by decide) (by decide) rfl (fun z44 ez44 az44 bz44 => ?_)
        refine ty_zne rfl (fun c45 => ?_) (fun c45 => ?_)
        · replace c45 : 1 ≤ z44.toInt ∧ z44.toInt ≤ 1 := by omega
          refine hq_p rfl rfl ?_
          refine ty_callm 0 [(0, 97, 21), (0, 97, 23), (3, 107, 0), (3, 108, 0), (3, 109, 0), (1, 99, 3)] (W := ty_Wla) H Jh34 rfl (fun _ => rfl) rfl rfl rfl (hq_pre_o Ih34.1 (x := 97) (ci := 11) rfl (by decide) rfl rfl rfl rfl) (fun a k w => by unfold ty_Wet at w; unfold ty_Wla; omega) (by unfold ty_Wet ty_Wla; omega) (ct_194 (by omega) x0n35 (by omega)) ⟨⟨rfl, show ¬ ty_Wet 97 21 by unfold ty_Wet; omega⟩, ⟨rfl, show ¬ ty_Wet 97 23 by unfold ty_Wet; omega⟩, ⟨rfl, fun k => show ¬ ty_Wet 107 k by unfold ty_Wet; omega⟩, ⟨rfl, fun k => show ¬ ty_Wet 108 k by unfold ty_Wet; omega⟩, ⟨rfl, fun k => show ¬ ty_Wet 109 k by unfold ty_Wet; omega⟩, ⟨rfl, show ¬ ty_Wet 99 3 by unfold ty_Wet; omega⟩, trivial⟩ (fun h48 _ Jh48 gh48 P47 => ?_)
          obtain ⟨gh48_0, gh48_1, gh48_2, gh48_3, gh48_4, gh48_5, _⟩ := gh48
          have gh48_0 : (hs_fI h48 97 21).toInt = (hs_fI h34 97 21).toInt := gh48_0
          have gh48_1 : (hs_fI h48 97 23).toInt = (hs_fI h34 97 23).toInt := gh48_1
          have gh48_2 : hs_aI h48 107 = hs_aI h34 107 := gh48_2
          have ugh48_2 : hs_aI h48 107 = (hs_aI h34 107) := gh48_2.trans rfl
          have gh48_3 : hs_aI h48 108 = hs_aI h34 108 := gh48_3
          have ugh48_3 : hs_aI h48 108 = (hs_aI h34 108) := gh48_3.trans rfl
          have gh48_4 : hs_aI h48 109 = hs_aI h34 109 := gh48_4
          have ugh48_4 : hs_aI h48 109 = (hs_aI h34 109) := gh48_4.trans rfl
          have gh48_5 : (hs_aI h48 99 3).toInt = (hs_aI h34 99 3).toInt := gh48_5
          have Ih48 := H.1 h48 Jh48
          obtain ⟨rq49, aq49, bq49, cq49, dq49⟩ := P47
          subst rq49
          obtain ⟨q50, eq50⟩ : ∃ q : Int32, q.toInt = (hs_fI h48 97 13).toInt := ⟨_, rfl⟩
          have aq50 : 0 ≤ (hs_fI h48 97 13).toInt := (Ih48.2.1 97 13 (by decide)).1
          have bq50 : (hs_fI h48 97 13).toInt ≤ 400 := (Ih48.2.1 97 13 (by decide)).2
          obtain ⟨q51, eq51⟩ : ∃ q : Int32, q.toInt = (hs_fI h48 97 19).toInt := ⟨_, rfl⟩
          have aq51 : 0 ≤ q51.toInt ∧ q51.toInt ≤ 1 := by omega
          obtain ⟨q52, eq52⟩ : ∃ q : Int32, q.toInt = (hs_fI h48 97 20).toInt := ⟨_, rfl⟩
          have aq52 := nm_lo q52
          have bq52 := nm_hi q52
          refine hq_p rfl rfl ?_
          refine ty_gB Ih48 rfl rfl (by decide) (by decide) rfl (fun z53 ez53 az53 bz53 => ?_)
          refine ty_zeq rfl (fun c54 => ?_) (fun c54 => ?_)
          · have l55 : lwp (hs_aI h48 107) (hs_aI h48 108) (hs_aI h48 109) (hs_fI h48 97 21).toInt (hs_fI h48 97 23).toInt := lwp_e (x1n35 (by omega)) ugh48_2 ugh48_3 ugh48_4 (by omega) (by omega)
            refine la_copy Ih48 (by omega) (by omega) l55 (fun h56 z57 z58 Ih56 m1 m2 m3 m4 m5 => ?_)
            have Jh56 := hL h48 h56 Jh48 Ih56 m1 m2 m3 m4
            have gh56_13 : (hs_fI h56 97 13).toInt = (hs_fI h48 97 13).toInt := by unfold hs_fI hs_fV hs_vs; rw [m3 97 (by decide)]
            have gh56_20 : (hs_fI h56 97 20).toInt = (hs_fI h48 97 20).toInt := by unfold hs_fI hs_fV hs_vs; rw [m3 97 (by decide)]
            have az57 := nm_lo z57
            have bz57 := nm_hi z57
            have az58 := nm_lo z58
            have bz58 := nm_hi z58
            refine hq_p rfl rfl ?_
            refine hq_p rfl rfl ?_
            refine hq_gR Ih56.1 rfl rfl (by decide) (by decide) rfl ?_
            refine hq_p rfl rfl (ty_ge (n := 3) nk_i3 (fun z59 ez59 => ?_))
            refine ty_aL Ih56 rfl rfl (by decide) (by omega) (by omega) (fun i e => ty_le (ty_w2 (by omega) (by omega))) (fun z60 ez60 az60 bz60 => ?_)
            rw [show z59.toInt.toNat = 3 by omega] at ez60
            refine hq_p rfl rfl (ty_ge (n := 1) nk_i1 (fun z61 ez61 => ?_))
            refine hq_p rfl rfl (ty_ge (n := z60.toInt - z61.toInt) (nm_sub (by omega) (by omega)) (fun z62 ez62 => ?_))
            refine ty_callm 0 [(0, 97, 13), (0, 97, 20), (1, 99, 3)] (W := ty_Wla) H Jh56 rfl (fun _ => rfl) rfl rfl rfl (hq_pre_o Ih56.1 (x := 97) (ci := 11) rfl (by decide) rfl rfl rfl rfl) (fun a k w => by unfold ty_Wt at w; unfold ty_Wla; omega) (by unfold ty_Wt ty_Wla; omega) (ct_140 (x1 := z62) (by omega) (by omega) (by omega)) ⟨⟨rfl, show ¬ ty_Wt 97 13 by unfold ty_Wt; omega⟩, ⟨rfl, show ¬ ty_Wt 97 20 by unfold ty_Wt; omega⟩, ⟨rfl, show ¬ ty_Wt 99 3 by unfold ty_Wt; omega⟩, trivial⟩ (fun h64 _ Jh64 gh64 P63 => ?_)
            obtain ⟨gh64_0, gh64_1, gh64_2, _⟩ := gh64
            have gh64_0 : (hs_fI h64 97 13).toInt = (hs_fI h56 97 13).toInt := gh64_0
            have gh64_1 : (hs_fI h64 97 20).toInt = (hs_fI h56 97 20).toInt := gh64_1
            have gh64_2 : (hs_aI h64 99 3).toInt = (hs_aI h56 99 3).toInt := gh64_2
            have Ih64 := H.1 h64 Jh64
            obtain ⟨z65, rfl, fz65⟩ := P63
            exact hq_W.ret rfl rfl rfl ⟨Jh64, ⟨_, rfl⟩, by omega, by omega⟩
          · replace c54 : 1 ≤ z53.toInt ∧ z53.toInt ≤ 1 := by omega
            refine hq_p rfl rfl ?_
            refine hq_p rfl rfl (ty_ge (n := -6) nk_bm6 (fun z66 ez66 => ?_))
            refine ty_callm 0 [(0, 97, 13), (0, 97, 19), (0, 97, 20), (0, 97, 21), (0, 97, 23), (3, 107, 0), (3, 108, 0), (3, 109, 0), (1, 99, 3)] (W := ty_Wla) H Jh48 rfl (fun _ => rfl) rfl rfl rfl (hq_pre_o Ih48.1 (x := 97) (ci := 11) rfl (by decide) rfl rfl rfl rfl) (fun a k w => by unfold ty_Wt at w; unfold ty_Wla; omega) (by unfold ty_Wt ty_Wla; omega) (ct_140 (x1 := z66) (by omega) (by omega) (by omega)) ⟨⟨rfl, show ¬ ty_Wt 97 13 by unfold ty_Wt; omega⟩, ⟨rfl, show ¬ ty_Wt 97 19 by unfold ty_Wt; omega⟩, ⟨rfl, show ¬ ty_Wt 97 20 by unfold ty_Wt; omega⟩, ⟨rfl, show ¬ ty_Wt 97 21 by unfold ty_Wt; omega⟩, ⟨rfl, show ¬ ty_Wt 97 23 by unfold ty_Wt; omega⟩, ⟨rfl, fun k => show ¬ ty_Wt 107 k by unfold ty_Wt; omega⟩, ⟨rfl, fun k => show ¬ ty_Wt 108 k by unfold ty_Wt; omega⟩, ⟨rfl, fun k => show ¬ ty_Wt 109 k by unfold ty_Wt; omega⟩, ⟨rfl, show ¬ ty_Wt 99 3 by unfold ty_Wt; omega⟩, trivial⟩ (fun h68 _ Jh68 gh68 P67 => ?_)
            obtain ⟨gh68_0, gh68_1, gh68_2, gh68_3, gh68_4, gh68_5, gh68_6, gh68_7, gh68_8, _⟩ := gh68
            have gh68_0 : (hs_fI h68 97 13).toInt = (hs_fI h48 97 13).toInt := gh68_0
            have gh68_1 : (hs_fI h68 97 19).toInt = (hs_fI h48 97 19).toInt := gh68_1
            have gh68_2 : (hs_fI h68 97 20).toInt = (hs_fI h48 97 20).toInt := gh68_2
            have gh68_3 : (hs_fI h68 97 21).toInt = (hs_fI h48 97 21).toInt := gh68_3
            have gh68_4 : (hs_fI h68 97 23).toInt = (hs_fI h48 97 23).toInt := gh68_4
            have gh68_5 : hs_aI h68 107 = hs_aI h48 107 := gh68_5
            have ugh68_5 : hs_aI h68 107 = (hs_aI h34 107) := gh68_5.trans ugh48_2
            have gh68_6 : hs_aI h68 108 = hs_aI h48 108 := gh68_6
            have ugh68_6 : hs_aI h68 108 = (hs_aI h34 108) := gh68_6.trans ugh48_3
            have gh68_7 : hs_aI h68 109 = hs_aI h48 109 := gh68_7
            have ugh68_7 : hs_aI h68 109 = (hs_aI h34 109) := gh68_7.trans ugh48_4
            have gh68_8 : (hs_aI h68 99 3).toInt = (hs_aI h48 99 3).toInt := gh68_8
            have Ih68 := H.1 h68 Jh68
            obtain ⟨z69, rfl, fz69⟩ := P67
            exact hq_W.ret rfl rfl rfl ⟨Jh68, ⟨_, rfl⟩, by omega, by omega⟩
        · refine hq_p rfl rfl ?_
          refine hq_p rfl rfl (ty_ge (n := 59) nk_b59 (fun z70 ez70 => ?_))
          refine ty_callp 0 Ih34 rfl (fun _ => rfl) rfl rfl rfl (hq_pre_o Ih34.1 (x := 97) (ci := 11) rfl (by decide) rfl rfl rfl rfl) (ct_174w (x1 := z70) (by omega)) (fun _ P71 => ?_)
          obtain ⟨z72, rfl, az72, bz72, iz72⟩ := P71
          refine ty_zeq rfl (fun c73 => ?_) (fun c73 => ?_)
          · clear iz72
            refine hq_p rfl rfl ?_
            refine ty_callm 0 [(0, 97, 21), (0, 97, 23), (3, 107, 0), (3, 108, 0), (3, 109, 0), (1, 99, 3)] (W := ty_Wla) H Jh34 rfl (fun _ => rfl) rfl rfl rfl (hq_pre_o Ih34.1 (x := 97) (ci := 11) rfl (by decide) rfl rfl rfl rfl) (fun a k w => by unfold ty_Wet at w; unfold ty_Wla; omega) (by unfold ty_Wet ty_Wla; omega) (ct_194 (by omega) x0n35 (by omega)) ⟨⟨rfl, show ¬ ty_Wet 97 21 by unfold ty_Wet; omega⟩, ⟨rfl, show ¬ ty_Wet 97 23 by unfold ty_Wet; omega⟩, ⟨rfl, fun k => show ¬ ty_Wet 107 k by unfold ty_Wet; omega⟩, ⟨rfl, fun k => show ¬ ty_Wet 108 k by unfold ty_Wet; omega⟩, ⟨rfl, fun k => show ¬ ty_Wet 109 k by unfold ty_Wet; omega⟩, ⟨rfl, show ¬ ty_Wet 99 3 by unfold ty_Wet; omega⟩, trivial⟩ (fun h76 _ Jh76 gh76 P75 => ?_)
            obtain ⟨gh76_0, gh76_1, gh76_2, gh76_3, gh76_4, gh76_5, _⟩ := gh76
            have gh76_0 : (hs_fI h76 97 21).toInt = (hs_fI h34 97 21).toInt := gh76_0
            have gh76_1 : (hs_fI h76 97 23).toInt = (hs_fI h34 97 23).toInt := gh76_1
            have gh76_2 : hs_aI h76 107 = hs_aI h34 107 := gh76_2
            have ugh76_2 : hs_aI h76 107 = (hs_aI h34 107) := gh76_2.trans rfl
            have gh76_3 : hs_aI h76 108 = hs_aI h34 108 := gh76_3
            have ugh76_3 : hs_aI h76 108 = (hs_aI h34 108) := gh76_3.trans rfl
            have gh76_4 : hs_aI h76 109 = hs_aI h34 109 := gh76_4
            have ugh76_4 : hs_aI h76 109 = (hs_aI h34 109) := gh76_4.trans rfl
            have gh76_5 : (hs_aI h76 99 3).toInt = (hs_aI h34 99 3).toInt := gh76_5
            have Ih76 := H.1 h76 Jh76
            obtain ⟨rq77, aq77, bq77, cq77, dq77⟩ := P75
            subst rq77
            obtain ⟨q78, eq78⟩ : ∃ q : Int32, q.toInt = (hs_fI h76 97 13).toInt := ⟨_, rfl⟩
            have aq78 : 0 ≤ (hs_fI h76 97 13).toInt := (Ih76.2.1 97 13 (by decide)).1
            have bq78 : (hs_fI h76 97 13).toInt ≤ 400 := (Ih76.2.1 97 13 (by decide)).2
            obtain ⟨q79, eq79⟩ : ∃ q : Int32, q.toInt = (hs_fI h76 97 19).toInt := ⟨_, rfl⟩
            have aq79 : 0 ≤ q79.toInt ∧ q79.toInt ≤ 1 := by omega
            obtain ⟨q80, eq80⟩ : ∃ q : Int32, q.toInt = (hs_fI h76 97 20).toInt := ⟨_, rfl⟩
            have aq80 := nm_lo q80
            have bq80 := nm_hi q80
            refine hq_p rfl rfl ?_
            refine ty_gB Ih76 rfl rfl (by decide) (by decide) rfl (fun z81 ez81 az81 bz81 => ?_)
            refine ty_zeq rfl (fun c82 => ?_) (fun c82 => ?_)
            · have l83 : lwp (hs_aI h76 107) (hs_aI h76 108) (hs_aI h76 109) (hs_fI h76 97 21).toInt (hs_fI h76 97 23).toInt := lwp_e (x1n35 (by omega)) ugh76_2 ugh76_3 ugh76_4 (by omega) (by omega)
              refine la_copy Ih76 (by omega) (by omega) l83 (fun h84 z85 z86 Ih84 m1 m2 m3 m4 m5 => ?_)
              have Jh84 := hL h76 h84 Jh76 Ih84 m1 m2 m3 m4
              have gh84_13 : (hs_fI h84 97 13).toInt = (hs_fI h76 97 13).toInt := by unfold hs_fI hs_fV hs_vs; rw [m3 97 (by decide)]
              have gh84_20 : (hs_fI h84 97 20).toInt = (hs_fI h76 97 20).toInt := by unfold hs_fI hs_fV hs_vs; rw [m3 97 (by decide)]
              have az85 := nm_lo z85
              have bz85 := nm_hi z85
              have az86 := nm_lo z86
              have bz86 := nm_hi z86
              refine hq_p rfl rfl ?_
              refine hq_p rfl rfl ?_
              refine hq_gR Ih84.1 rfl rfl (by decide) (by decide) rfl ?_
              refine hq_p rfl rfl (ty_ge (n := 3) nk_i3 (fun z87 ez87 => ?_))
              refine ty_aL Ih84 rfl rfl (by decide) (by omega) (by omega) (fun i e => ty_le (ty_w2 (by omega) (by omega))) (fun z88 ez88 az88 bz88 => ?_)
              rw [show z87.toInt.toNat = 3 by omega] at ez88
              refine hq_p rfl rfl (ty_ge (n := 1) nk_i1 (fun z89 ez89 => ?_))
              refine hq_p rfl rfl (ty_ge (n := z88.toInt - z89.toInt) (nm_sub (by omega) (by omega)) (fun z90 ez90 => ?_))
              refine ty_callm 0 [(0, 97, 13), (0, 97, 20), (1, 99, 3)] (W := ty_Wla) H Jh84 rfl (fun _ => rfl) rfl rfl rfl (hq_pre_o Ih84.1 (x := 97) (ci := 11) rfl (by decide) rfl rfl rfl rfl) (fun a k w => by unfold ty_Wt at w; unfold ty_Wla; omega) (by unfold ty_Wt ty_Wla; omega) (ct_140 (x1 := z90) (by omega) (by omega) (by omega)) ⟨⟨rfl, show ¬ ty_Wt 97 13 by unfold ty_Wt; omega⟩, ⟨rfl, show ¬ ty_Wt 97 20 by unfold ty_Wt; omega⟩, ⟨rfl, show ¬ ty_Wt 99 3 by unfold ty_Wt; omega⟩, trivial⟩ (fun h92 _ Jh92 gh92 P91 => ?_)
              obtain ⟨gh92_0, gh92_1, gh92_2, _⟩ := gh92
              have gh92_0 : (hs_fI h92 97 13).toInt = (hs_fI h84 97 13).toInt := gh92_0
              have gh92_1 : (hs_fI h92 97 20).toInt = (hs_fI h84 97 20).toInt := gh92_1
              have gh92_2 : (hs_aI h92 99 3).toInt = (hs_aI h84 99 3).toInt := gh92_2
              have Ih92 := H.1 h92 Jh92
              obtain ⟨z93, rfl, fz93⟩ := P91
              exact hq_W.ret rfl rfl rfl ⟨Jh92, ⟨_, rfl⟩, by omega, by omega⟩
            · replace c82 : 1 ≤ z81.toInt ∧ z81.toInt ≤ 1 := by omega
              refine hq_p rfl rfl ?_
              refine hq_p rfl rfl (ty_ge (n := -6) nk_bm6 (fun z94 ez94 => ?_))
              refine ty_callm 0 [(0, 97, 13), (0, 97, 19), (0, 97, 20), (0, 97, 21), (0, 97, 23), (3, 107, 0), (3, 108, 0), (3, 109, 0), (1, 99, 3)] (W := ty_Wla) H Jh76 rfl (fun _ => rfl) rfl rfl rfl (hq_pre_o Ih76.1 (x := 97) (ci := 11) rfl (by decide) rfl rfl rfl rfl) (fun a k w => by unfold ty_Wt at w; unfold ty_Wla; omega) (by unfold ty_Wt ty_Wla; omega) (ct_140 (x1 := z94) (by omega) (by omega) (by omega)) ⟨⟨rfl, show ¬ ty_Wt 97 13 by unfold ty_Wt; omega⟩, ⟨rfl, show ¬ ty_Wt 97 19 by unfold ty_Wt; omega⟩, ⟨rfl, show ¬ ty_Wt 97 20 by unfold ty_Wt; omega⟩, ⟨rfl, show ¬ ty_Wt 97 21 by unfold ty_Wt; omega⟩, ⟨rfl, show ¬ ty_Wt 97 23 by unfold ty_Wt; omega⟩, ⟨rfl, fun k => show ¬ ty_Wt 107 k by unfold ty_Wt; omega⟩, ⟨rfl, fun k => show ¬ ty_Wt 108 k by unfold ty_Wt; omega⟩, ⟨rfl, fun k => show ¬ ty_Wt 109 k by unfold ty_Wt; omega⟩, ⟨rfl, show ¬ ty_Wt 99 3 by unfold ty_Wt; omega⟩, trivial⟩ (fun h96 _ Jh96 gh96 P95 => ?_)
              obtain ⟨gh96_0, gh96_1, gh96_2, gh96_3, gh96_4, gh96_5, gh96_6, gh96_7, gh96_8, _⟩ := gh96
              have gh96_0 : (hs_fI h96 97 13).toInt = (hs_fI h76 97 13).toInt := gh96_0
              have gh96_1 : (hs_fI h96 97 19).toInt = (hs_fI h76 97 19).toInt := gh96_1
              have gh96_2 : (hs_fI h96 97 20).toInt = (hs_fI h76 97 20).toInt := gh96_2
              have gh96_3 : (hs_fI h96 97 21).toInt = (hs_fI h76 97 21).toInt := gh96_3
              have gh96_4 : (hs_fI h96 97 23).toInt = (hs_fI h76 97 23).toInt := gh96_4
              have gh96_5 : hs_aI h96 107 = hs_aI h76 107 := gh96_5
              have ugh96_5 : hs_aI h96 107 = (hs_aI h34 107) := gh96_5.trans ugh76_2
              have gh96_6 : hs_aI h96 108 = hs_aI h76 108 := gh96_6
              have ugh96_6 : hs_aI h96 108 = (hs_aI h34 108) := gh96_6.trans ugh76_3
              have gh96_7 : hs_aI h96 109 = hs_aI h76 109 := gh96_7
              have ugh96_7 : hs_aI h96 109 = (hs_aI h34 109) := gh96_7.trans ugh76_4
              have gh96_8 : (hs_aI h96 99 3).toInt = (hs_aI h76 99 3).toInt := gh96_8
              have Ih96 := H.1 h96 Jh96
              obtain ⟨z97, rfl, fz97⟩ := P95
              exact hq_W.ret rfl rfl rfl ⟨Jh96, ⟨_, rfl⟩, by omega, by omega⟩
          · replace c73 : 1 ≤ z72.toInt ∧ z72.toInt ≤ 1 := by omega
            have f98 := iz72 (by omega)
            clear iz72
            refine hq_p rfl rfl ?_
            have t3 := x0n35.2.2.1 (by omega)
            refine ty_callm 0 [(0, 97, 13), (0, 97, 19), (0, 97, 21), (0, 97, 23), (3, 107, 0), (3, 108, 0), (3, 109, 0), (1, 99, 3)] (W := ty_Wla) H Jh34 rfl (fun _ => rfl) rfl rfl rfl (hq_pre_o Ih34.1 (x := 97) (ci := 11) rfl (by decide) rfl rfl rfl rfl) (fun a k w => by unfold ty_Wn at w; unfold ty_Wla; omega) (by unfold ty_Wn ty_Wla; omega) (ct_172w (by omega) (by omega)) ⟨⟨rfl, show ¬ ty_Wn 97 13 by unfold ty_Wn; omega⟩, ⟨rfl, show ¬ ty_Wn 97 19 by unfold ty_Wn; omega⟩, ⟨rfl, show ¬ ty_Wn 97 21 by unfold ty_Wn; omega⟩, ⟨rfl, show ¬ ty_Wn 97 23 by unfold ty_Wn; omega⟩, ⟨rfl, fun k => show ¬ ty_Wn 107 k by unfold ty_Wn; omega⟩, ⟨rfl, fun k => show ¬ ty_Wn 108 k by unfold ty_Wn; omega⟩, ⟨rfl, fun k => show ¬ ty_Wn 109 k by unfold ty_Wn; omega⟩, ⟨rfl, show ¬ ty_Wn 99 3 by unfold ty_Wn; omega⟩, trivial⟩ (fun h100 _ Jh100 gh100 P99 => ?_)
            obtain ⟨gh100_0, gh100_1, gh100_2, gh100_3, gh100_4, gh100_5, gh100_6, gh100_7, _⟩ := gh100
            have gh100_0 : (hs_fI h100 97 13).toInt = (hs_fI h34 97 13).toInt := gh100_0
            have gh100_1 : (hs_fI h100 97 19).toInt = (hs_fI h34 97 19).toInt := gh100_1
            have gh100_2 : (hs_fI h100 97 21).toInt = (hs_fI h34 97 21).toInt := gh100_2
            have gh100_3 : (hs_fI h100 97 23).toInt = (hs_fI h34 97 23).toInt := gh100_3
            have gh100_4 : hs_aI h100 107 = hs_aI h34 107 := gh100_4
            have ugh100_4 : hs_aI h100 107 = (hs_aI h34 107) := gh100_4.trans rfl
            have gh100_5 : hs_aI h100 108 = hs_aI h34 108 := gh100_5
            have ugh100_5 : hs_aI h100 108 = (hs_aI h34 108) := gh100_5.trans rfl
            have gh100_6 : hs_aI h100 109 = hs_aI h34 109 := gh100_6
            have ugh100_6 : hs_aI h100 109 = (hs_aI h34 109) := gh100_6.trans rfl
            have gh100_7 : (hs_aI h100 99 3).toInt = (hs_aI h34 99 3).toInt := gh100_7
            have Ih100 := H.1 h100 Jh100
            obtain ⟨rq101, fq101, kq101⟩ := P99
            subst rq101
            have t1kq101 := kq101.1
            have t2kq101 := kq101.2.1
            obtain ⟨q102, eq102⟩ : ∃ q : Int32, q.toInt = (hs_fI h100 97 14).toInt := ⟨_, rfl⟩
            have aq102 : 0 ≤ (hs_fI h100 97 14).toInt := (Ih100.2.1 97 14 (by decide)).1
            have bq102 : (hs_fI h100 97 14).toInt ≤ 400 := (Ih100.2.1 97 14 (by decide)).2
            obtain ⟨q103, eq103⟩ : ∃ q : Int32, q.toInt = (hs_fI h100 97 15).toInt := ⟨_, rfl⟩
            have aq103 : 0 ≤ (hs_fI h100 97 15).toInt := (Ih100.2.1 97 15 (by decide)).1
            have bq103 : (hs_fI h100 97 15).toInt ≤ 400 := (Ih100.2.1 97 15 (by decide)).2
            obtain ⟨q104, eq104⟩ : ∃ q : Int32, q.toInt = (hs_fI h100 97 16).toInt := ⟨_, rfl⟩
            have aq104 := nm_lo q104
            have bq104 := nm_hi q104
            obtain ⟨q105, eq105⟩ : ∃ q : Int64, q.toInt = (hs_fL h100 97 17).toInt := ⟨_, rfl⟩
            have aq105 := nm_llo q105
            have bq105 := nm_lhi q105
            refine hq_p rfl rfl ?_
            have l107 : lwp (hs_aI h100 107) (hs_aI h100 108) (hs_aI h100 109) (hs_fI h100 97 21).toInt (hs_fI h100 97 23).toInt := lwp_e (x1n35 (by omega)) ugh100_4 ugh100_5 ugh100_6 (by omega) (by omega)
            refine ty_callm 0 [(0, 97, 13), (1, 99, 3)] (W := ty_Wla) H Jh100 rfl (fun _ => rfl) rfl rfl rfl (hq_pre_o Ih100.1 (x := 97) (ci := 11) rfl (by decide) rfl rfl rfl rfl) (fun a k w => by unfold ty_Wrl at w; unfold ty_Wla; omega) (by unfold ty_Wrl ty_Wla; omega) (ct_195 (by omega) (by omega) kq101 (by omega) l107) ⟨⟨rfl, show ¬ ty_Wrl 97 13 by unfold ty_Wrl; omega⟩, ⟨rfl, show ¬ ty_Wrl 99 3 by unfold ty_Wrl; omega⟩, trivial⟩ (fun h109 _ Jh109 gh109 P108 => ?_)
            obtain ⟨gh109_0, gh109_1, _⟩ := gh109
            have gh109_0 : (hs_fI h109 97 13).toInt = (hs_fI h100 97 13).toInt := gh109_0
            have gh109_1 : (hs_aI h109 99 3).toInt = (hs_aI h100 99 3).toInt := gh109_1
            have Ih109 := H.1 h109 Jh109
            obtain ⟨rq110, kq110, fq110, oq110, nq110, cq110⟩ := P108
            subst rq110
            obtain ⟨q111, eq111⟩ : ∃ q : Int32, q.toInt = (hs_fI h109 97 14).toInt := ⟨_, rfl⟩
            have aq111 : 0 ≤ (hs_fI h109 97 14).toInt := (Ih109.2.1 97 14 (by decide)).1
            have bq111 : (hs_fI h109 97 14).toInt ≤ 400 := (Ih109.2.1 97 14 (by decide)).2
            obtain ⟨q112, eq112⟩ : ∃ q : Int32, q.toInt = (hs_fI h109 97 15).toInt := ⟨_, rfl⟩
            have aq112 : 0 ≤ (hs_fI h109 97 15).toInt := (Ih109.2.1 97 15 (by decide)).1
            have bq112 : (hs_fI h109 97 15).toInt ≤ 400 := (Ih109.2.1 97 15 (by decide)).2
            obtain ⟨q113, eq113⟩ : ∃ q : Int32, q.toInt = (hs_fI h109 97 16).toInt := ⟨_, rfl⟩
            have aq113 := nm_lo q113
            have bq113 := nm_hi q113
            obtain ⟨q114, eq114⟩ : ∃ q : Int32, q.toInt = (hs_fI h109 97 19).toInt := ⟨_, rfl⟩
            have aq114 : 0 ≤ q114.toInt ∧ q114.toInt ≤ 1 := by omega
            obtain ⟨q115, eq115⟩ : ∃ q : Int32, q.toInt = (hs_fI h109 97 21).toInt := ⟨_, rfl⟩
            have aq115 : 0 ≤ (hs_fI h109 97 21).toInt := (Ih109.2.1 97 21 (by decide)).1
            have bq115 : (hs_fI h109 97 21).toInt ≤ 12 := (Ih109.2.1 97 21 (by decide)).2
            obtain ⟨q116, eq116⟩ : ∃ q : Int32, q.toInt = (hs_fI h109 97 23).toInt := ⟨_, rfl⟩
            have aq116 : 0 ≤ (hs_fI h109 97 23).toInt := (Ih109.2.1 97 23 (by decide)).1
            have bq116 : (hs_fI h109 97 23).toInt ≤ 400 := (Ih109.2.1 97 23 (by decide)).2
            obtain ⟨q117, eq117⟩ : ∃ q : Int64, q.toInt = (hs_fL h109 97 17).toInt := ⟨_, rfl⟩
            have aq117 := nm_llo q117
            have bq117 := nm_lhi q117
            have t1kq110 := kq110.1
            have t2kq110 := kq110.2.1
            refine hq_p rfl rfl ?_
            exact ihn35 ((401 - (hs_fI h109 97 14).toInt).toNat) (by omega) h109 rfl kq110 (fun q => (cq110 q).2) (by omega) (by omega) (by omega) Jh109
    exact L37_n35 _ h24 rfl kq25 (fun q => (cq25 q).2) (by omega) (by omega) (by omega) Jh24
  · refine hq_p rfl rfl ?_
    refine hq_p rfl rfl (ty_ge (n := 0) nk_i0 (fun z118 ez118 => ?_))
    refine ty_pI (W := ty_Wla) H Jh4 rfl rfl (by decide) rfl rfl (by unfold ty_Wla; omega) rfl (by omega) (by omega) (fun h119 eh119 Jh119 => ?_)
    have wh119 : (hs_fI h119 97 13).toInt = z118.toInt := by rw [eh119]; exact congrArg Int32.toInt (ty_fI_eq Ih4.1 rfl (by decide) rfl)
    have Ih119 := H.1 h119 Jh119
    refine hq_p rfl rfl ?_
    refine hq_p rfl rfl (ty_ge (n := -5) nk_bm5 (fun z120 ez120 => ?_))
    have r121 : (hs_fI h4 97 20).toInt = (hs_fI h 97 20).toInt := by rw [eh4]; exact congrArg Int32.toInt (ty_fI_sF (by decide))
    have r122 : (hs_fI h119 97 20).toInt = (hs_fI h4 97 20).toInt := by rw [eh119]; exact congrArg Int32.toInt (ty_fI_sF (by decide))
    have r125 : (hs_aI h4 99 3).toInt = (hs_aI h 99 3).toInt := by rw [eh4]; exact congrArg Int32.toInt (ty_aI_ne (by omega))
    have r126 : (hs_aI h119 99 3).toInt = (hs_aI h4 99 3).toInt := by rw [eh119]; exact congrArg Int32.toInt (ty_aI_ne (by omega))
    refine ty_callm 0 [(0, 97, 13), (0, 97, 20), (1, 99, 3)] (W := ty_Wla) H Jh119 rfl (fun _ => rfl) rfl rfl rfl (hq_pre_o Ih119.1 (x := 97) (ci := 11) rfl (by decide) rfl rfl rfl rfl) (fun a k w => by unfold ty_Wt at w; unfold ty_Wla; omega) (by unfold ty_Wt ty_Wla; omega) (ct_140 (x1 := z120) (by omega) (by omega) (by omega)) ⟨⟨rfl, show ¬ ty_Wt 97 13 by unfold ty_Wt; omega⟩, ⟨rfl, show ¬ ty_Wt 97 20 by unfold ty_Wt; omega⟩, ⟨rfl, show ¬ ty_Wt 99 3 by unfold ty_Wt; omega⟩, trivial⟩ (fun h124 _ Jh124 gh124 P123 => ?_)
    obtain ⟨gh124_0, gh124_1, gh124_2, _⟩ := gh124
    have gh124_0 : (hs_fI h124 97 13).toInt = (hs_fI h119 97 13).toInt := gh124_0
    have gh124_1 : (hs_fI h124 97 20).toInt = (hs_fI h119 97 20).toInt := gh124_1
    have gh124_2 : (hs_aI h124 99 3).toInt = (hs_aI h119 99 3).toInt := gh124_2
    have Ih124 := H.1 h124 Jh124
    obtain ⟨z127, rfl, fz127⟩ := P123
    exact hq_W.ret rfl rfl rfl ⟨Jh124, ⟨_, rfl⟩, by omega, by omega⟩
end CT54
